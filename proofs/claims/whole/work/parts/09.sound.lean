/-! every run of the small machine is kept by the machine -/
theorem mm_tgmem {x : List Nat} {as : List Value} {M' : mm_Me} (h : mm_tg x as = some M') : M' ∈ mm_tab := by
  unfold mm_tg at h
  split at h
  · split at h
    · split at h
      · split at h
        · exact List.mem_of_getElem? h
        · cases h
      · cases h
    · cases h
  · rename_i knd _ _ t _ _
    cases hb : Nat.ble knd 6 with
    | true => rw [hb] at h; exact List.mem_of_getElem? h
    | false => rw [hb] at h; cases h
  · cases h
theorem mm_slots1 {v : Value} (h : v.category = 1) (r : List Value) : mm_slots (v :: r) = v :: mm_slots r := by
  cases v <;> first | rfl | simp [Value.category] at h
theorem mm_slots2 {v : Value} (h : v.category = 2) (r : List Value) : mm_slots (v :: r) = v :: .null :: mm_slots r := by
  cases v <;> first | rfl | simp [Value.category] at h
theorem mm_slots_len (ad : Nat → Nat) : ∀ as : List Value, (lg_sl (as.map (mm_rv ad))).length = (mm_slots as).length
  | [] => rfl
  | v :: r => by
    have ih := mm_slots_len ad r
    unfold lg_sl at ih ⊢
    rw [List.map_cons, List.flatMap_cons, List.length_append, ih, mm_cat]
    rcases lv_cat v with h | h
    · rw [mm_slots1 h, if_neg (by rw [h]; decide)]
      simp
      omega
    · rw [mm_slots2 h, if_pos h]
      simp
      omega
theorem mm_args_at (ad : Nat → Nat) : ∀ (as : List Value) (k i : Nat) (v : Value), (mm_slots as)[i]? = some v → v ≠ .null → (k + i, mm_rv ad v) ∈ lv_args k (as.map (mm_rv ad))
  | [], k, i, v, h, _ => by simp [mm_slots] at h
  | a :: as, k, i, v, h, hn => by
    rw [List.map_cons]
    unfold lv_args
    rw [mm_cat]
    rcases lv_cat a with hc | hc
    · rw [mm_slots1 hc] at h
      rw [if_neg (by rw [hc]; decide)]
      cases i with
      | zero => cases h; exact List.mem_cons_self
      | succ i =>
        have := mm_args_at ad as (k + 1) i v h hn
        rw [show k + (i + 1) = k + 1 + i by omega]
        exact List.mem_cons_of_mem _ this
    · rw [mm_slots2 hc] at h
      rw [if_pos hc]
      match i, h with
      | 0, h => cases h; exact List.mem_cons_self
      | 1, h => cases h; exact absurd rfl hn
      | i + 2, h =>
        have := mm_args_at ad as (k + 2) i v h hn
        rw [show k + (i + 2) = k + 2 + i by omega]
        exact List.mem_cons_of_mem _ this
theorem mm_L0 {ad : Nat → Nat} {as : List Value} {nL : Nat} {ls : Array Slot} (h : (mm_slots as).length ≤ nL) (hl : lv_has ls nL (lv_args 0 (as.map (mm_rv ad)))) : mm_L ad ls nL (mm_ini nL as) := by
  refine ⟨hl.1, ?_, hl.2.1, fun i v hi hn => ?_⟩
  · unfold mm_ini
    simp
    omega
  · unfold mm_ini at hi
    rcases Nat.lt_or_ge i (mm_slots as).length with q | q
    · rw [List.getElem?_append_left q] at hi
      have := hl.2.2 _ (mm_args_at ad as 0 i v hi hn)
      simpa using this
    · rw [List.getElem?_append_right q, List.getElem?_replicate] at hi
      split at hi
      · cases hi
        exact absurd rfl hn
      · cases hi
section MMsnd
variable {l : Launch} {ad : Nat → Nat} {G : va_G} {cI cK cS : ClassId}
theorem mm_met {M : mm_Me} (hM : M ∈ mm_tab) {as : List Value} {σ : mm_Sg} {R : Option Value × mm_Sg} (hinj : ∀ i j, i < 83 → j < 83 → ad i = ad j → i = j) (hsl : (mm_slots as).length ≤ mm_nL M)
    (h : ∀ {p : Program} {e : Env} {s : State} {m : MethodId} {args : Array Value} {below : List Frame} {meth : Method} {c : Code}, mm_Fr p s m c ad G cI cK cS (mm_A ad) M → meth.sig.returnType = mm_rt M → meth.locks = false →
      mm_WW p l e (mm_rm (mm_lv M)) s m args below meth c 0 0 (MQ below (mm_Q ad G cI cK cS R) args s 0 0 (mm_A ad)) ad G cI cK cS (mm_A ad) s.heap (mm_nL M) (0, mm_ini (mm_nL M) as, [], σ)) : mm_Mt l ad G cI cK cS M as σ R := by
  have hg := mm_chk M hM
  have hpl : plainName (mm_y M).cls = true := by
    unfold mm_good at hg
    have h1 := ((Bool.and_eq_true _ _).mp hg).1
    unfold mm_mok at h1
    split at h1
    · simp only [Bool.and_eq_true, decide_eq_true_eq] at h1
      exact h1.1.1.1.1.2
    · cases h1
  refine Met.ofW (cc := mm_by M) (maxL := mm_nL M) (ret := mm_rt M) hpl rfl ?_
  intro p e s m args below meth c s₁ B hml hv
  obtain ⟨rfl, hP, hK, hT⟩ := hv
  have hl := lv_entry (as.map (mm_rv ad)) (n := mm_nL M) (by rw [mm_slots_len]; exact hsl)
  rw [lg_entry_eq]
  exact h ⟨B.exec, B.bytes, hml, findClass_of_methodNamed B.named, hK, hT, mm_D hinj⟩ B.returns B.notSynchronized _ s.heap [] (mm_L0 hsl hl) hP va_S.rf
theorem mm_snd (hinj : ∀ i j, i < 83 → j < 83 → ad i = ad j → i = j) : ∀ (n : Nat) (M : mm_Me) (S : mm_St) (X : Option Value × mm_Sg), M ∈ mm_tab → mm_Run n M S X → ∀ {p : Program} {e : Env} {s : State} {m : MethodId} {args : Array Value} {below : List Frame} {meth : Method} {c : Code}, mm_Fr p s m c ad G cI cK cS (mm_A ad) M → meth.sig.returnType = mm_rt M → meth.locks = false →
    mm_WW p l e (mm_rm (mm_lv M)) s m args below meth c 0 0 (MQ below (mm_Q ad G cI cK cS X) args s 0 0 (mm_A ad)) ad G cI cK cS (mm_A ad) s.heap (mm_nL M) S
  | 0, _, _, _, _, h => h.elim
  | n + 1, M, S, X, hM, h => by
    intro F hr hlocks
    rename_i p e s m args below meth c
    have hg := mm_chk M hM
    have hg2 : (mm_code M).all (mm_eok M) = true := by
      unfold mm_good at hg
      exact ((Bool.and_eq_true _ _).mp hg).2
    have hR : 38 * mm_lv M ≤ (mm_rm (mm_lv M)).locals ∧ mm_lv M ≤ (mm_rm (mm_lv M)).frames ∧ 0 ≤ (mm_rm (mm_lv M)).cells ∧ 0 ≤ (mm_rm (mm_lv M)).slots := ⟨Nat.le_refl _, Nat.le_refl _, Nat.le_refl _, Nat.le_refl _⟩
    rcases h with ⟨S', cs, h1, h2, h3⟩ | ⟨M', as, rest, r, σ', h1, h2, h3⟩ | h1
    · exact mm_step hg2 F hR h1 h2 (mm_snd hinj n M S' X hM h3 F hr hlocks)
    · obtain ⟨pc, lv, st, σ⟩ := S
      have hM' : M' ∈ mm_tab := by
        obtain ⟨i, x, v, -, -, htg, -⟩ := h1
        exact mm_tgmem htg
      have hsl : (mm_slots as).length ≤ mm_nL M' := by
        obtain ⟨i, x, v, -, -, -, -, -, -, hsl, -⟩ := h1
        exact hsl
      exact mm_callsnd hg2 (mm_chk M' hM') F hR (fun _ h => h) (mm_met hM' hinj hsl (fun F9 hr9 hl9 => mm_snd hinj n M' _ (r, σ') hM' h2 F9 hr9 hl9)) h1 (mm_snd hinj n M _ X hM h3 F hr hlocks)
    · obtain ⟨pc, lv, st, σ⟩ := S
      obtain ⟨i, x, v, hf, hrr⟩ := h1
      obtain ⟨hx, hb, hml, hown, hK, hT, hD⟩ := F
      dsimp only at hf hrr
      have hok : mm_eok M (pc, i, x, v) = true := List.all_eq_true.mp hg2 _ (mm_fnd_mem _ _ _ hf)
      unfold mm_eok at hok
      simp only [Bool.and_eq_true, decide_eq_true_eq] at hok
      obtain ⟨hdec, -⟩ := hok
      intro ls H locs hL hP hS
      have hfin : ∀ t : State, t.heap = H → s.WarmedH t.vm → mm_Wd ad G cI cK cS σ t ∧ va_F (mm_A ad) s t := fun t ht hW => ⟨⟨by rw [ht]; exact hP, va_K.moved hW.alike hK, hT.warm hW⟩, hS.F ht⟩
      unfold mm_rr at hrr
      split at hrr
      · obtain ⟨ty, y, hty, hst, hX, hn⟩ := hrr
        subst hst
        subst hX
        exact W.zret (v := y) (ty := ty) hx hb (hr.trans hty) hn (fun t ht hW => ⟨rfl, hfin t ht hW⟩) hS.2.2 hdec hlocks
      · obtain ⟨y, hty, hst, hX⟩ := hrr
        subst hst
        subst hX
        exact W.lret (v := y) hx hb (hr.trans hty) (fun t ht hW => ⟨rfl, hfin t ht hW⟩) hS.2.2 hdec hlocks
      · obtain ⟨C, q, hty, hst, hX⟩ := hrr
        subst hst
        subst hX
        exact W.aret (v := .ref (ad q)) hx hb (hr.trans hty) (Or.inl ⟨C, rfl⟩) (Or.inr ⟨_, rfl⟩) (fun t ht hW => ⟨rfl, hfin t ht hW⟩) hS.2.2 hdec hlocks
      · obtain ⟨hty, hst, hX⟩ := hrr
        subst hst
        subst hX
        exact W.vret hx hb (hr.trans hty) (fun t ht hW => ⟨rfl, hfin t ht hW⟩) hS.2.2 hdec hlocks
      · exact hrr.elim
/-- what the small machine answers, the machine answers -/
theorem mm_contract {M : mm_Me} (hM : M ∈ mm_tab) (hinj : ∀ i j, i < 83 → j < 83 → ad i = ad j → i = j) {as : List Value} {σ σ' : mm_Sg} {r : Option Value} (hsl : (mm_slots as).length ≤ mm_nL M) (h : mm_Ev M as σ r σ') : mm_Mt l ad G cI cK cS M as σ (r, σ') := by
  obtain ⟨n, hn⟩ := h
  exact mm_met hM hinj hsl (fun F hr hl => mm_snd hinj n M _ (r, σ') hM hn F hr hl)
end MMsnd
