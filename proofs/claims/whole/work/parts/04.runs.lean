/-! runs of the small machine; what a program checks of the tables -/
abbrev mm_code (M : mm_Me) : List mm_En := M.2.2.2.2.2.1
abbrev mm_y (M : mm_Me) : MethodName := M.1
abbrev mm_by (M : mm_Me) : ByteArray := M.2.1
abbrev mm_nL (M : mm_Me) : Nat := M.2.2.1
abbrev mm_rt (M : mm_Me) : Option FieldType := M.2.2.2.1
abbrev mm_lv (M : mm_Me) : Nat := M.2.2.2.2.1
abbrev mm_xs (M : mm_Me) : List Nat := M.2.2.2.2.2.2
def mm_isc : Instr → Bool
  | .invokestatic _ => true
  | .invokevirtual _ => true
  | .invokespecial _ => true
  | _ => false
/-- the method that is called -/
def mm_tg (x : List Nat) (as : List Value) : Option mm_Me := match x with
  | 4 :: _ :: _ :: t :: _ => match as with
    | .ref q :: _ => match mm_vt[t]? with
      | some (_, rows) => match rows[mm_cl q]? with
        | some (m :: _) => mm_tab[m]?
        | _ => none
      | none => none
    | _ => none
  | knd :: _ :: _ :: t :: _ => bif Nat.ble knd 6 then mm_tab[t]? else none
  | _ => none
/-- what is asked of the receiver -/
def mm_rc (x : List Nat) (as : List Value) : Prop := match x with
  | 0 :: _ => True
  | 1 :: _ => True
  | [2, _, _, _, _, ci] => ∃ q, as.head? = some (.ref q) ∧ mm_cl q = ci
  | [3, _, _, _, _, ci] => ∃ q, as.head? = some (.ref q) ∧ mm_cl q = ci
  | _ => ∃ q, as.head? = some (.ref q) ∧ mm_cl q < 12
def mm_call (M : mm_Me) (S : mm_St) (M' : mm_Me) (as rest : List Value) : Prop :=
  ∃ (i : Instr) (x : List Nat) (v : Value), mm_fnd (mm_code M) S.1 = some (i, x, v) ∧ mm_isc i = true ∧ mm_tg x as = some M' ∧ S.2.2.1 = as.reverse ++ rest ∧ as.length = x.getD 2 0 ∧ mm_ss rest ≤ 8 ∧ (mm_slots as).length ≤ mm_nL M' ∧ mm_rc x as
def mm_rr (i : Instr) (rt : Option FieldType) (st : List Value) (σ : mm_Sg) (R : Option Value × mm_Sg) : Prop := match i with
  | .ireturn => ∃ ty y, rt = some ty ∧ st = [.int y] ∧ R = (some (.int y), σ) ∧ narrow ty (.int y) = .int y
  | .lreturn => ∃ y, rt = some .long ∧ st = [.long y] ∧ R = (some (.long y), σ)
  | .areturn => ∃ C q, rt = some (.object C) ∧ st = [.ref q] ∧ R = (some (.ref q), σ)
  | .return_ => rt = none ∧ st = [] ∧ R = (none, σ)
  | _ => False
def mm_ret (M : mm_Me) (S : mm_St) (R : Option Value × mm_Sg) : Prop := ∃ (i : Instr) (x : List Nat) (v : Value), mm_fnd (mm_code M) S.1 = some (i, x, v) ∧ mm_rr i (mm_rt M) S.2.2.1 S.2.2.2 R
def mm_Run : Nat → mm_Me → mm_St → Option Value × mm_Sg → Prop
  | 0, _, _, _ => False
  | n + 1, M, S, R =>
    (∃ (S' : mm_St) (c : List Prop), mm_stp (mm_code M) S = some (S', c) ∧ mm_all c ∧ mm_Run n M S' R)
    ∨ (∃ (M' : mm_Me) (as rest : List Value) (r : Option Value) (σ' : mm_Sg), mm_call M S M' as rest ∧ mm_Run n M' (0, mm_ini (mm_nL M') as, [], S.2.2.2) (r, σ') ∧ mm_Run n M (S.1 + 3, S.2.1, r.toList ++ rest, σ') R)
    ∨ mm_ret M S R
def mm_Go (M : mm_Me) (S : mm_St) (R : Option Value × mm_Sg) : Prop := ∃ n, mm_Run n M S R
/-- a method, called with these in this heap, answers r and leaves that heap -/
def mm_Ev (M : mm_Me) (as : List Value) (σ : mm_Sg) (r : Option Value) (σ' : mm_Sg) : Prop := mm_Go M (0, mm_ini (mm_nL M) as, [], σ) (r, σ')
theorem mm_mono1 : ∀ (n : Nat) (M : mm_Me) (S : mm_St) (R : Option Value × mm_Sg), mm_Run n M S R → mm_Run (n + 1) M S R
  | 0, _, _, _, h => h.elim
  | n + 1, M, S, R, h => by
    rcases h with ⟨S', c, h1, h2, h3⟩ | ⟨M', as, rest, r, σ', h1, h2, h3⟩ | h
    · exact Or.inl ⟨S', c, h1, h2, mm_mono1 n _ _ _ h3⟩
    · exact Or.inr (Or.inl ⟨M', as, rest, r, σ', h1, mm_mono1 n _ _ _ h2, mm_mono1 n _ _ _ h3⟩)
    · exact Or.inr (Or.inr h)
theorem mm_mono {n k : Nat} {M : mm_Me} {S : mm_St} {R : Option Value × mm_Sg} (hk : n ≤ k) (h : mm_Run n M S R) : mm_Run k M S R := by
  induction hk with
  | refl => exact h
  | step _ ih => exact mm_mono1 _ _ _ _ ih
theorem mm_blk {M : mm_Me} {R : Option Value × mm_Sg} : ∀ (k : Nat) {S S' : mm_St} {P : List Prop}, mm_stps (mm_code M) k S = some (S', P) → mm_all P → mm_Go M S' R → mm_Go M S R
  | 0, S, S', P, h, _, g => by
    cases h
    exact g
  | k + 1, S, S', P, h, hP, g => by
    unfold mm_stps at h
    cases h1 : mm_stp (mm_code M) S with
    | none => rw [h1] at h; cases h
    | some a =>
      obtain ⟨S1, c⟩ := a
      rw [h1] at h
      dsimp only at h
      cases h2 : mm_stps (mm_code M) k S1 with
      | none => rw [h2] at h; cases h
      | some b =>
        obtain ⟨S2, d⟩ := b
        rw [h2] at h
        cases h
        have hsp : ∀ (a b : List Prop), mm_all (a ++ b) → mm_all a ∧ mm_all b := by
          intro a
          induction a with
          | nil => exact fun b h => ⟨trivial, h⟩
          | cons p r ih => exact fun b h => ⟨⟨h.1, (ih b h.2).1⟩, (ih b h.2).2⟩
        obtain ⟨hc, hd⟩ := hsp c d hP
        obtain ⟨n, hn⟩ := mm_blk k h2 hd g
        exact ⟨n + 1, Or.inl ⟨S1, c, h1, hc, hn⟩⟩
theorem mm_cl_ {M M' : mm_Me} {pc : Nat} {lv st as rest : List Value} {σ σ' : mm_Sg} {r : Option Value} {R : Option Value × mm_Sg} (h : mm_Ev M' as σ r σ') (hc : mm_call M (pc, lv, st, σ) M' as rest) (g : mm_Go M (pc + 3, lv, r.toList ++ rest, σ') R) : mm_Go M (pc, lv, st, σ) R := by
  obtain ⟨a, ha⟩ := h
  obtain ⟨b, hb⟩ := g
  exact ⟨max a b + 1, Or.inr (Or.inl ⟨M', as, rest, r, σ', hc, mm_mono (Nat.le_max_left _ _) ha, mm_mono (Nat.le_max_right _ _) hb⟩)⟩
theorem mm_rt_ {M : mm_Me} {S : mm_St} {R : Option Value × mm_Sg} (h : mm_ret M S R) : mm_Go M S R := ⟨1, Or.inr (Or.inr h)⟩
/-! the checks -/
def mm_okW (w : Cond) : Bool := (w.onTables && w.keeps) || (match w with
  | .fieldLinkNest .. => true
  | .methodLinkNest .. => true
  | .declares _ => true
  | .castable .. => true
  | _ => false)
def mm_w (i : Nat) (w : Cond) : Bool := decide (lw_tbl[i]? = some w) && mm_okW w
def mm_host : String := "BeansOnTheOtherSide"
def mm_iln (i : Instr) (x : List Nat) : Nat := match i with
  | .bipush _ | .iload _ | .istore _ | .aload _ | .astore _ | .lload _ | .lstore _ | .ldc _ => 2
  | .sipush _ | .getfield _ | .putfield _ | .invokestatic _ | .invokevirtual _ | .invokespecial _ | .goto _ | .ifCond _ _ | .if_icmp _ _ | .iinc _ _ | .ldc_w _ | .ldc2_w _ => 3
  | .tableswitch _ _ _ _ | .lookupswitch _ _ => x.headD 0
  | _ => 1
def mm_lk (own : String) (idx : Nat) (nest wl : Nat) (y : MethodName) : Bool := match nest with
  | 0 => mm_w wl (.methodLink own idx y)
  | _ => mm_w wl (.methodLinkNest own idx y mm_host)
def mm_cok (M : mm_Me) (idx : Nat) (x : List Nat) : Bool := match x with
  | [0, wl, n, t] => match mm_tab[t]? with
    | some M' => mm_lk (mm_y M).cls idx 0 wl (mm_y M') && decide ((mm_xs M').getD 3 0 = 1) && decide ((mm_xs M').getD 4 0 = n) && decide (mm_lv M' < mm_lv M)
    | none => false
  | [1, wl, n, t] => match mm_tab[t]? with
    | some M' => mm_lk (mm_y M).cls idx 1 wl (mm_y M') && decide ((mm_xs M').getD 3 0 = 1) && decide ((mm_xs M').getD 4 0 = n) && decide (mm_lv M' < mm_lv M)
    | none => false
  | [2, wl, n, t, ws, ci] => match mm_tab[t]?, mm_cls[ci]? with
    | some M', some q => mm_lk (mm_y M).cls idx 0 wl (mm_y M') && decide ((mm_xs M').getD 3 0 = 0) && decide ((mm_xs M').getD 4 0 + 1 = n) && decide (mm_lv M' < mm_lv M) && mm_w ws (.selects q.1 (mm_y M') (mm_y M'))
    | _, _ => false
  | [3, wl, n, t, ws, ci] => match mm_tab[t]?, mm_cls[ci]? with
    | some M', some q => mm_lk (mm_y M).cls idx 1 wl (mm_y M') && decide ((mm_xs M').getD 3 0 = 0) && decide ((mm_xs M').getD 4 0 + 1 = n) && decide (mm_lv M' < mm_lv M) && mm_w ws (.selects q.1 (mm_y M') (mm_y M'))
    | _, _ => false
  | [4, wl, n, t] => match mm_vt[t]? with
    | some ([xm, wsm, wi], rows) => match mm_tab[xm]? with
      | some M0 => mm_lk (mm_y M).cls idx 0 wl (mm_y M0) && mm_w wsm (.sameMethod (mm_y M0).cls (mm_y M0).cls (mm_y M0).name (mm_y M0).desc) && mm_w wi (.instanceMethod (mm_y M0)) && decide ((mm_xs M0).getD 4 0 + 1 = n) &&
          (List.range 12).all fun ci => match rows[ci]?, mm_cls[ci]? with
            | some [m, ws], some q => match mm_tab[m]? with
              | some M' => mm_w ws (.selects q.1 (mm_y M0) (mm_y M')) && decide ((mm_xs M').getD 3 0 = 0) && decide (mm_lv M' < mm_lv M)
              | none => false
            | some [], _ => true
            | none, _ => true
            | _, _ => false
      | none => false
    | _ => false
  | [5, wl, n, t, wsm, wsp] => match mm_tab[t]? with
    | some M' => mm_lk (mm_y M).cls idx 0 wl (mm_y M') && decide ((mm_xs M').getD 3 0 = 0) && decide ((mm_xs M').getD 4 0 + 1 = n) && decide (mm_lv M' < mm_lv M) && mm_w wsm (.sameMethod (mm_y M').cls (mm_y M').cls (mm_y M').name (mm_y M').desc) && mm_w wsp (.superclass (mm_y M).cls (mm_y M').cls) && decide ((mm_y M').name ≠ "<init>")
    | none => false
  | [6, wl, n, t, wsm, wsp, wsq, wdc] => match mm_tab[t]? with
    | some M' => mm_lk (mm_y M).cls idx 0 wl ⟨RX2, (mm_y M').name, (mm_y M').desc⟩ && decide ((mm_xs M').getD 3 0 = 0) && decide ((mm_xs M').getD 4 0 + 1 = n) && decide (mm_lv M' < mm_lv M) && mm_w wsm (.sameMethod RX2 (mm_y M').cls (mm_y M').name (mm_y M').desc) && mm_w wsp (.superclass (mm_y M).cls RX2) && mm_w wsq (.superclass RX2 (mm_y M').cls) && mm_w wdc (.declares (mm_y M')) && decide ((mm_y M').name ≠ "<init>")
    | none => false
  | _ => false
def mm_fok (own : String) (idx : Nat) (x : List Nat) (fin : Bool) : Bool := match x with
  | [wl, ci, k, nest] => match mm_cls[ci]? with
    | some (_, T, N) => decide (k < N) && (fin || decide ((T k).2.2.2 = false)) && (match nest with
        | 0 => mm_w wl (.fieldLink own idx (T k).1 (T k).2.1 (T k).2.2.1)
        | _ => mm_w wl (.fieldLinkNest own idx (T k).1 (T k).2.1 (T k).2.2.1 mm_host))
    | none => false
  | _ => false
def mm_iok (M : mm_Me) (pc : Nat) (i : Instr) (x : List Nat) (v : Value) : Bool := match i with
  | .iconst n => decide (v = .int (Int32.ofInt n))
  | .lconst n => decide (v = .long (Int64.ofNat (n : Nat)))
  | .bipush n => decide (v = .int (Int8.ofInt n).toInt32)
  | .sipush n => decide (v = .int (Int16.ofInt n).toInt32)
  | .ldc n => match x, v with
    | [w], .int c => mm_w w (.constant (mm_y M).cls n c)
    | _, _ => false
  | .ldc_w n => match x, v with
    | [w], .int c => mm_w w (.constant (mm_y M).cls n c)
    | _, _ => false
  | .ldc2_w n => match x, v with
    | [w], .long c => mm_w w (.constantLong (mm_y M).cls n c)
    | _, _ => false
  | .iload_n k => decide (x = [(k : Nat)])
  | .lload_n k => decide (x = [(k : Nat)])
  | .aload_n k => decide (x = [(k : Nat)])
  | .istore_n k => decide (x = [(k : Nat)])
  | .lstore_n k => decide (x = [(k : Nat)])
  | .astore_n k => decide (x = [(k : Nat)])
  | .iload k => decide (x = [k])
  | .lload k => decide (x = [k])
  | .aload k => decide (x = [k])
  | .istore k => decide (x = [k])
  | .lstore k => decide (x = [k])
  | .astore k => decide (x = [k])
  | .iinc k n => decide (x = [k]) && decide (v = .int (Int32.ofInt n))
  | .goto o => match x with
    | [t] => decide ((pc : Int) + o = (t : Int))
    | _ => false
  | .ifCond _ o => match x with
    | [t] => decide ((pc : Int) + o = (t : Int))
    | _ => false
  | .if_icmp _ o => match x with
    | [t] => decide ((pc : Int) + o = (t : Int))
    | _ => false
  | .tableswitch d lo hi offs => match x with
    | _ :: l :: t :: ts => decide (lo = (l : Int)) && decide ((pc : Int) + d = (t : Int)) && decide (hi + 1 = (l : Int) + ts.length) && decide (offs.toList.map (fun o => (pc : Int) + o) = ts.map (fun (t : Nat) => (t : Int))) && decide (l + ts.length < 2000)
    | _ => false
  | .lookupswitch d ps => match x with
    | _ :: t :: ts => decide ((pc : Int) + d = (t : Int)) && decide (ps.toList.flatMap (fun a => [a.1, (pc : Int) + a.2]) = ts.map (fun (t : Nat) => (t : Int))) && (ps.toList.zip (ps.toList.drop 1)).all (fun (a, next) => a.1 < next.1) && ts.all (fun t => decide (t < 100000))
    | _ => false
  | .getfield n => mm_fok (mm_y M).cls n x true
  | .putfield n => mm_fok (mm_y M).cls n x false
  | .invokestatic n => match x with
    | [90, w] => mm_w w (.methodLink (mm_y M).cls n Lib.Math.min.name) && decide (0 < mm_lv M)
    | [91, w] => mm_w w (.methodLink (mm_y M).cls n Lib.Math.max.name) && decide (0 < mm_lv M)
    | [92, w] => mm_w w (.methodLink (mm_y M).cls n arraycopyName) && decide (0 < mm_lv M)
    | _ => mm_cok M n x && decide (x.headD 9 < 2)
  | .invokevirtual n => mm_cok M n x && decide (2 ≤ x.headD 9) && decide (x.headD 9 < 5)
  | .invokespecial n => mm_cok M n x && decide (5 ≤ x.headD 9)
  | _ => true
def mm_eok (M : mm_Me) (e : mm_En) : Bool := decide (decode (mm_by M) e.1 = .ok (e.2.1, mm_iln e.2.1 e.2.2.1)) && mm_iok M e.1 e.2.1 e.2.2.1 e.2.2.2
def mm_mok (M : mm_Me) : Bool := match mm_xs M with
  | [wc, wi, wk, st, np] => mm_w wc (.code (mm_y M) (mm_by M) (mm_nL M) (mm_rt M)) && mm_w wi (.initialized (mm_y M).cls) && (match st with
      | 1 => mm_w wk (.static (mm_y M))
      | 0 => mm_w wk (.instanceMethod (mm_y M))
      | _ => false) && plainName (mm_y M).cls && decide (mm_nL M ≤ 19) && decide ((parseMethodDescriptor (mm_y M).desc).map (fun d => d.parameters.length) = some np) && decide ((mm_y M).cls ≠ "java/lang/invoke/MethodHandle" ∧ (mm_y M).cls ≠ "java/lang/invoke/VarHandle") && decide (mm_lv M ≤ 9)
  | _ => false
