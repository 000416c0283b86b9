/-! the law's loop -/
theorem d_law_23 : decode code 23 = .ok (.iload 4, 2) := by decide +kernel
theorem d_law_25 : decode code 25 = .ok (.aload_n 0, 1) := by decide +kernel
theorem d_law_26 : decode code 26 = .ok (.arraylength, 1) := by decide +kernel
theorem d_law_27 : decode code 27 = .ok (.bipush 6, 2) := by decide +kernel
theorem d_law_29 : decode code 29 = .ok (.isub, 1) := by decide +kernel
theorem d_law_30 : decode code 30 = .ok (.if_icmp .gt 1555, 3) := by decide +kernel
theorem d_law_33 : decode code 33 = .ok (.aload_n 0, 1) := by decide +kernel
theorem d_law_34 : decode code 34 = .ok (.iload 4, 2) := by decide +kernel
theorem d_law_36 : decode code 36 = .ok (.iaload, 1) := by decide +kernel
theorem d_law_37 : decode code 37 = .ok (.bipush 63, 2) := by decide +kernel
theorem d_law_39 : decode code 39 = .ok (.iand, 1) := by decide +kernel
theorem d_law_40 : decode code 40 = .ok (.tableswitch 1539 0 38 #[172, 197, 234, 271, 308, 345, 382, 407, 432, 457, 494, 531, 568, 593, 606, 655, 680, 705, 730, 755, 780, 817, 866, 903, 952, 1014, 1040, 1065, 1090, 1139, 1152, 1165, 1190, 1251, 1300, 1349, 1416, 1489, 1514], 172) := by decide +kernel
theorem d_law_1579 : decode code 1579 = .ok (.iinc 4 6, 3) := by decide +kernel
theorem d_law_1582 : decode code 1582 = .ok (.goto (-1559), 3) := by decide +kernel
theorem d_law_1585 : decode code 1585 = .ok (.iconst 1, 1) := by decide +kernel
theorem d_law_1586 : decode code 1586 = .ok (.ireturn, 1) := by decide +kernel
set_option maxHeartbeats 4000000 in
set_option maxRecDepth 20000 in
theorem lw_turn {p : Program} {l : Launch} {e : Env} {s : State} {m : MethodId} {below : List Frame} {meth : Method} {c : Code} {b L : Nat} {xs : Nat → Int32} {ad : Nat → Nat} {G : va_G} {cI cK cS cJ : ClassId} {qo a1 a2 a3 : Nat} (C0 : lw_C p l s m meth c b L xs ad G cI cK cS cJ qo a1 a2 a3) {i cells slots : Nat} (hi : i + 6 ≤ L) (hcs : cells + 1 ≤ room_1.cells ∧ slots + 6 ≤ room_1.slots)
    (kk : lw_Nx p l e s m b below meth c ad G cI cK cS cJ qo (cells + 1) (slots + 6) 1579 i) : lw_Nx p l e s m b below meth c ad G cI cK cS cJ qo cells slots 33 i := by
  intro σ fo H locs ls hI hP hPo hS hl
  obtain ⟨⟨hx, hb, hr, hml, hown, hts, hX, hbl, hlocks, hgv⟩, hL, -⟩ := id C0
  refine lv_aload_n hx hb d_law_33 rfl (lv_at hl 1 rfl) ?_
  refine lv_iload hx hb d_law_34 (lv_at hl 0 rfl) ?_
  refine va_sld hx hb hX hbl (Nat.not_le.mpr hbl) hS (v_in (i := i) (N := L) (by omega) (by omega)) d_law_36 ?_
  rw [nI_clamp (by omega)]
  refine lv_bipush (v := 63) hx hb d_law_37 (by decide) ?_
  refine lv_iand hx hb d_law_39 ?_
  obtain ⟨t, ht, et⟩ := pk_andE (xs i) (m := 63) 6 (by decide)
  rw [et]
  rcases Nat.lt_or_ge t 39 with h | h
  · match t, h with
    | 0, _ => exact lv_tableIn (tgt := 212) hx hb d_law_40 (by decide) (by decide) rfl (by decide) (lw_0 C0 hi hcs kk σ fo H locs ls hI hP hPo hS hl)
    | 1, _ => exact lv_tableIn (tgt := 237) hx hb d_law_40 (by decide) (by decide) rfl (by decide) (lw_1 C0 hi hcs kk σ fo H locs ls hI hP hPo hS hl)
    | 2, _ => exact lv_tableIn (tgt := 274) hx hb d_law_40 (by decide) (by decide) rfl (by decide) (lw_2 C0 hi hcs kk σ fo H locs ls hI hP hPo hS hl)
    | 3, _ => exact lv_tableIn (tgt := 311) hx hb d_law_40 (by decide) (by decide) rfl (by decide) (lw_3 C0 hi hcs kk σ fo H locs ls hI hP hPo hS hl)
    | 4, _ => exact lv_tableIn (tgt := 348) hx hb d_law_40 (by decide) (by decide) rfl (by decide) (lw_4 C0 hi hcs kk σ fo H locs ls hI hP hPo hS hl)
    | 5, _ => exact lv_tableIn (tgt := 385) hx hb d_law_40 (by decide) (by decide) rfl (by decide) (lw_5 C0 hi hcs kk σ fo H locs ls hI hP hPo hS hl)
    | 6, _ => exact lv_tableIn (tgt := 422) hx hb d_law_40 (by decide) (by decide) rfl (by decide) (lw_6 C0 hi hcs kk σ fo H locs ls hI hP hPo hS hl)
    | 7, _ => exact lv_tableIn (tgt := 447) hx hb d_law_40 (by decide) (by decide) rfl (by decide) (lw_7 C0 hi hcs kk σ fo H locs ls hI hP hPo hS hl)
    | 8, _ => exact lv_tableIn (tgt := 472) hx hb d_law_40 (by decide) (by decide) rfl (by decide) (lw_8 C0 hi hcs kk σ fo H locs ls hI hP hPo hS hl)
    | 9, _ => exact lv_tableIn (tgt := 497) hx hb d_law_40 (by decide) (by decide) rfl (by decide) (lw_9 C0 hi hcs kk σ fo H locs ls hI hP hPo hS hl)
    | 10, _ => exact lv_tableIn (tgt := 534) hx hb d_law_40 (by decide) (by decide) rfl (by decide) (lw_10 C0 hi hcs kk σ fo H locs ls hI hP hPo hS hl)
    | 11, _ => exact lv_tableIn (tgt := 571) hx hb d_law_40 (by decide) (by decide) rfl (by decide) (lw_11 C0 hi hcs kk σ fo H locs ls hI hP hPo hS hl)
    | 12, _ => exact lv_tableIn (tgt := 608) hx hb d_law_40 (by decide) (by decide) rfl (by decide) (lw_12 C0 hi hcs kk σ fo H locs ls hI hP hPo hS hl)
    | 13, _ => exact lv_tableIn (tgt := 633) hx hb d_law_40 (by decide) (by decide) rfl (by decide) (lw_13 C0 hi hcs kk σ fo H locs ls hI hP hPo hS hl)
    | 14, _ => exact lv_tableIn (tgt := 646) hx hb d_law_40 (by decide) (by decide) rfl (by decide) (lw_14 C0 hi hcs kk σ fo H locs ls hI hP hPo hS hl)
    | 15, _ => exact lv_tableIn (tgt := 695) hx hb d_law_40 (by decide) (by decide) rfl (by decide) (lw_15 C0 hi hcs kk σ fo H locs ls hI hP hPo hS hl)
    | 16, _ => exact lv_tableIn (tgt := 720) hx hb d_law_40 (by decide) (by decide) rfl (by decide) (lw_16 C0 hi hcs kk σ fo H locs ls hI hP hPo hS hl)
    | 17, _ => exact lv_tableIn (tgt := 745) hx hb d_law_40 (by decide) (by decide) rfl (by decide) (lw_17 C0 hi hcs kk σ fo H locs ls hI hP hPo hS hl)
    | 18, _ => exact lv_tableIn (tgt := 770) hx hb d_law_40 (by decide) (by decide) rfl (by decide) (lw_18 C0 hi hcs kk σ fo H locs ls hI hP hPo hS hl)
    | 19, _ => exact lv_tableIn (tgt := 795) hx hb d_law_40 (by decide) (by decide) rfl (by decide) (lw_19 C0 hi hcs kk σ fo H locs ls hI hP hPo hS hl)
    | 20, _ => exact lv_tableIn (tgt := 820) hx hb d_law_40 (by decide) (by decide) rfl (by decide) (lw_20 C0 hi hcs kk σ fo H locs ls hI hP hPo hS hl)
    | 21, _ => exact lv_tableIn (tgt := 857) hx hb d_law_40 (by decide) (by decide) rfl (by decide) (lw_21 C0 hi hcs kk σ fo H locs ls hI hP hPo hS hl)
    | 22, _ => exact lv_tableIn (tgt := 906) hx hb d_law_40 (by decide) (by decide) rfl (by decide) (lw_22 C0 hi hcs kk σ fo H locs ls hI hP hPo hS hl)
    | 23, _ => exact lv_tableIn (tgt := 943) hx hb d_law_40 (by decide) (by decide) rfl (by decide) (lw_23 C0 hi hcs kk σ fo H locs ls hI hP hPo hS hl)
    | 24, _ => exact lv_tableIn (tgt := 992) hx hb d_law_40 (by decide) (by decide) rfl (by decide) (lw_24 C0 hi hcs kk σ fo H locs ls hI hP hPo hS hl)
    | 25, _ => exact lv_tableIn (tgt := 1054) hx hb d_law_40 (by decide) (by decide) rfl (by decide) (lw_25 C0 hi hcs kk σ fo H locs ls hI hP hPo hS hl)
    | 26, _ => exact lv_tableIn (tgt := 1080) hx hb d_law_40 (by decide) (by decide) rfl (by decide) (lw_26 C0 hi hcs kk σ fo H locs ls hI hP hPo hS hl)
    | 27, _ => exact lv_tableIn (tgt := 1105) hx hb d_law_40 (by decide) (by decide) rfl (by decide) (lw_27 C0 hi hcs kk σ fo H locs ls hI hP hPo hS hl)
    | 28, _ => exact lv_tableIn (tgt := 1130) hx hb d_law_40 (by decide) (by decide) rfl (by decide) (lw_28 C0 hi hcs kk σ fo H locs ls hI hP hPo hS hl)
    | 29, _ => exact lv_tableIn (tgt := 1179) hx hb d_law_40 (by decide) (by decide) rfl (by decide) (lw_29 C0 hi hcs kk σ fo H locs ls hI hP hPo hS hl)
    | 30, _ => exact lv_tableIn (tgt := 1192) hx hb d_law_40 (by decide) (by decide) rfl (by decide) (lw_30 C0 hi hcs kk σ fo H locs ls hI hP hPo hS hl)
    | 31, _ => exact lv_tableIn (tgt := 1205) hx hb d_law_40 (by decide) (by decide) rfl (by decide) (lw_31 C0 hi hcs kk σ fo H locs ls hI hP hPo hS hl)
    | 32, _ => exact lv_tableIn (tgt := 1230) hx hb d_law_40 (by decide) (by decide) rfl (by decide) (lw_32 C0 hi hcs kk σ fo H locs ls hI hP hPo hS hl)
    | 33, _ => exact lv_tableIn (tgt := 1291) hx hb d_law_40 (by decide) (by decide) rfl (by decide) (lw_33 C0 hi hcs kk σ fo H locs ls hI hP hPo hS hl)
    | 34, _ => exact lv_tableIn (tgt := 1340) hx hb d_law_40 (by decide) (by decide) rfl (by decide) (lw_34 C0 hi hcs kk σ fo H locs ls hI hP hPo hS hl)
    | 35, _ => exact lv_tableIn (tgt := 1389) hx hb d_law_40 (by decide) (by decide) rfl (by decide) (lw_35 C0 hi hcs kk σ fo H locs ls hI hP hPo hS hl)
    | 36, _ => exact lv_tableIn (tgt := 1456) hx hb d_law_40 (by decide) (by decide) rfl (by decide) (lw_36 C0 hi hcs kk σ fo H locs ls hI hP hPo hS hl)
    | 37, _ => exact lv_tableIn (tgt := 1529) hx hb d_law_40 (by decide) (by decide) rfl (by decide) (lw_37 C0 hi hcs kk σ fo H locs ls hI hP hPo hS hl)
    | 38, _ => exact lv_tableIn (tgt := 1554) hx hb d_law_40 (by decide) (by decide) rfl (by decide) (lw_38 C0 hi hcs kk σ fo H locs ls hI hP hPo hS hl)
    | t + 39, h => exact absurd h (by omega)
  · refine lv_tableOut (tgt := 1579) hx hb d_law_40 (Or.inr ?_) (by decide) (W.widen (Nat.le_succ _) (Nat.le_add_right _ 6) (kk σ fo H locs ls hI hP hPo hS hl))
    rw [nI_toInt (by omega)]
    omega
set_option maxHeartbeats 4000000 in
theorem lw_loop {p : Program} {l : Launch} {e : Env} {s : State} {m : MethodId} {below : List Frame} {meth : Method} {c : Code} {b L : Nat} {xs : Nat → Int32} {ad : Nat → Nat} {G : va_G} {cI cK cS cJ : ClassId} {qo a1 a2 a3 : Nat} (C0 : lw_C p l s m meth c b L xs ad G cI cK cS cJ qo a1 a2 a3) : ∀ n j : Nat, 6 * j ≤ L → L < 6 * j + n → lw_Nx p l e s m b below meth c ad G cI cK cS cJ qo (90 + j) (3000 + 6 * j) 23 (6 * j)
  | 0, j, h1, h2 => absurd h2 (by omega)
  | n + 1, j, h1, h2 => by
    intro σ fo H locs ls hI hP hPo hS hl
    obtain ⟨⟨hx, hb, hr, hml, hown, hts, hX, hbl, hlocks, hgv⟩, hL, -⟩ := id C0
    refine lv_iload hx hb d_law_23 (lv_at hl 0 rfl) ?_
    refine lv_aload_n hx hb d_law_25 rfl (lv_at hl 1 rfl) ?_
    refine va_slen hx hb hX hbl (Nat.not_le.mpr hbl) hS d_law_26 ?_
    refine lv_bipush (v := 6) hx hb d_law_27 (by decide) ?_
    refine lv_isub hx hb d_law_29 ?_
    have e6 : (Int32.ofNat L - (6 : Int32)).toInt = (L : Int) - 6 := pk_sub_toInt (a := L) (b := 6) (by omega) (by decide)
    refine lv_icmp_gt (tgt := 1585) hx hb d_law_30 (by decide) (fun _ => ?_) (fun h => ?_)
    · refine lv_iconst (v := 1) hx hb d_law_1585 (by decide) ?_
      refine va_forget hS.2.2 ?_
      refine W.widen (k := 601024) (n := 7293034) (by omega) (by omega) ?_
      exact lw_ret hx hb hr hlocks d_law_1586
    · have hi : 6 * j + 6 ≤ L := by
        rw [Int32.lt_iff_toInt_lt, e6, nI_toInt (by omega)] at h
        omega
      refine lw_turn C0 hi ⟨?_, ?_⟩ ?_ σ fo H locs ls hI hP hPo hS hl
      · show 90 + j + 1 ≤ 601024
        omega
      · show 3000 + 6 * j + 6 ≤ 7293034
        omega
      · intro σ fo H locs ls hI hP hPo hS hl
        refine lv_iinc (v := nI (6 * (j + 1))) (lv' := lw_lv b ad qo (6 * (j + 1))) hx hb d_law_1579 hl (k := 0) rfl (by rw [show (Int32.ofInt 6 : Int32) = nI 6 from rfl, nI_add]; congr 1) (by decide) rfl (fun ls1 hl1 => ?_)
        refine lv_goto (tgt := 23) hx hb d_law_1582 (by decide) ?_
        have h9 : lw_Nx p l e s m b below meth c ad G cI cK cS cJ qo (90 + (j + 1)) (3000 + 6 * (j + 1)) 23 (6 * (j + 1)) := lw_loop C0 n (j + 1) (by omega) (by omega)
        exact h9 σ fo H locs ls1 hI hP hPo hS hl1
