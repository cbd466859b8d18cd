/-! ===== enough: the class's side ===== -/
theorem lN63_le {a b : Nat} (ha : a < 2 ^ 63) (hb : b < 2 ^ 63) : lN a ≤ lN b ↔ a ≤ b := by
  rw [Int64.le_iff_toInt_le, toInt64_lN ha, toInt64_lN hb]
  omega
theorem mul_lN {a b : Nat} (x : Int64) (hx : x = lN b) : lN a * x = lN (a * b) := by rw [hx, lN_mul]
set_option maxRecDepth 100000 in
theorem enough_loop {s : SD} {x : Nat} (hw : SW s) (hx : x ≤ 100) {h0 : gH} : ∀ (m k : Nat) (h : gH), 1 ≤ k → k + m = 7 → CS h s → Fr 49 147 h0 h → Go none RX8 cX8_enough 5 (some .int) false 8 30 [some (.ref 0), some (.int (nI x)), some (.long (lN (x * spN (leastD s.1 1)))), none, some (.int (nI k))] [] h 163 0 0 (fun v h' N' => v = some (.int (enG s.1 x m k)) ∧ N' = 163 ∧ CS h' s ∧ Fr 49 147 h0 h') := by
  obtain ⟨-, f2⟩ := par_sp (fee := fun _ => 0) (k := 1) hw.1
  have f2 : spN (leastD s.1 1) ≤ 32061154660081280 := f2
  have f3 : x * spN (leastD s.1 1) ≤ 100 * 32061154660081280 := Nat.mul_le_mul hx f2
  intro m
  induction m with
  | zero =>
    intro k h hk hm hS hF
    have e : k = 7 := by omega
    subst e
    refine go_iload dX8_enough_30 rfl ?_
    refine go_bipush (v := nI 6) dX8_enough_32 (by decide) ?_
    refine go_icmp_gt (tgt := 67) dX8_enough_34 (by decide) (fun c_34 => ?_) (fun c_34 => ?_)
    · skip
      refine go_bipush (v := (-9)) dX8_enough_67 (by decide) ?_
      refine go_iret dX8_enough_69 rfl ?_
      exact ⟨rfl, rfl, hS, hF⟩
    · exact absurd (nI_lt (by omega) (by decide)) c_34
  | succ m ih =>
    intro k h hk hm hS hF
    obtain ⟨l, cu, le, ta, k0⟩ := hS.2.2.2.2.2.h49
    obtain ⟨e1, e2⟩ := par_sp (fee := fun _ => 0) (k := k) hw.1
    have e1 : (leastD s.1 k).2.2 = lN (spN (leastD s.1 k)) := e1
    have e2 : spN (leastD s.1 k) ≤ 32061154660081280 := e2
    refine go_iload dX8_enough_30 rfl ?_
    refine go_bipush (v := nI 6) dX8_enough_32 (by decide) ?_
    refine go_icmp_gt (tgt := 67) dX8_enough_34 (by decide) (fun c_34 => ?_) (fun c_34 => ?_)
    · exact absurd ((nI_ltI (by omega) (by omega)).mp c_34) (by omega)
    · skip
      refine go_ldc2 dX8_enough_37 kX8_169 ?_
      refine go_aload_n dX8_enough_40 rfl ?_
      refine go_get dX8_enough_41 fX8_43 (by omega) hS.1 rfl ?_
      refine go_iload dX8_enough_44 rfl ?_
      refine go_iv dX8_enough_46 mX6_leastIn iX8_162 (leastS' hk (by omega) hw hS) rfl rfl (by omega) k0 rfl (Nat.le_of_ble_eq_true rfl) (Nat.zero_le _) (Nat.zero_le _) (fun v_46 h_46 n_46 q_46 => ?_)
      obtain ⟨rfl, rfl, hS1, hP1, hF1⟩ := q_46
      obtain ⟨FP, p0, -⟩ := id hP1
      refine go_get dX8_enough_49 fX8_154 (by omega) p0 rfl ?_
      refine go_lmul dX8_enough_52 ?_
      refine go_top (y := .long (lN (100 * spN (leastD s.1 k)))) (by rw [← mul_lN _ e1]; rfl) ?_
      refine go_lload_n dX8_enough_53 rfl ?_
      refine go_lcmp dX8_enough_54 ?_
      refine go_if_gt (tgt := 61) dX8_enough_55 (by decide) (fun c_55 => ?_) (fun c_55 => ?_)
      · skip
        have c1 : ¬ 100 * spN (leastD s.1 k) ≤ x * spN (leastD s.1 1) := fun z => absurd ((lN63_le (by omega) (by omega)).mpr z) (Int64.not_le.mpr ((lg_cmp_gt _ _).mp c_55))
        refine go_inc (L' := [_, _, _, _, _]) dX8_enough_61 rfl (by decide) rfl ?_
        refine go_goto (tgt := 30) dX8_enough_64 (by decide) ?_
        rw [enG, if_neg c1]
        exact ih (k + 1) _ (by omega) (by omega) hS1 (hF.trans hF1)
      · skip
        have c1 : 100 * spN (leastD s.1 k) ≤ x * spN (leastD s.1 1) := (lN63_le (by omega) (by omega)).mp (Int64.not_lt.mp (mt (lg_cmp_gt _ _).mpr c_55))
        refine go_iload dX8_enough_58 rfl ?_
        refine go_iret dX8_enough_60 rfl ?_
        exact ⟨by rw [enG, if_pos c1], rfl, hS1, hF.trans hF1⟩
set_option maxRecDepth 100000 in
theorem c_enough {h : gH} {s : SD} (hw : SW s) (hS : CS h s) (x : Int32) : Run 8 yX8_enough cX8_enough 5 (some .int) [.ref 0, .int x] h 163 0 0 (fun v h' N' => v = some (.int (enoughS s.1 x)) ∧ N' = 163 ∧ CS h' s ∧ Fr 0 147 h h') := by
  obtain ⟨l, cu, le, ta, k0⟩ := hS.2.2.2.2.2.h49
  obtain ⟨e1, e2⟩ := par_sp (fee := fun _ => 0) (k := 1) hw.1
  have e1 : (leastD s.1 1).2.2 = lN (spN (leastD s.1 1)) := e1
  cases hr : rI 0 100 x with
  | false =>
    have e : enoughS s.1 x = -1 := by unfold enoughS; rw [hr]; rfl
    rw [e]
    refine Run.of (ini := false) (L := [_, _, _, _, _]) mX8_enough (fun h => by cases h) rfl (Nat.le_of_ble_eq_true rfl) rfl ?_
    refine go_iload_n dX8_enough_0 rfl ?_
    refine go_if_lt (tgt := 10) dX8_enough_1 (by decide) (fun c_1 => ?_) (fun c_1 => ?_)
    · skip
      refine go_iconst (v := (-1)) dX8_enough_10 (by decide) ?_
      refine go_iret dX8_enough_11 rfl ?_
      exact ⟨rfl, rfl, hS, Fr.rf⟩
    · skip
      rw [lt0] at c_1
      refine go_iload_n dX8_enough_4 rfl ?_
      refine go_bipush (v := nI 100) dX8_enough_5 (by decide) ?_
      refine go_icmp_le (tgt := 12) dX8_enough_7 (by decide) (fun c_7 => ?_) (fun c_7 => ?_)
      · exact absurd (rI_f hr) (by rw [leN (by decide)] at c_7; omega)
      · skip
        refine go_iconst (v := (-1)) dX8_enough_10 (by decide) ?_
        refine go_iret dX8_enough_11 rfl ?_
        exact ⟨rfl, rfl, hS, Fr.rf⟩
  | true =>
    obtain ⟨k, -, hk, rfl⟩ := rI_t hr
    have e : enoughS s.1 (nI k) = enG s.1 k 6 1 := by unfold enoughS; rw [hr, toN_nI (by omega)]; rfl
    rw [e]
    refine Run.of (ini := false) (L := [_, _, _, _, _]) mX8_enough (fun h => by cases h) rfl (Nat.le_of_ble_eq_true rfl) rfl ?_
    refine go_iload_n dX8_enough_0 rfl ?_
    refine go_if_lt (tgt := 10) dX8_enough_1 (by decide) (fun c_1 => ?_) (fun c_1 => ?_)
    · exact absurd c_1 (nI_pos (by omega))
    · skip
      refine go_iload_n dX8_enough_4 rfl ?_
      refine go_bipush (v := nI 100) dX8_enough_5 (by decide) ?_
      refine go_icmp_le (tgt := 12) dX8_enough_7 (by decide) (fun c_7 => ?_) (fun c_7 => ?_)
      · skip
        refine go_iload_n dX8_enough_12 rfl ?_
        refine go_i2l dX8_enough_13 rfl ?_
        refine go_aload_n dX8_enough_14 rfl ?_
        refine go_get dX8_enough_15 fX8_43 (by omega) hS.1 rfl ?_
        refine go_iconst (v := nI 1) dX8_enough_18 (by decide) ?_
        refine go_iv dX8_enough_19 mX6_leastIn iX8_162 (leastS' (k := 1) (by omega) (by omega) hw hS) rfl rfl (by omega) k0 rfl (Nat.le_of_ble_eq_true rfl) (Nat.zero_le _) (Nat.zero_le _) (fun v_19 h_19 n_19 q_19 => ?_)
        obtain ⟨rfl, rfl, hS1, hP1, hF1⟩ := q_19
        obtain ⟨FP, p0, -⟩ := id hP1
        refine go_get dX8_enough_22 fX8_154 (by omega) p0 rfl ?_
        refine go_lmul dX8_enough_25 ?_
        refine go_top (y := .long (lN (k * spN (leastD s.1 1)))) (by rw [nI_l (by omega), ← mul_lN _ e1]) ?_
        refine go_lstore_n (L' := [_, _, _, _, _]) dX8_enough_26 rfl (by decide) rfl ?_
        refine go_iconst (v := nI 1) dX8_enough_27 (by decide) ?_
        refine go_istore (L' := [_, _, _, _, _]) dX8_enough_28 (by decide) rfl ?_
        refine go_Q ?_ (enough_loop hw hk (h0 := h_19) 6 1 h_19 (by omega) (by omega) hS1 Fr.rf)
        rintro v h' N' ⟨a, b, c, f⟩
        exact ⟨a, b, c, (hF1.trans f).wide (by omega) (by omega)⟩
      · exact absurd (nI_le (by omega) (by decide)) c_7
