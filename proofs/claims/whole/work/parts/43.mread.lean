/-! ===== gain, enough, place, sorted, count, closes: the reference's side ===== -/
set_option maxRecDepth 100000 in
theorem m_gain {h : gH} {s : SD} (hw : SW s) (hS : MS h s) (x y : Int32) : Run 8 yX9_gain cX9_gain 5 (some .long) [.ref 147, .int x, .int y] h 163 0 0 (fun v h' N' => v = some (.long (gainS s.1 x y)) ∧ N' = 163 ∧ MS h' s ∧ Fr 147 163 h h') := by
  obtain ⟨⟨r0, r1, r2, r3, r4, sn, rn, h7⟩, -⟩ := id hS
  by_cases hb : (rI 1 6 x && rI 0 3 y) = true ∧ (toN y < 2 ∨ 2 ≤ toN x)
  · have hb1 := hb.1
    rw [Bool.and_eq_true] at hb1
    obtain ⟨k, hk1, hk6, rfl⟩ := rI_t hb1.1
    obtain ⟨w, -, hw3, rfl⟩ := rI_t hb1.2
    have hb2 := hb.2
    rw [toN_nI (by omega), toN_nI (by omega)] at hb2
    obtain ⟨e1, e2⟩ := par_sp (fee := fun _ => 0) (k := k) hw.1
    have e1 : (leastD s.1 k).2.2 = lN (spN (leastD s.1 k)) := e1
    have e2 : spN (leastD s.1 k) ≤ 32061154660081280 := e2
    have e : gainS s.1 (nI k) (nI w) = (if w < 2 then toldS (spN (leastD s.1 k)) (w == 0) else toldS (spN (leastD s.1 (k - 1)) - spN (leastD s.1 k)) (w == 2)) := by
      unfold gainS
      rw [if_pos hb, toN_nI (by omega), toN_nI (by omega)]
    rw [e]
    by_cases h2 : w < 2
    · rw [if_pos h2]
      refine Run.of (ini := false) (L := [_, _, _, _, _]) mX9_gain (fun h => by cases h) rfl (Nat.le_of_ble_eq_true rfl) rfl ?_
      refine go_iload_n dX9_gain_0 rfl ?_
      refine go_iconst (v := nI 0) dX9_gain_1 (by decide) ?_
      refine go_iconst (v := nI 3) dX9_gain_2 (by decide) ?_
      refine go_is dX9_gain_3 mX9_in iX9_63 (run_in 7 (lo := 0) (hi := 3) (nI w) (by decide) (by decide)) rfl rfl (Nat.le_of_ble_eq_true rfl) (Nat.zero_le _) (Nat.zero_le _) (fun v_3 h_3 n_3 q_3 => ?_)
      obtain ⟨rfl, rfl, rfl⟩ := q_3
      refine go_if_eq (tgt := 28) dX9_gain_6 (by decide) (fun c_6 => ?_) (fun c_6 => ?_)
      · exact absurd (bI_eq.mp c_6) (by rw [hb1.2]; decide)
      · skip
        refine go_iload_n dX9_gain_9 rfl ?_
        refine go_iload_n dX9_gain_10 rfl ?_
        refine go_iconst (v := nI 2) dX9_gain_11 (by decide) ?_
        refine go_icmp_ge (tgt := 19) dX9_gain_12 (by decide) (fun c_12 => ?_) (fun c_12 => ?_)
        · exact absurd ((nI_leI (by omega) (by omega)).mp c_12) (by omega)
        · skip
          refine go_iconst (v := nI 1) dX9_gain_15 (by decide) ?_
          refine go_goto (tgt := 20) dX9_gain_16 (by decide) ?_
          refine go_bipush (v := nI 6) dX9_gain_20 (by decide) ?_
          refine go_is dX9_gain_22 mX9_in iX9_63 (run_in 7 (lo := 1) (hi := 6) (nI k) (by decide) (by decide)) rfl rfl (Nat.le_of_ble_eq_true rfl) (Nat.zero_le _) (Nat.zero_le _) (fun v_22 h_22 n_22 q_22 => ?_)
          obtain ⟨rfl, rfl, rfl⟩ := q_22
          refine go_if_ne (tgt := 32) dX9_gain_25 (by decide) (fun c_25 => ?_) (fun c_25 => ?_)
          · skip
            refine go_aload_n dX9_gain_32 rfl ?_
            refine go_iload_n dX9_gain_33 rfl ?_
            refine go_iv dX9_gain_34 mX9_spreadIn iX9_196 (spreadIn hw hS hk1 hk6) rfl rfl (by omega) h7 rfl (Nat.le_of_ble_eq_true rfl) (Nat.zero_le _) (Nat.zero_le _) (fun v_34 h_34 n_34 q_34 => ?_)
            obtain ⟨rfl, rfl, hS1, hF1⟩ := q_34
            refine go_lstore_n (L' := [_, _, _, _, _]) dX9_gain_37 rfl (by decide) rfl ?_
            refine go_iload_n dX9_gain_38 rfl ?_
            refine go_iconst (v := nI 2) dX9_gain_39 (by decide) ?_
            refine go_icmp_ge (tgt := 51) dX9_gain_40 (by decide) (fun c_40 => ?_) (fun c_40 => ?_)
            · exact absurd ((nI_leI (by omega) (by omega)).mp c_40) (by omega)
            · skip
              refine go_lload_n dX9_gain_43 rfl ?_
              refine go_iload_n dX9_gain_44 rfl ?_
              refine go_is dX9_gain_45 mX9_told iX9_192 (run_told 7 (by omega) e1 (by omega)) rfl rfl (Nat.le_of_ble_eq_true rfl) (Nat.zero_le _) (Nat.zero_le _) (fun v_45 h_45 n_45 q_45 => ?_)
              obtain ⟨rfl, rfl, rfl⟩ := q_45
              refine go_goto (tgt := 66) dX9_gain_48 (by decide) ?_
              refine go_lret dX9_gain_66 rfl ?_
              exact ⟨rfl, rfl, hS1, hF1⟩
          · exact absurd (bI_eq.mp (Decidable.not_not.mp c_25)) (by rw [hb1.1]; decide)
    · rw [if_neg h2]
      obtain ⟨f1, f2⟩ := par_sp (fee := fun _ => 0) (k := k - 1) hw.1
      have f1 : (leastD s.1 (k - 1)).2.2 = lN (spN (leastD s.1 (k - 1))) := f1
      have f2 : spN (leastD s.1 (k - 1)) ≤ 32061154660081280 := f2
      have hm := least_mono (c := s.1) (k := k - 1) hw.1 (by omega)
      rw [show k - 1 + 1 = k by omega] at hm
      have ed : (leastD s.1 (k - 1)).2.2 - (leastD s.1 k).2.2 = lN (spN (leastD s.1 (k - 1)) - spN (leastD s.1 k)) := by
        rw [e1, f1, lN63_sub hm]
      have ew : (w - 2 == 0) = (w == 2) := by rcases (show w = 2 ∨ w = 3 by omega) with q | q <;> rw [q] <;> rfl
      have hr2 : rI 2 6 (nI k) = true := rI_yes (by omega) (by omega) (by omega)
      refine Run.of (ini := false) (L := [_, _, _, _, _]) mX9_gain (fun h => by cases h) rfl (Nat.le_of_ble_eq_true rfl) rfl ?_
      refine go_iload_n dX9_gain_0 rfl ?_
      refine go_iconst (v := nI 0) dX9_gain_1 (by decide) ?_
      refine go_iconst (v := nI 3) dX9_gain_2 (by decide) ?_
      refine go_is dX9_gain_3 mX9_in iX9_63 (run_in 7 (lo := 0) (hi := 3) (nI w) (by decide) (by decide)) rfl rfl (Nat.le_of_ble_eq_true rfl) (Nat.zero_le _) (Nat.zero_le _) (fun v_3 h_3 n_3 q_3 => ?_)
      obtain ⟨rfl, rfl, rfl⟩ := q_3
      refine go_if_eq (tgt := 28) dX9_gain_6 (by decide) (fun c_6 => ?_) (fun c_6 => ?_)
      · exact absurd (bI_eq.mp c_6) (by rw [hb1.2]; decide)
      · skip
        refine go_iload_n dX9_gain_9 rfl ?_
        refine go_iload_n dX9_gain_10 rfl ?_
        refine go_iconst (v := nI 2) dX9_gain_11 (by decide) ?_
        refine go_icmp_ge (tgt := 19) dX9_gain_12 (by decide) (fun c_12 => ?_) (fun c_12 => ?_)
        · skip
          refine go_iconst (v := nI 2) dX9_gain_19 (by decide) ?_
          refine go_bipush (v := nI 6) dX9_gain_20 (by decide) ?_
          refine go_is dX9_gain_22 mX9_in iX9_63 (run_in 7 (lo := 2) (hi := 6) (nI k) (by decide) (by decide)) rfl rfl (Nat.le_of_ble_eq_true rfl) (Nat.zero_le _) (Nat.zero_le _) (fun v_22 h_22 n_22 q_22 => ?_)
          obtain ⟨rfl, rfl, rfl⟩ := q_22
          refine go_if_ne (tgt := 32) dX9_gain_25 (by decide) (fun c_25 => ?_) (fun c_25 => ?_)
          · skip
            refine go_aload_n dX9_gain_32 rfl ?_
            refine go_iload_n dX9_gain_33 rfl ?_
            refine go_iv dX9_gain_34 mX9_spreadIn iX9_196 (spreadIn hw hS hk1 hk6) rfl rfl (by omega) h7 rfl (Nat.le_of_ble_eq_true rfl) (Nat.zero_le _) (Nat.zero_le _) (fun v_34 h_34 n_34 q_34 => ?_)
            obtain ⟨rfl, rfl, hS1, hF1⟩ := q_34
            obtain ⟨⟨q0, q1, q2, q3, q4, q5, q6, k7⟩, -⟩ := id hS1
            refine go_lstore_n (L' := [_, _, _, _, _]) dX9_gain_37 rfl (by decide) rfl ?_
            refine go_iload_n dX9_gain_38 rfl ?_
            refine go_iconst (v := nI 2) dX9_gain_39 (by decide) ?_
            refine go_icmp_ge (tgt := 51) dX9_gain_40 (by decide) (fun c_40 => ?_) (fun c_40 => ?_)
            · skip
              refine go_aload_n dX9_gain_51 rfl ?_
              refine go_iload_n dX9_gain_52 rfl ?_
              refine go_iconst (v := nI 1) dX9_gain_53 (by decide) ?_
              refine go_isub dX9_gain_54 ?_
              refine go_top (y := .int (nI (k - 1))) (by rw [nI_sub (by omega)]) ?_
              refine go_iv dX9_gain_55 mX9_spreadIn iX9_196 (spreadIn (k := k - 1) hw hS1 (by omega) (by omega)) rfl rfl (by omega) k7 rfl (Nat.le_of_ble_eq_true rfl) (Nat.zero_le _) (Nat.zero_le _) (fun v_55 h_55 n_55 q_55 => ?_)
              obtain ⟨rfl, rfl, hS2, hF2⟩ := q_55
              refine go_lload_n dX9_gain_58 rfl ?_
              refine go_lsub dX9_gain_59 ?_
              refine go_iload_n dX9_gain_60 rfl ?_
              refine go_iconst (v := nI 2) dX9_gain_61 (by decide) ?_
              refine go_isub dX9_gain_62 ?_
              refine go_top (y := .int (nI (w - 2))) (by rw [nI_sub (by omega)]) ?_
              refine go_is dX9_gain_63 mX9_told iX9_192 (run_told 7 (by omega) ed (by omega)) rfl rfl (Nat.le_of_ble_eq_true rfl) (Nat.zero_le _) (Nat.zero_le _) (fun v_63 h_63 n_63 q_63 => ?_)
              obtain ⟨rfl, rfl, rfl⟩ := q_63
              refine go_lret dX9_gain_66 rfl ?_
              rw [ew]
              exact ⟨rfl, rfl, hS2, hF1.trans hF2⟩
            · exact absurd (nI_le (by omega) (by omega)) c_40
          · exact absurd (bI_eq.mp (Decidable.not_not.mp c_25)) (by rw [hr2]; decide)
        · exact absurd (nI_le (by omega) (by omega)) c_12
  · have e : gainS s.1 x y = -1 := by unfold gainS; rw [if_neg hb]
    rw [e]
    refine Run.of (ini := false) (L := [_, _, _, _, _]) mX9_gain (fun h => by cases h) rfl (Nat.le_of_ble_eq_true rfl) rfl ?_
    cases hy : rI 0 3 y with
    | false =>
      refine go_iload_n dX9_gain_0 rfl ?_
      refine go_iconst (v := nI 0) dX9_gain_1 (by decide) ?_
      refine go_iconst (v := nI 3) dX9_gain_2 (by decide) ?_
      refine go_is dX9_gain_3 mX9_in iX9_63 (run_in 7 (lo := 0) (hi := 3) y (by decide) (by decide)) rfl rfl (Nat.le_of_ble_eq_true rfl) (Nat.zero_le _) (Nat.zero_le _) (fun v_3 h_3 n_3 q_3 => ?_)
      obtain ⟨rfl, rfl, rfl⟩ := q_3
      refine go_if_eq (tgt := 28) dX9_gain_6 (by decide) (fun c_6 => ?_) (fun c_6 => ?_)
      · skip
        refine go_ldc2 dX9_gain_28 kX9_186 ?_
        refine go_lret dX9_gain_31 rfl ?_
        exact ⟨rfl, rfl, hS, Fr.rf⟩
      · exact absurd (bI_eq.mpr hy) c_6
    | true =>
      obtain ⟨w, -, hw3, rfl⟩ := rI_t hy
      by_cases h2 : w < 2
      · have hx : rI 1 6 x = false := by
          cases hq : rI 1 6 x with
          | false => rfl
          | true => exact absurd ⟨by rw [hq, hy]; rfl, Or.inl (by rw [toN_nI (by omega)]; exact h2)⟩ hb
        refine go_iload_n dX9_gain_0 rfl ?_
        refine go_iconst (v := nI 0) dX9_gain_1 (by decide) ?_
        refine go_iconst (v := nI 3) dX9_gain_2 (by decide) ?_
        refine go_is dX9_gain_3 mX9_in iX9_63 (run_in 7 (lo := 0) (hi := 3) (nI w) (by decide) (by decide)) rfl rfl (Nat.le_of_ble_eq_true rfl) (Nat.zero_le _) (Nat.zero_le _) (fun v_3 h_3 n_3 q_3 => ?_)
        obtain ⟨rfl, rfl, rfl⟩ := q_3
        refine go_if_eq (tgt := 28) dX9_gain_6 (by decide) (fun c_6 => ?_) (fun c_6 => ?_)
        · exact absurd (bI_eq.mp c_6) (by rw [hy]; decide)
        · skip
          refine go_iload_n dX9_gain_9 rfl ?_
          refine go_iload_n dX9_gain_10 rfl ?_
          refine go_iconst (v := nI 2) dX9_gain_11 (by decide) ?_
          refine go_icmp_ge (tgt := 19) dX9_gain_12 (by decide) (fun c_12 => ?_) (fun c_12 => ?_)
          · exact absurd ((nI_leI (by omega) (by omega)).mp c_12) (by omega)
          · skip
            refine go_iconst (v := nI 1) dX9_gain_15 (by decide) ?_
            refine go_goto (tgt := 20) dX9_gain_16 (by decide) ?_
            refine go_bipush (v := nI 6) dX9_gain_20 (by decide) ?_
            refine go_is dX9_gain_22 mX9_in iX9_63 (run_in 7 (lo := 1) (hi := 6) x (by decide) (by decide)) rfl rfl (Nat.le_of_ble_eq_true rfl) (Nat.zero_le _) (Nat.zero_le _) (fun v_22 h_22 n_22 q_22 => ?_)
            obtain ⟨rfl, rfl, rfl⟩ := q_22
            refine go_if_ne (tgt := 32) dX9_gain_25 (by decide) (fun c_25 => ?_) (fun c_25 => ?_)
            · exact absurd (bI_ne.mp c_25) (by rw [hx]; decide)
            · skip
              refine go_ldc2 dX9_gain_28 kX9_186 ?_
              refine go_lret dX9_gain_31 rfl ?_
              exact ⟨rfl, rfl, hS, Fr.rf⟩
      · have hx : rI 2 6 x = false := by
          cases hq : rI 2 6 x with
          | false => rfl
          | true =>
            obtain ⟨k, hk2, hk6, rfl⟩ := rI_t hq
            exact absurd ⟨by rw [rI_yes (lo := 1) (hi := 6) (k := k) (by omega) (by omega) (by omega), hy]; rfl, Or.inr (by rw [toN_nI (by omega)]; exact hk2)⟩ hb
        refine go_iload_n dX9_gain_0 rfl ?_
        refine go_iconst (v := nI 0) dX9_gain_1 (by decide) ?_
        refine go_iconst (v := nI 3) dX9_gain_2 (by decide) ?_
        refine go_is dX9_gain_3 mX9_in iX9_63 (run_in 7 (lo := 0) (hi := 3) (nI w) (by decide) (by decide)) rfl rfl (Nat.le_of_ble_eq_true rfl) (Nat.zero_le _) (Nat.zero_le _) (fun v_3 h_3 n_3 q_3 => ?_)
        obtain ⟨rfl, rfl, rfl⟩ := q_3
        refine go_if_eq (tgt := 28) dX9_gain_6 (by decide) (fun c_6 => ?_) (fun c_6 => ?_)
        · exact absurd (bI_eq.mp c_6) (by rw [hy]; decide)
        · skip
          refine go_iload_n dX9_gain_9 rfl ?_
          refine go_iload_n dX9_gain_10 rfl ?_
          refine go_iconst (v := nI 2) dX9_gain_11 (by decide) ?_
          refine go_icmp_ge (tgt := 19) dX9_gain_12 (by decide) (fun c_12 => ?_) (fun c_12 => ?_)
          · skip
            refine go_iconst (v := nI 2) dX9_gain_19 (by decide) ?_
            refine go_bipush (v := nI 6) dX9_gain_20 (by decide) ?_
            refine go_is dX9_gain_22 mX9_in iX9_63 (run_in 7 (lo := 2) (hi := 6) x (by decide) (by decide)) rfl rfl (Nat.le_of_ble_eq_true rfl) (Nat.zero_le _) (Nat.zero_le _) (fun v_22 h_22 n_22 q_22 => ?_)
            obtain ⟨rfl, rfl, rfl⟩ := q_22
            refine go_if_ne (tgt := 32) dX9_gain_25 (by decide) (fun c_25 => ?_) (fun c_25 => ?_)
            · exact absurd (bI_ne.mp c_25) (by rw [hx]; decide)
            · skip
              refine go_ldc2 dX9_gain_28 kX9_186 ?_
              refine go_lret dX9_gain_31 rfl ?_
              exact ⟨rfl, rfl, hS, Fr.rf⟩
          · exact absurd (nI_le (by omega) (by omega)) c_12
set_option maxRecDepth 100000 in
theorem me_loop {s : SD} {x : Nat} (hw : SW s) (hx : x ≤ 100) {h0 : gH} : ∀ (m k : Nat) (h : gH), 1 ≤ k → k + m = 7 → MS h s → Fr 147 163 h0 h → Go none RX9 cX9_enough 5 (some .int) false 8 21 [some (.ref 147), some (.int (nI x)), some (.long (leastD s.1 1).2.2), none, some (.int (nI k))] [] h 163 0 0 (fun v h' N' => v = some (.int (enG s.1 x m k)) ∧ N' = 163 ∧ MS h' s ∧ Fr 147 163 h0 h') := by
  obtain ⟨f1, f2⟩ := par_sp (fee := fun _ => 0) (k := 1) hw.1
  have f1 : (leastD s.1 1).2.2 = lN (spN (leastD s.1 1)) := f1
  have f2 : spN (leastD s.1 1) ≤ 32061154660081280 := f2
  intro m
  induction m with
  | zero =>
    intro k h hk hm hS hF
    have e : k = 7 := by omega
    subst e
    refine go_iload dX9_enough_21 rfl ?_
    refine go_bipush (v := nI 7) dX9_enough_23 (by decide) ?_
    refine go_icmp_ge (tgt := 51) dX9_enough_25 (by decide) (fun c_25 => ?_) (fun c_25 => ?_)
    · skip
      refine go_bipush (v := (-9)) dX9_enough_51 (by decide) ?_
      refine go_iret dX9_enough_53 rfl ?_
      exact ⟨rfl, rfl, hS, hF⟩
    · exact absurd (nI_le (by omega) (by decide)) c_25
  | succ m ih =>
    intro k h hk hm hS hF
    obtain ⟨⟨r0, r1, r2, r3, r4, sn, rn, h7⟩, -⟩ := id hS
    obtain ⟨e1, e2⟩ := par_sp (fee := fun _ => 0) (k := k) hw.1
    have e1 : (leastD s.1 k).2.2 = lN (spN (leastD s.1 k)) := e1
    have e2 : spN (leastD s.1 k) ≤ 32061154660081280 := e2
    refine go_iload dX9_enough_21 rfl ?_
    refine go_bipush (v := nI 7) dX9_enough_23 (by decide) ?_
    refine go_icmp_ge (tgt := 51) dX9_enough_25 (by decide) (fun c_25 => ?_) (fun c_25 => ?_)
    · exact absurd ((nI_leI (by omega) (by omega)).mp c_25) (by omega)
    · skip
      refine go_aload_n dX9_enough_28 rfl ?_
      refine go_iload dX9_enough_29 rfl ?_
      refine go_iv dX9_enough_31 mX9_spreadIn iX9_196 (spreadIn hw hS hk (by omega)) rfl rfl (by omega) h7 rfl (Nat.le_of_ble_eq_true rfl) (Nat.zero_le _) (Nat.zero_le _) (fun v_31 h_31 n_31 q_31 => ?_)
      obtain ⟨rfl, rfl, hS1, hF1⟩ := q_31
      refine go_lload_n dX9_enough_34 rfl ?_
      refine go_iload_n dX9_enough_35 rfl ?_
      refine go_is dX9_enough_36 mX9_isNoMore iX9_204 (run_isNoMore 7 e2 f2 hx e1 f1) rfl rfl (Nat.le_of_ble_eq_true rfl) (Nat.zero_le _) (Nat.zero_le _) (fun v_36 h_36 n_36 q_36 => ?_)
      obtain ⟨rfl, rfl, rfl⟩ := q_36
      refine go_if_eq (tgt := 45) dX9_enough_39 (by decide) (fun c_39 => ?_) (fun c_39 => ?_)
      · skip
        have c1 : ¬ 100 * spN (leastD s.1 k) ≤ x * spN (leastD s.1 1) := of_decide_eq_false (bI_eq.mp c_39)
        refine go_inc (L' := [_, _, _, _, _]) dX9_enough_45 rfl (by decide) rfl ?_
        refine go_goto (tgt := 21) dX9_enough_48 (by decide) ?_
        rw [enG, if_neg c1]
        exact ih (k + 1) _ (by omega) (by omega) hS1 (hF.trans hF1)
      · skip
        have c1 : 100 * spN (leastD s.1 k) ≤ x * spN (leastD s.1 1) := of_decide_eq_true (bI_ne.mp c_39)
        refine go_iload dX9_enough_42 rfl ?_
        refine go_iret dX9_enough_44 rfl ?_
        exact ⟨by rw [enG, if_pos c1], rfl, hS1, hF.trans hF1⟩
set_option maxRecDepth 100000 in
theorem m_enough {h : gH} {s : SD} (hw : SW s) (hS : MS h s) (x : Int32) : Run 8 yX9_enough cX9_enough 5 (some .int) [.ref 147, .int x] h 163 0 0 (fun v h' N' => v = some (.int (enoughS s.1 x)) ∧ N' = 163 ∧ MS h' s ∧ Fr 147 163 h h') := by
  obtain ⟨⟨r0, r1, r2, r3, r4, sn, rn, h7⟩, -⟩ := id hS
  cases hr : rI 0 100 x with
  | false =>
    have e : enoughS s.1 x = -1 := by unfold enoughS; rw [hr]; rfl
    rw [e]
    refine Run.of (ini := false) (L := [_, _, _, _, _]) mX9_enough (fun h => by cases h) rfl (Nat.le_of_ble_eq_true rfl) rfl ?_
    refine go_iload_n dX9_enough_0 rfl ?_
    refine go_iconst (v := nI 0) dX9_enough_1 (by decide) ?_
    refine go_bipush (v := nI 100) dX9_enough_2 (by decide) ?_
    refine go_is dX9_enough_4 mX9_in iX9_63 (run_in 7 (lo := 0) (hi := 100) x (by decide) (by decide)) rfl rfl (Nat.le_of_ble_eq_true rfl) (Nat.zero_le _) (Nat.zero_le _) (fun v_4 h_4 n_4 q_4 => ?_)
    obtain ⟨rfl, rfl, rfl⟩ := q_4
    refine go_if_ne (tgt := 12) dX9_enough_7 (by decide) (fun c_7 => ?_) (fun c_7 => ?_)
    · exact absurd (bI_ne.mp c_7) (by rw [hr]; decide)
    · skip
      refine go_iconst (v := (-1)) dX9_enough_10 (by decide) ?_
      refine go_iret dX9_enough_11 rfl ?_
      exact ⟨rfl, rfl, hS, Fr.rf⟩
  | true =>
    obtain ⟨k, -, hk, rfl⟩ := rI_t hr
    have e : enoughS s.1 (nI k) = enG s.1 k 6 1 := by unfold enoughS; rw [hr, toN_nI (by omega)]; rfl
    rw [e]
    refine Run.of (ini := false) (L := [_, _, _, _, _]) mX9_enough (fun h => by cases h) rfl (Nat.le_of_ble_eq_true rfl) rfl ?_
    refine go_iload_n dX9_enough_0 rfl ?_
    refine go_iconst (v := nI 0) dX9_enough_1 (by decide) ?_
    refine go_bipush (v := nI 100) dX9_enough_2 (by decide) ?_
    refine go_is dX9_enough_4 mX9_in iX9_63 (run_in 7 (lo := 0) (hi := 100) (nI k) (by decide) (by decide)) rfl rfl (Nat.le_of_ble_eq_true rfl) (Nat.zero_le _) (Nat.zero_le _) (fun v_4 h_4 n_4 q_4 => ?_)
    obtain ⟨rfl, rfl, rfl⟩ := q_4
    refine go_if_ne (tgt := 12) dX9_enough_7 (by decide) (fun c_7 => ?_) (fun c_7 => ?_)
    · skip
      refine go_aload_n dX9_enough_12 rfl ?_
      refine go_iconst (v := nI 1) dX9_enough_13 (by decide) ?_
      refine go_iv dX9_enough_14 mX9_spreadIn iX9_196 (spreadIn (k := 1) hw hS (by omega) (by omega)) rfl rfl (by omega) h7 rfl (Nat.le_of_ble_eq_true rfl) (Nat.zero_le _) (Nat.zero_le _) (fun v_14 h_14 n_14 q_14 => ?_)
      obtain ⟨rfl, rfl, hS1, hF1⟩ := q_14
      refine go_lstore_n (L' := [_, _, _, _, _]) dX9_enough_17 rfl (by decide) rfl ?_
      refine go_iconst (v := nI 1) dX9_enough_18 (by decide) ?_
      refine go_istore (L' := [_, _, _, _, _]) dX9_enough_19 (by decide) rfl ?_
      refine go_Q ?_ (me_loop hw hk (h0 := h_14) 6 1 h_14 (by omega) (by omega) hS1 Fr.rf)
      rintro v h' N' ⟨a, b, c, f⟩
      exact ⟨a, b, c, hF1.trans f⟩
    · exact absurd (bI_eq.mp (Decidable.not_not.mp c_7)) (by rw [hr]; decide)
theorem tint_m {a r : Nat} (hr : 2 ≤ r) (hr6 : r ≤ 6) (ha : a < r) : nI 255 - nI 255 * nI a / (nI r - nI 1) = nI (tint a r) := by
  have hd : 255 * a / (r - 1) ≤ 255 := by
    have h1 : 255 * a ≤ 255 * (r - 1) := Nat.mul_le_mul_left _ (by omega)
    have h2 := Nat.div_le_div_right (c := r - 1) h1
    rw [Nat.mul_div_cancel _ (by omega)] at h2
    exact h2
  rw [nI_sub (by omega), pk_mul, pk_div (by omega) (by omega) (by omega), nI_sub hd]
  unfold tint
  rw [if_neg (by omega)]
set_option maxRecDepth 100000 in
theorem m_sorted {h : gH} {s : SD} (hw : SW s) (hS : MS h s) (i x : Int32) : Run 8 yX9_sorted cX9_sorted 3 (some .int) [.ref 147, .int i, .int x] h 163 0 0 (fun v h' N' => v = some (.int (sortedS s.1 i x)) ∧ N' = 163 ∧ MS h' s ∧ Fr 147 163 h h') := by
  obtain ⟨⟨r0, r1, r2, r3, r4, sn, rn, h7⟩, -⟩ := id hS
  have h24 := so_24 hw.1.2.1
  have es := sub1_toInt (r := (so s.1.1).1) (by omega)
  have ez : (nI 0).toInt = 0 := by decide
  by_cases hb : (0 ≤ i.toInt ∧ i.toInt < ((so s.1.1).1 : Int)) ∧ rI 0 2 x = true
  · obtain ⟨k, rfl, hk, hk2⟩ := eq_nI hb.1.1
    obtain ⟨w, -, hw2, rfl⟩ := rI_t hb.2
    have hkn : k < (so s.1.1).1 := by omega
    have hA := so_le hw.1.1 k hkn
    have e : sortedS s.1 (nI k) (nI w) = if w = 0 then nI ((so s.1.1).2.1 k) else if w = 1 then nI ((so s.1.1).2.2 k) else nI (shS s.1 ((so s.1.1).2.1 k)) := by unfold sortedS; rw [if_pos hb, toN_nI (by omega), toN_nI (by omega)]
    rw [e]
    refine Run.of (ini := false) (L := [_, _, _]) mX9_sorted (fun h => by cases h) rfl (Nat.le_of_ble_eq_true rfl) rfl ?_
    refine go_aload_n dX9_sorted_0 rfl ?_
    refine go_iv dX9_sorted_1 mX9_partsNow iX9_174 (partsS hw.1 hS 3) rfl rfl (by omega) h7 rfl (Nat.le_of_ble_eq_true rfl) (Nat.zero_le _) (Nat.zero_le _) (fun v_1 h_1 n_1 q_1 => ?_)
    obtain ⟨rfl, rfl, hQ, hF1⟩ := q_1
    have hF1 := frP hF1
    obtain ⟨⟨q0, q1, q2, q3, q4, k7⟩, ⟨FS, FW, f1, f2, f3⟩, -⟩ := id hQ
    refine go_iload_n dX9_sorted_4 rfl ?_
    refine go_iconst (v := nI 0) dX9_sorted_5 (by decide) ?_
    refine go_aload_n dX9_sorted_6 rfl ?_
    refine go_get dX9_sorted_7 fX9_142 (by omega) k7 rfl ?_
    refine go_iconst (v := nI 1) dX9_sorted_10 (by decide) ?_
    refine go_isub dX9_sorted_11 ?_
    refine go_is dX9_sorted_12 mX9_in iX9_63 (run_inI 7 (nI k) (nI 0) (nI (so s.1.1).1 - nI 1)) rfl rfl (Nat.le_of_ble_eq_true rfl) (Nat.zero_le _) (Nat.zero_le _) (fun v_12 h_12 n_12 q_12 => ?_)
    obtain ⟨rfl, rfl, rfl⟩ := q_12
    refine go_if_eq (tgt := 27) dX9_sorted_15 (by decide) (fun c_15 => ?_) (fun c_15 => ?_)
    · exact absurd (bI_eq.mp c_15) (by rw [decide_eq_true (by rw [es, ez]; omega)]; decide)
    · skip
      refine go_iload_n dX9_sorted_18 rfl ?_
      refine go_iconst (v := nI 0) dX9_sorted_19 (by decide) ?_
      refine go_iconst (v := nI 2) dX9_sorted_20 (by decide) ?_
      refine go_is dX9_sorted_21 mX9_in iX9_63 (run_in 7 (lo := 0) (hi := 2) (nI w) (by decide) (by decide)) rfl rfl (Nat.le_of_ble_eq_true rfl) (Nat.zero_le _) (Nat.zero_le _) (fun v_21 h_21 n_21 q_21 => ?_)
      obtain ⟨rfl, rfl, rfl⟩ := q_21
      refine go_if_ne (tgt := 29) dX9_sorted_24 (by decide) (fun c_24 => ?_) (fun c_24 => ?_)
      · skip
        refine go_iload_n dX9_sorted_29 rfl ?_
        refine go_if_ne (tgt := 42) dX9_sorted_30 (by decide) (fun c_30 => ?_) (fun c_30 => ?_)
        · skip
          have w0 : ¬ w = 0 := fun z => c_30 (by rw [z]; rfl)
          refine go_iload_n dX9_sorted_42 rfl ?_
          refine go_iconst (v := nI 1) dX9_sorted_43 (by decide) ?_
          refine go_icmp_ne (tgt := 56) dX9_sorted_44 (by decide) (fun c_44 => ?_) (fun c_44 => ?_)
          · skip
            have w1 : ¬ w = 1 := fun z => c_44 (by rw [z])
            refine go_aload_n dX9_sorted_56 rfl ?_
            refine go_aload_n dX9_sorted_57 rfl ?_
            refine go_get dX9_sorted_58 fX9_38 (by omega) k7 rfl ?_
            refine go_iload_n dX9_sorted_61 rfl ?_
            refine go_iald dX9_sorted_62 (by omega) f1 rfl (by omega) (by omega) ?_
            refine go_top (y := .int (nI ((so s.1.1).2.1 k))) (by rw [(f3 k hkn).1]) ?_
            refine go_iv dX9_sorted_63 mX9_runOf iX9_180 (run_mRunOf 7 hw.1 (by omega) (now_6 hw.1) (fun j hj => now_lt hj) hQ) rfl rfl (by omega) k7 rfl (Nat.le_of_ble_eq_true rfl) (Nat.zero_le _) (Nat.zero_le _) (fun v_63 h_63 n_63 q_63 => ?_)
            obtain ⟨rfl, rfl, rfl⟩ := q_63
            refine go_iret dX9_sorted_66 rfl ?_
            first | (rw [if_pos w0, (f3 k hkn).1]; exact ⟨rfl, rfl, hQ.2.2.2, hF1⟩) | (rw [if_neg w0, if_pos w1, (f3 k hkn).2]; exact ⟨rfl, rfl, hQ.2.2.2, hF1⟩) | (rw [if_neg w0, if_neg w1]; exact ⟨rfl, rfl, hQ.2.2.2, hF1⟩)
          · skip
            have w1 : w = 1 := (nI_eq (b := 1) (by omega) (by omega)).mp (Decidable.not_not.mp c_44)
            refine go_aload_n dX9_sorted_47 rfl ?_
            refine go_get dX9_sorted_48 fX9_41 (by omega) k7 rfl ?_
            refine go_iload_n dX9_sorted_51 rfl ?_
            refine go_iald dX9_sorted_52 (by omega) f2 rfl (by omega) (by omega) ?_
            refine go_goto (tgt := 66) dX9_sorted_53 (by decide) ?_
            refine go_iret dX9_sorted_66 rfl ?_
            first | (rw [if_pos w0, (f3 k hkn).1]; exact ⟨rfl, rfl, hQ.2.2.2, hF1⟩) | (rw [if_neg w0, if_pos w1, (f3 k hkn).2]; exact ⟨rfl, rfl, hQ.2.2.2, hF1⟩) | (rw [if_neg w0, if_neg w1]; exact ⟨rfl, rfl, hQ.2.2.2, hF1⟩)
        · skip
          have w0 : w = 0 := (nI_eq (b := 0) (by omega) (by omega)).mp (Decidable.not_not.mp c_30)
          refine go_aload_n dX9_sorted_33 rfl ?_
          refine go_get dX9_sorted_34 fX9_38 (by omega) k7 rfl ?_
          refine go_iload_n dX9_sorted_37 rfl ?_
          refine go_iald dX9_sorted_38 (by omega) f1 rfl (by omega) (by omega) ?_
          refine go_goto (tgt := 66) dX9_sorted_39 (by decide) ?_
          refine go_iret dX9_sorted_66 rfl ?_
          first | (rw [if_pos w0, (f3 k hkn).1]; exact ⟨rfl, rfl, hQ.2.2.2, hF1⟩) | (rw [if_neg w0, if_pos w1, (f3 k hkn).2]; exact ⟨rfl, rfl, hQ.2.2.2, hF1⟩) | (rw [if_neg w0, if_neg w1]; exact ⟨rfl, rfl, hQ.2.2.2, hF1⟩)
      · exact absurd (bI_eq.mp (Decidable.not_not.mp c_24)) (by rw [hb.2]; decide)
  · have e : sortedS s.1 i x = -1 := by unfold sortedS; rw [if_neg hb]
    rw [e]
    refine Run.of (ini := false) (L := [_, _, _]) mX9_sorted (fun h => by cases h) rfl (Nat.le_of_ble_eq_true rfl) rfl ?_
    refine go_aload_n dX9_sorted_0 rfl ?_
    refine go_iv dX9_sorted_1 mX9_partsNow iX9_174 (partsS hw.1 hS 3) rfl rfl (by omega) h7 rfl (Nat.le_of_ble_eq_true rfl) (Nat.zero_le _) (Nat.zero_le _) (fun v_1 h_1 n_1 q_1 => ?_)
    obtain ⟨rfl, rfl, hQ, hF1⟩ := q_1
    have hF1 := frP hF1
    obtain ⟨⟨q0, q1, q2, q3, q4, k7⟩, ⟨FS, FW, f1, f2, f3⟩, -⟩ := id hQ
    refine go_iload_n dX9_sorted_4 rfl ?_
    refine go_iconst (v := nI 0) dX9_sorted_5 (by decide) ?_
    refine go_aload_n dX9_sorted_6 rfl ?_
    refine go_get dX9_sorted_7 fX9_142 (by omega) k7 rfl ?_
    refine go_iconst (v := nI 1) dX9_sorted_10 (by decide) ?_
    refine go_isub dX9_sorted_11 ?_
    refine go_is dX9_sorted_12 mX9_in iX9_63 (run_inI 7 i (nI 0) (nI (so s.1.1).1 - nI 1)) rfl rfl (Nat.le_of_ble_eq_true rfl) (Nat.zero_le _) (Nat.zero_le _) (fun v_12 h_12 n_12 q_12 => ?_)
    obtain ⟨rfl, rfl, rfl⟩ := q_12
    refine go_if_eq (tgt := 27) dX9_sorted_15 (by decide) (fun c_15 => ?_) (fun c_15 => ?_)
    · skip
      refine go_iconst (v := (-1)) dX9_sorted_27 (by decide) ?_
      refine go_iret dX9_sorted_28 rfl ?_
      exact ⟨rfl, rfl, hQ.2.2.2, hF1⟩
    · skip
      have c1 := of_decide_eq_true (bI_ne.mp c_15)
      rw [es, ez] at c1
      refine go_iload_n dX9_sorted_18 rfl ?_
      refine go_iconst (v := nI 0) dX9_sorted_19 (by decide) ?_
      refine go_iconst (v := nI 2) dX9_sorted_20 (by decide) ?_
      refine go_is dX9_sorted_21 mX9_in iX9_63 (run_in 7 (lo := 0) (hi := 2) x (by decide) (by decide)) rfl rfl (Nat.le_of_ble_eq_true rfl) (Nat.zero_le _) (Nat.zero_le _) (fun v_21 h_21 n_21 q_21 => ?_)
      obtain ⟨rfl, rfl, rfl⟩ := q_21
      refine go_if_ne (tgt := 29) dX9_sorted_24 (by decide) (fun c_24 => ?_) (fun c_24 => ?_)
      · exact absurd ⟨⟨by omega, by omega⟩, bI_ne.mp c_24⟩ hb
      · skip
        refine go_iconst (v := (-1)) dX9_sorted_27 (by decide) ?_
        refine go_iret dX9_sorted_28 rfl ?_
        exact ⟨rfl, rfl, hQ.2.2.2, hF1⟩
