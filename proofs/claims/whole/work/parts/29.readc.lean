/-! ===== spread, gain, enough: the class's side ===== -/
theorem told_run (d : Nat) {N p : Nat} {h : gH} {x : Int64} (hp : p < 2 ^ 63) (hx : x = lN p) (u : Bool) : Run (d + 1) yX8_inLeastTerms cX8_inLeastTerms 5 (some .long) [.long x, .int (bI u)] h N 0 0 (fun v h' N' => v = some (.long (toldS p u)) ∧ h' = h ∧ N' = N) := by
  subst hx
  exact run_inLeastTerms d hp u
set_option maxRecDepth 100000 in
theorem c_spread {h : gH} {s : SD} (hw : SW s) (hS : CS h s) (x : Int32) : Run 8 yX8_spread cX8_spread 2 (some .long) [.ref 0, .int x] h 163 0 0 (fun v h' N' => v = some (.long (spreadS s.1 x)) ∧ N' = 163 ∧ CS h' s ∧ Fr 0 147 h h') := by
  obtain ⟨l, cu, le, ta, k0⟩ := hS.2.2.2.2.2.h49
  obtain ⟨e1, e2⟩ := par_sp (fee := feeN s.1) (k := s.1.2.2.2.1) hw.1
  have e1 : (nowD s.1).2.2 = lN (spN (nowD s.1)) := e1
  have e2 : spN (nowD s.1) ≤ 32061154660081280 := e2
  cases hr : rI 0 1 x with
  | false =>
    have e : spreadS s.1 x = -1 := by unfold spreadS; rw [hr]; rfl
    rw [e]
    refine Run.of (ini := false) (L := [_, _]) mX8_spread (fun h => by cases h) rfl (Nat.le_of_ble_eq_true rfl) rfl ?_
    refine go_iload_n dX8_spread_0 rfl ?_
    refine go_if_lt (tgt := 9) dX8_spread_1 (by decide) (fun c_1 => ?_) (fun c_1 => ?_)
    · skip
      refine go_ldc2 dX8_spread_9 kX8_152 ?_
      refine go_lret dX8_spread_12 rfl ?_
      exact ⟨rfl, rfl, hS, Fr.rf⟩
    · skip
      rw [lt0] at c_1
      refine go_iload_n dX8_spread_4 rfl ?_
      refine go_iconst (v := nI 1) dX8_spread_5 (by decide) ?_
      refine go_icmp_le (tgt := 13) dX8_spread_6 (by decide) (fun c_6 => ?_) (fun c_6 => ?_)
      · exact absurd (rI_f hr) (by rw [leN (by decide)] at c_6; omega)
      · skip
        refine go_ldc2 dX8_spread_9 kX8_152 ?_
        refine go_lret dX8_spread_12 rfl ?_
        exact ⟨rfl, rfl, hS, Fr.rf⟩
  | true =>
    obtain ⟨k, -, hk, rfl⟩ := rI_t hr
    have e : spreadS s.1 (nI k) = toldS (spN (nowD s.1)) (k == 0) := by unfold spreadS; rw [hr, toN_nI (by omega)]; rfl
    rw [e]
    refine Run.of (ini := false) (L := [_, _]) mX8_spread (fun h => by cases h) rfl (Nat.le_of_ble_eq_true rfl) rfl ?_
    refine go_iload_n dX8_spread_0 rfl ?_
    refine go_if_lt (tgt := 9) dX8_spread_1 (by decide) (fun c_1 => ?_) (fun c_1 => ?_)
    · exact absurd c_1 (nI_pos (by omega))
    · skip
      refine go_iload_n dX8_spread_4 rfl ?_
      refine go_iconst (v := nI 1) dX8_spread_5 (by decide) ?_
      refine go_icmp_le (tgt := 13) dX8_spread_6 (by decide) (fun c_6 => ?_) (fun c_6 => ?_)
      · skip
        refine go_aload_n dX8_spread_13 rfl ?_
        refine go_get dX8_spread_14 fX8_43 (by omega) hS.1 rfl ?_
        refine go_iv dX8_spread_17 mX6_ofNow iX8_90 (ofNowS hw hS) rfl rfl (by omega) k0 rfl (Nat.le_of_ble_eq_true rfl) (Nat.zero_le _) (Nat.zero_le _) (fun v_17 h_17 n_17 q_17 => ?_)
        obtain ⟨rfl, rfl, hS1, hP1, hF1⟩ := q_17
        obtain ⟨FP, p0, -⟩ := id hP1
        refine go_get dX8_spread_20 fX8_154 (by omega) p0 rfl ?_
        refine go_iload_n dX8_spread_23 rfl ?_
        refine go_if_ne (tgt := 31) dX8_spread_24 (by decide) (fun c_24 => ?_) (fun c_24 => ?_)
        · skip
          have w0 : k ≠ 0 := fun z => c_24 (by rw [z]; rfl)
          refine go_iconst (v := nI 0) dX8_spread_31 (by decide) ?_
          refine go_top (y := .int (bI (k == 0))) (by first | (rw [w0]; rfl) | (rw [show (k == 0) = false by simpa using w0]; rfl)) ?_
          refine go_is (As := [.long (nowD s.1).2.2, .int (bI (k == 0))]) dX8_spread_32 mX8_inLeastTerms iX8_158 (told_run 6 (by omega) e1 (k == 0)) rfl rfl (Nat.le_of_ble_eq_true rfl) (Nat.zero_le _) (Nat.zero_le _) (fun v_32 h_32 n_32 q_32 => ?_)
          obtain ⟨rfl, rfl, rfl⟩ := q_32
          refine go_lret dX8_spread_35 rfl ?_
          exact ⟨rfl, rfl, hS1, hF1.wide (by omega) (by omega)⟩
        · skip
          have w0 : k = 0 := (nI_eq (b := 0) (by omega) (by omega)).mp (Decidable.not_not.mp c_24)
          refine go_iconst (v := nI 1) dX8_spread_27 (by decide) ?_
          refine go_goto (tgt := 32) dX8_spread_28 (by decide) ?_
          refine go_top (y := .int (bI (k == 0))) (by first | (rw [w0]; rfl) | (rw [show (k == 0) = false by simpa using w0]; rfl)) ?_
          refine go_is (As := [.long (nowD s.1).2.2, .int (bI (k == 0))]) dX8_spread_32 mX8_inLeastTerms iX8_158 (told_run 6 (by omega) e1 (k == 0)) rfl rfl (Nat.le_of_ble_eq_true rfl) (Nat.zero_le _) (Nat.zero_le _) (fun v_32 h_32 n_32 q_32 => ?_)
          obtain ⟨rfl, rfl, rfl⟩ := q_32
          refine go_lret dX8_spread_35 rfl ?_
          exact ⟨rfl, rfl, hS1, hF1.wide (by omega) (by omega)⟩
      · exact absurd (nI_le (by omega) (by decide)) c_6
set_option maxRecDepth 100000 in
theorem c_gain {h : gH} {s : SD} (hw : SW s) (hS : CS h s) (x y : Int32) : Run 8 yX8_gain cX8_gain 7 (some .long) [.ref 0, .int x, .int y] h 163 0 0 (fun v h' N' => v = some (.long (gainS s.1 x y)) ∧ N' = 163 ∧ CS h' s ∧ Fr 0 147 h h') := by
  obtain ⟨l, cu, le, ta, k0⟩ := hS.2.2.2.2.2.h49
  by_cases hb : (rI 1 6 x && rI 0 3 y) = true ∧ (toN y < 2 ∨ 2 ≤ toN x)
  · have hb1 := hb.1
    rw [Bool.and_eq_true] at hb1
    obtain ⟨k, hk1, hk6, rfl⟩ := rI_t hb1.1
    obtain ⟨w, -, hw3, rfl⟩ := rI_t hb1.2
    have hb2 := hb.2
    rw [toN_nI (by omega), toN_nI (by omega)] at hb2
    obtain ⟨e1, e2⟩ := par_sp (fee := fun _ => 0) (k := k) hw.1
    have e1 : (leastD s.1 k).2.2 = lN (spN (leastD s.1 k)) := e1
    have e2 : spN (leastD s.1 k) ≤ 32061154660081280 := e2
    have e : gainS s.1 (nI k) (nI w) = (if w < 2 then toldS (spN (leastD s.1 k)) (w == 0) else toldS (spN (leastD s.1 (k - 1)) - spN (leastD s.1 k)) (w == 2)) := by
      unfold gainS
      rw [if_pos hb, toN_nI (by omega), toN_nI (by omega)]
    rw [e]
    by_cases h2 : w < 2
    · rw [if_pos h2]
      refine Run.of (ini := false) (L := [_, _, _, _, _, _, _]) mX8_gain (fun h => by cases h) rfl (Nat.le_of_ble_eq_true rfl) rfl ?_
      refine go_iload_n dX8_gain_0 rfl ?_
      refine go_is dX8_gain_1 mX8_isClasses iX8_81 (run_isClasses 7 (nI k)) rfl rfl (Nat.le_of_ble_eq_true rfl) (Nat.zero_le _) (Nat.zero_le _) (fun v_1 h_1 n_1 q_1 => ?_)
      obtain ⟨rfl, rfl, rfl⟩ := q_1
      refine go_if_eq (tgt := 26) dX8_gain_4 (by decide) (fun c_4 => ?_) (fun c_4 => ?_)
      · exact absurd (bI_eq.mp c_4) (by rw [hb1.1]; decide)
      · skip
        refine go_iload_n dX8_gain_7 rfl ?_
        refine go_if_lt (tgt := 26) dX8_gain_8 (by decide) (fun c_8 => ?_) (fun c_8 => ?_)
        · exact absurd c_8 (nI_pos (by omega))
        · skip
          refine go_iload_n dX8_gain_11 rfl ?_
          refine go_iconst (v := nI 3) dX8_gain_12 (by decide) ?_
          refine go_icmp_gt (tgt := 26) dX8_gain_13 (by decide) (fun c_13 => ?_) (fun c_13 => ?_)
          · exact absurd ((nI_ltI (by omega) (by omega)).mp c_13) (by omega)
          · skip
            refine go_iload_n dX8_gain_16 rfl ?_
            refine go_iconst (v := nI 1) dX8_gain_17 (by decide) ?_
            refine go_icmp_le (tgt := 30) dX8_gain_18 (by decide) (fun c_18 => ?_) (fun c_18 => ?_)
            · skip
              refine go_aload_n dX8_gain_30 rfl ?_
              refine go_get dX8_gain_31 fX8_43 (by omega) hS.1 rfl ?_
              refine go_iload_n dX8_gain_34 rfl ?_
              refine go_iv dX8_gain_35 mX6_leastIn iX8_162 (leastS' hk1 hk6 hw hS) rfl rfl (by omega) k0 rfl (Nat.le_of_ble_eq_true rfl) (Nat.zero_le _) (Nat.zero_le _) (fun v_35 h_35 n_35 q_35 => ?_)
              obtain ⟨rfl, rfl, hS1, hP1, hF1⟩ := q_35
              obtain ⟨FP, p0, -⟩ := id hP1
              refine go_get dX8_gain_38 fX8_154 (by omega) p0 rfl ?_
              refine go_lstore_n (L' := [_, _, _, _, _, _, _]) dX8_gain_41 rfl (by decide) rfl ?_
              refine go_iload_n dX8_gain_42 rfl ?_
              refine go_iconst (v := nI 2) dX8_gain_43 (by decide) ?_
              refine go_icmp_ge (tgt := 51) dX8_gain_44 (by decide) (fun c_44 => ?_) (fun c_44 => ?_)
              · exact absurd ((nI_leI (by omega) (by omega)).mp c_44) (by omega)
              · skip
                refine go_lload_n dX8_gain_47 rfl ?_
                refine go_goto (tgt := 66) dX8_gain_48 (by decide) ?_
                refine go_lstore (L' := [_, _, _, _, _, _, _]) dX8_gain_66 (by decide) rfl ?_
                refine go_lload dX8_gain_68 rfl ?_
                refine go_iload_n dX8_gain_70 rfl ?_
                refine go_iconst (v := nI 2) dX8_gain_71 (by decide) ?_
                refine go_irem dX8_gain_72 (by decide) ?_
                refine go_top (y := .int (nI w)) (by rcases (show w = 0 ∨ w = 1 by omega) with q | q <;> rw [q] <;> rfl) ?_
                refine go_if_ne (tgt := 80) dX8_gain_73 (by decide) (fun c_73 => ?_) (fun c_73 => ?_)
                · skip
                  have w0 : w ≠ 0 := fun z => c_73 (by rw [z]; rfl)
                  refine go_iconst (v := nI 0) dX8_gain_80 (by decide) ?_
                  refine go_top (y := .int (bI (w == 0))) (by first | (rw [w0]; rfl) | (rw [show (w == 0) = false by simpa using w0]; rfl)) ?_
                  refine go_is (As := [.long (leastD s.1 k).2.2, .int (bI (w == 0))]) dX8_gain_81 mX8_inLeastTerms iX8_158 (told_run 6 (by omega) e1 (w == 0)) rfl rfl (Nat.le_of_ble_eq_true rfl) (Nat.zero_le _) (Nat.zero_le _) (fun v_81 h_81 n_81 q_81 => ?_)
                  obtain ⟨rfl, rfl, rfl⟩ := q_81
                  refine go_lret dX8_gain_84 rfl ?_
                  exact ⟨rfl, rfl, hS1, hF1.wide (by omega) (by omega)⟩
                · skip
                  have w0 : w = 0 := (nI_eq (b := 0) (by omega) (by omega)).mp (Decidable.not_not.mp c_73)
                  refine go_iconst (v := nI 1) dX8_gain_76 (by decide) ?_
                  refine go_goto (tgt := 81) dX8_gain_77 (by decide) ?_
                  refine go_top (y := .int (bI (w == 0))) (by first | (rw [w0]; rfl) | (rw [show (w == 0) = false by simpa using w0]; rfl)) ?_
                  refine go_is (As := [.long (leastD s.1 k).2.2, .int (bI (w == 0))]) dX8_gain_81 mX8_inLeastTerms iX8_158 (told_run 6 (by omega) e1 (w == 0)) rfl rfl (Nat.le_of_ble_eq_true rfl) (Nat.zero_le _) (Nat.zero_le _) (fun v_81 h_81 n_81 q_81 => ?_)
                  obtain ⟨rfl, rfl, rfl⟩ := q_81
                  refine go_lret dX8_gain_84 rfl ?_
                  exact ⟨rfl, rfl, hS1, hF1.wide (by omega) (by omega)⟩
            · exact absurd (nI_le (by omega) (by omega)) c_18
    · rw [if_neg h2]
      obtain ⟨f1, f2⟩ := par_sp (fee := fun _ => 0) (k := k - 1) hw.1
      have f1 : (leastD s.1 (k - 1)).2.2 = lN (spN (leastD s.1 (k - 1))) := f1
      have f2 : spN (leastD s.1 (k - 1)) ≤ 32061154660081280 := f2
      have hm := least_mono (c := s.1) (k := k - 1) hw.1 (by omega)
      rw [show k - 1 + 1 = k by omega] at hm
      have ed : (leastD s.1 (k - 1)).2.2 - (leastD s.1 k).2.2 = lN (spN (leastD s.1 (k - 1)) - spN (leastD s.1 k)) := by
        rw [e1, f1]
        apply Int64.toInt_inj.mp
        rw [toInt64_sub (by rw [toInt64_lN (by omega), toInt64_lN (by omega)]; omega) (by rw [toInt64_lN (by omega), toInt64_lN (by omega)]; omega), toInt64_lN (by omega), toInt64_lN (by omega), toInt64_lN (by omega)]
        omega
      refine Run.of (ini := false) (L := [_, _, _, _, _, _, _]) mX8_gain (fun h => by cases h) rfl (Nat.le_of_ble_eq_true rfl) rfl ?_
      refine go_iload_n dX8_gain_0 rfl ?_
      refine go_is dX8_gain_1 mX8_isClasses iX8_81 (run_isClasses 7 (nI k)) rfl rfl (Nat.le_of_ble_eq_true rfl) (Nat.zero_le _) (Nat.zero_le _) (fun v_1 h_1 n_1 q_1 => ?_)
      obtain ⟨rfl, rfl, rfl⟩ := q_1
      refine go_if_eq (tgt := 26) dX8_gain_4 (by decide) (fun c_4 => ?_) (fun c_4 => ?_)
      · exact absurd (bI_eq.mp c_4) (by rw [hb1.1]; decide)
      · skip
        refine go_iload_n dX8_gain_7 rfl ?_
        refine go_if_lt (tgt := 26) dX8_gain_8 (by decide) (fun c_8 => ?_) (fun c_8 => ?_)
        · exact absurd c_8 (nI_pos (by omega))
        · skip
          refine go_iload_n dX8_gain_11 rfl ?_
          refine go_iconst (v := nI 3) dX8_gain_12 (by decide) ?_
          refine go_icmp_gt (tgt := 26) dX8_gain_13 (by decide) (fun c_13 => ?_) (fun c_13 => ?_)
          · exact absurd ((nI_ltI (by omega) (by omega)).mp c_13) (by omega)
          · skip
            refine go_iload_n dX8_gain_16 rfl ?_
            refine go_iconst (v := nI 1) dX8_gain_17 (by decide) ?_
            refine go_icmp_le (tgt := 30) dX8_gain_18 (by decide) (fun c_18 => ?_) (fun c_18 => ?_)
            · exact absurd ((nI_leI (by omega) (by omega)).mp c_18) (by omega)
            · skip
              refine go_iload_n dX8_gain_21 rfl ?_
              refine go_iconst (v := nI 2) dX8_gain_22 (by decide) ?_
              refine go_icmp_ge (tgt := 30) dX8_gain_23 (by decide) (fun c_23 => ?_) (fun c_23 => ?_)
              · skip
                refine go_aload_n dX8_gain_30 rfl ?_
                refine go_get dX8_gain_31 fX8_43 (by omega) hS.1 rfl ?_
                refine go_iload_n dX8_gain_34 rfl ?_
                refine go_iv dX8_gain_35 mX6_leastIn iX8_162 (leastS' hk1 hk6 hw hS) rfl rfl (by omega) k0 rfl (Nat.le_of_ble_eq_true rfl) (Nat.zero_le _) (Nat.zero_le _) (fun v_35 h_35 n_35 q_35 => ?_)
                obtain ⟨rfl, rfl, hS1, hP1, hF1⟩ := q_35
                obtain ⟨FP, p0, -⟩ := id hP1
                obtain ⟨l1, cu1, le1, ta1, k1⟩ := hS1.2.2.2.2.2.h49
                refine go_get dX8_gain_38 fX8_154 (by omega) p0 rfl ?_
                refine go_lstore_n (L' := [_, _, _, _, _, _, _]) dX8_gain_41 rfl (by decide) rfl ?_
                refine go_iload_n dX8_gain_42 rfl ?_
                refine go_iconst (v := nI 2) dX8_gain_43 (by decide) ?_
                refine go_icmp_ge (tgt := 51) dX8_gain_44 (by decide) (fun c_44 => ?_) (fun c_44 => ?_)
                · skip
                  refine go_aload_n dX8_gain_51 rfl ?_
                  refine go_get dX8_gain_52 fX8_43 (by omega) hS1.1 rfl ?_
                  refine go_iload_n dX8_gain_55 rfl ?_
                  refine go_iconst (v := nI 1) dX8_gain_56 (by decide) ?_
                  refine go_isub dX8_gain_57 ?_
                  refine go_top (y := .int (nI (k - 1))) (by rcases (show k = 1 ∨ k = 2 ∨ k = 3 ∨ k = 4 ∨ k = 5 ∨ k = 6 by omega) with q | q | q | q | q | q <;> rw [q] <;> rfl) ?_
                  refine go_iv dX8_gain_58 mX6_leastIn iX8_162 (leastS' (k := k - 1) (by omega) (by omega) hw hS1) rfl rfl (by omega) k1 rfl (Nat.le_of_ble_eq_true rfl) (Nat.zero_le _) (Nat.zero_le _) (fun v_58 h_58 n_58 q_58 => ?_)
                  obtain ⟨rfl, rfl, hS2, hP2, hF2⟩ := q_58
                  obtain ⟨FP2, p2, -⟩ := id hP2
                  refine go_get dX8_gain_61 fX8_154 (by omega) p2 rfl ?_
                  refine go_lload_n dX8_gain_64 rfl ?_
                  refine go_lsub dX8_gain_65 ?_
                  refine go_lstore (L' := [_, _, _, _, _, _, _]) dX8_gain_66 (by decide) rfl ?_
                  refine go_lload dX8_gain_68 rfl ?_
                  refine go_iload_n dX8_gain_70 rfl ?_
                  refine go_iconst (v := nI 2) dX8_gain_71 (by decide) ?_
                  refine go_irem dX8_gain_72 (by decide) ?_
                  refine go_top (y := .int (nI (w - 2))) (by rcases (show w = 2 ∨ w = 3 by omega) with q | q <;> rw [q] <;> rfl) ?_
                  refine go_if_ne (tgt := 80) dX8_gain_73 (by decide) (fun c_73 => ?_) (fun c_73 => ?_)
                  · skip
                    have w0 : w ≠ 2 := fun z => c_73 (by rw [z]; rfl)
                    refine go_iconst (v := nI 0) dX8_gain_80 (by decide) ?_
                    refine go_top (y := .int (bI (w == 2))) (by first | (rw [w0]; rfl) | (rw [show (w == 2) = false by simpa using w0]; rfl)) ?_
                    refine go_is (As := [.long ((leastD s.1 (k - 1)).2.2 - (leastD s.1 k).2.2), .int (bI (w == 2))]) dX8_gain_81 mX8_inLeastTerms iX8_158 (told_run 6 (by omega) ed (w == 2)) rfl rfl (Nat.le_of_ble_eq_true rfl) (Nat.zero_le _) (Nat.zero_le _) (fun v_81 h_81 n_81 q_81 => ?_)
                    obtain ⟨rfl, rfl, rfl⟩ := q_81
                    refine go_lret dX8_gain_84 rfl ?_
                    exact ⟨rfl, rfl, hS2, (hF1.trans hF2).wide (by omega) (by omega)⟩
                  · skip
                    have w0 : w = 2 := by have := (nI_eq (b := 0) (by omega) (by omega)).mp (Decidable.not_not.mp c_73); omega
                    refine go_iconst (v := nI 1) dX8_gain_76 (by decide) ?_
                    refine go_goto (tgt := 81) dX8_gain_77 (by decide) ?_
                    refine go_top (y := .int (bI (w == 2))) (by first | (rw [w0]; rfl) | (rw [show (w == 2) = false by simpa using w0]; rfl)) ?_
                    refine go_is (As := [.long ((leastD s.1 (k - 1)).2.2 - (leastD s.1 k).2.2), .int (bI (w == 2))]) dX8_gain_81 mX8_inLeastTerms iX8_158 (told_run 6 (by omega) ed (w == 2)) rfl rfl (Nat.le_of_ble_eq_true rfl) (Nat.zero_le _) (Nat.zero_le _) (fun v_81 h_81 n_81 q_81 => ?_)
                    obtain ⟨rfl, rfl, rfl⟩ := q_81
                    refine go_lret dX8_gain_84 rfl ?_
                    exact ⟨rfl, rfl, hS2, (hF1.trans hF2).wide (by omega) (by omega)⟩
                · exact absurd (nI_le (by omega) (by omega)) c_44
              · exact absurd (nI_le (by omega) (by omega)) c_23
  · have e : gainS s.1 x y = -1 := by unfold gainS; rw [if_neg hb]
    rw [e]
    refine Run.of (ini := false) (L := [_, _, _, _, _, _, _]) mX8_gain (fun h => by cases h) rfl (Nat.le_of_ble_eq_true rfl) rfl ?_
    refine go_iload_n dX8_gain_0 rfl ?_
    refine go_is dX8_gain_1 mX8_isClasses iX8_81 (run_isClasses 7 x) rfl rfl (Nat.le_of_ble_eq_true rfl) (Nat.zero_le _) (Nat.zero_le _) (fun v_1 h_1 n_1 q_1 => ?_)
    obtain ⟨rfl, rfl, rfl⟩ := q_1
    refine go_if_eq (tgt := 26) dX8_gain_4 (by decide) (fun c_4 => ?_) (fun c_4 => ?_)
    · skip
      refine go_ldc2 dX8_gain_26 kX8_152 ?_
      refine go_lret dX8_gain_29 rfl ?_
      exact ⟨rfl, rfl, hS, Fr.rf⟩
    · skip
      obtain ⟨k, hk1, hk6, rfl⟩ := rI_t (bI_ne.mp c_4)
      refine go_iload_n dX8_gain_7 rfl ?_
      refine go_if_lt (tgt := 26) dX8_gain_8 (by decide) (fun c_8 => ?_) (fun c_8 => ?_)
      · skip
        refine go_ldc2 dX8_gain_26 kX8_152 ?_
        refine go_lret dX8_gain_29 rfl ?_
        exact ⟨rfl, rfl, hS, Fr.rf⟩
      · skip
        rw [lt0] at c_8
        refine go_iload_n dX8_gain_11 rfl ?_
        refine go_iconst (v := nI 3) dX8_gain_12 (by decide) ?_
        refine go_icmp_gt (tgt := 26) dX8_gain_13 (by decide) (fun c_13 => ?_) (fun c_13 => ?_)
        · skip
          refine go_ldc2 dX8_gain_26 kX8_152 ?_
          refine go_lret dX8_gain_29 rfl ?_
          exact ⟨rfl, rfl, hS, Fr.rf⟩
        · skip
          rw [gtN (by decide)] at c_13
          obtain ⟨w, rfl, hw1, hw2⟩ := eq_nI (x := y) (by omega)
          have hy : rI 0 3 (nI w) = true := rI_yes (by omega) (by omega) (by omega)
          rw [bI_ne.mp c_4, hy, toN_nI (by omega), toN_nI (by omega)] at hb
          refine go_iload_n dX8_gain_16 rfl ?_
          refine go_iconst (v := nI 1) dX8_gain_17 (by decide) ?_
          refine go_icmp_le (tgt := 30) dX8_gain_18 (by decide) (fun c_18 => ?_) (fun c_18 => ?_)
          · exact absurd ⟨rfl, Or.inl (by have := (nI_leI (by omega) (by omega)).mp c_18; omega)⟩ hb
          · skip
            refine go_iload_n dX8_gain_21 rfl ?_
            refine go_iconst (v := nI 2) dX8_gain_22 (by decide) ?_
            refine go_icmp_ge (tgt := 30) dX8_gain_23 (by decide) (fun c_23 => ?_) (fun c_23 => ?_)
            · exact absurd ⟨rfl, Or.inr ((nI_leI (by omega) (by omega)).mp c_23)⟩ hb
            · skip
              refine go_ldc2 dX8_gain_26 kX8_152 ?_
              refine go_lret dX8_gain_29 rfl ?_
              exact ⟨rfl, rfl, hS, Fr.rf⟩
