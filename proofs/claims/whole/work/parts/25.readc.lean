/-! ===== now, least, moved, place, sorted, last, count, closes: the class's side ===== -/
/-- NOW, with all that stands -/
theorem ofNowS {h : gH} {s : SD} (hw : SW s) (hS : CS h s) : Run 7 yX6_ofNow cX6_ofNow 2 (some (FieldType.object "ShadeClasses$Parting")) [.ref 49] h 163 0 0 (fun v h' N' => v = some (.ref 132) ∧ N' = 163 ∧ CS h' s ∧ Pg h' 132 (nowD s.1) ∧ Fr 49 147 h h') :=
  (run_ofNow 3 (by omega) hw.1 hS.2.1 hS.2.2.2.2.2).mono (fun v h' N' ⟨a, b, c', e, f⟩ => ⟨a, b, hS.pa f c', e, f⟩)
theorem rungsS {h : gH} {s : SD} (hw : SW s) (hS : CS h s) : Run 7 yX6_rungs cX6_rungs 1 (some (FieldType.object "ShadeClasses$Ladder")) [.ref 49] h 163 0 0 (fun v h' N' => v = some (.ref 50) ∧ N' = 163 ∧ CS h' s ∧ Ld h' (so s.1.1).1 (so s.1.1).2.1 (so s.1.1).2.2 ∧ Fr 49 79 h h') :=
  (run_rungsE 4 (by omega) hw.1 hS.2.1 hS.2.2.2.2.2).mono (fun v h' N' ⟨a, b, c', e, f⟩ => ⟨a, b, hS.pa (f.wide (by omega) (by omega)) c', e, f⟩)
theorem leastS' {h : gH} {s : SD} {k : Nat} (hk1 : 1 ≤ k) (hk6 : k ≤ 6) (hw : SW s) (hS : CS h s) : Run 7 yX6_leastIn cX6_leastIn 3 (some (FieldType.object "ShadeClasses$Parting")) [.ref 49, .int (nI k)] h 163 0 0 (fun v h' N' => v = some (.ref (135 + 2 * (k - 1))) ∧ N' = 163 ∧ CS h' s ∧ Pg h' (135 + 2 * (k - 1)) (leastD s.1 k) ∧ Fr 49 147 h h') :=
  (run_leastIn 3 (by omega) hk1 hk6 hw.1 hS.2.1 hS.2.2.2.2.2).mono (fun v h' N' ⟨a, b, c', e, f⟩ => ⟨a, b, hS.pa f c', e, f⟩)
theorem c_now {h : gH} {s : SD} (hw : SW s) (hS : CS h s) (i : Int32) : Run 8 yX8_now cX8_now 2 (some .int) [.ref 0, .int i] h 163 0 0 (fun v h' N' => v = some (.int (begS s.1 (nowD s.1) i)) ∧ N' = 163 ∧ CS h' s ∧ Fr 0 147 h h') := by
  obtain ⟨l, cu, le, ta, k0⟩ := hS.2.2.2.2.2.h49
  refine Run.of (ini := false) (L := [_, _]) mX8_now (fun h => by cases h) rfl (Nat.le_of_ble_eq_true rfl) rfl ?_
  refine go_aload_n dX8_now_0 rfl ?_
  refine go_aload_n dX8_now_1 rfl ?_
  refine go_get dX8_now_2 fX8_43 (by omega) hS.1 rfl ?_
  refine go_iv dX8_now_5 mX6_ofNow iX8_90 (ofNowS hw hS) rfl rfl (by omega) k0 rfl (Nat.le_of_ble_eq_true rfl) (Nat.zero_le _) (Nat.zero_le _) (fun v_5 h_5 n_5 q_5 => ?_)
  obtain ⟨rfl, rfl, hS1, hP1, hF1⟩ := q_5
  refine go_iload_n dX8_now_8 rfl ?_
  refine go_iv dX8_now_9 mX8_beginning iX8_148 (run_beginning hw hS1 (by omega) (by omega) hP1 (fun j hj => now_lt hj) i) rfl rfl (by omega) hS1.1 rfl (Nat.le_of_ble_eq_true rfl) (Nat.zero_le _) (Nat.zero_le _) (fun v_9 h_9 n_9 q_9 => ?_)
  obtain ⟨rfl, rfl, hS2, hF2⟩ := q_9
  refine go_iret dX8_now_12 rfl ?_
  exact ⟨rfl, rfl, hS2, (hF1.trans hF2).wide (by omega) (by omega)⟩
theorem c_moved {h : gH} {s : SD} (hw : SW s) (hS : CS h s) : Run 8 yX8_moved cX8_moved 1 (some .int) [.ref 0] h 163 0 0 (fun v h' N' => v = some (.int (nI (strS s.1))) ∧ N' = 163 ∧ CS h' s ∧ Fr 0 147 h h') := by
  obtain ⟨l, cu, le, ta, k0⟩ := hS.2.2.2.2.2.h49
  refine Run.of (ini := false) (L := [_]) mX8_moved (fun h => by cases h) rfl (Nat.le_of_ble_eq_true rfl) rfl ?_
  refine go_aload_n dX8_moved_0 rfl ?_
  refine go_aload_n dX8_moved_1 rfl ?_
  refine go_get dX8_moved_2 fX8_43 (by omega) hS.1 rfl ?_
  refine go_iv dX8_moved_5 mX6_ofNow iX8_90 (ofNowS hw hS) rfl rfl (by omega) k0 rfl (Nat.le_of_ble_eq_true rfl) (Nat.zero_le _) (Nat.zero_le _) (fun v_5 h_5 n_5 q_5 => ?_)
  obtain ⟨rfl, rfl, hS1, hP1, hF1⟩ := q_5
  obtain ⟨l1, cu1, le1, ta1, k1⟩ := hS1.2.2.2.2.2.h49
  refine go_aload_n dX8_moved_8 rfl ?_
  refine go_get dX8_moved_9 fX8_43 (by omega) hS1.1 rfl ?_
  refine go_iv dX8_moved_12 mX6_rungs iX8_94 (rungsS hw hS1) rfl rfl (by omega) k1 rfl (Nat.le_of_ble_eq_true rfl) (Nat.zero_le _) (Nat.zero_le _) (fun v_12 h_12 n_12 q_12 => ?_)
  obtain ⟨rfl, rfl, hS2, hL2, hF2⟩ := q_12
  refine go_iv dX8_moved_15 mX8_strangeBorders iX8_98 (run_strange 6 hw.1 hS2.1 (by omega) hS2.2.1 hL2 (hP1.fr hF2 (by omega)) (fun j hj => now_lt hj)) rfl rfl (by omega) hS2.1 rfl (Nat.le_of_ble_eq_true rfl) (Nat.zero_le _) (Nat.zero_le _) (fun v_15 h_15 n_15 q_15 => ?_)
  obtain ⟨rfl, rfl, rfl⟩ := q_15
  refine go_iret dX8_moved_18 rfl ?_
  exact ⟨rfl, rfl, hS2, (hF1.trans (hF2.wide (by omega) (by omega))).wide (by omega) (by omega)⟩
theorem c_least {h : gH} {s : SD} (hw : SW s) (hS : CS h s) (x i : Int32) : Run 8 yX8_least cX8_least 3 (some .int) [.ref 0, .int x, .int i] h 163 0 0 (fun v h' N' => v = some (.int (leastS s.1 x i)) ∧ N' = 163 ∧ CS h' s ∧ Fr 0 147 h h') := by
  obtain ⟨l, cu, le, ta, k0⟩ := hS.2.2.2.2.2.h49
  cases hr : rI 1 6 x with
  | false =>
    have e : leastS s.1 x i = -1 := by unfold leastS; rw [hr]; rfl
    rw [e]
    refine Run.of (ini := false) (L := [_, _, _]) mX8_least (fun h => by cases h) rfl (Nat.le_of_ble_eq_true rfl) rfl ?_
    refine go_iload_n dX8_least_0 rfl ?_
    refine go_is dX8_least_1 mX8_isClasses iX8_81 (run_isClasses 7 x) rfl rfl (Nat.le_of_ble_eq_true rfl) (Nat.zero_le _) (Nat.zero_le _) (fun v_1 h_1 n_1 q_1 => ?_)
    obtain ⟨rfl, rfl, rfl⟩ := q_1
    refine go_if_eq (tgt := 23) dX8_least_4 (by decide) (fun c_4 => ?_) (fun c_4 => ?_)
    · skip
      refine go_iconst (v := (-1)) dX8_least_23 (by decide) ?_
      refine go_iret dX8_least_24 rfl ?_
      exact ⟨rfl, rfl, hS, Fr.rf⟩
    · exact absurd (bI_eq.mpr hr) c_4
  | true =>
    obtain ⟨k, hk1, hk6, rfl⟩ := rI_t hr
    have e : leastS s.1 (nI k) i = begS s.1 (leastD s.1 k) i := by unfold leastS; rw [hr, toN_nI (by omega)]; rfl
    rw [e]
    refine Run.of (ini := false) (L := [_, _, _]) mX8_least (fun h => by cases h) rfl (Nat.le_of_ble_eq_true rfl) rfl ?_
    refine go_iload_n dX8_least_0 rfl ?_
    refine go_is dX8_least_1 mX8_isClasses iX8_81 (run_isClasses 7 (nI k)) rfl rfl (Nat.le_of_ble_eq_true rfl) (Nat.zero_le _) (Nat.zero_le _) (fun v_1 h_1 n_1 q_1 => ?_)
    obtain ⟨rfl, rfl, rfl⟩ := q_1
    refine go_if_eq (tgt := 23) dX8_least_4 (by decide) (fun c_4 => ?_) (fun c_4 => ?_)
    · exact absurd (bI_eq.mp c_4) (by rw [hr]; decide)
    · skip
      refine go_aload_n dX8_least_7 rfl ?_
      refine go_aload_n dX8_least_8 rfl ?_
      refine go_get dX8_least_9 fX8_43 (by omega) hS.1 rfl ?_
      refine go_iload_n dX8_least_12 rfl ?_
      refine go_iv dX8_least_13 mX6_leastIn iX8_162 (leastS' hk1 hk6 hw hS) rfl rfl (by omega) k0 rfl (Nat.le_of_ble_eq_true rfl) (Nat.zero_le _) (Nat.zero_le _) (fun v_13 h_13 n_13 q_13 => ?_)
      obtain ⟨rfl, rfl, hS1, hP1, hF1⟩ := q_13
      refine go_iload_n dX8_least_16 rfl ?_
      refine go_iv dX8_least_17 mX8_beginning iX8_148 (run_beginning hw hS1 (by omega) (by omega) hP1 (fun j hj => par_lt hj) i) rfl rfl (by omega) hS1.1 rfl (Nat.le_of_ble_eq_true rfl) (Nat.zero_le _) (Nat.zero_le _) (fun v_17 h_17 n_17 q_17 => ?_)
      obtain ⟨rfl, rfl, hS2, hF2⟩ := q_17
      refine go_goto (tgt := 24) dX8_least_20 (by decide) ?_
      refine go_iret dX8_least_24 rfl ?_
      exact ⟨rfl, rfl, hS2, (hF1.trans hF2).wide (by omega) (by omega)⟩
theorem c_last {h : gH} {s : SD} (hw : SW s) (hS : CS h s) (x y : Int32) : Run 8 yX8_last cX8_last 3 (some .int) [.ref 0, .int x, .int y] h 163 0 0 (fun v h' N' => v = some (.int (lastS s.1 x y)) ∧ N' = 163 ∧ CS h' s ∧ Fr 0 147 h h') := by
  obtain ⟨l, cu, le, ta, k0⟩ := hS.2.2.2.2.2.h49
  have h24 := so_24 hw.1.2.1
  cases hr : rI 1 6 x with
  | false =>
    have e : lastS s.1 x y = -1 := by unfold lastS; rw [hr]; simp
    rw [e]
    refine Run.of (ini := false) (L := [_, _, _]) mX8_last (fun h => by cases h) rfl (Nat.le_of_ble_eq_true rfl) rfl ?_
    refine go_iload_n dX8_last_0 rfl ?_
    refine go_is dX8_last_1 mX8_isClasses iX8_81 (run_isClasses 7 x) rfl rfl (Nat.le_of_ble_eq_true rfl) (Nat.zero_le _) (Nat.zero_le _) (fun v_1 h_1 n_1 q_1 => ?_)
    obtain ⟨rfl, rfl, rfl⟩ := q_1
    refine go_if_eq (tgt := 26) dX8_last_4 (by decide) (fun c_4 => ?_) (fun c_4 => ?_)
    · skip
      refine go_iconst (v := (-1)) dX8_last_26 (by decide) ?_
      refine go_iret dX8_last_27 rfl ?_
      exact ⟨rfl, rfl, hS, Fr.rf⟩
    · exact absurd (bI_eq.mpr hr) c_4
  | true =>
    obtain ⟨k, hk1, hk6, rfl⟩ := rI_t hr
    by_cases hy : 1 ≤ y.toInt ∧ y.toInt ≤ ((so s.1.1).1 : Int)
    · obtain ⟨j, rfl, hj, hj2⟩ := eq_nI (x := y) (by omega)
      have e : lastS s.1 (nI k) (nI j) = lastI s.1 k j := by unfold lastS; rw [if_pos ⟨hr, hy⟩, toN_nI (by omega), toN_nI (by omega)]
      rw [e]
      refine Run.of (ini := false) (L := [_, _, _]) mX8_last (fun h => by cases h) rfl (Nat.le_of_ble_eq_true rfl) rfl ?_
      refine go_iload_n dX8_last_0 rfl ?_
      refine go_is dX8_last_1 mX8_isClasses iX8_81 (run_isClasses 7 (nI k)) rfl rfl (Nat.le_of_ble_eq_true rfl) (Nat.zero_le _) (Nat.zero_le _) (fun v_1 h_1 n_1 q_1 => ?_)
      obtain ⟨rfl, rfl, rfl⟩ := q_1
      refine go_if_eq (tgt := 26) dX8_last_4 (by decide) (fun c_4 => ?_) (fun c_4 => ?_)
      · exact absurd (bI_eq.mp c_4) (by rw [hr]; decide)
      · skip
        refine go_iload_n dX8_last_7 rfl ?_
        refine go_iconst (v := nI 1) dX8_last_8 (by decide) ?_
        refine go_icmp_lt (tgt := 26) dX8_last_9 (by decide) (fun c_9 => ?_) (fun c_9 => ?_)
        · exact absurd ((nI_ltI (by omega) (by omega)).mp c_9) (by omega)
        · skip
          refine go_iload_n dX8_last_12 rfl ?_
          refine go_aload_n dX8_last_13 rfl ?_
          refine go_get dX8_last_14 fX8_43 (by omega) hS.1 rfl ?_
          refine go_iv dX8_last_17 mX6_rungs iX8_94 (rungsS hw hS) rfl rfl (by omega) k0 rfl (Nat.le_of_ble_eq_true rfl) (Nat.zero_le _) (Nat.zero_le _) (fun v_17 h_17 n_17 q_17 => ?_)
          obtain ⟨rfl, rfl, hS1, hL1, hF1⟩ := q_17
          obtain ⟨FA, FW, l0, -⟩ := id hL1.1
          obtain ⟨l1, cu1, le1, ta1, k1⟩ := hS1.2.2.2.2.2.h49
          refine go_get dX8_last_20 fX8_142 (by omega) l0 rfl ?_
          refine go_icmp_le (tgt := 28) dX8_last_23 (by decide) (fun c_23 => ?_) (fun c_23 => ?_)
          · skip
            refine go_aload_n dX8_last_28 rfl ?_
            refine go_get dX8_last_29 fX8_43 (by omega) hS1.1 rfl ?_
            refine go_iload_n dX8_last_32 rfl ?_
            refine go_iload_n dX8_last_33 rfl ?_
            refine go_iv dX8_last_34 mX6_lastBegin iX8_166 (run_lastBegin 3 (by omega) hk1 hk6 (by omega) (by omega) hw.1 hS1.2.1 hS1.2.2.2.2.2) rfl rfl (by omega) k1 rfl (Nat.le_of_ble_eq_true rfl) (Nat.zero_le _) (Nat.zero_le _) (fun v_34 h_34 n_34 q_34 => ?_)
            obtain ⟨rfl, rfl, hP2, hF2⟩ := q_34
            refine go_iret dX8_last_37 rfl ?_
            exact ⟨rfl, rfl, hS1.pa hF2 hP2, ((hF1.wide (by omega) (by omega)).trans hF2).wide (by omega) (by omega)⟩
          · exact absurd (nI_le (by omega) (by omega)) c_23
    · have e : lastS s.1 (nI k) y = -1 := by unfold lastS; rw [if_neg (fun z => hy z.2)]
      rw [e]
      refine Run.of (ini := false) (L := [_, _, _]) mX8_last (fun h => by cases h) rfl (Nat.le_of_ble_eq_true rfl) rfl ?_
      refine go_iload_n dX8_last_0 rfl ?_
      refine go_is dX8_last_1 mX8_isClasses iX8_81 (run_isClasses 7 (nI k)) rfl rfl (Nat.le_of_ble_eq_true rfl) (Nat.zero_le _) (Nat.zero_le _) (fun v_1 h_1 n_1 q_1 => ?_)
      obtain ⟨rfl, rfl, rfl⟩ := q_1
      refine go_if_eq (tgt := 26) dX8_last_4 (by decide) (fun c_4 => ?_) (fun c_4 => ?_)
      · exact absurd (bI_eq.mp c_4) (by rw [hr]; decide)
      · skip
        refine go_iload_n dX8_last_7 rfl ?_
        refine go_iconst (v := nI 1) dX8_last_8 (by decide) ?_
        refine go_icmp_lt (tgt := 26) dX8_last_9 (by decide) (fun c_9 => ?_) (fun c_9 => ?_)
        · skip
          refine go_iconst (v := (-1)) dX8_last_26 (by decide) ?_
          refine go_iret dX8_last_27 rfl ?_
          first | exact ⟨rfl, rfl, hS1, hF1.wide (by omega) (by omega)⟩ | exact ⟨rfl, rfl, hS, Fr.rf⟩
        · skip
          rw [ltN (by decide)] at c_9
          refine go_iload_n dX8_last_12 rfl ?_
          refine go_aload_n dX8_last_13 rfl ?_
          refine go_get dX8_last_14 fX8_43 (by omega) hS.1 rfl ?_
          refine go_iv dX8_last_17 mX6_rungs iX8_94 (rungsS hw hS) rfl rfl (by omega) k0 rfl (Nat.le_of_ble_eq_true rfl) (Nat.zero_le _) (Nat.zero_le _) (fun v_17 h_17 n_17 q_17 => ?_)
          obtain ⟨rfl, rfl, hS1, hL1, hF1⟩ := q_17
          obtain ⟨FA, FW, l0, -⟩ := id hL1.1
          refine go_get dX8_last_20 fX8_142 (by omega) l0 rfl ?_
          refine go_icmp_le (tgt := 28) dX8_last_23 (by decide) (fun c_23 => ?_) (fun c_23 => ?_)
          · rw [leN (by omega)] at c_23; omega
          · skip
            refine go_iconst (v := (-1)) dX8_last_26 (by decide) ?_
            refine go_iret dX8_last_27 rfl ?_
            first | exact ⟨rfl, rfl, hS1, hF1.wide (by omega) (by omega)⟩ | exact ⟨rfl, rfl, hS, Fr.rf⟩
set_option maxRecDepth 100000 in
theorem c_count {h : gH} {s : SD} (hw : SW s) (hS : CS h s) (x : Int32) : Run 8 yX8_count cX8_count 2 (some .int) [.ref 0, .int x] h 163 0 0 (fun v h' N' => v = some (.int (countS s x)) ∧ N' = 163 ∧ CS h' s ∧ Fr 0 147 h h') := by
  obtain ⟨l, cu, le, ta, k0⟩ := hS.2.2.2.2.2.h49
  obtain ⟨F, G, g0, -⟩ := id hS.2.1
  obtain ⟨nx, H, hx, ⟨R, u0, -⟩, -⟩ := id hS.2.2.1
  obtain ⟨F4, x3, x4, x5, x6, x7, x8, x9, c4, t0, -⟩ := id hS.2.2.2.2.1
  cases hr : rI 0 7 x with
  | false =>
    have e : countS s x = -1 := by unfold countS; rw [hr]; rfl
    rw [e]
    refine Run.of (ini := false) (L := [_, _]) mX8_count (fun h => by cases h) rfl (Nat.le_of_ble_eq_true rfl) rfl ?_
    refine go_iload_n dX8_count_0 rfl ?_
    refine go_tableOut (tgt := 115) dX8_count_1 (by have := rI_f hr; omega) (by decide) ?_
    refine go_iconst (v := (-1)) dX8_count_115 (by decide) ?_
    refine go_iret dX8_count_116 rfl ?_
    exact ⟨rfl, rfl, hS, Fr.rf⟩
  | true =>
    obtain ⟨k, -, hk, rfl⟩ := rI_t hr
    have e : countS s (nI k) = countN s k := by unfold countS; rw [hr, toN_nI (by omega)]; rfl
    rw [e]
    refine Run.of (ini := false) (L := [_, _]) mX8_count (fun h => by cases h) rfl (Nat.le_of_ble_eq_true rfl) rfl ?_
    rcases (show k = 0 ∨ k = 1 ∨ k = 2 ∨ k = 3 ∨ k = 4 ∨ k = 5 ∨ k = 6 ∨ k = 7 by omega) with rfl | rfl | rfl | rfl | rfl | rfl | rfl | rfl
    · refine go_iload_n dX8_count_0 rfl ?_
      refine go_tableIn (tgt := 48) dX8_count_1 (by decide) (by decide) rfl (by decide) ?_
      refine go_aload_n dX8_count_48 rfl ?_
      refine go_get dX8_count_49 fX8_10 (by omega) hS.1 rfl ?_
      refine go_iv dX8_count_52 mX0_places iX8_75 (run_places 7 hw.1.1 (by omega) hS.2.1) rfl rfl (by omega) g0 rfl (Nat.le_of_ble_eq_true rfl) (Nat.zero_le _) (Nat.zero_le _) (fun v_52 h_52 n_52 q_52 => ?_)
      obtain ⟨rfl, rfl, rfl⟩ := q_52
      refine go_iret dX8_count_55 rfl ?_
      exact ⟨rfl, rfl, hS, Fr.rf⟩
    · refine go_iload_n dX8_count_0 rfl ?_
      refine go_tableIn (tgt := 56) dX8_count_1 (by decide) (by decide) rfl (by decide) ?_
      refine go_aload_n dX8_count_56 rfl ?_
      refine go_get dX8_count_57 fX8_43 (by omega) hS.1 rfl ?_
      refine go_iv dX8_count_60 mX6_rungs iX8_94 (rungsS hw hS) rfl rfl (by omega) k0 rfl (Nat.le_of_ble_eq_true rfl) (Nat.zero_le _) (Nat.zero_le _) (fun v_60 h_60 n_60 q_60 => ?_)
      obtain ⟨rfl, rfl, hS1, hL1, hF1⟩ := q_60
      obtain ⟨FA, FW, l0, -⟩ := id hL1.1
      refine go_get dX8_count_63 fX8_142 (by omega) l0 rfl ?_
      refine go_iret dX8_count_66 rfl ?_
      exact ⟨rfl, rfl, hS1, hF1.wide (by omega) (by omega)⟩
    · refine go_iload_n dX8_count_0 rfl ?_
      refine go_tableIn (tgt := 67) dX8_count_1 (by decide) (by decide) rfl (by decide) ?_
      refine go_aload_n dX8_count_67 rfl ?_
      refine go_get dX8_count_68 fX8_10 (by omega) hS.1 rfl ?_
      refine go_get dX8_count_71 fX8_84 (by omega) g0 rfl ?_
      refine go_iret dX8_count_74 rfl ?_
      exact ⟨rfl, rfl, hS, Fr.rf⟩
    · refine go_iload_n dX8_count_0 rfl ?_
      refine go_tableIn (tgt := 75) dX8_count_1 (by decide) (by decide) rfl (by decide) ?_
      refine go_aload_n dX8_count_75 rfl ?_
      refine go_get dX8_count_76 fX8_10 (by omega) hS.1 rfl ?_
      refine go_get dX8_count_79 fX8_87 (by omega) g0 rfl ?_
      refine go_iret dX8_count_82 rfl ?_
      exact ⟨rfl, rfl, hS, Fr.rf⟩
    · refine go_iload_n dX8_count_0 rfl ?_
      refine go_tableIn (tgt := 83) dX8_count_1 (by decide) (by decide) rfl (by decide) ?_
      refine go_aload_n dX8_count_83 rfl ?_
      refine go_get dX8_count_84 fX8_10 (by omega) hS.1 rfl ?_
      refine go_get dX8_count_87 fX8_112 (by omega) g0 rfl ?_
      refine go_iret dX8_count_90 rfl ?_
      exact ⟨rfl, rfl, hS, Fr.rf⟩
    · refine go_iload_n dX8_count_0 rfl ?_
      refine go_tableIn (tgt := 91) dX8_count_1 (by decide) (by decide) rfl (by decide) ?_
      refine go_aload_n dX8_count_91 rfl ?_
      refine go_get dX8_count_92 fX8_10 (by omega) hS.1 rfl ?_
      refine go_iv dX8_count_95 mX0_sum iX8_171 (run_sum 7 hw.1.1 (by omega) hS.2.1) rfl rfl (by omega) g0 rfl (Nat.le_of_ble_eq_true rfl) (Nat.zero_le _) (Nat.zero_le _) (fun v_95 h_95 n_95 q_95 => ?_)
      obtain ⟨rfl, rfl, rfl⟩ := q_95
      refine go_iret dX8_count_98 rfl ?_
      exact ⟨rfl, rfl, hS, Fr.rf⟩
    · refine go_iload_n dX8_count_0 rfl ?_
      refine go_tableIn (tgt := 99) dX8_count_1 (by decide) (by decide) rfl (by decide) ?_
      refine go_aload_n dX8_count_99 rfl ?_
      refine go_get dX8_count_100 fX8_19 (by omega) hS.1 rfl ?_
      refine go_get dX8_count_103 fX8_127 (by omega) u0 rfl ?_
      refine go_iret dX8_count_106 rfl ?_
      exact ⟨rfl, rfl, hS, Fr.rf⟩
    · refine go_iload_n dX8_count_0 rfl ?_
      refine go_tableIn (tgt := 107) dX8_count_1 (by decide) (by decide) rfl (by decide) ?_
      refine go_aload_n dX8_count_107 rfl ?_
      refine go_get dX8_count_108 fX8_34 (by omega) hS.1 rfl ?_
      refine go_get dX8_count_111 fX8_51 (by omega) t0 rfl ?_
      refine go_iret dX8_count_114 rfl ?_
      exact ⟨rfl, rfl, hS, Fr.rf⟩
