/-! ===== told, isNoMore, now, moved, least, spread, gain, enough: the reference's side ===== -/
set_option maxRecDepth 100000 in
theorem told_loop {d p : Nat} {h : gH} (hp : p < 2 ^ 63) {w : Nat} (hw : w < 2 ^ 31) : ∀ (n a b : Nat) (w7 w8 : Option Value), b < n → a < 2 ^ 63 → b < 2 ^ 63 → Nat.gcd a b = Nat.gcd p 5354228880 → Go none RX9 cX9_told 9 (some .long) false d 7 [some (.long (lN p)), none, some (.int (nI w)), some (.long (lN a)), none, some (.long (lN b)), none, w7, w8] [] h 163 0 0 (fun v h' N' => v = some (.long (toldS p (w == 0))) ∧ h' = h ∧ N' = 163) := by
  have hg : 0 < Nat.gcd p 5354228880 := Nat.gcd_pos_of_pos_right _ (by omega)
  have hg2 : Nat.gcd p 5354228880 ≤ 5354228880 := Nat.gcd_le_right _ (by omega)
  intro n
  induction n with
  | zero => intro a b w7 w8 hb; omega
  | succ n ih =>
    intro a b w7 w8 hb ha hb2 he
    by_cases e : b = 0
    · subst e
      rw [Nat.gcd_zero_right] at he
      subst he
      refine go_lload dX9_told_7 rfl ?_
      refine go_lconst (v := lN 0) dX9_told_9 rfl ?_
      refine go_lcmp dX9_told_10 ?_
      refine go_if_eq (tgt := 30) dX9_told_11 (by decide) (fun c_11 => ?_) (fun c_11 => ?_)
      · skip
        refine go_iload_n dX9_told_30 rfl ?_
        refine go_if_ne (tgt := 40) dX9_told_31 (by decide) (fun c_31 => ?_) (fun c_31 => ?_)
        · skip
          have w0 : ¬ w = 0 := fun z => c_31 (by rw [z]; rfl)
          refine go_ldc2 dX9_told_40 kX9_145 ?_
          refine go_lload_n dX9_told_43 rfl ?_
          refine go_ldiv dX9_told_44 (fun q => absurd ((pk_lEQ (a := Nat.gcd p 5354228880) (b := 0) (by omega) (by decide)).mp q) (by omega)) ?_
          first | skip | skip
          refine go_lret dX9_told_45 rfl ?_
          first | exact ⟨rfl, rfl, rfl⟩ | exact ⟨by rw [show (5354228880 : Int64) = lN 5354228880 from rfl, pk_lDiv (by omega) hg (by omega)]; simp [toldS, w0], rfl, rfl⟩
        · skip
          have w0 : w = 0 := (nI_eq (b := 0) (by omega) (by omega)).mp (Decidable.not_not.mp c_31)
          refine go_lload_n dX9_told_34 rfl ?_
          refine go_lload_n dX9_told_35 rfl ?_
          refine go_ldiv dX9_told_36 (fun q => absurd ((pk_lEQ (a := Nat.gcd p 5354228880) (b := 0) (by omega) (by decide)).mp q) (by omega)) ?_
          refine go_top (y := .long (toldS p (w == 0))) (by rw [pk_lDiv hp hg (by omega), w0]; rfl) ?_
          refine go_goto (tgt := 45) dX9_told_37 (by decide) ?_
          first | skip | skip
          refine go_lret dX9_told_45 rfl ?_
          first | exact ⟨rfl, rfl, rfl⟩ | exact ⟨by rw [show (5354228880 : Int64) = lN 5354228880 from rfl, pk_lDiv (by omega) hg (by omega)]; simp [toldS, w0], rfl, rfl⟩
      · exact absurd ((lg_cmp_eq _ _).mpr rfl) c_11
    · skip
      refine go_lload dX9_told_7 rfl ?_
      refine go_lconst (v := lN 0) dX9_told_9 rfl ?_
      refine go_lcmp dX9_told_10 ?_
      refine go_if_eq (tgt := 30) dX9_told_11 (by decide) (fun c_11 => ?_) (fun c_11 => ?_)
      · exact absurd ((pk_lEQ (a := b) (b := 0) (by omega) (by decide)).mp ((lg_cmp_eq _ _).mp c_11)) e
      · skip
        refine go_lload_n dX9_told_14 rfl ?_
        refine go_lload dX9_told_15 rfl ?_
        refine go_lrem dX9_told_17 (fun q => absurd ((pk_lEQ (a := b) (b := 0) (by omega) (by decide)).mp q) e) ?_
        refine go_top (y := .long (lN (a % b))) (by rw [← lrem_N ha (by omega) hb2]) ?_
        refine go_lstore (L' := [_, _, _, _, _, _, _, _, _]) dX9_told_18 (by decide) rfl ?_
        refine go_lload dX9_told_20 rfl ?_
        refine go_lstore_n (L' := [_, _, _, _, _, _, _, _, _]) dX9_told_22 rfl (by decide) rfl ?_
        refine go_lload dX9_told_23 rfl ?_
        refine go_lstore (L' := [_, _, _, _, _, _, _, _, _]) dX9_told_25 (by decide) rfl ?_
        refine go_goto (tgt := 7) dX9_told_27 (by decide) ?_
        refine ih b (a % b) _ _ (by have := Nat.mod_lt a (show b > 0 by omega); omega) hb2 (by have := Nat.mod_lt a (show b > 0 by omega); omega) ?_
        rw [← gcd_step]; exact he
theorem run_told (d : Nat) {p w : Nat} {h : gH} {x : Int64} (hp : p < 2 ^ 63) (hx : x = lN p) (hw : w < 2 ^ 31) : Run d yX9_told cX9_told 9 (some .long) [.long x, .int (nI w)] h 163 0 0 (fun v h' N' => v = some (.long (toldS p (w == 0))) ∧ h' = h ∧ N' = 163) := by
  subst hx
  refine Run.of (ini := false) (L := [_, _, _, _, _, _, _, _, _]) mX9_told (fun h => by cases h) rfl (Nat.le_of_ble_eq_true rfl) rfl ?_
  refine go_lload_n dX9_told_0 rfl ?_
  refine go_lstore_n (L' := [_, _, _, _, _, _, _, _, _]) dX9_told_1 rfl (by decide) rfl ?_
  refine go_ldc2 dX9_told_2 kX9_145 ?_
  refine go_lstore (L' := [_, _, _, _, _, _, _, _, _]) dX9_told_5 (by decide) rfl ?_
  exact told_loop hp hw 5354228881 p 5354228880 none none (by omega) hp (by omega) rfl
theorem lN63_sub {a b : Nat} (h : b ≤ a) : lN a - lN b = lN (a - b) := by
  have := lN_add (a - b) b
  rw [Nat.sub_add_cancel h] at this
  rw [← this]
  simp
theorem nm_iff {p q x : Nat} : 100 * p ≤ x * q ↔ p < q / 100 * x ∨ p - q / 100 * x ≤ q % 100 * x / 100 := by
  have e : x * q = 100 * (q / 100 * x) + q % 100 * x := by
    have h := Nat.div_add_mod q 100
    generalize q / 100 = u at h ⊢
    generalize q % 100 = v at h ⊢
    subst h
    rw [Nat.mul_add, Nat.mul_comm x v, ← Nat.mul_assoc 100 u x, Nat.mul_comm x]
  rw [e]
  generalize q / 100 * x = W
  generalize q % 100 * x = R
  omega
set_option maxRecDepth 100000 in
theorem run_isNoMore (d : Nat) {p q x : Nat} {h : gH} {y z : Int64} (hp : p ≤ 32061154660081280) (hq : q ≤ 32061154660081280) (hx : x ≤ 100) (hy : y = lN p) (hz : z = lN q) : Run d yX9_isNoMore cX9_isNoMore 9 (some .boolean) [.long y, .long z, .int (nI x)] h 163 0 0 (fun v h' N' => v = some (.int (bI (decide (100 * p ≤ x * q)))) ∧ h' = h ∧ N' = 163) := by
  subst hy hz
  have b1 : q / 100 * x ≤ 320611546600812800 := Nat.le_trans (Nat.mul_le_mul (show q / 100 ≤ 3206115466008128 by omega) hx) (by omega)
  have b2 : q % 100 * x ≤ 10000 := Nat.mul_le_mul (show q % 100 ≤ 100 by omega) hx
  have e1 : lN q / 100 = lN (q / 100) := pk_lDiv (b := 100) (by omega) (by omega) (by omega)
  have e2 : lN q - lN q / 100 * 100 = lN (q % 100) := lrem_N (b := 100) (by omega) (by omega) (by omega)
  have e3 : lN (q % 100 * x) / 100 = lN (q % 100 * x / 100) := pk_lDiv (b := 100) (by omega) (by omega) (by omega)
  refine Run.of (ini := false) (L := [_, _, _, _, _, _, _, _, _]) mX9_isNoMore (fun h => by cases h) rfl (Nat.le_of_ble_eq_true rfl) rfl ?_
  refine go_lload_n dX9_isNoMore_0 rfl ?_
  refine go_ldc2 dX9_isNoMore_1 kX9_208 ?_
  refine go_ldiv dX9_isNoMore_4 (by decide) ?_
  refine go_iload dX9_isNoMore_5 rfl ?_
  refine go_i2l dX9_isNoMore_7 rfl ?_
  refine go_lmul dX9_isNoMore_8 ?_
  refine go_top (y := .long (lN (q / 100 * x))) (by rw [e1, nI_l (by omega), lN_mul]) ?_
  refine go_lstore (L' := [_, _, _, _, _, _, _, _, _]) dX9_isNoMore_9 (by decide) rfl ?_
  refine go_lload_n dX9_isNoMore_11 rfl ?_
  refine go_ldc2 dX9_isNoMore_12 kX9_208 ?_
  refine go_lrem dX9_isNoMore_15 (by decide) ?_
  refine go_iload dX9_isNoMore_16 rfl ?_
  refine go_i2l dX9_isNoMore_18 rfl ?_
  refine go_lmul dX9_isNoMore_19 ?_
  refine go_top (y := .long (lN (q % 100 * x))) (by rw [e2, nI_l (by omega), lN_mul]) ?_
  refine go_lstore (L' := [_, _, _, _, _, _, _, _, _]) dX9_isNoMore_20 (by decide) rfl ?_
  refine go_lload_n dX9_isNoMore_22 rfl ?_
  refine go_lload dX9_isNoMore_23 rfl ?_
  refine go_lcmp dX9_isNoMore_25 ?_
  refine go_if_lt (tgt := 43) dX9_isNoMore_26 (by decide) (fun c_26 => ?_) (fun c_26 => ?_)
  · skip
    have c1 : p < q / 100 * x := by have := mt (lN63_le (a := q / 100 * x) (b := p) (by omega) (by omega)).mpr (Int64.not_le.mpr ((lg_cmp_lt _ _).mp c_26)); omega
    refine go_iconst (v := nI 1) dX9_isNoMore_43 (by decide) ?_
    refine go_goto (tgt := 48) dX9_isNoMore_44 (by decide) ?_
    refine go_zret dX9_isNoMore_48 rfl (by first | exact Or.inl rfl | exact Or.inr rfl | exact bI01 _) ?_
    first | exact ⟨by rw [decide_eq_true (nm_iff.mpr (by omega))]; rfl, rfl, rfl⟩ | exact ⟨by rw [decide_eq_false (fun u => absurd (nm_iff.mp u) (by omega))]; rfl, rfl, rfl⟩
  · skip
    have c1 : q / 100 * x ≤ p := (lN63_le (by omega) (by omega)).mp (Int64.not_lt.mp (mt (lg_cmp_lt _ _).mpr c_26))
    refine go_lload_n dX9_isNoMore_29 rfl ?_
    refine go_lload dX9_isNoMore_30 rfl ?_
    refine go_lsub dX9_isNoMore_32 ?_
    refine go_top (y := .long (lN (p - q / 100 * x))) (by rw [lN63_sub c1]) ?_
    refine go_lload dX9_isNoMore_33 rfl ?_
    refine go_ldc2 dX9_isNoMore_35 kX9_208 ?_
    refine go_ldiv dX9_isNoMore_38 (by decide) ?_
    refine go_top (y := .long (lN (q % 100 * x / 100))) (by rw [e3]) ?_
    refine go_lcmp dX9_isNoMore_39 ?_
    refine go_if_gt (tgt := 47) dX9_isNoMore_40 (by decide) (fun c_40 => ?_) (fun c_40 => ?_)
    · skip
      have c2 : ¬ p - q / 100 * x ≤ q % 100 * x / 100 := fun u => absurd ((lN63_le (by omega) (by omega)).mpr u) (Int64.not_le.mpr ((lg_cmp_gt _ _).mp c_40))
      refine go_iconst (v := nI 0) dX9_isNoMore_47 (by decide) ?_
      refine go_zret dX9_isNoMore_48 rfl (by first | exact Or.inl rfl | exact Or.inr rfl | exact bI01 _) ?_
      first | exact ⟨by rw [decide_eq_true (nm_iff.mpr (by omega))]; rfl, rfl, rfl⟩ | exact ⟨by rw [decide_eq_false (fun u => absurd (nm_iff.mp u) (by omega))]; rfl, rfl, rfl⟩
    · skip
      have c2 : p - q / 100 * x ≤ q % 100 * x / 100 := (lN63_le (by omega) (by omega)).mp (Int64.not_lt.mp (mt (lg_cmp_gt _ _).mpr c_40))
      refine go_iconst (v := nI 1) dX9_isNoMore_43 (by decide) ?_
      refine go_goto (tgt := 48) dX9_isNoMore_44 (by decide) ?_
      refine go_zret dX9_isNoMore_48 rfl (by first | exact Or.inl rfl | exact Or.inr rfl | exact bI01 _) ?_
      first | exact ⟨by rw [decide_eq_true (nm_iff.mpr (by omega))]; rfl, rfl, rfl⟩ | exact ⟨by rw [decide_eq_false (fun u => absurd (nm_iff.mp u) (by omega))]; rfl, rfl, rfl⟩
theorem m_now {h : gH} {s : SD} (hw : SW s) (hS : MS h s) (i : Int32) : Run 8 yX9_now cX9_now 2 (some .int) [.ref 147, .int i] h 163 0 0 (fun v h' N' => v = some (.int (begS s.1 (nowD s.1) i)) ∧ N' = 163 ∧ MS h' s ∧ Fr 147 163 h h') := by
  obtain ⟨⟨r0, r1, r2, r3, r4, sn, rn, h7⟩, -⟩ := id hS
  refine Run.of (ini := false) (L := [_, _]) mX9_now (fun h => by cases h) rfl (Nat.le_of_ble_eq_true rfl) rfl ?_
  refine go_aload_n dX9_now_0 rfl ?_
  refine go_iv dX9_now_1 mX9_partsNow iX9_174 (partsS hw.1 hS 3) rfl rfl (by omega) h7 rfl (Nat.le_of_ble_eq_true rfl) (Nat.zero_le _) (Nat.zero_le _) (fun v_1 h_1 n_1 q_1 => ?_)
  obtain ⟨rfl, rfl, hQ, hF1⟩ := q_1
  have hF1 := frP hF1
  obtain ⟨q0, q1, q2, q3, q4, k7⟩ := hQ.1
  refine go_aload_n dX9_now_4 rfl ?_
  refine go_iload_n dX9_now_5 rfl ?_
  refine go_iv dX9_now_6 mX9_beginOf iX9_183 (run_mBeginOf 6 hw.1 (now_6 hw.1) (fun j hj => now_lt hj) hQ i) rfl rfl (by omega) k7 rfl (Nat.le_of_ble_eq_true rfl) (Nat.zero_le _) (Nat.zero_le _) (fun v_6 h_6 n_6 q_6 => ?_)
  obtain ⟨rfl, rfl, rfl⟩ := q_6
  refine go_iret dX9_now_9 rfl ?_
  exact ⟨rfl, rfl, hQ.2.2.2, hF1⟩
theorem m_moved {h : gH} {s : SD} (hw : SW s) (hS : MS h s) : Run 8 yX9_moved cX9_moved 1 (some .int) [.ref 147] h 163 0 0 (fun v h' N' => v = some (.int (nI (strS s.1))) ∧ N' = 163 ∧ MS h' s ∧ Fr 147 163 h h') := by
  obtain ⟨⟨r0, r1, r2, r3, r4, sn, rn, h7⟩, -⟩ := id hS
  refine Run.of (ini := false) (L := [_]) mX9_moved (fun h => by cases h) rfl (Nat.le_of_ble_eq_true rfl) rfl ?_
  refine go_aload_n dX9_moved_0 rfl ?_
  refine go_iv dX9_moved_1 mX9_partsNow iX9_174 (partsS hw.1 hS 3) rfl rfl (by omega) h7 rfl (Nat.le_of_ble_eq_true rfl) (Nat.zero_le _) (Nat.zero_le _) (fun v_1 h_1 n_1 q_1 => ?_)
  obtain ⟨rfl, rfl, hQ, hF1⟩ := q_1
  have hF1 := frP hF1
  obtain ⟨q0, q1, q2, q3, q4, k7⟩ := hQ.1
  refine go_aload_n dX9_moved_4 rfl ?_
  refine go_iv dX9_moved_5 mX9_movedMany iX9_177 (run_movedMany 6 hw.1 (now_6 hw.1) (fun j hj => now_lt hj) hQ) rfl rfl (by omega) k7 rfl (Nat.le_of_ble_eq_true rfl) (Nat.zero_le _) (Nat.zero_le _) (fun v_5 h_5 n_5 q_5 => ?_)
  obtain ⟨rfl, rfl, rfl⟩ := q_5
  refine go_iret dX9_moved_8 rfl ?_
  exact ⟨rfl, rfl, hQ.2.2.2, hF1⟩
theorem m_least {h : gH} {s : SD} (hw : SW s) (hS : MS h s) (x i : Int32) : Run 8 yX9_least cX9_least 3 (some .int) [.ref 147, .int x, .int i] h 163 0 0 (fun v h' N' => v = some (.int (leastS s.1 x i)) ∧ N' = 163 ∧ MS h' s ∧ Fr 147 163 h h') := by
  obtain ⟨⟨r0, r1, r2, r3, r4, sn, rn, h7⟩, -⟩ := id hS
  cases hr : rI 1 6 x with
  | false =>
    have e : leastS s.1 x i = -1 := by unfold leastS; rw [hr]; rfl
    rw [e]
    refine Run.of (ini := false) (L := [_, _, _]) mX9_least (fun h => by cases h) rfl (Nat.le_of_ble_eq_true rfl) rfl ?_
    refine go_iload_n dX9_least_0 rfl ?_
    refine go_iconst (v := nI 1) dX9_least_1 (by decide) ?_
    refine go_bipush (v := nI 6) dX9_least_2 (by decide) ?_
    refine go_is dX9_least_4 mX9_in iX9_63 (run_in 7 (lo := 1) (hi := 6) x (by decide) (by decide)) rfl rfl (Nat.le_of_ble_eq_true rfl) (Nat.zero_le _) (Nat.zero_le _) (fun v_4 h_4 n_4 q_4 => ?_)
    obtain ⟨rfl, rfl, rfl⟩ := q_4
    refine go_if_ne (tgt := 12) dX9_least_7 (by decide) (fun c_7 => ?_) (fun c_7 => ?_)
    · exact absurd (bI_ne.mp c_7) (by rw [hr]; decide)
    · skip
      refine go_iconst (v := (-1)) dX9_least_10 (by decide) ?_
      refine go_iret dX9_least_11 rfl ?_
      exact ⟨rfl, rfl, hS, Fr.rf⟩
  | true =>
    obtain ⟨k, hk1, hk6, rfl⟩ := rI_t hr
    have e : leastS s.1 (nI k) i = begS s.1 (leastD s.1 k) i := by unfold leastS; rw [hr, toN_nI (by omega)]; rfl
    rw [e]
    refine Run.of (ini := false) (L := [_, _, _]) mX9_least (fun h => by cases h) rfl (Nat.le_of_ble_eq_true rfl) rfl ?_
    refine go_iload_n dX9_least_0 rfl ?_
    refine go_iconst (v := nI 1) dX9_least_1 (by decide) ?_
    refine go_bipush (v := nI 6) dX9_least_2 (by decide) ?_
    refine go_is dX9_least_4 mX9_in iX9_63 (run_in 7 (lo := 1) (hi := 6) (nI k) (by decide) (by decide)) rfl rfl (Nat.le_of_ble_eq_true rfl) (Nat.zero_le _) (Nat.zero_le _) (fun v_4 h_4 n_4 q_4 => ?_)
    obtain ⟨rfl, rfl, rfl⟩ := q_4
    refine go_if_ne (tgt := 12) dX9_least_7 (by decide) (fun c_7 => ?_) (fun c_7 => ?_)
    · skip
      refine go_aload_n dX9_least_12 rfl ?_
      refine go_iload_n dX9_least_13 rfl ?_
      refine go_iconst (v := nI 1) dX9_least_14 (by decide) ?_
      refine go_iv dX9_least_15 mX9_parts iX9_170 (partsL hw.1 hS hk1 hk6 4) rfl rfl (by omega) h7 rfl (Nat.le_of_ble_eq_true rfl) (Nat.zero_le _) (Nat.zero_le _) (fun v_15 h_15 n_15 q_15 => ?_)
      obtain ⟨rfl, rfl, hQ, hF1⟩ := q_15
      have hF1 := frP hF1
      obtain ⟨q0, q1, q2, q3, q4, k7⟩ := hQ.1
      refine go_aload_n dX9_least_18 rfl ?_
      refine go_iload_n dX9_least_19 rfl ?_
      refine go_iv dX9_least_20 mX9_beginOf iX9_183 (run_mBeginOf 6 hw.1 (by show min k _ ≤ 6; omega) (fun j hj => par_lt hj) hQ i) rfl rfl (by omega) k7 rfl (Nat.le_of_ble_eq_true rfl) (Nat.zero_le _) (Nat.zero_le _) (fun v_20 h_20 n_20 q_20 => ?_)
      obtain ⟨rfl, rfl, rfl⟩ := q_20
      refine go_iret dX9_least_23 rfl ?_
      exact ⟨rfl, rfl, hQ.2.2.2, hF1⟩
    · exact absurd (bI_eq.mp (Decidable.not_not.mp c_7)) (by rw [hr]; decide)
theorem m_spread {h : gH} {s : SD} (hw : SW s) (hS : MS h s) (x : Int32) : Run 8 yX9_spread cX9_spread 2 (some .long) [.ref 147, .int x] h 163 0 0 (fun v h' N' => v = some (.long (spreadS s.1 x)) ∧ N' = 163 ∧ MS h' s ∧ Fr 147 163 h h') := by
  obtain ⟨⟨r0, r1, r2, r3, r4, sn, rn, h7⟩, -⟩ := id hS
  obtain ⟨e1, e2⟩ := par_sp (fee := feeN s.1) (k := s.1.2.2.2.1) hw.1
  have e1 : (nowD s.1).2.2 = lN (spN (nowD s.1)) := e1
  have e2 : spN (nowD s.1) ≤ 32061154660081280 := e2
  cases hr : rI 0 1 x with
  | false =>
    have e : spreadS s.1 x = -1 := by unfold spreadS; rw [hr]; rfl
    rw [e]
    refine Run.of (ini := false) (L := [_, _]) mX9_spread (fun h => by cases h) rfl (Nat.le_of_ble_eq_true rfl) rfl ?_
    refine go_iload_n dX9_spread_0 rfl ?_
    refine go_iconst (v := nI 0) dX9_spread_1 (by decide) ?_
    refine go_iconst (v := nI 1) dX9_spread_2 (by decide) ?_
    refine go_is dX9_spread_3 mX9_in iX9_63 (run_in 7 (lo := 0) (hi := 1) x (by decide) (by decide)) rfl rfl (Nat.le_of_ble_eq_true rfl) (Nat.zero_le _) (Nat.zero_le _) (fun v_3 h_3 n_3 q_3 => ?_)
    obtain ⟨rfl, rfl, rfl⟩ := q_3
    refine go_if_ne (tgt := 13) dX9_spread_6 (by decide) (fun c_6 => ?_) (fun c_6 => ?_)
    · exact absurd (bI_ne.mp c_6) (by rw [hr]; decide)
    · skip
      refine go_ldc2 dX9_spread_9 kX9_186 ?_
      refine go_lret dX9_spread_12 rfl ?_
      exact ⟨rfl, rfl, hS, Fr.rf⟩
  | true =>
    obtain ⟨k, -, hk, rfl⟩ := rI_t hr
    have e : spreadS s.1 (nI k) = toldS (spN (nowD s.1)) (k == 0) := by unfold spreadS; rw [hr, toN_nI (by omega)]; rfl
    rw [e]
    refine Run.of (ini := false) (L := [_, _]) mX9_spread (fun h => by cases h) rfl (Nat.le_of_ble_eq_true rfl) rfl ?_
    refine go_iload_n dX9_spread_0 rfl ?_
    refine go_iconst (v := nI 0) dX9_spread_1 (by decide) ?_
    refine go_iconst (v := nI 1) dX9_spread_2 (by decide) ?_
    refine go_is dX9_spread_3 mX9_in iX9_63 (run_in 7 (lo := 0) (hi := 1) (nI k) (by decide) (by decide)) rfl rfl (Nat.le_of_ble_eq_true rfl) (Nat.zero_le _) (Nat.zero_le _) (fun v_3 h_3 n_3 q_3 => ?_)
    obtain ⟨rfl, rfl, rfl⟩ := q_3
    refine go_if_ne (tgt := 13) dX9_spread_6 (by decide) (fun c_6 => ?_) (fun c_6 => ?_)
    · skip
      refine go_aload_n dX9_spread_13 rfl ?_
      refine go_iv dX9_spread_14 mX9_partsNow iX9_174 (partsS hw.1 hS 3) rfl rfl (by omega) h7 rfl (Nat.le_of_ble_eq_true rfl) (Nat.zero_le _) (Nat.zero_le _) (fun v_14 h_14 n_14 q_14 => ?_)
      obtain ⟨rfl, rfl, hQ, hF1⟩ := q_14
      have hF1 := frP hF1
      obtain ⟨q0, q1, q2, q3, q4, k7⟩ := hQ.1
      refine go_aload_n dX9_spread_17 rfl ?_
      refine go_iv dX9_spread_18 mX9_spreadOfRuns iX9_188 (run_spreadOfRuns 6 (fee := feeN s.1) hw.1 hw.1.2.2.2.2.1.2 hQ) rfl rfl (by omega) k7 rfl (Nat.le_of_ble_eq_true rfl) (Nat.zero_le _) (Nat.zero_le _) (fun v_18 h_18 n_18 q_18 => ?_)
      obtain ⟨rfl, rfl, rfl⟩ := q_18
      refine go_iload_n dX9_spread_21 rfl ?_
      refine go_is dX9_spread_22 mX9_told iX9_192 (run_told 7 (by omega) e1 (by omega)) rfl rfl (Nat.le_of_ble_eq_true rfl) (Nat.zero_le _) (Nat.zero_le _) (fun v_22 h_22 n_22 q_22 => ?_)
      obtain ⟨rfl, rfl, rfl⟩ := q_22
      refine go_lret dX9_spread_25 rfl ?_
      exact ⟨rfl, rfl, hQ.2.2.2, hF1⟩
    · exact absurd (bI_eq.mp (Decidable.not_not.mp c_6)) (by rw [hr]; decide)
theorem spreadIn {h : gH} {s : SD} {k : Nat} (hw : SW s) (hS : MS h s) (hk : 1 ≤ k) (hk6 : k ≤ 6) : Run 7 yX9_spreadIn cX9_spreadIn 2 (some .long) [.ref 147, .int (nI k)] h 163 0 0 (fun v h' N' => v = some (.long (leastD s.1 k).2.2) ∧ N' = 163 ∧ MS h' s ∧ Fr 147 163 h h') := by
  obtain ⟨⟨r0, r1, r2, r3, r4, sn, rn, h7⟩, -⟩ := id hS
  refine Run.of (ini := false) (L := [_, _]) mX9_spreadIn (fun h => by cases h) rfl (Nat.le_of_ble_eq_true rfl) rfl ?_
  refine go_aload_n dX9_spreadIn_0 rfl ?_
  refine go_iload_n dX9_spreadIn_1 rfl ?_
  refine go_iconst (v := nI 1) dX9_spreadIn_2 (by decide) ?_
  refine go_iv dX9_spreadIn_3 mX9_parts iX9_170 (partsL hw.1 hS hk hk6 3) rfl rfl (by omega) h7 rfl (Nat.le_of_ble_eq_true rfl) (Nat.zero_le _) (Nat.zero_le _) (fun v_3 h_3 n_3 q_3 => ?_)
  obtain ⟨rfl, rfl, hQ, hF1⟩ := q_3
  have hF1 := frP hF1
  obtain ⟨q0, q1, q2, q3, q4, k7⟩ := hQ.1
  refine go_aload_n dX9_spreadIn_6 rfl ?_
  refine go_iv dX9_spreadIn_7 mX9_spreadOfRuns iX9_188 (run_spreadOfRuns 5 (fee := fun _ => 0) hw.1 hk6 hQ) rfl rfl (by omega) k7 rfl (Nat.le_of_ble_eq_true rfl) (Nat.zero_le _) (Nat.zero_le _) (fun v_7 h_7 n_7 q_7 => ?_)
  obtain ⟨rfl, rfl, rfl⟩ := q_7
  refine go_lret dX9_spreadIn_10 rfl ?_
  exact ⟨rfl, rfl, hQ.2.2.2, hF1⟩
