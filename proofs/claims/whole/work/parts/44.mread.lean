/-! ===== place, count, closes: the reference's side ===== -/
set_option maxRecDepth 100000 in
theorem m_place {h : gH} {s : SD} (hw : SW s) (hS : MS h s) (r c x : Int32) : Run 8 yX9_place cX9_place 6 (some .int) [.ref 147, .int r, .int c, .int x] h 163 0 0 (fun v h' N' => v = some (.int (placeS s.1 r c x)) ∧ N' = 163 ∧ MS h' s ∧ Fr 147 163 h h') := by
  obtain ⟨⟨r0, r1, r2, r3, r4, sn, rn, h7⟩, ⟨F4, F5, F6, q4, q5, q6, ⟨w', v', hE, hEw⟩, ho⟩, -⟩ := id hS
  have h24 := hw.1.2.1
  have h6 := now_6 hw.1
  cases hrc : (rI 0 9 r && rI 0 9 c) with
  | false =>
    have e : placeS s.1 r c x = -1 := by unfold placeS; rw [hrc]; rfl
    rw [e]
    refine Run.of (ini := false) (L := [_, _, _, _, _, _]) mX9_place (fun h => by cases h) rfl (Nat.le_of_ble_eq_true rfl) rfl ?_
    refine go_iload_n dX9_place_0 rfl ?_
    refine go_iload_n dX9_place_1 rfl ?_
    refine go_is dX9_place_2 mX9_isWhere iX9_129 (run_isWhere 6 r c) rfl rfl (Nat.le_of_ble_eq_true rfl) (Nat.zero_le _) (Nat.zero_le _) (fun v_2 h_2 n_2 q_2 => ?_)
    obtain ⟨rfl, rfl, rfl⟩ := q_2
    refine go_if_eq (tgt := 17) dX9_place_5 (by decide) (fun c_5 => ?_) (fun c_5 => ?_)
    · skip
      refine go_iconst (v := (-1)) dX9_place_17 (by decide) ?_
      refine go_iret dX9_place_18 rfl ?_
      exact ⟨rfl, rfl, hS, Fr.rf⟩
    · exact absurd (bI_eq.mpr hrc) c_5
  | true =>
    obtain ⟨i, j, hi, hj, rfl, rfl, -⟩ := cellI_yes hrc
    cases hx : rI 0 2 x with
    | false =>
      have e : placeS s.1 (nI i) (nI j) x = -1 := by unfold placeS; rw [hrc, hx]; rfl
      rw [e]
      refine Run.of (ini := false) (L := [_, _, _, _, _, _]) mX9_place (fun h => by cases h) rfl (Nat.le_of_ble_eq_true rfl) rfl ?_
      refine go_iload_n dX9_place_0 rfl ?_
      refine go_iload_n dX9_place_1 rfl ?_
      refine go_is dX9_place_2 mX9_isWhere iX9_129 (run_isWhere 6 (nI i) (nI j)) rfl rfl (Nat.le_of_ble_eq_true rfl) (Nat.zero_le _) (Nat.zero_le _) (fun v_2 h_2 n_2 q_2 => ?_)
      obtain ⟨rfl, rfl, rfl⟩ := q_2
      refine go_if_eq (tgt := 17) dX9_place_5 (by decide) (fun c_5 => ?_) (fun c_5 => ?_)
      · exact absurd (bI_eq.mp c_5) (by rw [hrc]; decide)
      · skip
        refine go_iload_n dX9_place_8 rfl ?_
        refine go_iconst (v := nI 0) dX9_place_9 (by decide) ?_
        refine go_iconst (v := nI 2) dX9_place_10 (by decide) ?_
        refine go_is dX9_place_11 mX9_in iX9_63 (run_in 7 (lo := 0) (hi := 2) x (by decide) (by decide)) rfl rfl (Nat.le_of_ble_eq_true rfl) (Nat.zero_le _) (Nat.zero_le _) (fun v_11 h_11 n_11 q_11 => ?_)
        obtain ⟨rfl, rfl, rfl⟩ := q_11
        refine go_if_ne (tgt := 19) dX9_place_14 (by decide) (fun c_14 => ?_) (fun c_14 => ?_)
        · exact absurd (bI_ne.mp c_14) (by rw [hx]; decide)
        · skip
          refine go_iconst (v := (-1)) dX9_place_17 (by decide) ?_
          refine go_iret dX9_place_18 rfl ?_
          exact ⟨rfl, rfl, hS, Fr.rf⟩
    | true =>
      obtain ⟨w, -, hw2, rfl⟩ := rI_t hx
      have hcell : 10 * i + j < 100 := by omega
      have K1 : ∀ (h : gH), MS h s → s.1.1 (10 * i + j) = none → Go none RX9 cX9_place 6 (some .int) false 8 29 [some (.ref 147), some (.int (nI i)), some (.int (nI j)), some (.int (nI w)), none, none] [.int (-9)] h 163 0 0 (fun v h' N' => v = some (.int (placeS s.1 (nI i) (nI j) (nI w))) ∧ N' = 163 ∧ MS h' s ∧ Fr 147 163 h h') := by
        intro h hS hq
        have e : placeS s.1 (nI i) (nI j) (nI w) = -9 := by unfold placeS; rw [hrc, hx, toN_nI (by omega), toN_nI (by omega), hq]; rfl
        rw [e]
        refine go_istore (L' := [_, _, _, _, _, _]) dX9_place_29 (by decide) rfl ?_
        refine go_iload dX9_place_31 rfl ?_
        refine go_bipush (v := (-9)) dX9_place_33 (by decide) ?_
        refine go_icmp_eq (tgt := 42) dX9_place_35 (by decide) (fun c_35 => ?_) (fun c_35 => ?_)
        · skip
          refine go_iload dX9_place_42 rfl ?_
          refine go_bipush (v := (-9)) dX9_place_44 (by decide) ?_
          refine go_icmp_ne (tgt := 54) dX9_place_46 (by decide) (fun c_46 => ?_) (fun c_46 => ?_)
          · exact absurd rfl c_46
          · skip
            refine go_bipush (v := (-9)) dX9_place_49 (by decide) ?_
            refine go_goto (tgt := 61) dX9_place_51 (by decide) ?_
            refine go_iret dX9_place_61 rfl ?_
            exact ⟨rfl, rfl, hS, Fr.rf⟩
        · exact absurd rfl c_35
      have K2 : ∀ (h : gH) (p : Nat), MS h s → h 147 = mS s.1 s.2.2.2.1 s.2.1.1 r0 r1 r2 r3 r4 sn rn → h 149 = iA 24 F5 → p < cP s.1.1 100 → s.1.1 (10 * i + j) = some (v' p) → Go none RX9 cX9_place 6 (some .int) false 8 29 [some (.ref 147), some (.int (nI i)), some (.int (nI j)), some (.int (nI w)), none, none] [.int (nI p)] h 163 0 0 (fun v h' N' => v = some (.int (placeS s.1 (nI i) (nI j) (nI w))) ∧ N' = 163 ∧ MS h' s ∧ Fr 147 163 h h') := by
        intro h p hS h7 q5 hp hq
        have hv9 := hw.1.1 _ hcell _ hq
        have hpos := now_pos hw.1 hcell hq
        have hsh := sh_lt (v := v' p) hpos
        have e : placeS s.1 (nI i) (nI j) (nI w) = if w = 0 then nI (v' p) else if w = 1 then nI (shS s.1 (v' p)) else nI (tint (shS s.1 (v' p)) (nowD s.1).1) := by unfold placeS; rw [hrc, hx, toN_nI (by omega), toN_nI (by omega), toN_nI (by omega), hq]; rfl
        rw [e]
        refine go_istore (L' := [_, _, _, _, _, _]) dX9_place_29 (by decide) rfl ?_
        refine go_iload dX9_place_31 rfl ?_
        refine go_bipush (v := (-9)) dX9_place_33 (by decide) ?_
        refine go_icmp_eq (tgt := 42) dX9_place_35 (by decide) (fun c_35 => ?_) (fun c_35 => ?_)
        · exact absurd c_35 (nI_ne_m9 (by omega))
        · skip
          refine go_iload_n dX9_place_38 rfl ?_
          refine go_if_ne (tgt := 62) dX9_place_39 (by decide) (fun c_39 => ?_) (fun c_39 => ?_)
          · skip
            have w0 : ¬ w = 0 := fun z => c_39 (by rw [z]; rfl)
            refine go_aload_n dX9_place_62 rfl ?_
            refine go_iv dX9_place_63 mX9_partsNow iX9_174 (partsS hw.1 hS 3) rfl rfl (by omega) h7 rfl (Nat.le_of_ble_eq_true rfl) (Nat.zero_le _) (Nat.zero_le _) (fun v_63 h_63 n_63 q_63 => ?_)
            obtain ⟨rfl, rfl, hQ, hF1⟩ := q_63
            obtain ⟨q0, q1, q2, q3, q4', k7⟩ := hQ.1
            refine go_aload_n dX9_place_66 rfl ?_
            refine go_aload_n dX9_place_67 rfl ?_
            refine go_get dX9_place_68 fX9_17 (by omega) k7 rfl ?_
            refine go_iload dX9_place_71 rfl ?_
            refine go_iald dX9_place_73 (by omega) ((hF1 _ (by omega) (by omega)).trans q5) rfl (by omega) (by omega) ?_
            refine go_top (y := .int (nI (v' p))) (by rw [(hEw p hp).2]) ?_
            refine go_iv dX9_place_74 mX9_runOf iX9_180 (run_mRunOf 7 hw.1 (by omega) h6 (fun j hj => now_lt hj) hQ) rfl rfl (by omega) k7 rfl (Nat.le_of_ble_eq_true rfl) (Nat.zero_le _) (Nat.zero_le _) (fun v_74 h_74 n_74 q_74 => ?_)
            obtain ⟨rfl, rfl, rfl⟩ := q_74
            refine go_top (y := .int (nI (shS s.1 (v' p)))) rfl ?_
            refine go_istore (L' := [_, _, _, _, _, _]) dX9_place_77 (by decide) rfl ?_
            refine go_iload_n dX9_place_79 rfl ?_
            refine go_iconst (v := nI 1) dX9_place_80 (by decide) ?_
            refine go_icmp_ne (tgt := 89) dX9_place_81 (by decide) (fun c_81 => ?_) (fun c_81 => ?_)
            · skip
              have w1 : ¬ w = 1 := fun z => c_81 (by rw [z])
              refine go_aload_n dX9_place_89 rfl ?_
              refine go_get dX9_place_90 fX9_163 (by omega) k7 rfl ?_
              refine go_iconst (v := nI 1) dX9_place_93 (by decide) ?_
              refine go_icmp_ne (tgt := 103) dX9_place_94 (by decide) (fun c_94 => ?_) (fun c_94 => ?_)
              · skip
                have hr1 : ¬ (nowD s.1).1 = 1 := fun z => c_94 (by rw [z])
                refine go_sipush (v := nI 255) dX9_place_103 (by decide) ?_
                refine go_sipush (v := nI 255) dX9_place_106 (by decide) ?_
                refine go_iload dX9_place_109 rfl ?_
                refine go_imul dX9_place_111 ?_
                refine go_aload_n dX9_place_112 rfl ?_
                refine go_get dX9_place_113 fX9_163 (by omega) k7 rfl ?_
                refine go_iconst (v := nI 1) dX9_place_116 (by decide) ?_
                refine go_isub dX9_place_117 ?_
                refine go_idiv dX9_place_118 (by rw [nI_sub (by omega)]; exact nI_ne0 (by omega) (by omega)) ?_
                refine go_isub dX9_place_119 ?_
                refine go_iret dX9_place_120 rfl ?_
                rw [if_neg w0]
                first | (rw [if_pos w1]; exact ⟨rfl, rfl, hQ.2.2.2, frP hF1⟩) | (rw [if_neg w1, tint_m (by omega) (by omega) hsh]; exact ⟨rfl, rfl, hQ.2.2.2, frP hF1⟩) | (rw [if_neg w1, hr1]; exact ⟨rfl, rfl, hQ.2.2.2, frP hF1⟩)
              · skip
                have hr1 : (nowD s.1).1 = 1 := (nI_eq (by omega) (by omega)).mp (Decidable.not_not.mp c_94)
                refine go_sipush (v := nI 255) dX9_place_97 (by decide) ?_
                refine go_goto (tgt := 120) dX9_place_100 (by decide) ?_
                refine go_iret dX9_place_120 rfl ?_
                rw [if_neg w0]
                first | (rw [if_pos w1]; exact ⟨rfl, rfl, hQ.2.2.2, frP hF1⟩) | (rw [if_neg w1, tint_m (by omega) (by omega) hsh]; exact ⟨rfl, rfl, hQ.2.2.2, frP hF1⟩) | (rw [if_neg w1, hr1]; exact ⟨rfl, rfl, hQ.2.2.2, frP hF1⟩)
            · skip
              have w1 : w = 1 := (nI_eq (b := 1) (by omega) (by omega)).mp (Decidable.not_not.mp c_81)
              refine go_iload dX9_place_84 rfl ?_
              refine go_goto (tgt := 120) dX9_place_86 (by decide) ?_
              refine go_iret dX9_place_120 rfl ?_
              rw [if_neg w0]
              first | (rw [if_pos w1]; exact ⟨rfl, rfl, hQ.2.2.2, frP hF1⟩) | (rw [if_neg w1, tint_m (by omega) (by omega) hsh]; exact ⟨rfl, rfl, hQ.2.2.2, frP hF1⟩) | (rw [if_neg w1, hr1]; exact ⟨rfl, rfl, hQ.2.2.2, frP hF1⟩)
          · skip
            have w0 : w = 0 := (nI_eq (b := 0) (by omega) (by omega)).mp (Decidable.not_not.mp c_39)
            refine go_iload dX9_place_42 rfl ?_
            refine go_bipush (v := (-9)) dX9_place_44 (by decide) ?_
            refine go_icmp_ne (tgt := 54) dX9_place_46 (by decide) (fun c_46 => ?_) (fun c_46 => ?_)
            · skip
              refine go_aload_n dX9_place_54 rfl ?_
              refine go_get dX9_place_55 fX9_17 (by omega) h7 rfl ?_
              refine go_iload dX9_place_58 rfl ?_
              refine go_iald dX9_place_60 (by omega) q5 rfl (by omega) (by omega) ?_
              refine go_iret dX9_place_61 rfl ?_
              rw [if_pos w0, (hEw p hp).2]
              exact ⟨rfl, rfl, hS, Fr.rf⟩
            · exact absurd (nI_ne_m9 (by omega)) c_46
      refine Run.of (ini := false) (L := [_, _, _, _, _, _]) mX9_place (fun h => by cases h) rfl (Nat.le_of_ble_eq_true rfl) rfl ?_
      refine go_iload_n dX9_place_0 rfl ?_
      refine go_iload_n dX9_place_1 rfl ?_
      refine go_is dX9_place_2 mX9_isWhere iX9_129 (run_isWhere 6 (nI i) (nI j)) rfl rfl (Nat.le_of_ble_eq_true rfl) (Nat.zero_le _) (Nat.zero_le _) (fun v_2 h_2 n_2 q_2 => ?_)
      obtain ⟨rfl, rfl, rfl⟩ := q_2
      refine go_if_eq (tgt := 17) dX9_place_5 (by decide) (fun c_5 => ?_) (fun c_5 => ?_)
      · exact absurd (bI_eq.mp c_5) (by rw [hrc]; decide)
      · skip
        refine go_iload_n dX9_place_8 rfl ?_
        refine go_iconst (v := nI 0) dX9_place_9 (by decide) ?_
        refine go_iconst (v := nI 2) dX9_place_10 (by decide) ?_
        refine go_is dX9_place_11 mX9_in iX9_63 (run_in 7 (lo := 0) (hi := 2) (nI w) (by decide) (by decide)) rfl rfl (Nat.le_of_ble_eq_true rfl) (Nat.zero_le _) (Nat.zero_le _) (fun v_11 h_11 n_11 q_11 => ?_)
        obtain ⟨rfl, rfl, rfl⟩ := q_11
        refine go_if_ne (tgt := 19) dX9_place_14 (by decide) (fun c_14 => ?_) (fun c_14 => ?_)
        · skip
          refine go_aload_n dX9_place_19 rfl ?_
          refine go_bipush (v := nI 10) dX9_place_20 (by decide) ?_
          refine go_iload_n dX9_place_22 rfl ?_
          refine go_imul dX9_place_23 ?_
          refine go_iload_n dX9_place_24 rfl ?_
          refine go_iadd dX9_place_25 ?_
          refine go_top (y := .int (nI (10 * i + j))) (by rw [pk_mul, nI_add]) ?_
          refine go_iv dX9_place_26 mX9_placeAt iX9_132 (run_placeAt 7 h7 q4 h24 hE (fun i hi => (hEw i hi).1) hcell) rfl rfl (by omega) h7 rfl (Nat.le_of_ble_eq_true rfl) (Nat.zero_le _) (Nat.zero_le _) (fun v_26 h_26 n_26 q_26 => ?_)
          obtain ⟨hp, rfl, rfl⟩ := q_26
          rcases hp with ⟨rfl, hf⟩ | ⟨p, hp, hpx, rfl, hf⟩
          · exact K1 _ hS hf
          · exact K2 _ p hS h7 q5 hp hf
        · exact absurd (bI_eq.mp (Decidable.not_not.mp c_14)) (by rw [hx]; decide)
set_option maxRecDepth 100000 in
theorem ms_loop {d n : Nat} {h : gH} {v : Nat → Nat} {F5 : Nat → Int32} {a k e s r0 r1 r2 r3 r4 u sn rn : Int32} (h7 : h 147 = mo (nI n) a k e s r0 r1 r2 r3 r4 u sn rn) (h5 : h 149 = iA 24 F5) (hn : n ≤ 24) (hF : ∀ i, i < n → F5 i = nI (v i)) : ∀ (m i : Nat), i + m = n → Go none RX9 cX9_sum 3 (some .int) false d 4 [some (.ref 147), some (.int (nI (sm v 0 i))), some (.int (nI i))] [] h 163 0 0 (fun r h' N' => r = some (.int (nI (sm v 0 n))) ∧ h' = h ∧ N' = 163) := by
  intro m
  induction m with
  | zero =>
    intro i hi
    have e : i = n := by omega
    subst e
    refine go_iload_n dX9_sum_4 rfl ?_
    refine go_aload_n dX9_sum_5 rfl ?_
    refine go_get dX9_sum_6 fX9_60 (by omega) h7 rfl ?_
    refine go_icmp_ge (tgt := 27) dX9_sum_9 (by decide) (fun c_9 => ?_) (fun c_9 => ?_)
    · skip
      refine go_iload_n dX9_sum_27 rfl ?_
      refine go_iret dX9_sum_28 rfl ?_
      exact ⟨rfl, rfl, rfl⟩
    · exact absurd (nI_le (Nat.le_refl _) (by omega)) c_9
  | succ m ih =>
    intro i hi
    refine go_iload_n dX9_sum_4 rfl ?_
    refine go_aload_n dX9_sum_5 rfl ?_
    refine go_get dX9_sum_6 fX9_60 (by omega) h7 rfl ?_
    refine go_icmp_ge (tgt := 27) dX9_sum_9 (by decide) (fun c_9 => ?_) (fun c_9 => ?_)
    · exact absurd c_9 (nI_ge (by omega) (by omega))
    · skip
      refine go_iload_n dX9_sum_12 rfl ?_
      refine go_aload_n dX9_sum_13 rfl ?_
      refine go_get dX9_sum_14 fX9_17 (by omega) h7 rfl ?_
      refine go_iload_n dX9_sum_17 rfl ?_
      refine go_iald dX9_sum_18 (by omega) h5 rfl (by omega) (by omega) ?_
      refine go_top (y := .int (nI (v i))) (by rw [hF i (by omega)]) ?_
      refine go_iadd dX9_sum_19 ?_
      refine go_top (y := .int (nI (sm v 0 (i + 1)))) (by rw [nI_add, sm, Nat.zero_add]) ?_
      refine go_istore_n (L' := [_, _, _]) dX9_sum_20 rfl (by decide) rfl ?_
      refine go_inc (L' := [_, _, _]) dX9_sum_21 rfl (by decide) rfl ?_
      refine go_goto (tgt := 4) dX9_sum_24 (by decide) ?_
      exact ih (i + 1) (by omega)
theorem run_msum (d : Nat) {h : gH} {s : SD} (hw : SW s) (hS : MS h s) : Run d yX9_sum cX9_sum 3 (some .int) [.ref 147] h 163 0 0 (fun r h' N' => r = some (.int (nI (sP s.1.1 100))) ∧ h' = h ∧ N' = 163) := by
  obtain ⟨⟨r0, r1, r2, r3, r4, sn, rn, h7⟩, ⟨F4, F5, F6, q4, q5, q6, ⟨w', v', hE, hEw⟩, ho⟩, -⟩ := id hS
  have e : sP s.1.1 100 = sm v' 0 (cP s.1.1 100) := by rw [← gsum_sP, hE.sum (g := fun v => v)]
  rw [e]
  refine Run.of (ini := false) (L := [_, _, _]) mX9_sum (fun h => by cases h) rfl (Nat.le_of_ble_eq_true rfl) rfl ?_
  refine go_iconst (v := nI 0) dX9_sum_0 (by decide) ?_
  refine go_istore_n (L' := [_, _, _]) dX9_sum_1 rfl (by decide) rfl ?_
  refine go_iconst (v := nI 0) dX9_sum_2 (by decide) ?_
  refine go_istore_n (L' := [_, _, _]) dX9_sum_3 rfl (by decide) rfl ?_
  exact ms_loop h7 q5 hw.1.2.1 (fun i hi => (hEw i hi).2) (cP s.1.1 100) 0 (by omega)
theorem sortS {h : gH} {s : SD} (hw : CW s.1) (hS : MS h s) (d : Nat) : Run d yX9_setSorted cX9_setSorted 7 none [.ref 147] h 163 0 0 (fun v h' N' => v = none ∧ N' = 163 ∧ MS h' s ∧ Ms h' s.1 ∧ (∃ r0 r1 r2 r3 r4 rn, h' 147 = mS s.1 s.2.2.2.1 s.2.1.1 r0 r1 r2 r3 r4 (nI (so s.1.1).1) rn) ∧ Fr 147 163 h h') := by
  obtain ⟨⟨r0, r1, r2, r3, r4, sn, rn, h7⟩, h3, -, -, -, hX⟩ := id hS
  refine (run_setSorted d hw h7 h3 hX).mono ?_
  rintro v h' N' ⟨a, b, c, e, f⟩
  obtain ⟨FS, FW, m1, m2, m3⟩ := id e
  obtain ⟨xa, xb, xc, xd, EO, xf, xg, LE, xy, x1, x2, -, -, x5, x6, x7, x8, x9⟩ := hX
  have hX' : MX h' := ⟨xa, xb, FS, FW, EO, xf, xg, LE, xy, (f _ (by omega) (by omega) (by omega)).trans x1, (f _ (by omega) (by omega) (by omega)).trans x2, m1, m2, (f _ (by omega) (by omega) (by omega)).trans x5, (f _ (by omega) (by omega) (by omega)).trans x6, (f _ (by omega) (by omega) (by omega)).trans x7, (f _ (by omega) (by omega) (by omega)).trans x8, (f _ (by omega) (by omega) (by omega)).trans x9⟩
  exact ⟨a, b, ms_of hS c hX' (fun x q1 q2 => f x q1 (by omega) (by omega)), e, ⟨r0, r1, r2, r3, r4, rn, c⟩, fun x hx => f x (by omega) (by omega) (by omega)⟩
set_option maxRecDepth 100000 in
theorem m_count {h : gH} {s : SD} (hw : SW s) (hS : MS h s) (x : Int32) : Run 8 yX9_count cX9_count 2 (some .int) [.ref 147, .int x] h 163 0 0 (fun v h' N' => v = some (.int (countS s x)) ∧ N' = 163 ∧ MS h' s ∧ Fr 147 163 h h') := by
  obtain ⟨⟨r0, r1, r2, r3, r4, sn, rn, h7⟩, -⟩ := id hS
  cases hr : rI 0 7 x with
  | false =>
    have e : countS s x = -1 := by unfold countS; rw [hr]; rfl
    rw [e]
    refine Run.of (ini := false) (L := [_, _]) mX9_count (fun h => by cases h) rfl (Nat.le_of_ble_eq_true rfl) rfl ?_
    refine go_iload_n dX9_count_0 rfl ?_
    refine go_iconst (v := nI 0) dX9_count_1 (by decide) ?_
    refine go_bipush (v := nI 7) dX9_count_2 (by decide) ?_
    refine go_is dX9_count_4 mX9_in iX9_63 (run_in 7 (lo := 0) (hi := 7) x (by decide) (by decide)) rfl rfl (Nat.le_of_ble_eq_true rfl) (Nat.zero_le _) (Nat.zero_le _) (fun v_4 h_4 n_4 q_4 => ?_)
    obtain ⟨rfl, rfl, rfl⟩ := q_4
    refine go_if_ne (tgt := 12) dX9_count_7 (by decide) (fun c_7 => ?_) (fun c_7 => ?_)
    · exact absurd (bI_ne.mp c_7) (by rw [hr]; decide)
    · skip
      refine go_iconst (v := (-1)) dX9_count_10 (by decide) ?_
      refine go_iret dX9_count_11 rfl ?_
      exact ⟨rfl, rfl, hS, Fr.rf⟩
  | true =>
    obtain ⟨k, -, hk, rfl⟩ := rI_t hr
    have e : countS s (nI k) = countN s k := by unfold countS; rw [hr, toN_nI (by omega)]; rfl
    rw [e]
    have K : ∀ (h : gH), MS h s → Go none RX9 cX9_count 2 (some .int) false 8 12 [some (.ref 147), some (.int (nI k))] [] h 163 0 0 (fun v h' N' => v = some (.int (countN s k)) ∧ N' = 163 ∧ MS h' s ∧ Fr 147 163 h h') := by
      intro h hS
      obtain ⟨⟨r0, r1, r2, r3, r4, sn, rn, h7⟩, -⟩ := id hS
      refine go_iload_n dX9_count_12 rfl ?_
      rcases (show k = 0 ∨ k = 1 ∨ k = 2 ∨ k = 3 ∨ k = 4 ∨ k = 5 ∨ k = 6 ∨ k = 7 by omega) with rfl | rfl | rfl | rfl | rfl | rfl | rfl | rfl
      · refine go_tableIn (tgt := 56) dX9_count_13 (by decide) (by decide) rfl (by decide) ?_
        refine go_aload_n dX9_count_56 rfl ?_
        refine go_get dX9_count_57 fX9_60 (by omega) h7 rfl ?_
        refine go_iret dX9_count_60 rfl ?_
        exact ⟨rfl, rfl, hS, Fr.rf⟩
      · refine go_tableIn (tgt := 61) dX9_count_13 (by decide) (by decide) rfl (by decide) ?_
        refine go_aload_n dX9_count_61 rfl ?_
        refine go_iv dX9_count_62 mX9_setSorted iX9_160 (sortS hw.1 hS 7) rfl rfl (by omega) h7 rfl (Nat.le_of_ble_eq_true rfl) (Nat.zero_le _) (Nat.zero_le _) (fun v_62 h_62 n_62 q_62 => ?_)
        obtain ⟨rfl, rfl, hS1, -, ⟨q0, q1, q2, q3, q4, q5, k7⟩, hF1⟩ := q_62
        refine go_aload_n dX9_count_65 rfl ?_
        refine go_get dX9_count_66 fX9_142 (by omega) k7 rfl ?_
        refine go_iret dX9_count_69 rfl ?_
        exact ⟨rfl, rfl, hS1, hF1⟩
      · refine go_tableIn (tgt := 70) dX9_count_13 (by decide) (by decide) rfl (by decide) ?_
        refine go_aload_n dX9_count_70 rfl ?_
        refine go_get dX9_count_71 fX9_7 (by omega) h7 rfl ?_
        refine go_iret dX9_count_74 rfl ?_
        exact ⟨rfl, rfl, hS, Fr.rf⟩
      · refine go_tableIn (tgt := 75) dX9_count_13 (by decide) (by decide) rfl (by decide) ?_
        refine go_aload_n dX9_count_75 rfl ?_
        refine go_get dX9_count_76 fX9_116 (by omega) h7 rfl ?_
        refine go_iret dX9_count_79 rfl ?_
        exact ⟨rfl, rfl, hS, Fr.rf⟩
      · refine go_tableIn (tgt := 80) dX9_count_13 (by decide) (by decide) rfl (by decide) ?_
        show Go none RX9 cX9_count 2 (some .int) false 8 80 _ _ h 163 0 0 (fun v h' N' => v = some (.int (oI s.1.2.2.1)) ∧ N' = 163 ∧ MS h' s ∧ Fr 147 163 h h')
        unfold mS at h7
        cases hq : s.1.2.2.1 with
        | none =>
          rw [hq] at h7
          refine go_aload_n dX9_count_80 rfl ?_
          refine go_get dX9_count_81 fX9_119 (by omega) h7 rfl ?_
          refine go_if_ne (tgt := 92) dX9_count_84 (by decide) (fun c_84 => ?_) (fun c_84 => ?_)
          · exact absurd rfl c_84
          · skip
            refine go_bipush (v := (-9)) dX9_count_87 (by decide) ?_
            refine go_goto (tgt := 98) dX9_count_89 (by decide) ?_
            refine go_iret dX9_count_98 rfl ?_
            exact ⟨rfl, rfl, hS, Fr.rf⟩
        | some o =>
          have ho5 := hw.1.2.2.1 o hq
          rw [hq] at h7
          refine go_aload_n dX9_count_80 rfl ?_
          refine go_get dX9_count_81 fX9_119 (by omega) h7 rfl ?_
          refine go_if_ne (tgt := 92) dX9_count_84 (by decide) (fun c_84 => ?_) (fun c_84 => ?_)
          · skip
            refine go_aload_n dX9_count_92 rfl ?_
            refine go_get dX9_count_93 fX9_119 (by omega) h7 rfl ?_
            refine go_iconst (v := nI 1) dX9_count_96 (by decide) ?_
            refine go_isub dX9_count_97 ?_
            refine go_top (y := .int (nI o)) (by show Value.int (nI (o + 1) - nI 1) = _; rw [nI_sub (by omega)]; rfl) ?_
            refine go_iret dX9_count_98 rfl ?_
            exact ⟨rfl, rfl, hS, Fr.rf⟩
          · exact absurd (Decidable.not_not.mp c_84) (show ¬ nI (o + 1) = 0 from nI_ne0 (by omega) (by omega))
      · refine go_tableIn (tgt := 99) dX9_count_13 (by decide) (by decide) rfl (by decide) ?_
        refine go_aload_n dX9_count_99 rfl ?_
        refine go_iv dX9_count_100 mX9_sum iX9_210 (run_msum 7 hw hS) rfl rfl (by omega) h7 rfl (Nat.le_of_ble_eq_true rfl) (Nat.zero_le _) (Nat.zero_le _) (fun v_100 h_100 n_100 q_100 => ?_)
        obtain ⟨rfl, rfl, rfl⟩ := q_100
        refine go_iret dX9_count_103 rfl ?_
        exact ⟨rfl, rfl, hS, Fr.rf⟩
      · refine go_tableIn (tgt := 104) dX9_count_13 (by decide) (by decide) rfl (by decide) ?_
        refine go_aload_n dX9_count_104 rfl ?_
        refine go_get dX9_count_105 fX9_122 (by omega) h7 rfl ?_
        refine go_iret dX9_count_108 rfl ?_
        exact ⟨rfl, rfl, hS, Fr.rf⟩
      · refine go_tableOut (tgt := 109) dX9_count_13 (by decide) (by decide) ?_
        refine go_aload_n dX9_count_109 rfl ?_
        refine go_get dX9_count_110 fX9_67 (by omega) h7 rfl ?_
        refine go_iret dX9_count_113 rfl ?_
        exact ⟨rfl, rfl, hS, Fr.rf⟩
    refine Run.of (ini := false) (L := [_, _]) mX9_count (fun h => by cases h) rfl (Nat.le_of_ble_eq_true rfl) rfl ?_
    refine go_iload_n dX9_count_0 rfl ?_
    refine go_iconst (v := nI 0) dX9_count_1 (by decide) ?_
    refine go_bipush (v := nI 7) dX9_count_2 (by decide) ?_
    refine go_is dX9_count_4 mX9_in iX9_63 (run_in 7 (lo := 0) (hi := 7) (nI k) (by decide) (by decide)) rfl rfl (Nat.le_of_ble_eq_true rfl) (Nat.zero_le _) (Nat.zero_le _) (fun v_4 h_4 n_4 q_4 => ?_)
    obtain ⟨rfl, rfl, rfl⟩ := q_4
    refine go_if_ne (tgt := 12) dX9_count_7 (by decide) (fun c_7 => ?_) (fun c_7 => ?_)
    · skip
      exact K _ hS
    · exact absurd (bI_eq.mp (Decidable.not_not.mp c_7)) (by rw [hr]; decide)
