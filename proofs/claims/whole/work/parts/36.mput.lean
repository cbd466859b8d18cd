/-! ===== puts, drops, keep, back: the reference's side ===== -/
set_option maxRecDepth 100000 in
theorem mput_new {h : gH} {s : SD} {i j y : Nat} {w v : Nat → Nat} {F4 F5 F6 : Nat → Int32} {r0 r1 r2 r3 r4 sn rn : Int32} (hw : SW s) (hi : i ≤ 9) (hj : j ≤ 9) (hy : y ≤ 999) (hS : MS h s) (h7 : h 147 = mS s.1 s.2.2.2.1 s.2.1.1 r0 r1 r2 r3 r4 sn rn) (q4 : h 148 = iA 24 F4) (q5 : h 149 = iA 24 F5) (q6 : h 150 = iA 5 F6) (hE : EN s.1.1 (cP s.1.1 100) w v) (hEw : ∀ i, i < cP s.1.1 100 → F4 i = nI (w i) ∧ F5 i = nI (v i)) (ho : ∀ i, i < oK s.1.2.2.1 → F6 i = nI (s.1.2.1 i)) (hf : s.1.1 (10 * i + j) = none) :
    Go none RX9 cX9_puts 6 (some .int) false 8 31 [some (.ref 147), some (.int (nI i)), some (.int (nI j)), some (.int (nI y)), none, none] [.int (-9)] h 163 0 0 (fun v h' N' => v = some (.int (if s.1.1 (10 * i + j) = none ∧ 24 ≤ cP s.1.1 100 then (-3, s) else (nN (s.1.1 (10 * i + j)), chS s (setF s.1.1 (10 * i + j) (some y), s.1.2))).1) ∧ N' = 163 ∧ MS h' (if s.1.1 (10 * i + j) = none ∧ 24 ≤ cP s.1.1 100 then (-3, s) else (nN (s.1.1 (10 * i + j)), chS s (setF s.1.1 (10 * i + j) (some y), s.1.2))).2 ∧ Fr 147 163 h h') := by
  have h24 := hw.1.2.1
  have hn := hE.new (x := 10 * i + j) (y := y) (by omega) hf
  refine go_istore (L' := [_, _, _, _, _, _]) dX9_puts_31 (by decide) rfl ?_
  refine go_iload dX9_puts_33 rfl ?_
  refine go_bipush (v := (-9)) dX9_puts_35 (by decide) ?_
  refine go_icmp_ne (tgt := 52) dX9_puts_37 (by decide) (fun c_37 => ?_) (fun c_37 => ?_)
  · exact absurd rfl c_37
  · skip
    refine go_aload_n dX9_puts_40 rfl ?_
    refine go_get dX9_puts_41 fX9_60 (by omega) h7 rfl ?_
    refine go_bipush (v := nI 24) dX9_puts_44 (by decide) ?_
    refine go_icmp_ne (tgt := 52) dX9_puts_46 (by decide) (fun c_46 => ?_) (fun c_46 => ?_)
    · skip
      have hfree : cP s.1.1 100 ≠ 24 := fun z => c_46 (by rw [z])
      refine go_aload_n dX9_puts_52 rfl ?_
      refine go_iv dX9_puts_53 mX9_notes iX9_136 (run_notes 6 hw hS) rfl rfl (by omega) h7 rfl (Nat.le_of_ble_eq_true rfl) (Nat.zero_le _) (Nat.zero_le _) (fun v_53 h_53 n_53 q_53 => ?_)
      obtain ⟨rfl, rfl, hS1, hF1⟩ := q_53
      obtain ⟨⟨r0', r1', r2', r3', r4', sn', rn', k7⟩, -⟩ := id hS1
      have k7 : h_53 147 = mS s.1 s.2.2.2.1 (pushU s.2.1 s.1).1 r0' r1' r2' r3' r4' sn' rn' := k7
      refine go_bipush (v := (-9)) dX9_puts_56 (by decide) ?_
      refine go_istore (L' := [_, _, _, _, _, _]) dX9_puts_58 (by decide) rfl ?_
      refine go_iload dX9_puts_60 rfl ?_
      refine go_bipush (v := (-9)) dX9_puts_62 (by decide) ?_
      refine go_icmp_ne (tgt := 99) dX9_puts_64 (by decide) (fun c_64 => ?_) (fun c_64 => ?_)
      · exact absurd rfl c_64
      · skip
        refine go_aload_n dX9_puts_67 rfl ?_
        refine go_get dX9_puts_68 fX9_60 (by omega) k7 rfl ?_
        refine go_istore (L' := [_, _, _, _, _, _]) dX9_puts_71 (by decide) rfl ?_
        refine go_aload_n dX9_puts_73 rfl ?_
        refine go_get dX9_puts_74 fX9_13 (by omega) k7 rfl ?_
        refine go_iload dX9_puts_77 rfl ?_
        refine go_bipush (v := nI 10) dX9_puts_79 (by decide) ?_
        refine go_iload_n dX9_puts_81 rfl ?_
        refine go_imul dX9_puts_82 ?_
        refine go_iload_n dX9_puts_83 rfl ?_
        refine go_iadd dX9_puts_84 ?_
        refine go_top (y := .int (nI (10 * i + j))) (by rw [pk_mul, nI_add]) ?_
        refine go_iast dX9_puts_85 (by omega) ((hF1 _ (by omega) (by omega)).trans q4) rfl (by omega) (by omega) ?_
        refine go_aload_n dX9_puts_86 rfl ?_
        refine go_dup dX9_puts_87 rfl ?_
        refine go_get dX9_puts_88 fX9_60 (by omega) ((hset_ne (by omega)).trans k7) rfl ?_
        refine go_iconst (v := nI 1) dX9_puts_91 (by decide) ?_
        refine go_iadd dX9_puts_92 ?_
        refine go_top (y := .int (nI (cP s.1.1 100 + 1))) (by rw [nI_add]) ?_
        refine go_put (fs' := [_, _, _, _, _, _, _, _, _, _, _, _, _, _, _, _, _, _, _, _, _, _, _, _, _, _, _, _]) dX9_puts_93 fX9_60 (by omega) ((hset_ne (by omega)).trans k7) (Nat.le_of_ble_eq_true rfl) (Or.inl rfl) ⟨_, _, _, rfl, Or.inl rfl⟩ rfl ?_
        refine go_goto (tgt := 108) dX9_puts_96 (by decide) ?_
        refine go_aload_n dX9_puts_108 rfl ?_
        refine go_get dX9_puts_109 fX9_17 (by omega) hset_same rfl ?_
        refine go_iload dX9_puts_112 rfl ?_
        refine go_iload_n dX9_puts_114 rfl ?_
        refine go_iast dX9_puts_115 (by omega) ((hset_ne (by omega)).trans ((hset_ne (by omega)).trans ((hF1 _ (by omega) (by omega)).trans q5))) rfl (by omega) (by omega) ?_
        refine go_iload dX9_puts_116 rfl ?_
        refine go_iret dX9_puts_118 rfl ?_
        rw [if_neg (by omega), hf]
        refine ⟨rfl, rfl, hS1.chart (r0 := r0') (r1 := r1') (r2 := r2') (r3 := r3') (r4 := r4') (sn := sn') (rn := rn') ?_ ⟨_, _, F6, (hset_ne (by omega)).trans ((hset_ne (by omega)).trans hset_same), hset_same, (hset_ne (by omega)).trans ((hset_ne (by omega)).trans ((hset_ne (by omega)).trans ((hF1 _ (by omega) (by omega)).trans q6))), ⟨_, _, by rw [show (setF s.1.1 (10 * i + j) (some y), s.1.2).1 = setF s.1.1 (10 * i + j) (some y) from rfl, hn.cnt]; exact hn, fun z hz => ?_⟩, ho⟩ (fun x hx => by rw [hset_ne (by omega), hset_ne (by omega), hset_ne (by omega)]), fr_of hF1 (((Fr.rf.set (by omega) (by omega)).set (by omega) (by omega)).set (by omega) (by omega))⟩
        · rw [hset_ne (by omega), hset_same]
          show mo _ _ _ _ _ _ _ _ _ _ _ _ _ = mo (nI (cP (setF s.1.1 (10 * i + j) (some y)) 100)) _ _ _ _ _ _ _ _ _ _ _ _
          rw [hn.cnt]
        · have hz : z < cP (setF s.1.1 (10 * i + j) (some y)) 100 := hz
          rw [hn.cnt] at hz
          by_cases e : z = cP s.1.1 100
          · rw [e]; simp only [if_true]; exact ⟨pk_us .., pk_us ..⟩
          · simp only [if_neg e]; rw [pk_un e, pk_un e]; exact hEw z (by omega)
    · skip
      have hfull : cP s.1.1 100 = 24 := (nI_eq (by omega) (by decide)).mp (Decidable.not_not.mp c_46)
      refine go_bipush (v := (-3)) dX9_puts_49 (by decide) ?_
      refine go_iret dX9_puts_51 rfl ?_
      rw [if_pos ⟨hf, by omega⟩]
      exact ⟨rfl, rfl, hS, Fr.rf⟩
set_option maxRecDepth 100000 in
theorem mput_old {h : gH} {s : SD} {i j y p : Nat} {w v : Nat → Nat} {F4 F5 F6 : Nat → Int32} {r0 r1 r2 r3 r4 sn rn : Int32} (hw : SW s) (hi : i ≤ 9) (hj : j ≤ 9) (hy : y ≤ 999) (hS : MS h s) (h7 : h 147 = mS s.1 s.2.2.2.1 s.2.1.1 r0 r1 r2 r3 r4 sn rn) (q4 : h 148 = iA 24 F4) (q5 : h 149 = iA 24 F5) (q6 : h 150 = iA 5 F6) (hE : EN s.1.1 (cP s.1.1 100) w v) (hEw : ∀ i, i < cP s.1.1 100 → F4 i = nI (w i) ∧ F5 i = nI (v i)) (ho : ∀ i, i < oK s.1.2.2.1 → F6 i = nI (s.1.2.1 i)) (hp : p < cP s.1.1 100) (hpx : w p = 10 * i + j) (hf : s.1.1 (10 * i + j) = some (v p)) :
    Go none RX9 cX9_puts 6 (some .int) false 8 31 [some (.ref 147), some (.int (nI i)), some (.int (nI j)), some (.int (nI y)), none, none] [.int (nI p)] h 163 0 0 (fun v h' N' => v = some (.int (if s.1.1 (10 * i + j) = none ∧ 24 ≤ cP s.1.1 100 then (-3, s) else (nN (s.1.1 (10 * i + j)), chS s (setF s.1.1 (10 * i + j) (some y), s.1.2))).1) ∧ N' = 163 ∧ MS h' (if s.1.1 (10 * i + j) = none ∧ 24 ≤ cP s.1.1 100 then (-3, s) else (nN (s.1.1 (10 * i + j)), chS s (setF s.1.1 (10 * i + j) (some y), s.1.2))).2 ∧ Fr 147 163 h h') := by
  have h24 := hw.1.2.1
  have hn := hE.put (y := y) hp
  rw [hpx] at hn
  refine go_istore (L' := [_, _, _, _, _, _]) dX9_puts_31 (by decide) rfl ?_
  refine go_iload dX9_puts_33 rfl ?_
  refine go_bipush (v := (-9)) dX9_puts_35 (by decide) ?_
  refine go_icmp_ne (tgt := 52) dX9_puts_37 (by decide) (fun c_37 => ?_) (fun c_37 => ?_)
  · skip
    refine go_aload_n dX9_puts_52 rfl ?_
    refine go_iv dX9_puts_53 mX9_notes iX9_136 (run_notes 6 hw hS) rfl rfl (by omega) h7 rfl (Nat.le_of_ble_eq_true rfl) (Nat.zero_le _) (Nat.zero_le _) (fun v_53 h_53 n_53 q_53 => ?_)
    obtain ⟨rfl, rfl, hS1, hF1⟩ := q_53
    obtain ⟨⟨r0', r1', r2', r3', r4', sn', rn', k7⟩, -⟩ := id hS1
    have k7 : h_53 147 = mS s.1 s.2.2.2.1 (pushU s.2.1 s.1).1 r0' r1' r2' r3' r4' sn' rn' := k7
    refine go_bipush (v := (-9)) dX9_puts_56 (by decide) ?_
    refine go_istore (L' := [_, _, _, _, _, _]) dX9_puts_58 (by decide) rfl ?_
    refine go_iload dX9_puts_60 rfl ?_
    refine go_bipush (v := (-9)) dX9_puts_62 (by decide) ?_
    refine go_icmp_ne (tgt := 99) dX9_puts_64 (by decide) (fun c_64 => ?_) (fun c_64 => ?_)
    · skip
      refine go_aload_n dX9_puts_99 rfl ?_
      refine go_get dX9_puts_100 fX9_17 (by omega) k7 rfl ?_
      refine go_iload dX9_puts_103 rfl ?_
      refine go_iald dX9_puts_105 (by omega) ((hF1 _ (by omega) (by omega)).trans q5) rfl (by omega) (by omega) ?_
      refine go_top (y := .int (nI (v p))) (by rw [(hEw p hp).2]) ?_
      refine go_istore (L' := [_, _, _, _, _, _]) dX9_puts_106 (by decide) rfl ?_
      refine go_aload_n dX9_puts_108 rfl ?_
      refine go_get dX9_puts_109 fX9_17 (by omega) k7 rfl ?_
      refine go_iload dX9_puts_112 rfl ?_
      refine go_iload_n dX9_puts_114 rfl ?_
      refine go_iast dX9_puts_115 (by omega) ((hF1 _ (by omega) (by omega)).trans q5) rfl (by omega) (by omega) ?_
      refine go_iload dX9_puts_116 rfl ?_
      refine go_iret dX9_puts_118 rfl ?_
      rw [if_neg (by rw [hf]; simp), hf]
      refine ⟨rfl, rfl, hS1.chart (r0 := r0') (r1 := r1') (r2 := r2') (r3 := r3') (r4 := r4') (sn := sn') (rn := rn') ?_ ⟨F4, _, F6, (hset_ne (by omega)).trans ((hF1 _ (by omega) (by omega)).trans q4), hset_same, (hset_ne (by omega)).trans ((hF1 _ (by omega) (by omega)).trans q6), ⟨_, _, by rw [show (setF s.1.1 (10 * i + j) (some y), s.1.2).1 = setF s.1.1 (10 * i + j) (some y) from rfl, hn.cnt]; exact hn, fun z hz => ?_⟩, ho⟩ (fun x hx => by rw [hset_ne (by omega)]), fr_of hF1 (Fr.rf.set (by omega) (by omega))⟩
      · rw [hset_ne (by omega), k7]
        show mo (nI (cP s.1.1 100)) _ _ _ _ _ _ _ _ _ _ _ _ = mo (nI (cP (setF s.1.1 (10 * i + j) (some y)) 100)) _ _ _ _ _ _ _ _ _ _ _ _
        rw [hn.cnt]
      · have hz : z < cP (setF s.1.1 (10 * i + j) (some y)) 100 := hz
        rw [hn.cnt] at hz
        by_cases e : z = p
        · subst e; simp only [if_true]; exact ⟨(hEw z hp).1, pk_us ..⟩
        · simp only [if_neg e]; rw [pk_un e]; exact hEw z hz
    · exact absurd (nI_ne_m9 (by omega)) c_64
  · exact absurd (nI_ne_m9 (by omega)) c_37
set_option maxRecDepth 100000 in
theorem m_puts {h : gH} {s : SD} (hw : SW s) (hS : MS h s) (r c x : Int32) : Run 8 yX9_puts cX9_puts 6 (some .int) [.ref 147, .int r, .int c, .int x] h 163 0 0 (fun v h' N' => v = some (.int (putsS s r c x).1) ∧ N' = 163 ∧ MS h' (putsS s r c x).2 ∧ Fr 147 163 h h') := by
  obtain ⟨⟨r0, r1, r2, r3, r4, sn, rn, h7⟩, ⟨F4, F5, F6, q4, q5, q6, ⟨w, v, hE, hEw⟩, ho⟩, -⟩ := id hS
  have h24 := hw.1.2.1
  cases hrc : (rI 0 9 r && rI 0 9 c) with
  | false =>
    have e : putsS s r c x = (-1, s) := by unfold putsS; rw [hrc]; rfl
    rw [e]
    refine Run.of (ini := false) (L := [_, _, _, _, _, _]) mX9_puts (fun h => by cases h) rfl (Nat.le_of_ble_eq_true rfl) rfl ?_
    refine go_iload_n dX9_puts_0 rfl ?_
    refine go_iload_n dX9_puts_1 rfl ?_
    refine go_is dX9_puts_2 mX9_isWhere iX9_129 (run_isWhere 6 r c) rfl rfl (Nat.le_of_ble_eq_true rfl) (Nat.zero_le _) (Nat.zero_le _) (fun v_2 h_2 n_2 q_2 => ?_)
    obtain ⟨rfl, rfl, rfl⟩ := q_2
    refine go_if_eq (tgt := 19) dX9_puts_5 (by decide) (fun c_5 => ?_) (fun c_5 => ?_)
    · skip
      refine go_iconst (v := (-1)) dX9_puts_19 (by decide) ?_
      refine go_iret dX9_puts_20 rfl ?_
      exact ⟨rfl, rfl, hS, Fr.rf⟩
    · exact absurd (bI_eq.mpr hrc) c_5
  | true =>
    obtain ⟨i, j, hi, hj, rfl, rfl, -⟩ := cellI_yes hrc
    cases hx : rI 0 999 x with
    | false =>
      have e : putsS s (nI i) (nI j) x = (-1, s) := by unfold putsS; rw [hrc, hx]; rfl
      rw [e]
      refine Run.of (ini := false) (L := [_, _, _, _, _, _]) mX9_puts (fun h => by cases h) rfl (Nat.le_of_ble_eq_true rfl) rfl ?_
      refine go_iload_n dX9_puts_0 rfl ?_
      refine go_iload_n dX9_puts_1 rfl ?_
      refine go_is dX9_puts_2 mX9_isWhere iX9_129 (run_isWhere 6 (nI i) (nI j)) rfl rfl (Nat.le_of_ble_eq_true rfl) (Nat.zero_le _) (Nat.zero_le _) (fun v_2 h_2 n_2 q_2 => ?_)
      obtain ⟨rfl, rfl, rfl⟩ := q_2
      refine go_if_eq (tgt := 19) dX9_puts_5 (by decide) (fun c_5 => ?_) (fun c_5 => ?_)
      · exact absurd (bI_eq.mp c_5) (by rw [hrc]; decide)
      · skip
        refine go_iload_n dX9_puts_8 rfl ?_
        refine go_iconst (v := nI 0) dX9_puts_9 (by decide) ?_
        refine go_sipush (v := nI 999) dX9_puts_10 (by decide) ?_
        refine go_is dX9_puts_13 mX9_in iX9_63 (run_in 7 (lo := 0) (hi := 999) x (by decide) (by decide)) rfl rfl (Nat.le_of_ble_eq_true rfl) (Nat.zero_le _) (Nat.zero_le _) (fun v_13 h_13 n_13 q_13 => ?_)
        obtain ⟨rfl, rfl, rfl⟩ := q_13
        refine go_if_ne (tgt := 21) dX9_puts_16 (by decide) (fun c_16 => ?_) (fun c_16 => ?_)
        · exact absurd (bI_ne.mp c_16) (by rw [hx]; decide)
        · skip
          refine go_iconst (v := (-1)) dX9_puts_19 (by decide) ?_
          refine go_iret dX9_puts_20 rfl ?_
          exact ⟨rfl, rfl, hS, Fr.rf⟩
    | true =>
      obtain ⟨y, -, hy, rfl⟩ := rI_t hx
      have e : putsS s (nI i) (nI j) (nI y) = if s.1.1 (10 * i + j) = none ∧ 24 ≤ cP s.1.1 100 then (-3, s) else (nN (s.1.1 (10 * i + j)), chS s (setF s.1.1 (10 * i + j) (some y), s.1.2)) := by
        unfold putsS
        rw [hrc, hx, toN_nI (by omega), toN_nI (by omega), toN_nI (by omega)]
        rfl
      rw [e]
      have hcell : 10 * i + j < 100 := by omega
      refine Run.of (ini := false) (L := [_, _, _, _, _, _]) mX9_puts (fun h => by cases h) rfl (Nat.le_of_ble_eq_true rfl) rfl ?_
      refine go_iload_n dX9_puts_0 rfl ?_
      refine go_iload_n dX9_puts_1 rfl ?_
      refine go_is dX9_puts_2 mX9_isWhere iX9_129 (run_isWhere 6 (nI i) (nI j)) rfl rfl (Nat.le_of_ble_eq_true rfl) (Nat.zero_le _) (Nat.zero_le _) (fun v_2 h_2 n_2 q_2 => ?_)
      obtain ⟨rfl, rfl, rfl⟩ := q_2
      refine go_if_eq (tgt := 19) dX9_puts_5 (by decide) (fun c_5 => ?_) (fun c_5 => ?_)
      · exact absurd (bI_eq.mp c_5) (by rw [hrc]; decide)
      · skip
        refine go_iload_n dX9_puts_8 rfl ?_
        refine go_iconst (v := nI 0) dX9_puts_9 (by decide) ?_
        refine go_sipush (v := nI 999) dX9_puts_10 (by decide) ?_
        refine go_is dX9_puts_13 mX9_in iX9_63 (run_in 7 (lo := 0) (hi := 999) (nI y) (by decide) (by decide)) rfl rfl (Nat.le_of_ble_eq_true rfl) (Nat.zero_le _) (Nat.zero_le _) (fun v_13 h_13 n_13 q_13 => ?_)
        obtain ⟨rfl, rfl, rfl⟩ := q_13
        refine go_if_ne (tgt := 21) dX9_puts_16 (by decide) (fun c_16 => ?_) (fun c_16 => ?_)
        · skip
          refine go_aload_n dX9_puts_21 rfl ?_
          refine go_bipush (v := nI 10) dX9_puts_22 (by decide) ?_
          refine go_iload_n dX9_puts_24 rfl ?_
          refine go_imul dX9_puts_25 ?_
          refine go_iload_n dX9_puts_26 rfl ?_
          refine go_iadd dX9_puts_27 ?_
          refine go_top (y := .int (nI (10 * i + j))) (by rw [pk_mul, nI_add]) ?_
          refine go_iv dX9_puts_28 mX9_placeAt iX9_132 (run_placeAt 7 h7 q4 h24 hE (fun i hi => (hEw i hi).1) hcell) rfl rfl (by omega) h7 rfl (Nat.le_of_ble_eq_true rfl) (Nat.zero_le _) (Nat.zero_le _) (fun v_28 h_28 n_28 q_28 => ?_)
          obtain ⟨hp, rfl, rfl⟩ := q_28
          rcases hp with ⟨rfl, hf⟩ | ⟨p, hp, hpx, rfl, hf⟩
          · exact mput_new hw hi hj hy hS h7 q4 q5 q6 hE hEw ho hf
          · exact mput_old hw hi hj hy hS h7 q4 q5 q6 hE hEw ho hp hpx hf
        · exact absurd (bI_eq.mp (Decidable.not_not.mp c_16)) (by rw [hx]; decide)
set_option maxRecDepth 100000 in
theorem m_drops {h : gH} {s : SD} (hw : SW s) (hS : MS h s) (r c : Int32) : Run 8 yX9_drops cX9_drops 5 (some .int) [.ref 147, .int r, .int c] h 163 0 0 (fun v h' N' => v = some (.int (dropsS s r c).1) ∧ N' = 163 ∧ MS h' (dropsS s r c).2 ∧ Fr 147 163 h h') := by
  obtain ⟨⟨r0, r1, r2, r3, r4, sn, rn, h7⟩, ⟨F4, F5, F6, q4, q5, q6, ⟨w, v, hE, hEw⟩, ho⟩, -⟩ := id hS
  have h24 := hw.1.2.1
  cases hrc : (rI 0 9 r && rI 0 9 c) with
  | false =>
    have e : dropsS s r c = (-1, s) := by unfold dropsS; rw [hrc]; rfl
    rw [e]
    refine Run.of (ini := false) (L := [_, _, _, _, _]) mX9_drops (fun h => by cases h) rfl (Nat.le_of_ble_eq_true rfl) rfl ?_
    refine go_iload_n dX9_drops_0 rfl ?_
    refine go_iload_n dX9_drops_1 rfl ?_
    refine go_is dX9_drops_2 mX9_isWhere iX9_129 (run_isWhere 6 r c) rfl rfl (Nat.le_of_ble_eq_true rfl) (Nat.zero_le _) (Nat.zero_le _) (fun v_2 h_2 n_2 q_2 => ?_)
    obtain ⟨rfl, rfl, rfl⟩ := q_2
    refine go_if_ne (tgt := 10) dX9_drops_5 (by decide) (fun c_5 => ?_) (fun c_5 => ?_)
    · exact absurd (bI_ne.mp c_5) (by rw [hrc]; decide)
    · skip
      refine go_iconst (v := (-1)) dX9_drops_8 (by decide) ?_
      refine go_iret dX9_drops_9 rfl ?_
      exact ⟨rfl, rfl, hS, Fr.rf⟩
  | true =>
    obtain ⟨i, j, hi, hj, rfl, rfl, -⟩ := cellI_yes hrc
    have e : dropsS s (nI i) (nI j) = if s.1.1 (10 * i + j) = none then (-2, s) else (nN (s.1.1 (10 * i + j)), chS s (setF s.1.1 (10 * i + j) none, s.1.2)) := by
      unfold dropsS
      rw [hrc, toN_nI (by omega), toN_nI (by omega)]
      rfl
    rw [e]
    have hcell : 10 * i + j < 100 := by omega
    have KK : ∀ (h : gH) (p : Nat), MS h s → h 147 = mS s.1 s.2.2.2.1 s.2.1.1 r0 r1 r2 r3 r4 sn rn → h 148 = iA 24 F4 → h 149 = iA 24 F5 → h 150 = iA 5 F6 → p < cP s.1.1 100 → w p = 10 * i + j → s.1.1 (10 * i + j) = some (v p) → Go none RX9 cX9_drops 5 (some .int) false 8 30 [some (.ref 147), some (.int (nI i)), some (.int (nI j)), some (.int (nI p)), none] [] h 163 0 0 (fun v h' N' => v = some (.int (nN (s.1.1 (10 * i + j)))) ∧ N' = 163 ∧ MS h' (chS s (setF s.1.1 (10 * i + j) none, s.1.2)) ∧ Fr 147 163 h h') := by
      intro h p hS h7 q4 q5 q6 hp hpx hf
      obtain ⟨n, hcn⟩ : ∃ n, cP s.1.1 100 = n + 1 := ⟨cP s.1.1 100 - 1, by omega⟩
      rw [hcn] at hE hEw hp
      have hn := hE.drop hp
      rw [hpx] at hn
      refine go_aload_n dX9_drops_30 rfl ?_
      refine go_iv dX9_drops_31 mX9_notes iX9_136 (run_notes 6 hw hS) rfl rfl (by omega) h7 rfl (Nat.le_of_ble_eq_true rfl) (Nat.zero_le _) (Nat.zero_le _) (fun v_31 h_31 n_31 q_31 => ?_)
      obtain ⟨rfl, rfl, hS1, hF1⟩ := q_31
      obtain ⟨⟨r0', r1', r2', r3', r4', sn', rn', k7⟩, -⟩ := id hS1
      have k7 : h_31 147 = mo (nI (n + 1)) (nI s.1.2.2.2.1) (nI s.1.2.2.2.2) (dI s.1.2.2.1) (nI s.2.2.2.1) r0' r1' r2' r3' r4' (nI (pushU s.2.1 s.1).1) sn' rn' := by rw [← hcn]; exact k7
      refine go_aload_n dX9_drops_34 rfl ?_
      refine go_get dX9_drops_35 fX9_17 (by omega) k7 rfl ?_
      refine go_iload_n dX9_drops_38 rfl ?_
      refine go_iald dX9_drops_39 (by omega) ((hF1 _ (by omega) (by omega)).trans q5) rfl (by omega) (by omega) ?_
      refine go_top (y := .int (nI (v p))) (by rw [(hEw p hp).2]) ?_
      refine go_istore (L' := [_, _, _, _, _]) dX9_drops_40 (by decide) rfl ?_
      refine go_aload_n dX9_drops_42 rfl ?_
      refine go_dup dX9_drops_43 rfl ?_
      refine go_get dX9_drops_44 fX9_60 (by omega) k7 rfl ?_
      refine go_iconst (v := nI 1) dX9_drops_47 (by decide) ?_
      refine go_isub dX9_drops_48 ?_
      refine go_top (y := .int (nI n)) (by rw [← nI_add]; simp) ?_
      refine go_put (fs' := [_, _, _, _, _, _, _, _, _, _, _, _, _, _, _, _, _, _, _, _, _, _, _, _, _, _, _, _]) dX9_drops_49 fX9_60 (by omega) k7 (Nat.le_of_ble_eq_true rfl) (Or.inl rfl) ⟨_, _, _, rfl, Or.inl rfl⟩ rfl ?_
      refine go_aload_n dX9_drops_52 rfl ?_
      refine go_get dX9_drops_53 fX9_13 (by omega) hset_same rfl ?_
      refine go_iload_n dX9_drops_56 rfl ?_
      refine go_aload_n dX9_drops_57 rfl ?_
      refine go_get dX9_drops_58 fX9_13 (by omega) hset_same rfl ?_
      refine go_aload_n dX9_drops_61 rfl ?_
      refine go_get dX9_drops_62 fX9_60 (by omega) hset_same rfl ?_
      refine go_iald dX9_drops_65 (by omega) ((hset_ne (by omega)).trans ((hF1 _ (by omega) (by omega)).trans q4)) rfl (by omega) (by omega) ?_
      refine go_top (y := .int (nI (w n))) (by rw [(hEw n (by omega)).1]) ?_
      refine go_iast dX9_drops_66 (by omega) ((hset_ne (by omega)).trans ((hF1 _ (by omega) (by omega)).trans q4)) rfl (by omega) (by omega) ?_
      refine go_aload_n dX9_drops_67 rfl ?_
      refine go_get dX9_drops_68 fX9_17 (by omega) ((hset_ne (by omega)).trans hset_same) rfl ?_
      refine go_iload_n dX9_drops_71 rfl ?_
      refine go_aload_n dX9_drops_72 rfl ?_
      refine go_get dX9_drops_73 fX9_17 (by omega) ((hset_ne (by omega)).trans hset_same) rfl ?_
      refine go_aload_n dX9_drops_76 rfl ?_
      refine go_get dX9_drops_77 fX9_60 (by omega) ((hset_ne (by omega)).trans hset_same) rfl ?_
      refine go_iald dX9_drops_80 (by omega) ((hset_ne (by omega)).trans ((hset_ne (by omega)).trans ((hF1 _ (by omega) (by omega)).trans q5))) rfl (by omega) (by omega) ?_
      refine go_top (y := .int (nI (v n))) (by rw [(hEw n (by omega)).2]) ?_
      refine go_iast dX9_drops_81 (by omega) ((hset_ne (by omega)).trans ((hset_ne (by omega)).trans ((hF1 _ (by omega) (by omega)).trans q5))) rfl (by omega) (by omega) ?_
      refine go_iload dX9_drops_82 rfl ?_
      refine go_iret dX9_drops_84 rfl ?_
      rw [hf]
      refine ⟨rfl, rfl, hS1.chart (r0 := r0') (r1 := r1') (r2 := r2') (r3 := r3') (r4 := r4') (sn := sn') (rn := rn') ?_ ⟨_, _, F6, (hset_ne (by omega)).trans hset_same, hset_same, (hset_ne (by omega)).trans ((hset_ne (by omega)).trans ((hset_ne (by omega)).trans ((hF1 _ (by omega) (by omega)).trans q6))), ⟨_, _, by rw [show (setF s.1.1 (10 * i + j) none, s.1.2).1 = setF s.1.1 (10 * i + j) none from rfl, hn.cnt]; exact hn, fun z hz => ?_⟩, ho⟩ (fun x hx => by rw [hset_ne (by omega), hset_ne (by omega), hset_ne (by omega)]), fr_of hF1 (((Fr.rf.set (by omega) (by omega)).set (by omega) (by omega)).set (by omega) (by omega))⟩
      · rw [hset_ne (by omega), hset_ne (by omega), hset_same]
        show mo _ _ _ _ _ _ _ _ _ _ _ _ _ = mo (nI (cP (setF s.1.1 (10 * i + j) none) 100)) _ _ _ _ _ _ _ _ _ _ _ _
        rw [hn.cnt]
      · have hz : z < cP (setF s.1.1 (10 * i + j) none) 100 := hz
        rw [hn.cnt] at hz
        by_cases e : z = p
        · subst e; simp only [if_true]; exact ⟨pk_us .., pk_us ..⟩
        · simp only [if_neg e]; rw [pk_un e, pk_un e]; exact hEw z (by omega)
    refine Run.of (ini := false) (L := [_, _, _, _, _]) mX9_drops (fun h => by cases h) rfl (Nat.le_of_ble_eq_true rfl) rfl ?_
    refine go_iload_n dX9_drops_0 rfl ?_
    refine go_iload_n dX9_drops_1 rfl ?_
    refine go_is dX9_drops_2 mX9_isWhere iX9_129 (run_isWhere 6 (nI i) (nI j)) rfl rfl (Nat.le_of_ble_eq_true rfl) (Nat.zero_le _) (Nat.zero_le _) (fun v_2 h_2 n_2 q_2 => ?_)
    obtain ⟨rfl, rfl, rfl⟩ := q_2
    refine go_if_ne (tgt := 10) dX9_drops_5 (by decide) (fun c_5 => ?_) (fun c_5 => ?_)
    · skip
      refine go_aload_n dX9_drops_10 rfl ?_
      refine go_bipush (v := nI 10) dX9_drops_11 (by decide) ?_
      refine go_iload_n dX9_drops_13 rfl ?_
      refine go_imul dX9_drops_14 ?_
      refine go_iload_n dX9_drops_15 rfl ?_
      refine go_iadd dX9_drops_16 ?_
      refine go_top (y := .int (nI (10 * i + j))) (by rw [pk_mul, nI_add]) ?_
      refine go_iv dX9_drops_17 mX9_placeAt iX9_132 (run_placeAt 7 h7 q4 h24 hE (fun i hi => (hEw i hi).1) hcell) rfl rfl (by omega) h7 rfl (Nat.le_of_ble_eq_true rfl) (Nat.zero_le _) (Nat.zero_le _) (fun v_17 h_17 n_17 q_17 => ?_)
      obtain ⟨hp, rfl, rfl⟩ := q_17
      rcases hp with ⟨rfl, hf⟩ | ⟨p, hp, hpx, rfl, hf⟩
      · rw [if_pos hf]
        refine go_istore_n (L' := [_, _, _, _, _]) dX9_drops_20 rfl (by decide) rfl ?_
        refine go_iload_n dX9_drops_21 rfl ?_
        refine go_bipush (v := (-9)) dX9_drops_22 (by decide) ?_
        refine go_icmp_ne (tgt := 30) dX9_drops_24 (by decide) (fun c_24 => ?_) (fun c_24 => ?_)
        · exact absurd rfl c_24
        · refine go_bipush (v := (-2)) dX9_drops_27 (by decide) ?_
          exact go_iret dX9_drops_29 rfl ⟨rfl, rfl, hS, Fr.rf⟩
      · rw [if_neg (by rw [hf]; simp)]
        refine go_istore_n (L' := [_, _, _, _, _]) dX9_drops_20 rfl (by decide) rfl ?_
        refine go_iload_n dX9_drops_21 rfl ?_
        refine go_bipush (v := (-9)) dX9_drops_22 (by decide) ?_
        refine go_icmp_ne (tgt := 30) dX9_drops_24 (by decide) (fun c_24 => ?_) (fun c_24 => ?_)
        · exact KK _ p hS h7 q4 q5 q6 hp hpx hf
        · exact absurd (nI_ne_m9 (by omega)) c_24
    · exact absurd (bI_eq.mp (Decidable.not_not.mp c_5)) (by rw [hrc]; decide)
set_option maxRecDepth 100000 in
theorem m_keep {h : gH} {s : SD} (hw : SW s) (hS : MS h s) (x : Int32) : Run 8 yX9_keep cX9_keep 2 (some .int) [.ref 147, .int x] h 163 0 0 (fun v h' N' => v = some (.int (keepS s x).1) ∧ N' = 163 ∧ MS h' (keepS s x).2 ∧ Fr 147 163 h h') := by
  obtain ⟨⟨r0, r1, r2, r3, r4, sn, rn, h7⟩, h3, hT, hU, ⟨G, g0, g1⟩, hX⟩ := id hS
  cases hr : rI 0 1 x with
  | false =>
    have e : keepS s x = (-1, s) := by unfold keepS; rw [hr]; rfl
    rw [e]
    refine Run.of (ini := false) (L := [_, _]) mX9_keep (fun h => by cases h) rfl (Nat.le_of_ble_eq_true rfl) rfl ?_
    refine go_iload_n dX9_keep_0 rfl ?_
    refine go_iconst (v := nI 0) dX9_keep_1 (by decide) ?_
    refine go_iconst (v := nI 1) dX9_keep_2 (by decide) ?_
    refine go_is dX9_keep_3 mX9_in iX9_63 (run_in 7 (lo := 0) (hi := 1) x (by decide) (by decide)) rfl rfl (Nat.le_of_ble_eq_true rfl) (Nat.zero_le _) (Nat.zero_le _) (fun v_3 h_3 n_3 q_3 => ?_)
    obtain ⟨rfl, rfl, rfl⟩ := q_3
    refine go_if_ne (tgt := 11) dX9_keep_6 (by decide) (fun c_6 => ?_) (fun c_6 => ?_)
    · exact absurd (bI_ne.mp c_6) (by rw [hr]; decide)
    · skip
      refine go_iconst (v := (-1)) dX9_keep_9 (by decide) ?_
      refine go_iret dX9_keep_10 rfl ?_
      exact ⟨rfl, rfl, hS, Fr.rf⟩
  | true =>
    obtain ⟨k, -, hk, rfl⟩ := rI_t hr
    have e : keepS s (nI k) = (nI (cP s.1.1 100), (s.1, s.2.1, (fun i => if i = k then s.1 else s.2.2.1.1 i, fun i => if i = k then true else s.2.2.1.2 i), s.2.2.2)) := by
      unfold keepS
      rw [hr, toN_nI (by omega)]
      rfl
    rw [e]
    refine Run.of (ini := false) (L := [_, _]) mX9_keep (fun h => by cases h) rfl (Nat.le_of_ble_eq_true rfl) rfl ?_
    refine go_iload_n dX9_keep_0 rfl ?_
    refine go_iconst (v := nI 0) dX9_keep_1 (by decide) ?_
    refine go_iconst (v := nI 1) dX9_keep_2 (by decide) ?_
    refine go_is dX9_keep_3 mX9_in iX9_63 (run_in 7 (lo := 0) (hi := 1) (nI k) (by decide) (by decide)) rfl rfl (Nat.le_of_ble_eq_true rfl) (Nat.zero_le _) (Nat.zero_le _) (fun v_3 h_3 n_3 q_3 => ?_)
    obtain ⟨rfl, rfl, rfl⟩ := q_3
    refine go_if_ne (tgt := 11) dX9_keep_6 (by decide) (fun c_6 => ?_) (fun c_6 => ?_)
    · skip
      refine go_aload_n dX9_keep_11 rfl ?_
      refine go_get dX9_keep_12 fX9_35 (by omega) h7 rfl ?_
      refine go_bipush (v := nI 58) dX9_keep_15 (by decide) ?_
      refine go_iload_n dX9_keep_17 rfl ?_
      refine go_imul dX9_keep_18 ?_
      refine go_top (y := .int (nI (58 * k))) (by rw [pk_mul]) ?_
      refine go_iconst (v := nI 1) dX9_keep_19 (by decide) ?_
      refine go_iast dX9_keep_20 (by omega) g0 rfl (by omega) (by omega) ?_
      refine go_aload_n dX9_keep_21 rfl ?_
      refine go_aload_n dX9_keep_22 rfl ?_
      refine go_get dX9_keep_23 fX9_35 (by omega) ((hset_ne (by omega)).trans h7) rfl ?_
      refine go_bipush (v := nI 58) dX9_keep_26 (by decide) ?_
      refine go_iload_n dX9_keep_28 rfl ?_
      refine go_imul dX9_keep_29 ?_
      refine go_iconst (v := nI 1) dX9_keep_30 (by decide) ?_
      refine go_iadd dX9_keep_31 ?_
      refine go_top (y := .int (nI (58 * k + 1))) (by rw [pk_mul, nI_add]) ?_
      refine go_iv dX9_keep_32 mX9_writes iX9_125 (run_writes 7 (t := 155) hw.1 (by omega) (by omega) (by omega) (by omega) ((hset_ne (by omega)).trans h7) (h3.ag (fun x q1 q2 => hset_ne (by omega))) hset_same) rfl rfl (by omega) ((hset_ne (by omega)).trans h7) rfl (Nat.le_of_ble_eq_true rfl) (Nat.zero_le _) (Nat.zero_le _) (fun v_32 h_32 n_32 q_32 => ?_)
      obtain ⟨rfl, rfl, G2, rfl, c1, c2⟩ := q_32
      rw [hset_hset]
      refine go_aload_n dX9_keep_35 rfl ?_
      refine go_get dX9_keep_36 fX9_60 (by omega) ((hset_ne (by omega)).trans h7) rfl ?_
      refine go_iret dX9_keep_39 rfl ?_
      refine ⟨rfl, rfl, ⟨⟨r0, r1, r2, r3, r4, sn, rn, (hset_ne (by omega)).trans h7⟩, h3.ag (fun x q1 q2 => hset_ne (by omega)), hT.ag (hset_ne (by omega)), hU.ag (hset_ne (by omega)), ⟨G2, hset_same, fun i hi => ?_⟩, hX.ag (fun x q => hset_ne (by omega))⟩, Fr.rf.set (by omega) (by omega)⟩
      by_cases q : i = k
      · subst q
        simp only [if_true]
        exact ⟨by rw [c2 _ (by omega), pk_us]; rfl, fun _ => c1⟩
      · simp only [if_neg q]
        have hz : ∀ j, 58 * i ≤ j → j < 58 * i + 58 → G2 j = G j := fun j q1 q2 => by rw [c2 j (by omega), pk_un (by omega)]
        refine ⟨by rw [hz _ (by omega) (by omega)]; exact (g1 i hi).1, fun hk2 => ((g1 i hi).2 hk2).cong (hw.2.2.2.1 i hi hk2) (fun j hj => hz _ (by omega) (by omega))⟩
    · exact absurd (bI_eq.mp (Decidable.not_not.mp c_6)) (by rw [hr]; decide)
set_option maxRecDepth 100000 in
theorem m_back {h : gH} {s : SD} (hw : SW s) (hS : MS h s) (x : Int32) : Run 8 yX9_back cX9_back 2 (some .int) [.ref 147, .int x] h 163 0 0 (fun v h' N' => v = some (.int (backS s x).1) ∧ N' = 163 ∧ MS h' (backS s x).2 ∧ Fr 147 163 h h') := by
  obtain ⟨⟨r0, r1, r2, r3, r4, sn, rn, h7⟩, h3, hT, hU, ⟨G, g0, g1⟩, hX⟩ := id hS
  obtain ⟨GU, u0, -⟩ := id hU
  cases hr : rI 0 1 x with
  | false =>
    have e : backS s x = (-1, s) := by unfold backS; rw [hr]; rfl
    rw [e]
    refine Run.of (ini := false) (L := [_, _]) mX9_back (fun h => by cases h) rfl (Nat.le_of_ble_eq_true rfl) rfl ?_
    refine go_iload_n dX9_back_0 rfl ?_
    refine go_iconst (v := nI 0) dX9_back_1 (by decide) ?_
    refine go_iconst (v := nI 1) dX9_back_2 (by decide) ?_
    refine go_is dX9_back_3 mX9_in iX9_63 (run_in 7 (lo := 0) (hi := 1) x (by decide) (by decide)) rfl rfl (Nat.le_of_ble_eq_true rfl) (Nat.zero_le _) (Nat.zero_le _) (fun v_3 h_3 n_3 q_3 => ?_)
    obtain ⟨rfl, rfl, rfl⟩ := q_3
    refine go_if_ne (tgt := 11) dX9_back_6 (by decide) (fun c_6 => ?_) (fun c_6 => ?_)
    · exact absurd (bI_ne.mp c_6) (by rw [hr]; decide)
    · skip
      refine go_iconst (v := (-1)) dX9_back_9 (by decide) ?_
      refine go_iret dX9_back_10 rfl ?_
      exact ⟨rfl, rfl, hS, Fr.rf⟩
  | true =>
    obtain ⟨k, -, hk, rfl⟩ := rI_t hr
    have e : backS s (nI k) = if s.2.2.1.2 k = true then (nI (cP (s.2.2.1.1 k).1 100), (s.2.2.1.1 k, (0, s.2.1.2), s.2.2)) else (-2, s) := by
      unfold backS
      rw [hr, toN_nI (by omega)]
      rfl
    rw [e]
    refine Run.of (ini := false) (L := [_, _]) mX9_back (fun h => by cases h) rfl (Nat.le_of_ble_eq_true rfl) rfl ?_
    refine go_iload_n dX9_back_0 rfl ?_
    refine go_iconst (v := nI 0) dX9_back_1 (by decide) ?_
    refine go_iconst (v := nI 1) dX9_back_2 (by decide) ?_
    refine go_is dX9_back_3 mX9_in iX9_63 (run_in 7 (lo := 0) (hi := 1) (nI k) (by decide) (by decide)) rfl rfl (Nat.le_of_ble_eq_true rfl) (Nat.zero_le _) (Nat.zero_le _) (fun v_3 h_3 n_3 q_3 => ?_)
    obtain ⟨rfl, rfl, rfl⟩ := q_3
    refine go_if_ne (tgt := 11) dX9_back_6 (by decide) (fun c_6 => ?_) (fun c_6 => ?_)
    · skip
      refine go_aload_n dX9_back_11 rfl ?_
      refine go_get dX9_back_12 fX9_35 (by omega) h7 rfl ?_
      refine go_bipush (v := nI 58) dX9_back_15 (by decide) ?_
      refine go_iload_n dX9_back_17 rfl ?_
      refine go_imul dX9_back_18 ?_
      refine go_top (y := .int (nI (58 * k))) (by rw [pk_mul]) ?_
      refine go_iald dX9_back_19 (by omega) g0 rfl (by omega) (by omega) ?_
      refine go_top (y := .int (bI (s.2.2.1.2 k))) (by rw [(g1 k (by omega)).1]) ?_
      refine go_if_ne (tgt := 26) dX9_back_20 (by decide) (fun c_20 => ?_) (fun c_20 => ?_)
      · skip
        have hb : s.2.2.1.2 k = true := bI_ne.mp c_20
        refine go_aload_n dX9_back_26 rfl ?_
        refine go_aload_n dX9_back_27 rfl ?_
        refine go_get dX9_back_28 fX9_35 (by omega) h7 rfl ?_
        refine go_bipush (v := nI 58) dX9_back_31 (by decide) ?_
        refine go_iload_n dX9_back_33 rfl ?_
        refine go_imul dX9_back_34 ?_
        refine go_iconst (v := nI 1) dX9_back_35 (by decide) ?_
        refine go_iadd dX9_back_36 ?_
        refine go_top (y := .int (nI (58 * k + 1))) (by rw [pk_mul, nI_add]) ?_
        refine go_iv dX9_back_37 mX9_readsBack iX9_139 (run_readsBack 7 (t := 155) (hw.2.2.2.1 k (by omega) hb) (by omega) (by omega) (by omega) (by omega) h7 h3 g0 ((g1 k (by omega)).2 hb)) rfl rfl (by omega) h7 rfl (Nat.le_of_ble_eq_true rfl) (Nat.zero_le _) (Nat.zero_le _) (fun v_37 h_37 n_37 q_37 => ?_)
        obtain ⟨rfl, rfl, l7, l3, hF2⟩ := q_37
        refine go_aload_n dX9_back_40 rfl ?_
        refine go_iconst (v := nI 0) dX9_back_41 (by decide) ?_
        refine go_put (fs' := [_, _, _, _, _, _, _, _, _, _, _, _, _, _, _, _, _, _, _, _, _, _, _, _, _, _, _, _]) dX9_back_42 fX9_122 (by omega) l7 (Nat.le_of_ble_eq_true rfl) (Or.inl rfl) ⟨_, _, _, rfl, Or.inl rfl⟩ rfl ?_
        refine go_aload_n dX9_back_45 rfl ?_
        refine go_get dX9_back_46 fX9_60 (by omega) hset_same rfl ?_
        refine go_iret dX9_back_49 rfl ?_
        rw [if_pos hb]
        have gg : ∀ y x, 151 ≤ x → hset h_37 147 y x = h_3 x := fun y x hx => (hset_ne (by omega)).trans (hF2 x (by omega))
        exact ⟨rfl, rfl, ⟨⟨r0, r1, r2, r3, r4, sn, rn, hset_same⟩, l3.ag (fun x q1 q2 => hset_ne (by omega)), hT.ag (gg _ _ (by omega)), ⟨GU, (gg _ _ (by omega)).trans u0, fun i hi => absurd hi (Nat.not_lt_zero _)⟩, ⟨G, (gg _ _ (by omega)).trans g0, g1⟩, hX.ag (fun x q => gg _ x (by omega))⟩, fun x hx => (hset_ne (by omega)).trans (hF2 x (by omega))⟩
      · skip
        have hb : ¬ s.2.2.1.2 k = true := mt bI_ne.mpr c_20
        refine go_bipush (v := (-2)) dX9_back_23 (by decide) ?_
        refine go_iret dX9_back_25 rfl ?_
        rw [if_neg hb]
        exact ⟨rfl, rfl, hS, Fr.rf⟩
    · exact absurd (bI_eq.mp (Decidable.not_not.mp c_6)) (by rw [hr]; decide)
