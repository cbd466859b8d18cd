/-! ===== notes, and the calls that change the chart: the reference's side ===== -/
theorem hset_self {h : gH} {a : Nat} {x : gC} (e : h a = x) : h = hset h a x := by
  funext y
  by_cases q : y = a
  · subst q; rw [hset_same]; exact e
  · rw [hset_ne q]
theorem M3.ag {h h' : gH} {c : CD} (q : M3 h c) (f : ∀ x, 148 ≤ x → x < 151 → h' x = h x) : M3 h' c := by
  obtain ⟨F4, F5, F6, h1, h2, h3, h4⟩ := q
  exact ⟨F4, F5, F6, (f _ (by omega) (by omega)).trans h1, (f _ (by omega) (by omega)).trans h2, (f _ (by omega) (by omega)).trans h3, h4⟩
theorem MT.ag {h h' : gH} {t : Nat × (Nat → Nat)} (q : MT h t) (f : h' 151 = h 151) : MT h' t := by
  obtain ⟨T, h1, h2⟩ := q
  exact ⟨T, f.trans h1, h2⟩
theorem MU.ag {h h' : gH} {u : Nat × (Nat → CD)} (q : MU h u) (f : h' 154 = h 154) : MU h' u := by
  obtain ⟨T, h1, h2⟩ := q
  exact ⟨T, f.trans h1, h2⟩
theorem MI.ag {h h' : gH} {u : (Nat → CD) × (Nat → Bool)} (q : MI h u) (f : h' 155 = h 155) : MI h' u := by
  obtain ⟨T, h1, h2⟩ := q
  exact ⟨T, f.trans h1, h2⟩
theorem MX.ag {h h' : gH} (q : MX h) (f : ∀ x, (x = 152 ∨ x = 153 ∨ (156 ≤ x ∧ x < 163)) → h' x = h x) : MX h' := by
  obtain ⟨a, b, c, d, e, f', g, x, y, h1, h2, h3, h4, h5, h6, h7, h8, h9⟩ := q
  exact ⟨a, b, c, d, e, f', g, x, y, (f _ (by omega)).trans h1, (f _ (by omega)).trans h2, (f _ (by omega)).trans h3, (f _ (by omega)).trans h4, (f _ (by omega)).trans h5, (f _ (by omega)).trans h6, (f _ (by omega)).trans h7, (f _ (by omega)).trans h8, (f _ (by omega)).trans h9⟩
set_option maxRecDepth 100000 in
theorem run_notes (d : Nat) {h : gH} {s : SD} (hw : SW s) (hS : MS h s) : Run (d + 1) yX9_notes cX9_notes 2 none [.ref 147] h 163 0 0 (fun v h' N' => v = none ∧ N' = 163 ∧ MS h' (chS s s.1) ∧ ∀ x, x ≠ 147 → x ≠ 154 → h' x = h x) := by
  obtain ⟨⟨r0, r1, r2, r3, r4, sn, rn, h7⟩, h3, hT, ⟨G, g0, g1⟩, hI, hX⟩ := id hS
  have h10 := hw.2.1
  refine Run.of (ini := false) (L := [_, _]) mX9_notes (fun h => by cases h) rfl (Nat.le_of_ble_eq_true rfl) rfl ?_
  by_cases hu : s.2.1.1 = 10
  · have e : pushU s.2.1 s.1 = (10, fun i => if i = 9 then s.1 else s.2.1.2 (i + 1)) := by unfold pushU; rw [if_neg (by omega)]
    refine go_aload_n dX9_notes_0 rfl ?_
    refine go_get dX9_notes_1 fX9_122 (by omega) h7 rfl ?_
    refine go_bipush (v := nI 10) dX9_notes_4 (by decide) ?_
    refine go_icmp_ne (tgt := 49) dX9_notes_6 (by decide) (fun c_6 => ?_) (fun c_6 => ?_)
    · exact absurd (by rw [hu]) c_6
    · skip
      refine go_iconst (v := nI 0) dX9_notes_9 (by decide) ?_
      refine go_istore_n (L' := [_, _]) dX9_notes_10 rfl (by decide) rfl ?_
      refine go_eqh (hset_self g0) ?_
      refine nt_loop h7 (fun G1 w a1 => ?_) 513 0 G (by omega) (fun j hj => absurd hj (by omega)) (fun j hj => rfl)
      have b7 : ∀ y, hset h 154 y 147 = h 147 := fun y => hset_ne (by omega)
      have fr : ∀ y, Fr 154 155 h (hset h 154 y) := fun y => Fr.rf.set (by omega) (by omega)
      refine go_aload_n dX9_notes_39 rfl ?_
      refine go_dup dX9_notes_40 rfl ?_
      refine go_get dX9_notes_41 fX9_122 (by omega) ((b7 _).trans h7) rfl ?_
      refine go_iconst (v := nI 1) dX9_notes_44 (by decide) ?_
      refine go_isub dX9_notes_45 ?_
      refine go_top (y := .int (nI 9)) (by rw [hu]; rfl) ?_
      refine go_put (fs' := [_, _, _, _, _, _, _, _, _, _, _, _, _, _, _, _, _, _, _, _, _, _, _, _, _, _, _, _]) dX9_notes_46 fX9_122 (by omega) ((b7 _).trans h7) (Nat.le_of_ble_eq_true rfl) (Or.inl rfl) ⟨_, _, _, rfl, Or.inl rfl⟩ rfl ?_
      generalize hh : hset (hset h 154 _) 147 _ = h1
      have k7 : h1 147 = mS s.1 s.2.2.2.1 9 r0 r1 r2 r3 r4 sn rn := by rw [← hh]; exact hset_same
      have kG : h1 154 = iA 570 G1 := by rw [← hh, hset_ne (by omega)]; exact hset_same
      have kF : Fr 147 163 h h1 := by rw [← hh]; exact (Fr.rf.set (by omega) (by omega)).set (by omega) (by omega)
      have kk : ∀ x, x ≠ 147 → x ≠ 154 → h1 x = h x := fun x q1 q2 => by rw [← hh, hset_ne q1, hset_ne q2]
      have k3 : M3 h1 s.1 := h3.ag (fun x q1 q2 => kk x (by omega) (by omega))
      have kT : MT h1 s.2.2.2 := hT.ag (kk _ (by omega) (by omega))
      have kI : MI h1 s.2.2.1 := hI.ag (kk _ (by omega) (by omega))
      have kX : MX h1 := hX.ag (fun x q => kk x (by omega) (by omega))
      refine go_aload_n dX9_notes_49 rfl ?_
      refine go_aload_n dX9_notes_50 rfl ?_
      refine go_get dX9_notes_51 fX9_32 (by omega) k7 rfl ?_
      refine go_bipush (v := nI 57) dX9_notes_54 (by decide) ?_
      refine go_aload_n dX9_notes_56 rfl ?_
      refine go_get dX9_notes_57 fX9_122 (by omega) k7 rfl ?_
      refine go_imul dX9_notes_60 ?_
      refine go_top (y := .int (nI 513)) (by rfl) ?_
      refine go_iv dX9_notes_61 mX9_writes iX9_125 (run_writes d (t := 154) hw.1 (by omega) (by omega) (by omega) (by omega) k7 k3 kG) rfl rfl (by omega) k7 rfl (Nat.le_of_ble_eq_true rfl) (Nat.zero_le _) (Nat.zero_le _) (fun v_61 h_61 n_61 q_61 => ?_)
      obtain ⟨rfl, rfl, G2, rfl, c1, c2⟩ := q_61
      refine go_aload_n dX9_notes_64 rfl ?_
      refine go_dup dX9_notes_65 rfl ?_
      refine go_get dX9_notes_66 fX9_122 (by omega) ((hset_ne (by omega)).trans k7) rfl ?_
      refine go_iconst (v := nI 1) dX9_notes_69 (by decide) ?_
      refine go_iadd dX9_notes_70 ?_
      refine go_put (fs' := [_, _, _, _, _, _, _, _, _, _, _, _, _, _, _, _, _, _, _, _, _, _, _, _, _, _, _, _]) dX9_notes_71 fX9_122 (by omega) ((hset_ne (by omega)).trans k7) (Nat.le_of_ble_eq_true rfl) (Or.inl rfl) ⟨_, _, _, rfl, Or.inl rfl⟩ rfl ?_
      refine go_vret dX9_notes_74 rfl ?_
      have fr2 : ∀ y x, x ≠ 147 → x ≠ 154 → hset (hset h1 154 (iA 570 G2)) 147 y x = h1 x := fun y x q1 q2 => by rw [hset_ne q1, hset_ne q2]
      refine ⟨rfl, rfl, ⟨⟨r0, r1, r2, r3, r4, sn, rn, ?_⟩, ?_, ?_, ⟨G2, (hset_ne (by omega)).trans hset_same, fun i hi => ?_⟩, ?_, ?_⟩, ?_⟩
      · show _ = mS s.1 s.2.2.2.1 (pushU s.2.1 s.1).1 _ _ _ _ _ _ _
        rw [e]; exact hset_same
      · exact k3.ag (fun x q1 q2 => fr2 _ x (by omega) (by omega))
      · exact kT.ag (fr2 _ _ (by omega) (by omega))
      · show NA G2 (57 * i) ((pushU s.2.1 s.1).2 i)
        have hi : i < (pushU s.2.1 s.1).1 := hi
        rw [e] at hi ⊢
        have hi : i < 10 := hi
        show NA G2 (57 * i) (if i = 9 then s.1 else s.2.1.2 (i + 1))
        by_cases q : i = 9
        · subst q; rw [if_pos rfl]; exact c1
        · rw [if_neg q]
          refine (g1 (i + 1) (by omega)).cong (hw.2.2.1 _ (by omega)) (fun j hj => ?_)
          rw [c2 _ (by omega), a1 _ (by omega)]
          congr 1; omega
      · exact kI.ag (fr2 _ _ (by omega) (by omega))
      · exact kX.ag (fun x q => fr2 _ x (by omega) (by omega))
      · exact fun x q1 q2 => (fr2 _ x q1 q2).trans (kk x q1 q2)
  · have e : pushU s.2.1 s.1 = (s.2.1.1 + 1, fun i => if i = s.2.1.1 then s.1 else s.2.1.2 i) := by unfold pushU; rw [if_pos (by omega)]
    refine go_aload_n dX9_notes_0 rfl ?_
    refine go_get dX9_notes_1 fX9_122 (by omega) h7 rfl ?_
    refine go_bipush (v := nI 10) dX9_notes_4 (by decide) ?_
    refine go_icmp_ne (tgt := 49) dX9_notes_6 (by decide) (fun c_6 => ?_) (fun c_6 => ?_)
    · skip
      refine go_aload_n dX9_notes_49 rfl ?_
      refine go_aload_n dX9_notes_50 rfl ?_
      refine go_get dX9_notes_51 fX9_32 (by omega) h7 rfl ?_
      refine go_bipush (v := nI 57) dX9_notes_54 (by decide) ?_
      refine go_aload_n dX9_notes_56 rfl ?_
      refine go_get dX9_notes_57 fX9_122 (by omega) h7 rfl ?_
      refine go_imul dX9_notes_60 ?_
      refine go_top (y := .int (nI (57 * s.2.1.1))) (by rw [pk_mul]) ?_
      refine go_iv dX9_notes_61 mX9_writes iX9_125 (run_writes d (t := 154) hw.1 (by omega) (by omega) (by omega) (by omega) h7 h3 g0) rfl rfl (by omega) h7 rfl (Nat.le_of_ble_eq_true rfl) (Nat.zero_le _) (Nat.zero_le _) (fun v_61 h_61 n_61 q_61 => ?_)
      obtain ⟨rfl, rfl, G2, rfl, c1, c2⟩ := q_61
      refine go_aload_n dX9_notes_64 rfl ?_
      refine go_dup dX9_notes_65 rfl ?_
      refine go_get dX9_notes_66 fX9_122 (by omega) ((hset_ne (by omega)).trans h7) rfl ?_
      refine go_iconst (v := nI 1) dX9_notes_69 (by decide) ?_
      refine go_iadd dX9_notes_70 ?_
      refine go_top (y := .int (nI (s.2.1.1 + 1))) (by rw [nI_add]) ?_
      refine go_put (fs' := [_, _, _, _, _, _, _, _, _, _, _, _, _, _, _, _, _, _, _, _, _, _, _, _, _, _, _, _]) dX9_notes_71 fX9_122 (by omega) ((hset_ne (by omega)).trans h7) (Nat.le_of_ble_eq_true rfl) (Or.inl rfl) ⟨_, _, _, rfl, Or.inl rfl⟩ rfl ?_
      refine go_vret dX9_notes_74 rfl ?_
      have fr2 : ∀ y x, x ≠ 147 → x ≠ 154 → hset (hset h 154 (iA 570 G2)) 147 y x = h x := fun y x q1 q2 => by rw [hset_ne q1, hset_ne q2]
      refine ⟨rfl, rfl, ⟨⟨r0, r1, r2, r3, r4, sn, rn, ?_⟩, ?_, ?_, ⟨G2, (hset_ne (by omega)).trans hset_same, fun i hi => ?_⟩, ?_, ?_⟩, ?_⟩
      · show _ = mS s.1 s.2.2.2.1 (pushU s.2.1 s.1).1 _ _ _ _ _ _ _
        rw [e]; exact hset_same
      · exact h3.ag (fun x q1 q2 => fr2 _ x (by omega) (by omega))
      · exact hT.ag (fr2 _ _ (by omega) (by omega))
      · show NA G2 (57 * i) ((pushU s.2.1 s.1).2 i)
        have hi : i < (pushU s.2.1 s.1).1 := hi
        rw [e] at hi ⊢
        have hi : i < s.2.1.1 + 1 := hi
        show NA G2 (57 * i) (if i = s.2.1.1 then s.1 else s.2.1.2 i)
        by_cases q : i = s.2.1.1
        · rw [if_pos q, q]; exact c1
        · rw [if_neg q]
          refine (g1 i (by omega)).cong (hw.2.2.1 _ (by omega)) (fun j hj => ?_)
          rw [c2 _ (by omega)]
      · exact hI.ag (fr2 _ _ (by omega) (by omega))
      · exact hX.ag (fun x q => fr2 _ x (by omega) (by omega))
      · exact fun x q1 q2 => fr2 _ x q1 q2
    · exact absurd ((nI_eq (by omega) (by decide)).mp (Decidable.not_not.mp c_6)) hu
