/-! ===== type, clear, puts, drops, asks, costs, undo, keep, back: the reference's side ===== -/
theorem MS.chart {h1 h' : gH} {s : SD} {c' : CD} (q : MS h1 (chS s s.1)) {r0 r1 r2 r3 r4 sn rn : Int32} (h7 : h' 147 = mS c' s.2.2.2.1 (pushU s.2.1 s.1).1 r0 r1 r2 r3 r4 sn rn) (h3 : M3 h' c') (f : ∀ x, 151 ≤ x → h' x = h1 x) : MS h' (chS s c') :=
  ⟨⟨r0, r1, r2, r3, r4, sn, rn, h7⟩, h3, q.2.2.1.ag (f _ (by omega)), q.2.2.2.1.ag (f _ (by omega)), q.2.2.2.2.1.ag (f _ (by omega)), q.2.2.2.2.2.ag (fun x hx => f x (by omega))⟩
theorem fr_of {h h1 h' : gH} (a : ∀ x, x ≠ 147 → x ≠ 154 → h1 x = h x) (b : Fr 147 151 h1 h') : Fr 147 163 h h' := fun x hx => (b x (by omega)).trans (a x (by omega) (by omega))
theorem m_type {h : gH} {s : SD} (hw : SW s) (hS : MS h s) (x : Int32) : Run 8 yX9_type cX9_type 2 (some .int) [.ref 147, .int x] h 163 0 0 (fun v h' N' => v = some (.int (typeS s x).1) ∧ N' = 163 ∧ MS h' (typeS s x).2 ∧ Fr 147 163 h h') := by
  obtain ⟨⟨r0, r1, r2, r3, r4, sn, rn, h7⟩, h3, ⟨T, t0, t1⟩, hU, hI, hX⟩ := id hS
  have h150 := hw.2.2.2.2.1
  cases hr : rI 0 255 x with
  | false =>
    have e : typeS s x = (-1, s) := by unfold typeS; rw [hr]; rfl
    rw [e]
    refine Run.of (ini := false) (L := [_, _]) mX9_type (fun h => by cases h) rfl (Nat.le_of_ble_eq_true rfl) rfl ?_
    refine go_iload_n dX9_type_0 rfl ?_
    refine go_iconst (v := nI 0) dX9_type_1 (by decide) ?_
    refine go_sipush (v := nI 255) dX9_type_2 (by decide) ?_
    refine go_is dX9_type_5 mX9_in iX9_63 (run_in 7 (lo := 0) (hi := 255) x (by decide) (by decide)) rfl rfl (Nat.le_of_ble_eq_true rfl) (Nat.zero_le _) (Nat.zero_le _) (fun v_5 h_5 n_5 q_5 => ?_)
    obtain ⟨rfl, rfl, rfl⟩ := q_5
    refine go_if_ne (tgt := 13) dX9_type_8 (by decide) (fun c_8 => ?_) (fun c_8 => ?_)
    · exact absurd (bI_ne.mp c_8) (by rw [hr]; decide)
    · skip
      refine go_iconst (v := (-1)) dX9_type_11 (by decide) ?_
      refine go_iret dX9_type_12 rfl ?_
      exact ⟨rfl, rfl, hS, Fr.rf⟩
  | true =>
    obtain ⟨k, -, hk, rfl⟩ := rI_t hr
    have e : typeS s (nI k) = if s.2.2.2.1 < 150 then (nI (s.2.2.2.1 + 1), (s.1, s.2.1, s.2.2.1, (s.2.2.2.1 + 1, fun i => if i = s.2.2.2.1 then k else s.2.2.2.2 i))) else (-3, s) := by unfold typeS; rw [hr, toN_nI (by omega)]; rfl
    rw [e]
    refine Run.of (ini := false) (L := [_, _]) mX9_type (fun h => by cases h) rfl (Nat.le_of_ble_eq_true rfl) rfl ?_
    refine go_iload_n dX9_type_0 rfl ?_
    refine go_iconst (v := nI 0) dX9_type_1 (by decide) ?_
    refine go_sipush (v := nI 255) dX9_type_2 (by decide) ?_
    refine go_is dX9_type_5 mX9_in iX9_63 (run_in 7 (lo := 0) (hi := 255) (nI k) (by decide) (by decide)) rfl rfl (Nat.le_of_ble_eq_true rfl) (Nat.zero_le _) (Nat.zero_le _) (fun v_5 h_5 n_5 q_5 => ?_)
    obtain ⟨rfl, rfl, rfl⟩ := q_5
    refine go_if_ne (tgt := 13) dX9_type_8 (by decide) (fun c_8 => ?_) (fun c_8 => ?_)
    · skip
      refine go_aload_n dX9_type_13 rfl ?_
      refine go_get dX9_type_14 fX9_67 (by omega) h7 rfl ?_
      refine go_sipush (v := nI 150) dX9_type_17 (by decide) ?_
      refine go_icmp_ne (tgt := 26) dX9_type_20 (by decide) (fun c_20 => ?_) (fun c_20 => ?_)
      · skip
        have q : s.2.2.2.1 < 150 := by have : s.2.2.2.1 ≠ 150 := fun z => c_20 (by rw [z]); omega
        refine go_aload_n dX9_type_26 rfl ?_
        refine go_get dX9_type_27 fX9_23 (by omega) h7 rfl ?_
        refine go_aload_n dX9_type_30 rfl ?_
        refine go_get dX9_type_31 fX9_67 (by omega) h7 rfl ?_
        refine go_iload_n dX9_type_34 rfl ?_
        refine go_iast dX9_type_35 (by omega) t0 rfl (by omega) (by omega) ?_
        refine go_aload_n dX9_type_36 rfl ?_
        refine go_dup dX9_type_37 rfl ?_
        refine go_get dX9_type_38 fX9_67 (by omega) ((hset_ne (by omega)).trans h7) rfl ?_
        refine go_iconst (v := nI 1) dX9_type_41 (by decide) ?_
        refine go_iadd dX9_type_42 ?_
        refine go_top (y := .int (nI (s.2.2.2.1 + 1))) (by rw [nI_add]) ?_
        refine go_put (fs' := [_, _, _, _, _, _, _, _, _, _, _, _, _, _, _, _, _, _, _, _, _, _, _, _, _, _, _, _]) dX9_type_43 fX9_67 (by omega) ((hset_ne (by omega)).trans h7) (Nat.le_of_ble_eq_true rfl) (Or.inl rfl) ⟨_, _, _, rfl, Or.inl rfl⟩ rfl ?_
        refine go_aload_n dX9_type_46 rfl ?_
        refine go_get dX9_type_47 fX9_67 (by omega) hset_same rfl ?_
        refine go_iret dX9_type_50 rfl ?_
        rw [if_pos q]
        have fr2 : ∀ y z x, x ≠ 147 → x ≠ 151 → hset (hset h_5 151 z) 147 y x = h_5 x := fun y z x q1 q2 => by rw [hset_ne q1, hset_ne q2]
        refine ⟨rfl, rfl, ⟨⟨r0, r1, r2, r3, r4, sn, rn, hset_same⟩, h3.ag (fun x q1 q2 => fr2 _ _ x (by omega) (by omega)), ⟨_, (hset_ne (by omega)).trans hset_same, fun i hi => ?_⟩, hU.ag (fr2 _ _ _ (by omega) (by omega)), hI.ag (fr2 _ _ _ (by omega) (by omega)), hX.ag (fun x q => fr2 _ _ x (by omega) (by omega))⟩, (Fr.rf.set (by omega) (by omega)).set (by omega) (by omega)⟩
        have hi : i < s.2.2.2.1 + 1 := hi
        by_cases z : i = s.2.2.2.1
        · subst z; rw [pk_us]; simp
        · rw [pk_un z, t1 i (by omega)]; simp [z]
      · skip
        have q : s.2.2.2.1 = 150 := (nI_eq (by omega) (by decide)).mp (Decidable.not_not.mp c_20)
        refine go_bipush (v := (-3)) dX9_type_23 (by decide) ?_
        refine go_iret dX9_type_25 rfl ?_
        rw [if_neg (by omega)]
        exact ⟨rfl, rfl, hS, Fr.rf⟩
    · exact absurd (bI_eq.mp (Decidable.not_not.mp c_8)) (by rw [hr]; decide)
theorem m_clear {h : gH} {s : SD} (hS : MS h s) : Run 8 yX9_clear cX9_clear 2 (some .int) [.ref 147] h 163 0 0 (fun v h' N' => v = some (.int (clearS s).1) ∧ N' = 163 ∧ MS h' (clearS s).2 ∧ Fr 147 163 h h') := by
  obtain ⟨⟨r0, r1, r2, r3, r4, sn, rn, h7⟩, h3, ⟨T, t0, t1⟩, hU, hI, hX⟩ := id hS
  refine Run.of (ini := false) (L := [_, _]) mX9_clear (fun h => by cases h) rfl (Nat.le_of_ble_eq_true rfl) rfl ?_
  refine go_aload_n dX9_clear_0 rfl ?_
  refine go_get dX9_clear_1 fX9_67 (by omega) h7 rfl ?_
  refine go_istore_n (L' := [_, _]) dX9_clear_4 rfl (by decide) rfl ?_
  refine go_aload_n dX9_clear_5 rfl ?_
  refine go_iconst (v := nI 0) dX9_clear_6 (by decide) ?_
  refine go_put (fs' := [_, _, _, _, _, _, _, _, _, _, _, _, _, _, _, _, _, _, _, _, _, _, _, _, _, _, _, _]) dX9_clear_7 fX9_67 (by omega) h7 (Nat.le_of_ble_eq_true rfl) (Or.inl rfl) ⟨_, _, _, rfl, Or.inl rfl⟩ rfl ?_
  refine go_iload_n dX9_clear_10 rfl ?_
  refine go_iret dX9_clear_11 rfl ?_
  have fr2 : ∀ y x, x ≠ 147 → hset h 147 y x = h x := fun y x q1 => by rw [hset_ne q1]
  refine ⟨rfl, rfl, ⟨⟨r0, r1, r2, r3, r4, sn, rn, hset_same⟩, h3.ag (fun x q1 q2 => fr2 _ x (by omega)), ⟨T, (hset_ne (by omega)).trans t0, fun i hi => absurd hi (Nat.not_lt_zero _)⟩, hU.ag (fr2 _ _ (by omega)), hI.ag (fr2 _ _ (by omega)), hX.ag (fun x q => fr2 _ x (by omega))⟩, Fr.rf.set (by omega) (by omega)⟩
theorem m_asks {h : gH} {s : SD} (hw : SW s) (hS : MS h s) (x : Int32) : Run 8 yX9_asks cX9_asks 3 (some .int) [.ref 147, .int x] h 163 0 0 (fun v h' N' => v = some (.int (asksS s x).1) ∧ N' = 163 ∧ MS h' (asksS s x).2 ∧ Fr 147 163 h h') := by
  obtain ⟨⟨r0, r1, r2, r3, r4, sn, rn, h7⟩, h3, -⟩ := id hS
  have hK := hw.1.2.2.2.2.1
  cases hr : rI 1 6 x with
  | false =>
    have e : asksS s x = (-1, s) := by unfold asksS; rw [hr]; rfl
    rw [e]
    refine Run.of (ini := false) (L := [_, _, _]) mX9_asks (fun h => by cases h) rfl (Nat.le_of_ble_eq_true rfl) rfl ?_
    refine go_iload_n dX9_asks_0 rfl ?_
    refine go_iconst (v := nI 1) dX9_asks_1 (by decide) ?_
    refine go_bipush (v := nI 6) dX9_asks_2 (by decide) ?_
    refine go_is dX9_asks_4 mX9_in iX9_63 (run_in 7 (lo := 1) (hi := 6) x (by decide) (by decide)) rfl rfl (Nat.le_of_ble_eq_true rfl) (Nat.zero_le _) (Nat.zero_le _) (fun v_4 h_4 n_4 q_4 => ?_)
    obtain ⟨rfl, rfl, rfl⟩ := q_4
    refine go_if_ne (tgt := 12) dX9_asks_7 (by decide) (fun c_7 => ?_) (fun c_7 => ?_)
    · exact absurd (bI_ne.mp c_7) (by rw [hr]; decide)
    · skip
      refine go_iconst (v := (-1)) dX9_asks_10 (by decide) ?_
      refine go_iret dX9_asks_11 rfl ?_
      exact ⟨rfl, rfl, hS, Fr.rf⟩
  | true =>
    obtain ⟨k, hk1, hk6, rfl⟩ := rI_t hr
    have e : asksS s (nI k) = if s.1.2.2.2.1 = k then (-2, s) else (nI s.1.2.2.2.1, chS s (s.1.1, s.1.2.1, s.1.2.2.1, k, s.1.2.2.2.2)) := by
      unfold asksS
      rw [hr, toN_nI (by omega)]
      rfl
    rw [e]
    refine Run.of (ini := false) (L := [_, _, _]) mX9_asks (fun h => by cases h) rfl (Nat.le_of_ble_eq_true rfl) rfl ?_
    refine go_iload_n dX9_asks_0 rfl ?_
    refine go_iconst (v := nI 1) dX9_asks_1 (by decide) ?_
    refine go_bipush (v := nI 6) dX9_asks_2 (by decide) ?_
    refine go_is dX9_asks_4 mX9_in iX9_63 (run_in 7 (lo := 1) (hi := 6) (nI k) (by decide) (by decide)) rfl rfl (Nat.le_of_ble_eq_true rfl) (Nat.zero_le _) (Nat.zero_le _) (fun v_4 h_4 n_4 q_4 => ?_)
    obtain ⟨rfl, rfl, rfl⟩ := q_4
    refine go_if_ne (tgt := 12) dX9_asks_7 (by decide) (fun c_7 => ?_) (fun c_7 => ?_)
    · skip
      refine go_aload_n dX9_asks_12 rfl ?_
      refine go_get dX9_asks_13 fX9_7 (by omega) h7 rfl ?_
      refine go_istore_n (L' := [_, _, _]) dX9_asks_16 rfl (by decide) rfl ?_
      refine go_iload_n dX9_asks_17 rfl ?_
      refine go_iload_n dX9_asks_18 rfl ?_
      refine go_icmp_ne (tgt := 25) dX9_asks_19 (by decide) (fun c_19 => ?_) (fun c_19 => ?_)
      · skip
        have hne : ¬ s.1.2.2.2.1 = k := fun q => c_19 (by rw [q])
        refine go_aload_n dX9_asks_25 rfl ?_
        refine go_iv dX9_asks_26 mX9_notes iX9_136 (run_notes 6 hw hS) rfl rfl (by omega) h7 rfl (Nat.le_of_ble_eq_true rfl) (Nat.zero_le _) (Nat.zero_le _) (fun v_26 h_26 n_26 q_26 => ?_)
        obtain ⟨rfl, rfl, hS1, hF1⟩ := q_26
        obtain ⟨⟨r0, r1, r2, r3, r4, sn, rn, k7⟩, k3, -⟩ := id hS1
        refine go_aload_n dX9_asks_29 rfl ?_
        refine go_iload_n dX9_asks_30 rfl ?_
        refine go_put (fs' := [_, _, _, _, _, _, _, _, _, _, _, _, _, _, _, _, _, _, _, _, _, _, _, _, _, _, _, _]) dX9_asks_31 fX9_7 (by omega) k7 (Nat.le_of_ble_eq_true rfl) (Or.inl rfl) ⟨_, _, _, rfl, Or.inl rfl⟩ rfl ?_
        refine go_iload_n dX9_asks_34 rfl ?_
        refine go_iret dX9_asks_35 rfl ?_
        rw [if_neg hne]
        refine ⟨rfl, rfl, hS1.chart hset_same ?_ (fun x hx => hset_ne (by omega)), fr_of hF1 (Fr.rf.set (by omega) (by omega))⟩
        obtain ⟨F4, F5, F6, q1, q2, q3, q4⟩ := k3
        exact ⟨F4, F5, F6, (hset_ne (by omega)).trans q1, (hset_ne (by omega)).trans q2, (hset_ne (by omega)).trans q3, q4⟩
      · skip
        have heq : s.1.2.2.2.1 = k := (nI_eq (by omega) (by omega)).mp (Decidable.not_not.mp c_19)
        refine go_bipush (v := (-2)) dX9_asks_22 (by decide) ?_
        refine go_iret dX9_asks_24 rfl ?_
        rw [if_pos heq]
        exact ⟨rfl, rfl, hS, Fr.rf⟩
    · exact absurd (bI_eq.mp (Decidable.not_not.mp c_7)) (by rw [hr]; decide)
theorem m_costs {h : gH} {s : SD} (hw : SW s) (hS : MS h s) (x : Int32) : Run 8 yX9_costs cX9_costs 3 (some .int) [.ref 147, .int x] h 163 0 0 (fun v h' N' => v = some (.int (costsS s x).1) ∧ N' = 163 ∧ MS h' (costsS s x).2 ∧ Fr 147 163 h h') := by
  obtain ⟨⟨r0, r1, r2, r3, r4, sn, rn, h7⟩, h3, -⟩ := id hS
  have hK := hw.1.2.2.2.2.2
  cases hr : rI 0 999 x with
  | false =>
    have e : costsS s x = (-1, s) := by unfold costsS; rw [hr]; rfl
    rw [e]
    refine Run.of (ini := false) (L := [_, _, _]) mX9_costs (fun h => by cases h) rfl (Nat.le_of_ble_eq_true rfl) rfl ?_
    refine go_iload_n dX9_costs_0 rfl ?_
    refine go_iconst (v := nI 0) dX9_costs_1 (by decide) ?_
    refine go_sipush (v := nI 999) dX9_costs_2 (by decide) ?_
    refine go_is dX9_costs_5 mX9_in iX9_63 (run_in 7 (lo := 0) (hi := 999) x (by decide) (by decide)) rfl rfl (Nat.le_of_ble_eq_true rfl) (Nat.zero_le _) (Nat.zero_le _) (fun v_5 h_5 n_5 q_5 => ?_)
    obtain ⟨rfl, rfl, rfl⟩ := q_5
    refine go_if_ne (tgt := 13) dX9_costs_8 (by decide) (fun c_8 => ?_) (fun c_8 => ?_)
    · exact absurd (bI_ne.mp c_8) (by rw [hr]; decide)
    · skip
      refine go_iconst (v := (-1)) dX9_costs_11 (by decide) ?_
      refine go_iret dX9_costs_12 rfl ?_
      exact ⟨rfl, rfl, hS, Fr.rf⟩
  | true =>
    obtain ⟨k, hk1, hk6, rfl⟩ := rI_t hr
    have e : costsS s (nI k) = if s.1.2.2.2.2 = k then (-2, s) else (nI s.1.2.2.2.2, chS s (s.1.1, s.1.2.1, s.1.2.2.1, s.1.2.2.2.1, k)) := by
      unfold costsS
      rw [hr, toN_nI (by omega)]
      rfl
    rw [e]
    refine Run.of (ini := false) (L := [_, _, _]) mX9_costs (fun h => by cases h) rfl (Nat.le_of_ble_eq_true rfl) rfl ?_
    refine go_iload_n dX9_costs_0 rfl ?_
    refine go_iconst (v := nI 0) dX9_costs_1 (by decide) ?_
    refine go_sipush (v := nI 999) dX9_costs_2 (by decide) ?_
    refine go_is dX9_costs_5 mX9_in iX9_63 (run_in 7 (lo := 0) (hi := 999) (nI k) (by decide) (by decide)) rfl rfl (Nat.le_of_ble_eq_true rfl) (Nat.zero_le _) (Nat.zero_le _) (fun v_5 h_5 n_5 q_5 => ?_)
    obtain ⟨rfl, rfl, rfl⟩ := q_5
    refine go_if_ne (tgt := 13) dX9_costs_8 (by decide) (fun c_8 => ?_) (fun c_8 => ?_)
    · skip
      refine go_aload_n dX9_costs_13 rfl ?_
      refine go_get dX9_costs_14 fX9_116 (by omega) h7 rfl ?_
      refine go_istore_n (L' := [_, _, _]) dX9_costs_17 rfl (by decide) rfl ?_
      refine go_iload_n dX9_costs_18 rfl ?_
      refine go_iload_n dX9_costs_19 rfl ?_
      refine go_icmp_ne (tgt := 26) dX9_costs_20 (by decide) (fun c_20 => ?_) (fun c_20 => ?_)
      · skip
        have hne : ¬ s.1.2.2.2.2 = k := fun q => c_20 (by rw [q])
        refine go_aload_n dX9_costs_26 rfl ?_
        refine go_iv dX9_costs_27 mX9_notes iX9_136 (run_notes 6 hw hS) rfl rfl (by omega) h7 rfl (Nat.le_of_ble_eq_true rfl) (Nat.zero_le _) (Nat.zero_le _) (fun v_27 h_27 n_27 q_27 => ?_)
        obtain ⟨rfl, rfl, hS1, hF1⟩ := q_27
        obtain ⟨⟨r0, r1, r2, r3, r4, sn, rn, k7⟩, k3, -⟩ := id hS1
        refine go_aload_n dX9_costs_30 rfl ?_
        refine go_iload_n dX9_costs_31 rfl ?_
        refine go_put (fs' := [_, _, _, _, _, _, _, _, _, _, _, _, _, _, _, _, _, _, _, _, _, _, _, _, _, _, _, _]) dX9_costs_32 fX9_116 (by omega) k7 (Nat.le_of_ble_eq_true rfl) (Or.inl rfl) ⟨_, _, _, rfl, Or.inl rfl⟩ rfl ?_
        refine go_iload_n dX9_costs_35 rfl ?_
        refine go_iret dX9_costs_36 rfl ?_
        rw [if_neg hne]
        refine ⟨rfl, rfl, hS1.chart hset_same ?_ (fun x hx => hset_ne (by omega)), fr_of hF1 (Fr.rf.set (by omega) (by omega))⟩
        obtain ⟨F4, F5, F6, q1, q2, q3, q4⟩ := k3
        exact ⟨F4, F5, F6, (hset_ne (by omega)).trans q1, (hset_ne (by omega)).trans q2, (hset_ne (by omega)).trans q3, q4⟩
      · skip
        have heq : s.1.2.2.2.2 = k := (nI_eq (by omega) (by omega)).mp (Decidable.not_not.mp c_20)
        refine go_bipush (v := (-2)) dX9_costs_23 (by decide) ?_
        refine go_iret dX9_costs_25 rfl ?_
        rw [if_pos heq]
        exact ⟨rfl, rfl, hS, Fr.rf⟩
    · exact absurd (bI_eq.mp (Decidable.not_not.mp c_8)) (by rw [hr]; decide)
set_option maxRecDepth 100000 in
theorem m_undo {h : gH} {s : SD} (hw : SW s) (hS : MS h s) : Run 8 yX9_undo cX9_undo 1 (some .int) [.ref 147] h 163 0 0 (fun v h' N' => v = some (.int (undoS s).1) ∧ N' = 163 ∧ MS h' (undoS s).2 ∧ Fr 147 163 h h') := by
  obtain ⟨⟨r0, r1, r2, r3, r4, sn, rn, h7⟩, h3, hT, hU, hI, hX⟩ := id hS
  obtain ⟨G, g0, g1⟩ := id hU
  have h10 := hw.2.1
  refine Run.of (ini := false) (L := [_]) mX9_undo (fun h => by cases h) rfl (Nat.le_of_ble_eq_true rfl) rfl ?_
  by_cases hk : s.2.1.1 = 0
  · have e : undoS s = (-2, s) := by unfold undoS; rw [if_pos hk]
    rw [e]
    refine go_aload_n dX9_undo_0 rfl ?_
    refine go_get dX9_undo_1 fX9_122 (by omega) h7 rfl ?_
    refine go_if_ne (tgt := 10) dX9_undo_4 (by decide) (fun c_4 => ?_) (fun c_4 => ?_)
    · exact absurd (by rw [hk]; rfl) c_4
    · skip
      refine go_bipush (v := (-2)) dX9_undo_7 (by decide) ?_
      refine go_iret dX9_undo_9 rfl ?_
      exact ⟨rfl, rfl, hS, Fr.rf⟩
  · have e : undoS s = (nI (s.2.1.1 - 1), (s.2.1.2 (s.2.1.1 - 1), (s.2.1.1 - 1, s.2.1.2), s.2.2)) := by unfold undoS; rw [if_neg hk]
    rw [e]
    refine go_aload_n dX9_undo_0 rfl ?_
    refine go_get dX9_undo_1 fX9_122 (by omega) h7 rfl ?_
    refine go_if_ne (tgt := 10) dX9_undo_4 (by decide) (fun c_4 => ?_) (fun c_4 => ?_)
    · skip
      refine go_aload_n dX9_undo_10 rfl ?_
      refine go_dup dX9_undo_11 rfl ?_
      refine go_get dX9_undo_12 fX9_122 (by omega) h7 rfl ?_
      refine go_iconst (v := nI 1) dX9_undo_15 (by decide) ?_
      refine go_isub dX9_undo_16 ?_
      refine go_top (y := .int (nI (s.2.1.1 - 1))) (by rw [show nI s.2.1.1 = nI (s.2.1.1 - 1) + nI 1 by rw [nI_add, show s.2.1.1 - 1 + 1 = s.2.1.1 by omega]]; simp) ?_
      refine go_put (fs' := [_, _, _, _, _, _, _, _, _, _, _, _, _, _, _, _, _, _, _, _, _, _, _, _, _, _, _, _]) dX9_undo_17 fX9_122 (by omega) h7 (Nat.le_of_ble_eq_true rfl) (Or.inl rfl) ⟨_, _, _, rfl, Or.inl rfl⟩ rfl ?_
      generalize hh : hset h 147 _ = h1
      have k7 : h1 147 = mS s.1 s.2.2.2.1 (s.2.1.1 - 1) r0 r1 r2 r3 r4 sn rn := by rw [← hh]; exact hset_same
      have kk : ∀ x, x ≠ 147 → h1 x = h x := fun x hx => by rw [← hh]; exact hset_ne hx
      have hc' := hw.2.2.1 (s.2.1.1 - 1) (by omega)
      refine go_aload_n dX9_undo_20 rfl ?_
      refine go_aload_n dX9_undo_21 rfl ?_
      refine go_get dX9_undo_22 fX9_32 (by omega) k7 rfl ?_
      refine go_bipush (v := nI 57) dX9_undo_25 (by decide) ?_
      refine go_aload_n dX9_undo_27 rfl ?_
      refine go_get dX9_undo_28 fX9_122 (by omega) k7 rfl ?_
      refine go_imul dX9_undo_31 ?_
      refine go_top (y := .int (nI (57 * (s.2.1.1 - 1)))) (by rw [pk_mul]) ?_
      refine go_iv dX9_undo_32 mX9_readsBack iX9_139 (run_readsBack 7 (t := 154) hc' (by omega) (by omega) (by omega) (by omega) k7 (h3.ag (fun x q1 q2 => kk x (by omega))) ((kk _ (by omega)).trans g0) (g1 _ (by omega))) rfl rfl (by omega) k7 rfl (Nat.le_of_ble_eq_true rfl) (Nat.zero_le _) (Nat.zero_le _) (fun v_32 h_32 n_32 q_32 => ?_)
      obtain ⟨rfl, rfl, l7, l3, hF2⟩ := q_32
      refine go_aload_n dX9_undo_35 rfl ?_
      refine go_get dX9_undo_36 fX9_122 (by omega) l7 rfl ?_
      refine go_iret dX9_undo_39 rfl ?_
      have gg : ∀ x, 151 ≤ x → h_32 x = h x := fun x hx => (hF2 x (by omega)).trans (kk x (by omega))
      exact ⟨rfl, rfl, ⟨⟨r0, r1, r2, r3, r4, sn, rn, l7⟩, l3, hT.ag (gg _ (by omega)), ⟨G, (gg _ (by omega)).trans g0, fun i hi => g1 i (by have hi : i < s.2.1.1 - 1 := hi; omega)⟩, hI.ag (gg _ (by omega)), hX.ag (fun x q => gg x (by omega))⟩, fun x hx => (hF2 x (by omega)).trans (kk x (by omega))⟩
    · exact absurd (Decidable.not_not.mp c_4) (nI_ne0 (by omega) (by omega))
