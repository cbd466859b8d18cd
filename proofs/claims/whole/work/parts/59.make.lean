/-! ===== the constructors ===== -/
set_option maxRecDepth 100000 in
theorem run_maptext (d : Nat) {h : gH} (h0 : h 44 = .inr (4, [.null, .null, .int 0, .int 0, .int 0, .int 0, .int 0, .int 0, .int 0, .int 0])) : Run (d + 3) yX4_init cX4_init 1 none [.ref 44] h 45 4 260 (fun v h' N' => v = none ∧ N' = 49 ∧ Mt h' 0 (fun _ => 0) ∧ Fr 44 49 h h') := by
  refine Run.of (ini := true) (L := [_]) mX4_init (fun h => rfl) rfl (Nat.le_of_ble_eq_true rfl) rfl ?_
  refine go_aload_n dX4_init_0 rfl ?_
  refine go_obj dX4_init_1 oX4 (Nat.le_of_ble_eq_true rfl) ?_
  refine go_aload_n dX4_init_4 rfl ?_
  refine go_sipush (v := nI 150) dX4_init_5 (by decide) ?_
  refine go_newI (n := 150) dX4_init_8 rfl (by omega) (by decide) (by decide) ?_
  refine go_put (fs' := [_, _, _, _, _, _, _, _, _, _]) dX4_init_10 fX4_9 (by omega) ((hset_ne (by omega)).trans h0) (Nat.le_of_ble_eq_true rfl) rfl ⟨_, _, _, rfl, Or.inr ⟨rfl, rfl, rfl⟩⟩ rfl ?_
  refine go_aload_n dX4_init_13 rfl ?_
  refine go_new (ci := 0) (fs := [.null, .null, .int 0, .int 0, .int 0]) dX4_init_14 nX4_15 rfl bX0 in_X0 (fun j hj => by rcases (show j = 0 ∨ j = 1 ∨ j = 2 ∨ j = 3 ∨ j = 4 by omega) with rfl | rfl | rfl | rfl | rfl <;> rfl) (fun _ _ => rfl) (by omega) (by omega) ?_
  refine go_dup dX4_init_17 rfl ?_
  refine go_ii dX4_init_18 mX0_init iX4_17 (run_chart d (i := 46) hset_same) rfl rfl (Nat.le_of_ble_eq_true rfl) (by omega) (by omega) (fun v_18 h_18 n_18 q_18 => ?_)
  obtain ⟨rfl, rfl, hC, hF⟩ := q_18
  refine go_put (fs' := [_, _, _, _, _, _, _, _, _, _]) dX4_init_21 fX4_18 (by omega) ((hF 44 (by omega)).trans ((hset_ne (by omega)).trans hset_same)) (Nat.le_of_ble_eq_true rfl) rfl ⟨_, _, _, rfl, Or.inr ⟨rfl, rfl, rfl⟩⟩ rfl ?_
  refine go_vret dX4_init_24 rfl ?_
  refine ⟨rfl, rfl, ⟨fun _ => 0, 0, 0, 0, 0, 0, 0, 0, c0, hset_same, (hset_ne (by omega)).trans ((hF 45 (by omega)).trans ((hset_ne (by omega)).trans ((hset_ne (by omega)).trans hset_same))), hC.kept (hset_ne (by omega)) (hset_ne (by omega)) (hset_ne (by omega)), fun i hi => absurd hi (Nat.not_lt_zero _)⟩, fun x hx => ?_⟩
  rw [hset_ne (by omega), hF x (by omega), hset_ne (by omega), hset_ne (by omega), hset_ne (by omega)]
set_option maxRecDepth 100000 in
theorem im_loop {d bc bs : Nat} {x1 x2 x3 x4 x5 : Value} {Q : Option Value → gH → Nat → Prop} : ∀ (m k : Nat) (h : gH) (R : Nat → Option Nat), k + m = 2 → h 0 = .inr (8, [x1, x2, .ref 36, x3, x4, x5]) → h 36 = .inl (3, 2, .inr (.inr (.inr (.inr R)))) → (∀ i, i < k → R i = some (37 + 3 * i)) → (∀ i, i < k → Ct h (37 + 3 * i) c0) →
    (∀ (h' : gH) (R' : Nat → Option Nat) (w : Option Value), h' 36 = .inl (3, 2, .inr (.inr (.inr (.inr R')))) → (∀ i, i < 2 → R' i = some (37 + 3 * i)) → (∀ i, i < 2 → Ct h' (37 + 3 * i) c0) → Fr 36 43 h h' → Go none RX8 cX8_init 2 none true (d + 4) 60 [some (.ref 0), w] [] h' 43 bc bs Q) → Go none RX8 cX8_init 2 none true (d + 4) 36 [some (.ref 0), some (.int (nI k))] [] h (37 + 3 * k) (bc + 3 * m) (bs + 110 * m) Q := by
  intro m
  induction m with
  | zero =>
    intro k h R hk h0 h1 h2 h3 hq
    have e : k = 2 := by omega
    subst e
    refine go_iload_n dX8_init_36 rfl ?_
    refine go_iconst (v := nI 2) dX8_init_37 (by decide) ?_
    refine go_icmp_ge (tgt := 60) dX8_init_38 (by decide) (fun c_38 => ?_) (fun c_38 => ?_)
    · skip
      exact hq h R _ h1 h2 h3 Fr.rf
    · exact absurd (nI_le (Nat.le_refl _) (by decide)) c_38
  | succ m ih =>
    intro k h R hk h0 h1 h2 h3 hq
    refine go_iload_n dX8_init_36 rfl ?_
    refine go_iconst (v := nI 2) dX8_init_37 (by decide) ?_
    refine go_icmp_ge (tgt := 60) dX8_init_38 (by decide) (fun c_38 => ?_) (fun c_38 => ?_)
    · exact absurd c_38 (nI_ge (by omega) (by decide))
    · skip
      refine go_aload_n dX8_init_41 rfl ?_
      refine go_get dX8_init_42 fX8_23 (by omega) h0 rfl ?_
      refine go_iload_n dX8_init_45 rfl ?_
      refine go_new (ci := 0) (fs := [.null, .null, .int 0, .int 0, .int 0]) dX8_init_46 nX8_7 rfl bX0 in_X0 (fun j hj => by rcases (show j = 0 ∨ j = 1 ∨ j = 2 ∨ j = 3 ∨ j = 4 by omega) with rfl | rfl | rfl | rfl | rfl <;> rfl) (fun _ _ => rfl) (by omega) (by omega) ?_
      refine go_dup dX8_init_49 rfl ?_
      refine go_ii dX8_init_50 mX0_init iX8_9 (run_chart (d + 1) (i := 37 + 3 * k) hset_same) rfl rfl (Nat.le_of_ble_eq_true rfl) (by omega) (by omega) (fun v_50 h_50 n_50 q_50 => ?_)
      obtain ⟨rfl, rfl, hCn, hF⟩ := q_50
      have hz : ∀ x, x < 37 + 3 * k → h_50 x = h x := fun x hx => (hF x (by omega)).trans (hset_ne (by omega))
      obtain ⟨F, G, g0, -⟩ := id hCn
      refine go_aast dX8_init_53 (by omega) ((hz 36 (by omega)).trans h1) (Or.inl ⟨rfl, rfl⟩) (by omega) g0 rfl (by omega) (by omega) ?_
      refine go_inc (L' := [_, _]) dX8_init_54 rfl (by decide) rfl ?_
      refine go_goto (tgt := 36) dX8_init_57 (by decide) ?_
      have hz2 : ∀ y, ∀ x, x ≠ 36 → hset h_50 36 y x = h_50 x := fun y x hx => hset_ne hx
      have hR' : ∀ i, i < k + 1 → va_up R k (some (37 + 3 * k)) i = some (37 + 3 * i) := by
        intro i hi
        by_cases e : i = k
        · subst e; simp [va_up]
        · simp only [va_up, if_neg e]; exact h2 i (by omega)
      have hC' : ∀ i, i < k + 1 → Ct (hset h_50 36 (.inl (3, 2, .inr (.inr (.inr (.inr (va_up R k (some (37 + 3 * k))))))))) (37 + 3 * i) c0 := by
        intro i hi
        by_cases e : i = k
        · subst e; exact hCn.kept (hz2 _ _ (by omega)) (hz2 _ _ (by omega)) (hz2 _ _ (by omega))
        · exact ((h3 i (by omega)).kept (hz _ (by omega)) (hz _ (by omega)) (hz _ (by omega))).kept (hz2 _ _ (by omega)) (hz2 _ _ (by omega)) (hz2 _ _ (by omega))
      refine go_room (bc' := bc + 3 * m) (bs' := bs + 110 * m) (by omega) (by omega) (ih (k + 1) _ _ (by omega) ((hz2 _ 0 (by omega)).trans ((hz 0 (by omega)).trans h0)) hset_same hR' hC' (fun h' R' w a1 a2 a3 a4 => hq h' R' w a1 a2 a3 (fun y hy => ?_)))
      exact (a4 y hy).trans ((hz2 _ y (by omega)).trans ((hF y (by omega)).trans (hset_ne (by omega))))
set_option maxRecDepth 100000 in
theorem init_tail (d : Nat) {h : gH} {R : Nat → Option Nat} {w : Option Value} (h0 : h 0 = .inr (8, [.ref 1, .ref 4, .ref 36, .null, .null, .null])) (hC : Ct h 1 c0) (hH : Hs h 0 0 (fun _ => c0)) (hI : h 36 = .inl (3, 2, .inr (.inr (.inr (.inr R))))) (hR : ∀ i, i < 2 → R i = some (37 + 3 * i)) (hCi : ∀ i, i < 2 → Ct h (37 + 3 * i) c0) : Go none RX8 cX8_init 2 none true (d + 4) 60 [some (.ref 0), w] [] h 43 104 2204 (fun v h' N' => v = none ∧ N' = 147 ∧ CS h' s0) := by
  refine go_aload_n dX8_init_60 rfl ?_
  refine go_iconst (v := nI 2) dX8_init_61 (by decide) ?_
  refine go_newZ (n := 2) dX8_init_62 rfl (by omega) (by omega) (by omega) ?_
  refine go_put (fs' := [_, _, _, _, _, _]) dX8_init_64 fX8_27 (by omega) ((hset_ne (by omega)).trans h0) (Nat.le_of_ble_eq_true rfl) rfl ⟨_, _, _, rfl, Or.inr ⟨rfl, rfl, rfl⟩⟩ rfl ?_
  refine go_aload_n dX8_init_67 rfl ?_
  refine go_new (ci := 4) (fs := [.null, .null, .int 0, .int 0, .int 0, .int 0, .int 0, .int 0, .int 0, .int 0]) dX8_init_68 nX8_31 rfl bX4 in_X4 (fun j hj => by rcases (show j = 0 ∨ j = 1 ∨ j = 2 ∨ j = 3 ∨ j = 4 ∨ j = 5 ∨ j = 6 ∨ j = 7 ∨ j = 8 ∨ j = 9 by omega) with rfl | rfl | rfl | rfl | rfl | rfl | rfl | rfl | rfl | rfl <;> rfl) (fun _ _ => rfl) (by omega) (by omega) ?_
  refine go_dup dX8_init_71 rfl ?_
  refine go_iiN dX8_init_72 mX4_init iX8_33 (run_maptext d hset_same) rfl rfl (Nat.le_of_ble_eq_true rfl) (by omega) (by omega) (fun v_72 h_72 n_72 q_72 => ?_)
  obtain ⟨rfl, rfl, hM, hF5⟩ := q_72
  have k5 := (hF5 0 (by omega)).trans ((hset_ne (by omega)).trans hset_same)
  refine go_put (fs' := [_, _, _, _, _, _]) dX8_init_75 fX8_34 (by omega) k5 (Nat.le_of_ble_eq_true rfl) rfl ⟨_, _, _, rfl, Or.inr ⟨rfl, rfl, rfl⟩⟩ rfl ?_
  refine go_aload_n dX8_init_78 rfl ?_
  refine go_new (ci := 6) (fs := [.null, .null, .null, .null, .null, .null, .null, .int 0, .int 0, .int 0, .int 0]) dX8_init_79 nX8_38 rfl bX6 in_X6 (fun j hj => by rcases (show j = 0 ∨ j = 1 ∨ j = 2 ∨ j = 3 ∨ j = 4 ∨ j = 5 ∨ j = 6 ∨ j = 7 ∨ j = 8 ∨ j = 9 ∨ j = 10 by omega) with rfl | rfl | rfl | rfl | rfl | rfl | rfl | rfl | rfl | rfl | rfl <;> rfl) (fun _ _ => rfl) (by omega) (by omega) ?_
  refine go_dup dX8_init_82 rfl ?_
  refine go_aload_n dX8_init_83 rfl ?_
  refine go_get dX8_init_84 fX8_10 (by omega) ((hset_ne (by omega)).trans hset_same) rfl ?_
  refine go_ii dX8_init_87 mX6_init iX8_40 (run_partings (d + 1) c0 hset_same) rfl rfl (Nat.le_of_ble_eq_true rfl) (by omega) (by omega) (fun v_87 h_87 n_87 q_87 => ?_)
  obtain ⟨rfl, rfl, hP, hF6⟩ := q_87
  refine go_put (fs' := [_, _, _, _, _, _]) dX8_init_90 fX8_43 (by omega) ((hF6 0 (by omega)).trans ((hset_ne (by omega)).trans hset_same)) (Nat.le_of_ble_eq_true rfl) rfl ⟨_, _, _, rfl, Or.inr ⟨rfl, rfl, rfl⟩⟩ rfl ?_
  refine go_vret dX8_init_93 rfl ?_
  have f0 : ∀ y, Fr 0 1 h_87 (hset h_87 0 y) := fun y => Fr.rf.set (by omega) (by omega)
  have g : ∀ y x, 0 < x → x < 43 → hset h_87 0 y x = h x := fun y x q1 q2 => by rw [hset_ne (by omega), hF6 x (by omega), hset_ne (by omega), hset_ne (by omega), hF5 x (by omega), hset_ne (by omega), hset_ne (by omega), hset_ne (by omega)]
  have gm : ∀ y x, 44 ≤ x → x < 49 → hset h_87 0 y x = h_72 x := fun y x q1 q2 => by rw [hset_ne (by omega), hF6 x (by omega), hset_ne (by omega), hset_ne (by omega)]
  refine ⟨rfl, rfl, hset_same, hC.kept (g _ _ (by omega) (by omega)) (g _ _ (by omega) (by omega)) (g _ _ (by omega) (by omega)), ⟨0, fun _ => c0, by omega, ?_, fun i hi => absurd hi (Nat.not_lt_zero _)⟩, ⟨⟨R, (g _ _ (by omega) (by omega)).trans hI, hR⟩, fun i hi => (hCi i hi).kept (g _ _ (by omega) (by omega)) (g _ _ (by omega) (by omega)) (g _ _ (by omega) (by omega)), fun _ => 0, ?_, fun i hi => rfl⟩, ?_, ⟨_, _, _, _, hP.fr (f0 _) (by omega)⟩⟩
  · obtain ⟨RH, a1, a2, a3, a4⟩ := hH
    exact ⟨RH, (g _ _ (by omega) (by omega)).trans a1, (g _ _ (by omega) (by omega)).trans a2, a3, fun i hi => (a4 i hi).kept (g _ _ (by omega) (by omega)) (g _ _ (by omega) (by omega)) (g _ _ (by omega) (by omega))⟩
  · rw [hset_ne (by omega), hF6 43 (by omega), hset_ne (by omega), hset_ne (by omega), hF5 43 (by omega), hset_ne (by omega), hset_ne (by omega)]; exact hset_same
  · obtain ⟨F, y3, y4, y5, y6, y7, y8, y9, c, m0, m1, m2, m3⟩ := hM
    exact ⟨F, y3, y4, y5, y6, y7, y8, y9, c, (gm _ _ (by omega) (by omega)).trans m0, (gm _ _ (by omega) (by omega)).trans m1, m2.kept (gm _ _ (by omega) (by omega)) (gm _ _ (by omega) (by omega)) (gm _ _ (by omega) (by omega)), m3⟩
set_option maxRecDepth 100000 in
theorem run_class (d : Nat) {h : gH} (h0 : h 0 = .inr (8, [.null, .null, .null, .null, .null, .null])) : Run (d + 4) yX8_init cX8_init 2 none [.ref 0] h 1 146 3649 (fun v h' N' => v = none ∧ N' = 147 ∧ CS h' s0) := by
  refine Run.of (ini := true) (L := [_, _]) mX8_init (fun h => rfl) rfl (Nat.le_of_ble_eq_true rfl) rfl ?_
  refine go_aload_n dX8_init_0 rfl ?_
  refine go_obj dX8_init_1 oX8 (Nat.le_of_ble_eq_true rfl) ?_
  refine go_aload_n dX8_init_4 rfl ?_
  refine go_new (ci := 0) (fs := [.null, .null, .int 0, .int 0, .int 0]) dX8_init_5 nX8_7 rfl bX0 in_X0 (fun j hj => by rcases (show j = 0 ∨ j = 1 ∨ j = 2 ∨ j = 3 ∨ j = 4 by omega) with rfl | rfl | rfl | rfl | rfl <;> rfl) (fun _ _ => rfl) (by omega) (by omega) ?_
  refine go_dup dX8_init_8 rfl ?_
  refine go_ii dX8_init_9 mX0_init iX8_9 (run_chart (d + 1) (i := 1) hset_same) rfl rfl (Nat.le_of_ble_eq_true rfl) (by omega) (by omega) (fun v_9 h_9 n_9 q_9 => ?_)
  obtain ⟨rfl, rfl, hC, hF1⟩ := q_9
  have k1 := (hF1 0 (by omega)).trans ((hset_ne (by omega)).trans h0)
  refine go_put (fs' := [_, _, _, _, _, _]) dX8_init_12 fX8_10 (by omega) k1 (Nat.le_of_ble_eq_true rfl) rfl ⟨_, _, _, rfl, Or.inr ⟨rfl, rfl, rfl⟩⟩ rfl ?_
  refine go_aload_n dX8_init_15 rfl ?_
  refine go_new (ci := 1) (fs := [.null, .int 0, .int 0]) dX8_init_16 nX8_16 rfl bX1 in_X1 (fun j hj => by rcases (show j = 0 ∨ j = 1 ∨ j = 2 by omega) with rfl | rfl | rfl <;> rfl) (fun _ _ => rfl) (by omega) (by omega) ?_
  refine go_dup dX8_init_19 rfl ?_
  refine go_ii dX8_init_20 mX1_init iX8_18 (run_history d hset_same) rfl rfl (Nat.le_of_ble_eq_true rfl) (by omega) (by omega) (fun v_20 h_20 n_20 q_20 => ?_)
  obtain ⟨rfl, rfl, hH, hF2⟩ := q_20
  have k2 := (hF2 0 (by omega)).trans ((hset_ne (by omega)).trans hset_same)
  refine go_put (fs' := [_, _, _, _, _, _]) dX8_init_23 fX8_19 (by omega) k2 (Nat.le_of_ble_eq_true rfl) rfl ⟨_, _, _, rfl, Or.inr ⟨rfl, rfl, rfl⟩⟩ rfl ?_
  refine go_aload_n dX8_init_26 rfl ?_
  refine go_iconst (v := nI 2) dX8_init_27 (by decide) ?_
  refine go_newQ (n := 2) (kd := 3) dX8_init_28 nX8_7 (Or.inl ⟨rfl, rfl⟩) rfl (by omega) (by omega) (by omega) ?_
  refine go_put (fs' := [_, _, _, _, _, _]) dX8_init_31 fX8_23 (by omega) ((hset_ne (by omega)).trans hset_same) (Nat.le_of_ble_eq_true rfl) rfl ⟨_, _, _, rfl, Or.inr ⟨rfl, rfl, rfl⟩⟩ rfl ?_
  refine go_iconst (v := nI 0) dX8_init_34 (by decide) ?_
  refine go_istore_n (L' := [_, _]) dX8_init_35 rfl (by decide) rfl ?_
  have z1 : ∀ y x, 0 < x → x < 36 → hset (hset (hset h_20 0 y) 36 (.inl (3, 2, .inr (.inr (.inr (.inr (fun _ => none))))))) 0 (.inr (8, [.ref 1, .ref 4, .ref 36, .null, .null, .null])) x = h_20 x := fun y x q1 q2 => by rw [hset_ne (by omega), hset_ne (by omega), hset_ne (by omega)]
  refine go_room (bc' := 104 + 3 * 2) (bs' := 2204 + 110 * 2) (by omega) (by omega) (im_loop 2 0 _ (fun _ => none) rfl hset_same ((hset_ne (by omega)).trans hset_same) (fun i hi => absurd hi (by omega)) (fun i hi => absurd hi (by omega)) (fun h4 R w b1 b2 b3 b4 => ?_))
  have k4 := (b4 0 (by omega)).trans hset_same
  have z4 : ∀ x, 0 < x → x < 36 → h4 x = h_20 x := fun x q1 q2 => (b4 x (by omega)).trans (z1 _ x q1 q2)
  have hC4 : Ct h4 1 c0 := hC.kept ((z4 _ (by omega) (by omega)).trans ((hF2 _ (by omega)).trans ((hset_ne (by omega)).trans (hset_ne (by omega))))) ((z4 _ (by omega) (by omega)).trans ((hF2 _ (by omega)).trans ((hset_ne (by omega)).trans (hset_ne (by omega))))) ((z4 _ (by omega) (by omega)).trans ((hF2 _ (by omega)).trans ((hset_ne (by omega)).trans (hset_ne (by omega)))))
  have hH4 : Hs h4 0 0 (fun _ => c0) := by obtain ⟨RH, a1, a2, a3, a4⟩ := hH; exact ⟨RH, (z4 _ (by omega) (by omega)).trans a1, (z4 _ (by omega) (by omega)).trans a2, a3, fun i hi => (a4 i hi).kept (z4 _ (by omega) (by omega)) (z4 _ (by omega) (by omega)) (z4 _ (by omega) (by omega))⟩
  exact init_tail d k4 hC4 hH4 b1 b2 b3
set_option maxRecDepth 100000 in
theorem run_model (d : Nat) {h : gH} (h0 : h 147 = .inr (9, [.int 0, .int 0, .int 0, .int 0, .null, .null, .null, .null, .int 0, .int 0, .int 0, .int 0, .int 0, .int 0, .null, .null, .null, .int 0, .null, .int 0, .null, .null, .null, .null, .int 0, .null, .null, .null])) : Run (d + 1) yX9_init cX9_init 1 none [.ref 147] h 148 15 1691 (fun v h' N' => v = none ∧ N' = 163 ∧ MS h' s0 ∧ Fr 147 163 h h') := by
  refine Run.of (ini := true) (L := [_]) mX9_init (fun h => rfl) rfl (Nat.le_of_ble_eq_true rfl) rfl ?_
  refine go_aload_n dX9_init_0 rfl ?_
  refine go_obj dX9_init_1 oX9 (Nat.le_of_ble_eq_true rfl) ?_
  refine go_aload_n dX9_init_4 rfl ?_
  refine go_iconst (v := nI 3) dX9_init_5 (by decide) ?_
  refine go_put (fs' := [_, _, _, _, _, _, _, _, _, _, _, _, _, _, _, _, _, _, _, _, _, _, _, _, _, _, _, _]) dX9_init_6 fX9_7 (by omega) h0 (Nat.le_of_ble_eq_true rfl) (Or.inl rfl) ⟨_, _, _, rfl, Or.inl rfl⟩ rfl ?_
  refine go_aload_n dX9_init_9 rfl ?_
  refine go_bipush (v := nI 24) dX9_init_10 (by decide) ?_
  refine go_newI (n := 24) dX9_init_12 rfl (by omega) (by omega) (by omega) ?_
  refine go_put (fs' := [_, _, _, _, _, _, _, _, _, _, _, _, _, _, _, _, _, _, _, _, _, _, _, _, _, _, _, _]) dX9_init_14 fX9_13 (by omega) ((hset_ne (by omega)).trans hset_same) (Nat.le_of_ble_eq_true rfl) rfl ⟨_, _, _, rfl, Or.inr ⟨rfl, rfl, rfl⟩⟩ rfl ?_
  refine go_aload_n dX9_init_17 rfl ?_
  refine go_bipush (v := nI 24) dX9_init_18 (by decide) ?_
  refine go_newI (n := 24) dX9_init_20 rfl (by omega) (by omega) (by omega) ?_
  refine go_put (fs' := [_, _, _, _, _, _, _, _, _, _, _, _, _, _, _, _, _, _, _, _, _, _, _, _, _, _, _, _]) dX9_init_22 fX9_17 (by omega) ((hset_ne (by omega)).trans hset_same) (Nat.le_of_ble_eq_true rfl) rfl ⟨_, _, _, rfl, Or.inr ⟨rfl, rfl, rfl⟩⟩ rfl ?_
  refine go_aload_n dX9_init_25 rfl ?_
  refine go_iconst (v := nI 5) dX9_init_26 (by decide) ?_
  refine go_newI (n := 5) dX9_init_27 rfl (by omega) (by omega) (by omega) ?_
  refine go_put (fs' := [_, _, _, _, _, _, _, _, _, _, _, _, _, _, _, _, _, _, _, _, _, _, _, _, _, _, _, _]) dX9_init_29 fX9_20 (by omega) ((hset_ne (by omega)).trans hset_same) (Nat.le_of_ble_eq_true rfl) rfl ⟨_, _, _, rfl, Or.inr ⟨rfl, rfl, rfl⟩⟩ rfl ?_
  refine go_aload_n dX9_init_32 rfl ?_
  refine go_sipush (v := nI 150) dX9_init_33 (by decide) ?_
  refine go_newI (n := 150) dX9_init_36 rfl (by omega) (by omega) (by omega) ?_
  refine go_put (fs' := [_, _, _, _, _, _, _, _, _, _, _, _, _, _, _, _, _, _, _, _, _, _, _, _, _, _, _, _]) dX9_init_38 fX9_23 (by omega) ((hset_ne (by omega)).trans hset_same) (Nat.le_of_ble_eq_true rfl) rfl ⟨_, _, _, rfl, Or.inr ⟨rfl, rfl, rfl⟩⟩ rfl ?_
  refine go_aload_n dX9_init_41 rfl ?_
  refine go_bipush (v := nI 24) dX9_init_42 (by decide) ?_
  refine go_newI (n := 24) dX9_init_44 rfl (by omega) (by omega) (by omega) ?_
  refine go_put (fs' := [_, _, _, _, _, _, _, _, _, _, _, _, _, _, _, _, _, _, _, _, _, _, _, _, _, _, _, _]) dX9_init_46 fX9_26 (by omega) ((hset_ne (by omega)).trans hset_same) (Nat.le_of_ble_eq_true rfl) rfl ⟨_, _, _, rfl, Or.inr ⟨rfl, rfl, rfl⟩⟩ rfl ?_
  refine go_aload_n dX9_init_49 rfl ?_
  refine go_bipush (v := nI 24) dX9_init_50 (by decide) ?_
  refine go_newI (n := 24) dX9_init_52 rfl (by omega) (by omega) (by omega) ?_
  refine go_put (fs' := [_, _, _, _, _, _, _, _, _, _, _, _, _, _, _, _, _, _, _, _, _, _, _, _, _, _, _, _]) dX9_init_54 fX9_29 (by omega) ((hset_ne (by omega)).trans hset_same) (Nat.le_of_ble_eq_true rfl) rfl ⟨_, _, _, rfl, Or.inr ⟨rfl, rfl, rfl⟩⟩ rfl ?_
  refine go_aload_n dX9_init_57 rfl ?_
  refine go_sipush (v := nI 570) dX9_init_58 (by decide) ?_
  refine go_newI (n := 570) dX9_init_61 rfl (by omega) (by omega) (by omega) ?_
  refine go_put (fs' := [_, _, _, _, _, _, _, _, _, _, _, _, _, _, _, _, _, _, _, _, _, _, _, _, _, _, _, _]) dX9_init_63 fX9_32 (by omega) ((hset_ne (by omega)).trans hset_same) (Nat.le_of_ble_eq_true rfl) rfl ⟨_, _, _, rfl, Or.inr ⟨rfl, rfl, rfl⟩⟩ rfl ?_
  refine go_aload_n dX9_init_66 rfl ?_
  refine go_bipush (v := nI 116) dX9_init_67 (by decide) ?_
  refine go_newI (n := 116) dX9_init_69 rfl (by omega) (by omega) (by omega) ?_
  refine go_put (fs' := [_, _, _, _, _, _, _, _, _, _, _, _, _, _, _, _, _, _, _, _, _, _, _, _, _, _, _, _]) dX9_init_71 fX9_35 (by omega) ((hset_ne (by omega)).trans hset_same) (Nat.le_of_ble_eq_true rfl) rfl ⟨_, _, _, rfl, Or.inr ⟨rfl, rfl, rfl⟩⟩ rfl ?_
  refine go_aload_n dX9_init_74 rfl ?_
  refine go_bipush (v := nI 24) dX9_init_75 (by decide) ?_
  refine go_newI (n := 24) dX9_init_77 rfl (by omega) (by omega) (by omega) ?_
  refine go_put (fs' := [_, _, _, _, _, _, _, _, _, _, _, _, _, _, _, _, _, _, _, _, _, _, _, _, _, _, _, _]) dX9_init_79 fX9_38 (by omega) ((hset_ne (by omega)).trans hset_same) (Nat.le_of_ble_eq_true rfl) rfl ⟨_, _, _, rfl, Or.inr ⟨rfl, rfl, rfl⟩⟩ rfl ?_
  refine go_aload_n dX9_init_82 rfl ?_
  refine go_bipush (v := nI 24) dX9_init_83 (by decide) ?_
  refine go_newI (n := 24) dX9_init_85 rfl (by omega) (by omega) (by omega) ?_
  refine go_put (fs' := [_, _, _, _, _, _, _, _, _, _, _, _, _, _, _, _, _, _, _, _, _, _, _, _, _, _, _, _]) dX9_init_87 fX9_41 (by omega) ((hset_ne (by omega)).trans hset_same) (Nat.le_of_ble_eq_true rfl) rfl ⟨_, _, _, rfl, Or.inr ⟨rfl, rfl, rfl⟩⟩ rfl ?_
  refine go_aload_n dX9_init_90 rfl ?_
  refine go_sipush (v := nI 175) dX9_init_91 (by decide) ?_
  refine go_newJ (n := 175) dX9_init_94 rfl (by omega) (by omega) (by omega) ?_
  refine go_put (fs' := [_, _, _, _, _, _, _, _, _, _, _, _, _, _, _, _, _, _, _, _, _, _, _, _, _, _, _, _]) dX9_init_96 fX9_44 (by omega) ((hset_ne (by omega)).trans hset_same) (Nat.le_of_ble_eq_true rfl) rfl ⟨_, _, _, rfl, Or.inr ⟨rfl, rfl, rfl⟩⟩ rfl ?_
  refine go_aload_n dX9_init_99 rfl ?_
  refine go_sipush (v := nI 175) dX9_init_100 (by decide) ?_
  refine go_newI (n := 175) dX9_init_103 rfl (by omega) (by omega) (by omega) ?_
  refine go_put (fs' := [_, _, _, _, _, _, _, _, _, _, _, _, _, _, _, _, _, _, _, _, _, _, _, _, _, _, _, _]) dX9_init_105 fX9_48 (by omega) ((hset_ne (by omega)).trans hset_same) (Nat.le_of_ble_eq_true rfl) rfl ⟨_, _, _, rfl, Or.inr ⟨rfl, rfl, rfl⟩⟩ rfl ?_
  refine go_aload_n dX9_init_108 rfl ?_
  refine go_bipush (v := nI 6) dX9_init_109 (by decide) ?_
  refine go_newI (n := 6) dX9_init_111 rfl (by omega) (by omega) (by omega) ?_
  refine go_put (fs' := [_, _, _, _, _, _, _, _, _, _, _, _, _, _, _, _, _, _, _, _, _, _, _, _, _, _, _, _]) dX9_init_113 fX9_51 (by omega) ((hset_ne (by omega)).trans hset_same) (Nat.le_of_ble_eq_true rfl) rfl ⟨_, _, _, rfl, Or.inr ⟨rfl, rfl, rfl⟩⟩ rfl ?_
  refine go_aload_n dX9_init_116 rfl ?_
  refine go_sipush (v := nI 175) dX9_init_117 (by decide) ?_
  refine go_newJ (n := 175) dX9_init_120 rfl (by omega) (by omega) (by omega) ?_
  refine go_put (fs' := [_, _, _, _, _, _, _, _, _, _, _, _, _, _, _, _, _, _, _, _, _, _, _, _, _, _, _, _]) dX9_init_122 fX9_54 (by omega) ((hset_ne (by omega)).trans hset_same) (Nat.le_of_ble_eq_true rfl) rfl ⟨_, _, _, rfl, Or.inr ⟨rfl, rfl, rfl⟩⟩ rfl ?_
  refine go_aload_n dX9_init_125 rfl ?_
  refine go_sipush (v := nI 175) dX9_init_126 (by decide) ?_
  refine go_newI (n := 175) dX9_init_129 rfl (by omega) (by omega) (by omega) ?_
  refine go_put (fs' := [_, _, _, _, _, _, _, _, _, _, _, _, _, _, _, _, _, _, _, _, _, _, _, _, _, _, _, _]) dX9_init_131 fX9_57 (by omega) ((hset_ne (by omega)).trans hset_same) (Nat.le_of_ble_eq_true rfl) rfl ⟨_, _, _, rfl, Or.inr ⟨rfl, rfl, rfl⟩⟩ rfl ?_
  refine go_vret dX9_init_134 rfl ?_
  have e : cP c0.1 100 = 0 := by rw [← gsum_cP]; exact gsum_0 (fun _ _ => rfl)
  have hEN0 : EN c0.1 0 (fun _ => 0) (fun _ => 0) := ⟨fun i hi => absurd hi (by omega), fun i j hi => absurd hi (by omega), fun x hx hf => absurd rfl hf⟩
  refine ⟨rfl, rfl, ⟨⟨0, 0, 0, 0, 0, 0, 0, ?_⟩, ⟨fun _ => 0, fun _ => 0, fun _ => 0, ?_, ?_, ?_, ⟨fun _ => 0, fun _ => 0, (by show EN c0.1 (cP c0.1 100) _ _; rw [e]; exact hEN0), (fun i hi => absurd (show i < cP c0.1 100 from hi) (by rw [e]; omega))⟩, fun i hi => absurd hi (Nat.not_lt_zero _)⟩, ⟨fun _ => 0, ?_, fun i hi => absurd hi (Nat.not_lt_zero _)⟩, ⟨fun _ => 0, ?_, fun i hi => absurd hi (Nat.not_lt_zero _)⟩, ⟨fun _ => 0, ?_, fun i hi => ⟨rfl, (fun z => by cases z)⟩⟩, ⟨fun _ => 0, fun _ => 0, fun _ => 0, fun _ => 0, fun _ => 0, fun _ => 0, fun _ => 0, fun _ => 0, fun _ => 0, ?_, ?_, ?_, ?_, ?_, ?_, ?_, ?_, ?_⟩⟩, (fun x hx => by have hx : x < 147 ∨ 163 ≤ x := hx; simp only [hset]; repeat rw [if_neg (by omega)])⟩
  · show _ = mo (nI (cP c0.1 100)) _ _ _ _ _ _ _ _ _ _ _ _
    rw [e]; exact hset_same
  all_goals first | (simp only [hset_ne (show (148 : Nat) ≠ 147 by decide), hset]; simp only [if_true, if_false]; rfl) | skip
