/-! ===== History: cell 4, its array 5, its charts 6, 9 .. 33 ===== -/
def Hs (h : gH) (nx kn : Nat) (H : Nat → CD) : Prop := ∃ R : Nat → Option Nat, h 4 = .inr (1, [.ref 5, .int (nI nx), .int (nI kn)]) ∧ h 5 = .inl (3, 10, .inr (.inr (.inr (.inr R)))) ∧ (∀ i, i < 10 → R i = some (6 + 3 * i)) ∧ ∀ i, i < 10 → Ct h (6 + 3 * i) (H i)
theorem Hs.fr {h h' : gH} {lo hi nx kn : Nat} {H : Nat → CD} (q : Hs h nx kn H) (f : Fr lo hi h h') (hx : 36 ≤ lo ∨ hi ≤ 4) : Hs h' nx kn H := by
  obtain ⟨R, h0, h1, h2, h3⟩ := q
  exact ⟨R, (f _ (by omega)).trans h0, (f _ (by omega)).trans h1, h2, fun i hi => (h3 i hi).fr f (by omega)⟩
def updH (H : Nat → CD) (k : Nat) (c : CD) : Nat → CD := fun j => if j = k then c else H j
set_option maxRecDepth 100000 in
theorem run_remember (d : Nat) {N nx kn : Nat} {h : gH} {H : Nat → CD} {c : CD} (hN : 36 ≤ N) (hx : nx < 10) (hk : kn ≤ 10) (hH : Hs h nx kn H) (hC : Ct h 1 c) : Run (d + 2) yX1_remember cX1_remember 2 none [.ref 4, .ref 1] h N 0 0 (fun v h' N' => v = none ∧ N' = N ∧ Hs h' ((nx + 1) % 10) (min (kn + 1) 10) (updH H nx c) ∧ Fr 4 36 h h') := by
  obtain ⟨R, h0, h1, h2, h3⟩ := id hH
  obtain ⟨F, G, g0, -⟩ := id (h3 nx hx)
  refine Run.of (ini := false) (L := [_, _]) mX1_remember (fun h => by cases h) rfl (Nat.le_of_ble_eq_true rfl) rfl ?_
  refine go_aload_n dX1_remember_0 rfl ?_
  refine go_get dX1_remember_1 fX1_11 (by omega) h0 rfl ?_
  refine go_aload_n dX1_remember_4 rfl ?_
  refine go_get dX1_remember_5 fX1_18 (by omega) h0 rfl ?_
  refine go_aald dX1_remember_8 (by omega) h1 (by decide) (by decide) rfl hx (by omega) (h2 nx hx) ?_
  refine go_aload_n dX1_remember_9 rfl ?_
  refine go_iv dX1_remember_10 mX0_become iX1_22 (run_become d (by omega) (by omega) (by omega) (h3 nx hx) hC) rfl rfl (by omega) g0 rfl (Nat.le_of_ble_eq_true rfl) (Nat.zero_le _) (Nat.zero_le _) (fun v_10 h_10 n_10 q_10 => ?_)
  obtain ⟨rfl, rfl, hCn, hF⟩ := q_10
  have k0 := (hF 4 (by omega)).trans h0
  refine go_aload_n dX1_remember_13 rfl ?_
  refine go_aload_n dX1_remember_14 rfl ?_
  refine go_get dX1_remember_15 fX1_18 (by omega) k0 rfl ?_
  refine go_iconst (v := nI 1) dX1_remember_18 (by decide) ?_
  refine go_iadd dX1_remember_19 ?_
  refine go_top (y := .int (nI (nx + 1))) (by rw [nI_add]) ?_
  refine go_bipush (v := nI 10) dX1_remember_20 (by decide) ?_
  refine go_irem dX1_remember_22 (by decide) ?_
  refine go_top (y := .int (nI ((nx + 1) % 10))) (by rw [pk_rem (by omega) (by decide) (by decide)]) ?_
  refine go_put (fs' := [_, _, _]) dX1_remember_23 fX1_18 (by omega) k0 (Nat.le_of_ble_eq_true rfl) (Or.inl rfl) ⟨_, _, _, rfl, Or.inl rfl⟩ rfl ?_
  refine go_aload_n dX1_remember_26 rfl ?_
  refine go_aload_n dX1_remember_27 rfl ?_
  refine go_get dX1_remember_28 fX1_26 (by omega) hset_same rfl ?_
  refine go_iconst (v := nI 1) dX1_remember_31 (by decide) ?_
  refine go_iadd dX1_remember_32 ?_
  refine go_top (y := .int (nI (kn + 1))) (by rw [nI_add]) ?_
  refine go_bipush (v := nI 10) dX1_remember_33 (by decide) ?_
  refine go_min dX1_remember_35 iX1_29 (Nat.le_of_ble_eq_true rfl) ?_
  refine go_top (y := .int (nI (min (kn + 1) 10))) ?_ ?_
  · by_cases e : 10 < kn + 1
    · rw [if_pos (nI_lt e (by omega)), show min (kn + 1) 10 = 10 by omega]
    · rw [if_neg (nI_nlt (by omega) (by decide)), show min (kn + 1) 10 = kn + 1 by omega]
  refine go_put (fs' := [_, _, _]) dX1_remember_38 fX1_26 (by omega) hset_same (Nat.le_of_ble_eq_true rfl) (Or.inl rfl) ⟨_, _, _, rfl, Or.inl rfl⟩ rfl ?_
  refine go_vret dX1_remember_41 rfl ?_
  rw [hset_hset]
  have hz : ∀ y, ∀ x, x ≠ 4 → hset h_10 4 y x = h_10 x := fun y x hx => hset_ne hx
  refine ⟨rfl, rfl, ⟨R, hset_same, (hz _ _ (by omega)).trans ((hF 5 (by omega)).trans h1), h2, fun i hi => ?_⟩, (hF.wide (by omega) (by omega)).set (by omega) (by omega)⟩
  by_cases e : i = nx
  · subst e
    rw [updH, if_pos rfl]
    exact hCn.kept (hz _ _ (by omega)) (hz _ _ (by omega)) (hz _ _ (by omega))
  · rw [updH, if_neg e]
    exact ((h3 i hi).fr hF (by omega)).kept (hz _ _ (by omega)) (hz _ _ (by omega)) (hz _ _ (by omega))
set_option maxRecDepth 100000 in
theorem run_recall (d : Nat) {N nx kn : Nat} {h : gH} {H : Nat → CD} {c : CD} (hN : 36 ≤ N) (hx : nx < 10) (hk0 : 0 < kn) (hk : kn ≤ 10) (hH : Hs h nx kn H) (hC : Ct h 1 c) : Run (d + 2) yX1_recall cX1_recall 2 none [.ref 4, .ref 1] h N 0 0 (fun v h' N' => v = none ∧ N' = N ∧ Hs h' ((nx + 9) % 10) (kn - 1) H ∧ Ct h' 1 (H ((nx + 9) % 10)) ∧ Fr 1 5 h h') := by
  obtain ⟨R, h0, h1, h2, h3⟩ := id hH
  obtain ⟨F, G, g0, -⟩ := id hC
  have hy : (nx + 9) % 10 < 10 := Nat.mod_lt _ (by decide)
  refine Run.of (ini := false) (L := [_, _]) mX1_recall (fun h => by cases h) rfl (Nat.le_of_ble_eq_true rfl) rfl ?_
  refine go_aload_n dX1_recall_0 rfl ?_
  refine go_aload_n dX1_recall_1 rfl ?_
  refine go_get dX1_recall_2 fX1_18 (by omega) h0 rfl ?_
  refine go_bipush (v := nI 10) dX1_recall_5 (by decide) ?_
  refine go_iadd dX1_recall_7 ?_
  refine go_top (y := .int (nI (nx + 10))) (by rw [nI_add]) ?_
  refine go_iconst (v := nI 1) dX1_recall_8 (by decide) ?_
  refine go_isub dX1_recall_9 ?_
  refine go_top (y := .int (nI (nx + 9))) (by rw [pk_sub (by omega)]; rfl) ?_
  refine go_bipush (v := nI 10) dX1_recall_10 (by decide) ?_
  refine go_irem dX1_recall_12 (by decide) ?_
  refine go_top (y := .int (nI ((nx + 9) % 10))) (by rw [pk_rem (by omega) (by decide) (by decide)]) ?_
  refine go_put (fs' := [_, _, _]) dX1_recall_13 fX1_18 (by omega) h0 (Nat.le_of_ble_eq_true rfl) (Or.inl rfl) ⟨_, _, _, rfl, Or.inl rfl⟩ rfl ?_
  refine go_aload_n dX1_recall_16 rfl ?_
  refine go_aload_n dX1_recall_17 rfl ?_
  refine go_get dX1_recall_18 fX1_11 (by omega) hset_same rfl ?_
  refine go_aload_n dX1_recall_21 rfl ?_
  refine go_get dX1_recall_22 fX1_18 (by omega) hset_same rfl ?_
  refine go_aald dX1_recall_25 (by omega) ((hset_ne (by omega)).trans h1) (by decide) (by decide) rfl hy (by omega) (h2 _ hy) ?_
  have hz : ∀ y, ∀ x, x ≠ 4 → hset h 4 y x = h x := fun y x hx => hset_ne hx
  refine go_iv dX1_recall_26 mX0_become iX1_22 (run_become d (i := 1) (j := 6 + 3 * ((nx + 9) % 10)) (by omega) (by omega) (by omega) (hC.kept (hz _ _ (by omega)) (hz _ _ (by omega)) (hz _ _ (by omega))) ((h3 _ hy).kept (hz _ _ (by omega)) (hz _ _ (by omega)) (hz _ _ (by omega)))) rfl rfl (by omega) ((hz _ 1 (by omega)).trans g0) rfl (Nat.le_of_ble_eq_true rfl) (Nat.zero_le _) (Nat.zero_le _) (fun v_26 h_26 n_26 q_26 => ?_)
  obtain ⟨rfl, rfl, hCn, hF⟩ := q_26
  have k0 := (hF 4 (by omega)).trans hset_same
  refine go_aload_n dX1_recall_29 rfl ?_
  refine go_aload_n dX1_recall_30 rfl ?_
  refine go_get dX1_recall_31 fX1_26 (by omega) k0 rfl ?_
  refine go_iconst (v := nI 1) dX1_recall_34 (by decide) ?_
  refine go_isub dX1_recall_35 ?_
  refine go_top (y := .int (nI (kn - 1))) (by rw [pk_sub (by omega)]) ?_
  refine go_iconst (v := nI 0) dX1_recall_36 (by decide) ?_
  refine go_max dX1_recall_37 iX1_35 (Nat.le_of_ble_eq_true rfl) ?_
  refine go_top (y := .int (nI (kn - 1))) (by rw [if_neg (nI_nlt (by omega) (by omega))]) ?_
  refine go_put (fs' := [_, _, _]) dX1_recall_40 fX1_26 (by omega) k0 (Nat.le_of_ble_eq_true rfl) (Or.inl rfl) ⟨_, _, _, rfl, Or.inl rfl⟩ rfl ?_
  refine go_vret dX1_recall_43 rfl ?_
  have hz2 : ∀ y, ∀ x, x ≠ 4 → hset h_26 4 y x = h_26 x := fun y x hx => hset_ne hx
  refine ⟨rfl, rfl, ⟨R, hset_same, (hz2 _ _ (by omega)).trans ((hF 5 (by omega)).trans ((hz _ _ (by omega)).trans h1)), h2, fun i hi => ?_⟩, hCn.kept (hz2 _ _ (by omega)) (hz2 _ _ (by omega)) (hz2 _ _ (by omega)), fun x hx => (hz2 _ x (by omega)).trans ((hF x (by omega)).trans (hz _ x (by omega)))⟩
  have e1 : Ct h_26 (6 + 3 * i) (H i) := ((h3 i hi).kept (hz _ _ (by omega)) (hz _ _ (by omega)) (hz _ _ (by omega))).fr hF (by omega)
  exact e1.kept (hz2 _ _ (by omega)) (hz2 _ _ (by omega)) (hz2 _ _ (by omega))
theorem run_hforget (d : Nat) {N nx kn : Nat} {h : gH} {H : Nat → CD} (hN : 36 ≤ N) (hH : Hs h nx kn H) : Run d yX1_forget cX1_forget 1 none [.ref 4] h N 0 0 (fun v h' N' => v = none ∧ N' = N ∧ Hs h' nx 0 H ∧ Fr 4 5 h h') := by
  obtain ⟨R, h0, h1, h2, h3⟩ := id hH
  refine Run.of (ini := false) (L := [_]) mX1_forget (fun h => by cases h) rfl (Nat.le_of_ble_eq_true rfl) rfl ?_
  refine go_aload_n dX1_forget_0 rfl ?_
  refine go_iconst (v := nI 0) dX1_forget_1 (by decide) ?_
  refine go_put (fs' := [_, _, _]) dX1_forget_2 fX1_26 (by omega) h0 (Nat.le_of_ble_eq_true rfl) (Or.inl rfl) ⟨_, _, _, rfl, Or.inl rfl⟩ rfl ?_
  refine go_vret dX1_forget_5 rfl ?_
  have hz : ∀ y, ∀ x, x ≠ 4 → hset h 4 y x = h x := fun y x hx => hset_ne hx
  exact ⟨rfl, rfl, ⟨R, hset_same, (hz _ _ (by omega)).trans h1, h2, fun i hi => (h3 i hi).kept (hz _ _ (by omega)) (hz _ _ (by omega)) (hz _ _ (by omega))⟩, Fr.rf.set (by omega) (by omega)⟩
set_option maxRecDepth 100000 in
theorem hist_loop {d : Nat} : ∀ (m k : Nat) (h : gH) (R : Nat → Option Nat), k + m = 10 → h 4 = .inr (1, [.ref 5, .int 0, .int 0]) → h 5 = .inl (3, 10, .inr (.inr (.inr (.inr R)))) → (∀ i, i < k → R i = some (6 + 3 * i)) → (∀ i, i < k → Ct h (6 + 3 * i) c0) → Go none RX1 cX1_init 2 none true (d + 3) 15 [some (.ref 4), some (.int (nI k))] [] h (6 + 3 * k) (3 * m) (110 * m) (fun v h' N' => v = none ∧ N' = 36 ∧ Hs h' 0 0 (fun _ => c0) ∧ Fr 4 36 h h') := by
  intro m
  induction m with
  | zero =>
    intro k h R hk h0 h1 h2 h3
    have e : k = 10 := by omega
    subst e
    refine go_iload_n dX1_init_15 rfl ?_
    refine go_bipush (v := nI 10) dX1_init_16 (by decide) ?_
    refine go_icmp_ge (tgt := 40) dX1_init_18 (by decide) (fun c_18 => ?_) (fun c_18 => ?_)
    · skip
      refine go_vret dX1_init_40 rfl ?_
      exact ⟨rfl, rfl, ⟨R, h0, h1, h2, h3⟩, Fr.rf⟩
    · exact absurd (nI_le (Nat.le_refl _) (by decide)) c_18
  | succ m ih =>
    intro k h R hk h0 h1 h2 h3
    refine go_iload_n dX1_init_15 rfl ?_
    refine go_bipush (v := nI 10) dX1_init_16 (by decide) ?_
    refine go_icmp_ge (tgt := 40) dX1_init_18 (by decide) (fun c_18 => ?_) (fun c_18 => ?_)
    · exact absurd c_18 (nI_ge (by omega) (by decide))
    · skip
      refine go_aload_n dX1_init_21 rfl ?_
      refine go_get dX1_init_22 fX1_11 (by omega) h0 rfl ?_
      refine go_iload_n dX1_init_25 rfl ?_
      refine go_new (ci := 0) (fs := [.null, .null, .int 0, .int 0, .int 0]) dX1_init_26 nX1_9 rfl bX0 in_X0 (fun j hj => by rcases (show j = 0 ∨ j = 1 ∨ j = 2 ∨ j = 3 ∨ j = 4 by omega) with rfl | rfl | rfl | rfl | rfl <;> rfl) (fun _ _ => rfl) (by omega) (by omega) ?_
      refine go_dup dX1_init_29 rfl ?_
      refine go_ii dX1_init_30 mX0_init iX1_17 (run_chart d (i := 6 + 3 * k) hset_same) rfl rfl (Nat.le_of_ble_eq_true rfl) (by omega) (by omega) (fun v_30 h_30 n_30 q_30 => ?_)
      obtain ⟨rfl, rfl, hCn, hF⟩ := q_30
      have hz : ∀ x, x < 6 + 3 * k → h_30 x = h x := fun x hx => (hF x (by omega)).trans (hset_ne (by omega))
      obtain ⟨F, G, g0, -⟩ := id hCn
      refine go_aast dX1_init_33 (by omega) ((hz 5 (by omega)).trans h1) (Or.inl ⟨rfl, rfl⟩) (by omega) g0 rfl (by omega) (by omega) ?_
      refine go_inc (L' := [_, _]) dX1_init_34 rfl (by decide) rfl ?_
      refine go_goto (tgt := 15) dX1_init_37 (by decide) ?_
      have hz2 : ∀ y, ∀ x, x ≠ 5 → hset h_30 5 y x = h_30 x := fun y x hx => hset_ne hx
      have hR' : ∀ i, i < k + 1 → va_up R k (some (6 + 3 * k)) i = some (6 + 3 * i) := by
        intro i hi
        by_cases e : i = k
        · subst e; simp [va_up]
        · simp only [va_up, if_neg e]; exact h2 i (by omega)
      have hC' : ∀ i, i < k + 1 → Ct (hset h_30 5 (.inl (3, 10, .inr (.inr (.inr (.inr (va_up R k (some (6 + 3 * k))))))))) (6 + 3 * i) c0 := by
        intro i hi
        by_cases e : i = k
        · subst e; exact hCn.kept (hz2 _ _ (by omega)) (hz2 _ _ (by omega)) (hz2 _ _ (by omega))
        · exact ((h3 i (by omega)).kept (hz _ (by omega)) (hz _ (by omega)) (hz _ (by omega))).kept (hz2 _ _ (by omega)) (hz2 _ _ (by omega)) (hz2 _ _ (by omega))
      exact go_room (bc' := 3 * m) (bs' := 110 * m) (by omega) (by omega) (go_Q (fun v h' N' q => ⟨q.1, q.2.1, q.2.2.1, fun y hy => (q.2.2.2 y hy).trans ((hz2 _ y (by omega)).trans ((hF y (by omega)).trans (hset_ne (by omega))))⟩) (ih (k + 1) _ _ (by omega) ((hz2 _ 4 (by omega)).trans ((hz 4 (by omega)).trans h0)) hset_same hR' hC'))
theorem run_history (d : Nat) {h : gH} (h0 : h 4 = .inr (1, [.null, .int 0, .int 0])) : Run (d + 3) yX1_init cX1_init 2 none [.ref 4] h 5 31 1110 (fun v h' N' => v = none ∧ N' = 36 ∧ Hs h' 0 0 (fun _ => c0) ∧ Fr 4 36 h h') := by
  refine Run.of (ini := true) (L := [_, _]) mX1_init (fun h => rfl) rfl (Nat.le_of_ble_eq_true rfl) rfl ?_
  refine go_aload_n dX1_init_0 rfl ?_
  refine go_obj dX1_init_1 oX1 (Nat.le_of_ble_eq_true rfl) ?_
  refine go_aload_n dX1_init_4 rfl ?_
  refine go_bipush (v := nI 10) dX1_init_5 (by decide) ?_
  refine go_newQ (n := 10) (kd := 3) dX1_init_7 nX1_9 (Or.inl ⟨rfl, rfl⟩) rfl (by omega) (by decide) (by decide) ?_
  refine go_put (fs' := [_, _, _]) dX1_init_10 fX1_11 (by omega) ((hset_ne (by omega)).trans h0) (Nat.le_of_ble_eq_true rfl) rfl ⟨_, _, _, rfl, Or.inr ⟨rfl, rfl, rfl⟩⟩ rfl ?_
  refine go_iconst (v := nI 0) dX1_init_13 (by decide) ?_
  refine go_istore_n (L' := [_, _]) dX1_init_14 rfl (by decide) rfl ?_
  refine go_Q (fun v h' N' q => ⟨q.1, q.2.1, q.2.2.1, fun x hx => (q.2.2.2 x hx).trans ((hset_ne (by omega)).trans (hset_ne (by omega)))⟩) (hist_loop 10 0 _ (fun _ => none) rfl hset_same ((hset_ne (by omega)).trans hset_same) (fun i hi => absurd hi (by omega)) (fun i hi => absurd hi (by omega)))
