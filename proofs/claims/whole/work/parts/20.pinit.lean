/-! ===== Partings.lastBegin, its constructor ===== -/
noncomputable def lastI (c : CD) (k j : Nat) : Int32 := if k ≤ j then nI (lst (spr (so c.1).2.1 (so c.1).2.2) k j).2 else -9
set_option maxRecDepth 100000 in
theorem lastB_t {d N k j : Nat} {h : gH} {c : CD} {cu le : Bool} {Q : Option Value → gH → Nat → Prop} (hN : 147 ≤ N) (hP : Pa h c true cu le true) (kk : Go none RX6 cX6_lastBegin 3 (some .int) false (d + 4) 54 [some (.ref 49), some (.int (nI k)), some (.int (nI j))] [] h N 0 0 Q) : Go none RX6 cX6_lastBegin 3 (some .int) false (d + 4) 31 [some (.ref 49), some (.int (nI k)), some (.int (nI j))] [] h N 0 0 Q := by
  refine go_aload_n dX6_lastBegin_31 rfl ?_
  refine go_get dX6_lastBegin_32 fX6_60 (by omega) hP.1 rfl ?_
  refine go_if_ne (tgt := 54) dX6_lastBegin_35 (by decide) (fun c_35 => ?_) (fun c_35 => ?_)
  · skip
    exact kk
  · exact absurd (by decide) c_35
set_option maxRecDepth 100000 in
theorem lastB_f {d N k j : Nat} {h : gH} {c : CD} {cu le : Bool} {B : Nat → Nat → Int64} {E : Nat → Nat → Int32} {Q : Option Value → gH → Nat → Prop} (hN : 147 ≤ N) (hS : SB (so c.1).1 (spr (so c.1).2.1 (so c.1).2.2)) (hP : Pa h c true cu le false) (hT : Lt h B E)
    (kk : ∀ (h2 : gH) (B : Nat → Nat → Int64) (E : Nat → Nat → Int32), Pa h2 c true cu le true → Lt h2 B E → TD (so c.1).1 (spr (so c.1).2.1 (so c.1).2.2) B E 7 1 → Fr 49 147 h h2 → Go none RX6 cX6_lastBegin 3 (some .int) false (d + 4) 54 [some (.ref 49), some (.int (nI k)), some (.int (nI j))] [] h2 N 0 0 Q) : Go none RX6 cX6_lastBegin 3 (some .int) false (d + 4) 31 [some (.ref 49), some (.int (nI k)), some (.int (nI j))] [] h N 0 0 Q := by
  obtain ⟨R1, R2, y0, -⟩ := id hT
  refine go_aload_n dX6_lastBegin_31 rfl ?_
  refine go_get dX6_lastBegin_32 fX6_60 (by omega) hP.1 rfl ?_
  refine go_if_ne (tgt := 54) dX6_lastBegin_35 (by decide) (fun c_35 => ?_) (fun c_35 => ?_)
  · exact absurd rfl c_35
  · skip
    refine go_aload_n dX6_lastBegin_38 rfl ?_
    refine go_get dX6_lastBegin_39 fX6_31 (by omega) hP.1 rfl ?_
    refine go_aload_n dX6_lastBegin_42 rfl ?_
    refine go_get dX6_lastBegin_43 fX6_12 (by omega) hP.1 rfl ?_
    refine go_iv dX6_lastBegin_46 mX3_build iX6_112 (run_lbuild (d + 2) (by omega) hS hP.ld hT) rfl rfl (by omega) y0 rfl (Nat.le_of_ble_eq_true rfl) (Nat.zero_le _) (Nat.zero_le _) (fun v_46 h_46 n_46 q_46 => ?_)
    obtain ⟨rfl, rfl, ⟨B3, E3, hT3, hD3⟩, hF3⟩ := q_46
    have hP3 : Pa h_46 c true cu le false := hP.tab (hF3.wide (by omega) (by omega)) ⟨B3, E3, hT3⟩ rfl
    refine go_aload_n dX6_lastBegin_49 rfl ?_
    refine go_iconst (v := nI 1) dX6_lastBegin_50 (by decide) ?_
    refine go_put (fs' := [_, _, _, _, _, _, _, _, _, _, _]) dX6_lastBegin_51 fX6_60 (by omega) hP3.1 (Nat.le_of_ble_eq_true rfl) (Or.inr ⟨rfl, by decide⟩) ⟨_, _, _, rfl, Or.inl rfl⟩ rfl ?_
    have hP5 : Pa (hset h_46 49 (pa49 true cu le true)) c true cu le true := hP3.upd49 (fun _ => hP3.ld) (fun z => by obtain ⟨q, a1, a2⟩ := hP3.2.2.2.2.2.2.1; have := a2 z; subst this; exact a1) (fun z i hi => by obtain ⟨q, a1, a2⟩ := hP3.2.2.2.2.2.2.2.2 i hi; have := a2 z; subst this; exact a1) (fun _ => ⟨B3, E3, hT3, hD3⟩)
    exact kk _ B3 E3 hP5 (hT3.fr fr49 (by omega)) hD3 ((hF3.wide (by omega) (by omega)).set (by omega) (by omega))
set_option maxRecDepth 100000 in
theorem run_lastBegin (d : Nat) {N k j : Nat} {h : gH} {c : CD} (hN : 147 ≤ N) (hk1 : 1 ≤ k) (hk6 : k ≤ 6) (hj1 : 1 ≤ j) (hj : j ≤ (so c.1).1) (hw : CW c) (hC : Ct h 1 c) (hP : PaE h c) : Run (d + 4) yX6_lastBegin cX6_lastBegin 3 (some .int) [.ref 49, .int (nI k), .int (nI j)] h N 0 0 (fun v h' N' => v = some (.int (lastI c k j)) ∧ N' = N ∧ PaE h' c ∧ Fr 49 147 h h') := by
  obtain ⟨l, cu, le, ta, hP⟩ := hP
  have h24 := so_24 hw.2.1
  have tail : ∀ (h : gH) (B : Nat → Nat → Int64) (E : Nat → Nat → Int32) (Q : Option Value → gH → Nat → Prop), PaE h c → Lt h B E → TD (so c.1).1 (spr (so c.1).2.1 (so c.1).2.2) B E 7 1 → Q (some (.int (lastI c k j))) h N → Go none RX6 cX6_lastBegin 3 (some .int) false (d + 4) 54 [some (.ref 49), some (.int (nI k)), some (.int (nI j))] [] h N 0 0 Q := by
    intro h B E Q hP hT hD hq
    obtain ⟨l, cu, le, ta, hP⟩ := hP
    obtain ⟨R1, R2, y0, y1, y2, y3, y4, y5, y6⟩ := id hT
    have hd := hD k j hk1 (by omega) (by omega) hj1 hj
    have e : E k j = lastI c k j := by
      unfold lastI
      by_cases q : k ≤ j
      · rw [if_pos q]; exact (hd.1 q).2
      · rw [if_neg q]; exact hd.2 (by omega)
    refine go_aload_n dX6_lastBegin_54 rfl ?_
    refine go_get dX6_lastBegin_55 fX6_31 (by omega) hP.1 rfl ?_
    refine go_get dX6_lastBegin_58 fX6_115 (by omega) y0 rfl ?_
    refine go_iload_n dX6_lastBegin_61 rfl ?_
    refine go_aald dX6_lastBegin_62 (by omega) y3 (by decide) (by decide) rfl (by omega) (by omega) (y4 k (by omega)) ?_
    refine go_iload_n dX6_lastBegin_63 rfl ?_
    refine go_iald dX6_lastBegin_64 (by omega) (y6 k (by omega)) rfl (by omega) (by omega) ?_
    refine go_iret dX6_lastBegin_65 rfl ?_
    rw [e]
    exact hq
  refine Run.of (ini := false) (L := [_, _, _]) mX6_lastBegin (fun h => by cases h) rfl (Nat.le_of_ble_eq_true rfl) rfl ?_
  refine go_aload_n dX6_lastBegin_0 rfl ?_
  refine go_iv dX6_lastBegin_1 mX6_rungs iX6_67 (run_rungs d hN hw hC hP) rfl rfl (by omega) hP.1 rfl (Nat.le_of_ble_eq_true rfl) (Nat.zero_le _) (Nat.zero_le _) (fun v_1 h_1 n_1 q_1 => ?_)
  obtain ⟨rfl, rfl, hP1, hF1⟩ := q_1
  obtain ⟨⟨FA, FW, l0, -⟩, -⟩ := id hP1.ld
  obtain ⟨B3, E3, h5, h5'⟩ := hP1.2.2.2.2.2.1
  refine go_pop dX6_lastBegin_4 rfl ?_
  refine go_iload_n dX6_lastBegin_5 rfl ?_
  refine go_isN dX6_lastBegin_6 mX8_isClasses iX6_108 (run_isClasses (d + 3) (nI k)) rfl rfl (Nat.le_of_ble_eq_true rfl) (Nat.zero_le _) (Nat.zero_le _) (fun v_6 h_6 n_6 q_6 => ?_)
  obtain ⟨rfl, rfl, rfl⟩ := q_6
  refine go_if_eq (tgt := 28) dX6_lastBegin_9 (by decide) (fun c_9 => ?_) (fun c_9 => ?_)
  · exact absurd (bI_eq.mp c_9) (by rw [rI_yes (by omega) hk1 hk6]; decide)
  · skip
    refine go_iload_n dX6_lastBegin_12 rfl ?_
    refine go_iconst (v := nI 1) dX6_lastBegin_13 (by decide) ?_
    refine go_icmp_lt (tgt := 28) dX6_lastBegin_14 (by decide) (fun c_14 => ?_) (fun c_14 => ?_)
    · exact absurd ((nI_ltI (by omega) (by omega)).mp c_14) (by omega)
    · skip
      refine go_iload_n dX6_lastBegin_17 rfl ?_
      refine go_aload_n dX6_lastBegin_18 rfl ?_
      refine go_get dX6_lastBegin_19 fX6_12 (by omega) hP1.1 rfl ?_
      refine go_get dX6_lastBegin_22 fX6_71 (by omega) l0 rfl ?_
      refine go_icmp_le (tgt := 31) dX6_lastBegin_25 (by decide) (fun c_25 => ?_) (fun c_25 => ?_)
      · skip
        cases ta with
        | true => exact lastB_t hN hP1 (tail _ B3 E3 _ ⟨_, _, _, _, hP1⟩ h5 (h5' rfl) ⟨rfl, rfl, ⟨_, _, _, _, hP1⟩, hF1.wide (by omega) (by omega)⟩)
        | false => exact lastB_f hN (so_SB hw) hP1 h5 (fun h2 B E hP2 hT2 hD2 hF2 => tail h2 B E _ ⟨_, _, _, _, hP2⟩ hT2 hD2 ⟨rfl, rfl, ⟨_, _, _, _, hP2⟩, (hF1.wide (by omega) (by omega)).trans hF2⟩)
      · exact absurd (nI_le hj (by omega)) c_25
set_option maxRecDepth 100000 in
theorem pinit_loop {d : Nat} {Q : Option Value → gH → Nat → Prop} : ∀ (m i : Nat) (h : gH) (R : Nat → Option Nat), i + m = 6 → h 49 = pa49 false false false false → h 134 = .inl (4, 6, .inr (.inr (.inr (.inr R)))) → (∀ j, j < i → R j = some (135 + 2 * j)) → (∀ j, j < i → Pg h (135 + 2 * j) (0, fun _ => 0, 0)) →
    (∀ h' R', h' 49 = pa49 false false false false → h' 134 = .inl (4, 6, .inr (.inr (.inr (.inr R')))) → (∀ j, j < 6 → R' j = some (135 + 2 * j)) → (∀ j, j < 6 → Pg h' (135 + 2 * j) (0, fun _ => 0, 0)) → Fr 134 147 h h' → Q none h' 147) → Go none RX6 cX6_init 3 none true (d + 2) 75 [some (.ref 49), some (.ref 1), some (.int (nI i))] [] h (135 + 2 * i) (2 * m) (9 * m) Q := by
  intro m
  induction m with
  | zero =>
    intro i h R hm h0 h1 h2 h3 hq
    have e : i = 6 := by omega
    subst e
    refine go_iload_n dX6_init_75 rfl ?_
    refine go_bipush (v := nI 6) dX6_init_76 (by decide) ?_
    refine go_icmp_ge (tgt := 100) dX6_init_78 (by decide) (fun c_78 => ?_) (fun c_78 => ?_)
    · skip
      refine go_vret dX6_init_100 rfl ?_
      exact hq h R h0 h1 h2 h3 Fr.rf
    · exact absurd (nI_le (Nat.le_refl _) (by decide)) c_78
  | succ m ih =>
    intro i h R hm h0 h1 h2 h3 hq
    refine go_iload_n dX6_init_75 rfl ?_
    refine go_bipush (v := nI 6) dX6_init_76 (by decide) ?_
    refine go_icmp_ge (tgt := 100) dX6_init_78 (by decide) (fun c_78 => ?_) (fun c_78 => ?_)
    · exact absurd c_78 (nI_ge (by omega) (by decide))
    · skip
      refine go_aload_n dX6_init_81 rfl ?_
      refine go_get dX6_init_82 fX6_42 (by omega) h0 rfl ?_
      refine go_iload_n dX6_init_85 rfl ?_
      refine go_new (ci := 5) (fs := [.null, .int 0, .long 0]) dX6_init_86 nX6_35 rfl bX5 in_X5 (fun j hj => by rcases (show j = 0 ∨ j = 1 ∨ j = 2 by omega) with rfl | rfl | rfl <;> rfl) (fun _ _ => rfl) (by omega) (by omega) ?_
      refine go_dup dX6_init_89 rfl ?_
      refine go_iiN dX6_init_90 mX5_init iX6_37 (run_parting d (i := 135 + 2 * i) hset_same) rfl rfl (Nat.le_of_ble_eq_true rfl) (by omega) (by omega) (fun v_90 h_90 n_90 q_90 => ?_)
      obtain ⟨rfl, rfl, hPn, hF⟩ := q_90
      have hz : ∀ x, x < 135 + 2 * i → h_90 x = h x := fun x hx => (hF x (by omega)).trans (hset_ne (by omega))
      obtain ⟨F, g0, -⟩ := id hPn
      refine go_aast dX6_init_93 (by omega) ((hz 134 (by omega)).trans h1) (Or.inr ⟨rfl, rfl⟩) (by omega) g0 rfl (by omega) (by omega) ?_
      refine go_inc (L' := [_, _, _]) dX6_init_94 rfl (by decide) rfl ?_
      refine go_goto (tgt := 75) dX6_init_97 (by decide) ?_
      have hz2 : ∀ y, ∀ x, x ≠ 134 → hset h_90 134 y x = h_90 x := fun y x hx => hset_ne hx
      have hR' : ∀ j, j < i + 1 → va_up R i (some (135 + 2 * i)) j = some (135 + 2 * j) := by
        intro j hj
        by_cases e : j = i
        · subst e; simp [va_up]
        · simp only [va_up, if_neg e]; exact h2 j (by omega)
      have hC' : ∀ j, j < i + 1 → Pg (hset h_90 134 (.inl (4, 6, .inr (.inr (.inr (.inr (va_up R i (some (135 + 2 * i))))))))) (135 + 2 * j) (0, fun _ => 0, 0) := by
        intro j hj
        by_cases e : j = i
        · subst e; exact hPn.kept (hz2 _ _ (by omega)) (hz2 _ _ (by omega))
        · exact ((h3 j (by omega)).kept (hz _ (by omega)) (hz _ (by omega))).kept (hz2 _ _ (by omega)) (hz2 _ _ (by omega))
      refine go_room (bc' := 2 * m) (bs' := 9 * m) (by omega) (by omega) (ih (i + 1) _ _ (by omega) ((hz2 _ 49 (by omega)).trans ((hz 49 (by omega)).trans h0)) hset_same hR' hC' ?_)
      intro h' R' a1 a2 a3 a4 a5
      refine hq h' R' a1 a2 a3 a4 (fun y hy => (a5 y hy).trans ((hz2 _ y (by omega)).trans ((hF y (by omega)).trans (hset_ne (by omega)))))
theorem Ls.ag {h h' : gH} (q : Ls h) (f : ∀ x, 50 ≤ x → x < 79 → h' x = h x) : Ls h' := by
  obtain ⟨⟨FA, FW, z, h0, h1, h2⟩, R, r0, r1, r2⟩ := q
  refine ⟨⟨FA, FW, z, (f _ (by omega) (by omega)).trans h0, (f _ (by omega) (by omega)).trans h1, (f _ (by omega) (by omega)).trans h2⟩, R, (f _ (by omega) (by omega)).trans r0, r1, fun i hi => ?_⟩
  obtain ⟨F, hF⟩ := r2 i hi
  exact ⟨F, (f _ (by omega) (by omega)).trans hF⟩
theorem Wy.ag {h h' : gH} {w : Nat} {B : Nat → Nat → Int64} {E : Nat → Nat → Int32} {Fe : Nat → Int64} (q : Wy h w B E Fe) (f : ∀ x, w ≤ x → x < w + 18 → h' x = h x) : Wy h' w B E Fe := by
  obtain ⟨R1, R2, h0, h1, h2, h3, h4, h5, h6, h7⟩ := q
  exact ⟨R1, R2, (f _ (by omega) (by omega)).trans h0, (f _ (by omega) (by omega)).trans h1, h2, (f _ (by omega) (by omega)).trans h3, h4, fun i hi => (f _ (by omega) (by omega)).trans (h5 i hi), fun i hi => (f _ (by omega) (by omega)).trans (h6 i hi), (f _ (by omega) (by omega)).trans h7⟩
theorem Lt.ag {h h' : gH} {B : Nat → Nat → Int64} {E : Nat → Nat → Int32} (q : Lt h B E) (f : ∀ x, 115 ≤ x → x < 132 → h' x = h x) : Lt h' B E := by
  obtain ⟨R1, R2, h0, h1, h2, h3, h4, h5, h6⟩ := q
  exact ⟨R1, R2, (f _ (by omega) (by omega)).trans h0, (f _ (by omega) (by omega)).trans h1, h2, (f _ (by omega) (by omega)).trans h3, h4, fun i hi => (f _ (by omega) (by omega)).trans (h5 i hi), fun i hi => (f _ (by omega) (by omega)).trans (h6 i hi)⟩
set_option maxRecDepth 100000 in
theorem run_partings (d : Nat) {h : gH} (c : CD) (h0 : h 49 = .inr (6, [.null, .null, .null, .null, .null, .null, .null, .int 0, .int 0, .int 0, .int 0])) : Run (d + 2) yX6_init cX6_init 3 none [.ref 49, .ref 1] h 50 97 1921 (fun v h' N' => v = none ∧ N' = 147 ∧ Pa h' c false false false false ∧ Fr 49 147 h h') := by
  refine Run.of (ini := true) (L := [_, _, _]) mX6_init (fun h => rfl) rfl (Nat.le_of_ble_eq_true rfl) rfl ?_
  refine go_aload_n dX6_init_0 rfl ?_
  refine go_obj dX6_init_1 oX6 (Nat.le_of_ble_eq_true rfl) ?_
  refine go_aload_n dX6_init_4 rfl ?_
  refine go_new (ci := 2) (fs := [.null, .null, .null, .int 0]) dX6_init_5 nX6_9 rfl bX2 in_X2 (fun j hj => by rcases (show j = 0 ∨ j = 1 ∨ j = 2 ∨ j = 3 by omega) with rfl | rfl | rfl | rfl <;> rfl) (fun _ _ => rfl) (by omega) (by omega) ?_
  refine go_dup dX6_init_8 rfl ?_
  refine go_iiN dX6_init_9 mX2_init iX6_11 (run_ladder d hset_same) rfl rfl (Nat.le_of_ble_eq_true rfl) (by omega) (by omega) (fun v_9 h_9 n_9 q_9 => ?_)
  obtain ⟨rfl, rfl, hL, hF1⟩ := q_9
  have k1 := (hF1 49 (by omega)).trans ((hset_ne (by omega)).trans h0)
  refine go_put (fs' := [_, _, _, _, _, _, _, _, _, _, _]) dX6_init_12 fX6_12 (by omega) k1 (Nat.le_of_ble_eq_true rfl) rfl ⟨_, _, _, rfl, Or.inr ⟨rfl, rfl, rfl⟩⟩ rfl ?_
  refine go_aload_n dX6_init_15 rfl ?_
  refine go_new (ci := 7) (fs := [.null, .null, .null]) dX6_init_16 nX6_18 rfl bX7 in_X7 (fun j hj => by rcases (show j = 0 ∨ j = 1 ∨ j = 2 by omega) with rfl | rfl | rfl <;> rfl) (fun _ _ => rfl) (by omega) (by omega) ?_
  refine go_dup dX6_init_19 rfl ?_
  refine go_iiN dX6_init_20 mX7_init iX6_20 (run_ways d (w := 79) hset_same) rfl rfl (Nat.le_of_ble_eq_true rfl) (by omega) (by omega) (fun v_20 h_20 n_20 q_20 => ?_)
  obtain ⟨rfl, rfl, hY1, hF2⟩ := q_20
  have k2 := (hF2 49 (by omega)).trans ((hset_ne (by omega)).trans hset_same)
  refine go_put (fs' := [_, _, _, _, _, _, _, _, _, _, _]) dX6_init_23 fX6_21 (by omega) k2 (Nat.le_of_ble_eq_true rfl) rfl ⟨_, _, _, rfl, Or.inr ⟨rfl, rfl, rfl⟩⟩ rfl ?_
  refine go_aload_n dX6_init_26 rfl ?_
  refine go_new (ci := 7) (fs := [.null, .null, .null]) dX6_init_27 nX6_18 rfl bX7 in_X7 (fun j hj => by rcases (show j = 0 ∨ j = 1 ∨ j = 2 by omega) with rfl | rfl | rfl <;> rfl) (fun _ _ => rfl) (by omega) (by omega) ?_
  refine go_dup dX6_init_30 rfl ?_
  refine go_iiN dX6_init_31 mX7_init iX6_20 (run_ways d (w := 97) hset_same) rfl rfl (Nat.le_of_ble_eq_true rfl) (by omega) (by omega) (fun v_31 h_31 n_31 q_31 => ?_)
  obtain ⟨rfl, rfl, hY2, hF3⟩ := q_31
  have k3 := (hF3 49 (by omega)).trans ((hset_ne (by omega)).trans hset_same)
  refine go_put (fs' := [_, _, _, _, _, _, _, _, _, _, _]) dX6_init_34 fX6_25 (by omega) k3 (Nat.le_of_ble_eq_true rfl) rfl ⟨_, _, _, rfl, Or.inr ⟨rfl, rfl, rfl⟩⟩ rfl ?_
  refine go_aload_n dX6_init_37 rfl ?_
  refine go_new (ci := 3) (fs := [.null, .null]) dX6_init_38 nX6_28 rfl bX3 in_X3 (fun j hj => by rcases (show j = 0 ∨ j = 1 by omega) with rfl | rfl <;> rfl) (fun _ _ => rfl) (by omega) (by omega) ?_
  refine go_dup dX6_init_41 rfl ?_
  refine go_iiN dX6_init_42 mX3_init iX6_30 (run_last0 d hset_same) rfl rfl (Nat.le_of_ble_eq_true rfl) (by omega) (by omega) (fun v_42 h_42 n_42 q_42 => ?_)
  obtain ⟨rfl, rfl, hT, hF4⟩ := q_42
  have k4 := (hF4 49 (by omega)).trans ((hset_ne (by omega)).trans hset_same)
  refine go_put (fs' := [_, _, _, _, _, _, _, _, _, _, _]) dX6_init_45 fX6_31 (by omega) k4 (Nat.le_of_ble_eq_true rfl) rfl ⟨_, _, _, rfl, Or.inr ⟨rfl, rfl, rfl⟩⟩ rfl ?_
  refine go_aload_n dX6_init_48 rfl ?_
  refine go_new (ci := 5) (fs := [.null, .int 0, .long 0]) dX6_init_49 nX6_35 rfl bX5 in_X5 (fun j hj => by rcases (show j = 0 ∨ j = 1 ∨ j = 2 by omega) with rfl | rfl | rfl <;> rfl) (fun _ _ => rfl) (by omega) (by omega) ?_
  refine go_dup dX6_init_52 rfl ?_
  refine go_iiN dX6_init_53 mX5_init iX6_37 (run_parting d (i := 132) hset_same) rfl rfl (Nat.le_of_ble_eq_true rfl) (by omega) (by omega) (fun v_53 h_53 n_53 q_53 => ?_)
  obtain ⟨rfl, rfl, hC, hF5⟩ := q_53
  have k5 := (hF5 49 (by omega)).trans ((hset_ne (by omega)).trans hset_same)
  refine go_put (fs' := [_, _, _, _, _, _, _, _, _, _, _]) dX6_init_56 fX6_38 (by omega) k5 (Nat.le_of_ble_eq_true rfl) rfl ⟨_, _, _, rfl, Or.inr ⟨rfl, rfl, rfl⟩⟩ rfl ?_
  refine go_aload_n dX6_init_59 rfl ?_
  refine go_bipush (v := nI 6) dX6_init_60 (by decide) ?_
  refine go_newQ (n := 6) (kd := 4) dX6_init_62 nX6_35 (Or.inr ⟨rfl, rfl⟩) rfl (by omega) (by omega) (by omega) ?_
  refine go_put (fs' := [_, _, _, _, _, _, _, _, _, _, _]) dX6_init_65 fX6_42 (by omega) ((hset_ne (by omega)).trans hset_same) (Nat.le_of_ble_eq_true rfl) rfl ⟨_, _, _, rfl, Or.inr ⟨rfl, rfl, rfl⟩⟩ rfl ?_
  refine go_aload_n dX6_init_68 rfl ?_
  refine go_aload_n dX6_init_69 rfl ?_
  refine go_put (fs' := [_, _, _, _, _, _, _, _, _, _, _]) dX6_init_70 fX6_46 (by omega) hset_same (Nat.le_of_ble_eq_true rfl) rfl ⟨_, _, _, rfl, Or.inr ⟨rfl, rfl, rfl⟩⟩ rfl ?_
  refine go_iconst (v := nI 0) dX6_init_73 (by decide) ?_
  refine go_istore_n (L' := [_, _, _]) dX6_init_74 rfl (by decide) rfl ?_
  rw [hset_hset]
  generalize hh : hset (hset (hset h_53 49 _) 134 _) 49 _ = h6
  have e49 : h6 49 = pa49 false false false false := by rw [← hh]; exact hset_same
  have e134 : h6 134 = .inl (4, 6, .inr (.inr (.inr (.inr (fun _ => none))))) := by rw [← hh, hset_ne (by omega)]; exact hset_same
  have f6 : ∀ x, x ≠ 49 → x ≠ 134 → h6 x = h_53 x := fun x q1 q2 => by rw [← hh, hset_ne q1, hset_ne q2, hset_ne q1]
  have g5 : ∀ x, x ≠ 49 → x < 132 → h6 x = h_42 x := fun x q1 q2 => (f6 x q1 (by omega)).trans ((hF5 x (by omega)).trans ((hset_ne (by omega)).trans (hset_ne q1)))
  have g4 : ∀ x, x ≠ 49 → x < 115 → h6 x = h_31 x := fun x q1 q2 => (g5 x q1 (by omega)).trans ((hF4 x (by omega)).trans ((hset_ne (by omega)).trans (hset_ne q1)))
  have g3 : ∀ x, x ≠ 49 → x < 97 → h6 x = h_20 x := fun x q1 q2 => (g4 x q1 (by omega)).trans ((hF3 x (by omega)).trans ((hset_ne (by omega)).trans (hset_ne q1)))
  have g2 : ∀ x, x ≠ 49 → x < 79 → h6 x = h_9 x := fun x q1 q2 => (g3 x q1 (by omega)).trans ((hF2 x (by omega)).trans ((hset_ne (by omega)).trans (hset_ne q1)))
  refine pinit_loop 6 0 h6 (fun _ => none) rfl e49 e134 (fun j hj => absurd hj (by omega)) (fun j hj => absurd hj (by omega)) (fun h' R' a1 a2 a3 a4 a5 => ?_)
  have b : ∀ x, x < 134 → h' x = h6 x := fun x hx => a5 x (by omega)
  refine ⟨rfl, rfl, ⟨a1, hL.ag (fun x q1 q2 => (b x (by omega)).trans (g2 x (by omega) q2)), (fun z => by cases z), ⟨_, _, _, hY1.ag (fun x q1 q2 => (b x (by omega)).trans (g3 x (by omega) (by omega)))⟩, ⟨_, _, hY2.ag (fun x q1 q2 => (b x (by omega)).trans (g4 x (by omega) (by omega)))⟩, ⟨_, _, hT.ag (fun x q1 q2 => (b x (by omega)).trans (g5 x (by omega) (by omega))), (fun z => by cases z)⟩, ⟨_, hC.kept ((b _ (by omega)).trans (f6 _ (by omega) (by omega))) ((b _ (by omega)).trans (f6 _ (by omega) (by omega))), (fun z => by cases z)⟩, ⟨R', a2, a3⟩, fun i hi => ⟨_, a4 i hi, (fun z => by cases z)⟩⟩, fun x hx => ?_⟩
  rw [a5 x (by omega), f6 x (by omega) (by omega), hF5 x (by omega), hset_ne (by omega), hset_ne (by omega), hF4 x (by omega), hset_ne (by omega), hset_ne (by omega), hF3 x (by omega), hset_ne (by omega), hset_ne (by omega), hF2 x (by omega), hset_ne (by omega), hset_ne (by omega), hF1 x (by omega), hset_ne (by omega)]
