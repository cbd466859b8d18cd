/-! ===== the methods of Partings ===== -/
def pa49 (l cu le ta : Bool) : gC := .inr (6, [.ref 1, .ref 50, .ref 79, .ref 97, .ref 115, .ref 132, .ref 134, .int (bI l), .int (bI cu), .int (bI le), .int (bI ta)])
theorem fr49 {h : gH} {x : gC} : Fr 49 50 h (hset h 49 x) := Fr.rf.set (by omega) (by omega)
theorem Pa.upd49 {h : gH} {c c' : CD} {l cu le ta l' cu' le' ta' : Bool} (q : Pa h c l cu le ta) (hl : l' = true → Ld h (so c'.1).1 (so c'.1).2.1 (so c'.1).2.2) (hcu : cu' = true → Pg h 132 (nowD c')) (hle : le' = true → ∀ i, i < 6 → Pg h (135 + 2 * i) (leastD c' (i + 1))) (hta : ta' = true → ∃ B E, Lt h B E ∧ TD (so c'.1).1 (spr (so c'.1).2.1 (so c'.1).2.2) B E 7 1) : Pa (hset h 49 (pa49 l' cu' le' ta')) c' l' cu' le' ta' := by
  obtain ⟨h0, h1, h2, ⟨B1, E1, Fe, h3⟩, ⟨B2, E2, h4⟩, ⟨B3, E3, h5, h5'⟩, ⟨p, h6, h6'⟩, ⟨R, h7, h7'⟩, h8⟩ := q
  refine ⟨hset_same, h1.fr fr49 (by omega), fun z => (hl z).fr fr49 (by omega), ⟨B1, E1, Fe, h3.fr fr49 (by omega)⟩, ⟨B2, E2, h4.fr fr49 (by omega)⟩, ?_, ?_, ⟨R, (hset_ne (by omega)).trans h7, h7'⟩, fun i hi => ?_⟩
  · cases ta' with
    | false => exact ⟨B3, E3, h5.fr fr49 (by omega), fun z => by cases z⟩
    | true =>
      obtain ⟨B, E, g1, g2⟩ := hta rfl
      exact ⟨B, E, g1.fr fr49 (by omega), fun _ => g2⟩
  · cases cu' with
    | false => exact ⟨p, h6.fr fr49 (by omega), fun z => by cases z⟩
    | true => exact ⟨_, (hcu rfl).fr fr49 (by omega), fun _ => rfl⟩
  · cases le' with
    | false =>
      obtain ⟨p, g1, -⟩ := h8 i hi
      exact ⟨p, g1.fr fr49 (by omega), fun z => by cases z⟩
    | true => exact ⟨_, (hle rfl i hi).fr fr49 (by omega), fun _ => rfl⟩
theorem run_pforget (d : Nat) {N : Nat} {h : gH} {c : CD} {l cu le ta : Bool} (hN : 147 ≤ N) (hP : Pa h c l cu le ta) : Run d yX6_forget cX6_forget 1 none [.ref 49] h N 0 0 (fun v h' N' => v = none ∧ N' = N ∧ (∀ c', Pa h' c' false false false false) ∧ Fr 49 50 h h') := by
  have h0 := hP.1
  refine Run.of (ini := false) (L := [_]) mX6_forget (fun h => by cases h) rfl (Nat.le_of_ble_eq_true rfl) rfl ?_
  refine go_aload_n dX6_forget_0 rfl ?_
  refine go_iconst (v := nI 0) dX6_forget_1 (by decide) ?_
  refine go_put (fs' := [_, _, _, _, _, _, _, _, _, _, _]) dX6_forget_2 fX6_50 (by omega) h0 (Nat.le_of_ble_eq_true rfl) (Or.inr ⟨rfl, by decide⟩) ⟨_, _, _, rfl, Or.inl rfl⟩ rfl ?_
  refine go_aload_n dX6_forget_5 rfl ?_
  refine go_iconst (v := nI 0) dX6_forget_6 (by decide) ?_
  refine go_put (fs' := [_, _, _, _, _, _, _, _, _, _, _]) dX6_forget_7 fX6_54 (by omega) hset_same (Nat.le_of_ble_eq_true rfl) (Or.inr ⟨rfl, by decide⟩) ⟨_, _, _, rfl, Or.inl rfl⟩ rfl ?_
  refine go_aload_n dX6_forget_10 rfl ?_
  refine go_iconst (v := nI 0) dX6_forget_11 (by decide) ?_
  refine go_put (fs' := [_, _, _, _, _, _, _, _, _, _, _]) dX6_forget_12 fX6_57 (by omega) hset_same (Nat.le_of_ble_eq_true rfl) (Or.inr ⟨rfl, by decide⟩) ⟨_, _, _, rfl, Or.inl rfl⟩ rfl ?_
  refine go_aload_n dX6_forget_15 rfl ?_
  refine go_iconst (v := nI 0) dX6_forget_16 (by decide) ?_
  refine go_put (fs' := [_, _, _, _, _, _, _, _, _, _, _]) dX6_forget_17 fX6_60 (by omega) hset_same (Nat.le_of_ble_eq_true rfl) (Or.inr ⟨rfl, by decide⟩) ⟨_, _, _, rfl, Or.inl rfl⟩ rfl ?_
  refine go_vret dX6_forget_20 rfl ?_
  rw [hset_hset, hset_hset, hset_hset]
  exact ⟨rfl, rfl, fun c' => hP.upd49 (c' := c') (l' := false) (cu' := false) (le' := false) (ta' := false) (fun z => by cases z) (fun z => by cases z) (fun z => by cases z) (fun z => by cases z), fr49⟩
/-- what stands, whatever has been found already -/
def PaE (h : gH) (c : CD) : Prop := ∃ l cu le ta, Pa h c l cu le ta
theorem run_rungs (d : Nat) {N : Nat} {h : gH} {c : CD} {l cu le ta : Bool} (hN : 147 ≤ N) (hw : CW c) (hC : Ct h 1 c) (hP : Pa h c l cu le ta) : Run (d + 3) yX6_rungs cX6_rungs 1 (some (FieldType.object "ShadeClasses$Ladder")) [.ref 49] h N 0 0 (fun v h' N' => v = some (.ref 50) ∧ N' = N ∧ Pa h' c true cu le ta ∧ Fr 49 79 h h') := by
  obtain ⟨h0, h1, h2, ⟨B1, E1, Fe, h3⟩, ⟨B2, E2, h4⟩, ⟨B3, E3, h5, h5'⟩, ⟨p, h6, h6'⟩, ⟨R, h7, h7'⟩, h8⟩ := id hP
  obtain ⟨⟨FA, FW, z, l0, -⟩, -⟩ := id h1
  refine Run.of (ini := false) (L := [_]) mX6_rungs (fun h => by cases h) rfl (Nat.le_of_ble_eq_true rfl) rfl ?_
  cases l with
  | true =>
    refine go_aload_n dX6_rungs_0 rfl ?_
    refine go_get dX6_rungs_1 fX6_50 (by omega) h0 rfl ?_
    refine go_if_ne (tgt := 23) dX6_rungs_4 (by decide) (fun c_4 => ?_) (fun c_4 => ?_)
    · skip
      refine go_aload_n dX6_rungs_23 rfl ?_
      refine go_get dX6_rungs_24 fX6_12 (by omega) h0 rfl ?_
      refine go_aret dX6_rungs_27 rfl ?_
      exact ⟨rfl, rfl, hP, Fr.rf⟩
    · exact absurd (by decide) c_4
  | false =>
    refine go_aload_n dX6_rungs_0 rfl ?_
    refine go_get dX6_rungs_1 fX6_50 (by omega) h0 rfl ?_
    refine go_if_ne (tgt := 23) dX6_rungs_4 (by decide) (fun c_4 => ?_) (fun c_4 => ?_)
    · exact absurd rfl c_4
    · skip
      refine go_aload_n dX6_rungs_7 rfl ?_
      refine go_get dX6_rungs_8 fX6_12 (by omega) h0 rfl ?_
      refine go_aload_n dX6_rungs_11 rfl ?_
      refine go_get dX6_rungs_12 fX6_46 (by omega) h0 rfl ?_
      refine go_iv dX6_rungs_15 mX2_build iX6_63 (run_build d (by omega) hw.1 hw.2.1 hC h1) rfl rfl (by omega) l0 rfl (Nat.le_of_ble_eq_true rfl) (Nat.zero_le _) (Nat.zero_le _) (fun v_15 h_15 n_15 q_15 => ?_)
      obtain ⟨rfl, rfl, ⟨n1, A1, W1, hL1, hS1⟩, hF1⟩ := q_15
      have hLc := hL1.canon hS1
      have hP1 : Pa h_15 c false cu le ta := by
        refine ⟨(hF1 _ (by omega)).trans h0, hL1.ls, (fun z => by cases z), ⟨B1, E1, Fe, h3.fr hF1 (by omega)⟩, ⟨B2, E2, h4.fr hF1 (by omega)⟩, ⟨B3, E3, h5.fr hF1 (by omega), h5'⟩, ⟨p, h6.fr hF1 (by omega), h6'⟩, ⟨R, (hF1 _ (by omega)).trans h7, h7'⟩, fun i hi => ?_⟩
        obtain ⟨q, g1, g2⟩ := h8 i hi
        exact ⟨q, g1.fr hF1 (by omega), g2⟩
      refine go_aload_n dX6_rungs_18 rfl ?_
      refine go_iconst (v := nI 1) dX6_rungs_19 (by decide) ?_
      refine go_put (fs' := [_, _, _, _, _, _, _, _, _, _, _]) dX6_rungs_20 fX6_50 (by omega) hP1.1 (Nat.le_of_ble_eq_true rfl) (Or.inr ⟨rfl, by decide⟩) ⟨_, _, _, rfl, Or.inl rfl⟩ rfl ?_
      refine go_aload_n dX6_rungs_23 rfl ?_
      refine go_get dX6_rungs_24 fX6_12 (by omega) hset_same rfl ?_
      refine go_aret dX6_rungs_27 rfl ?_
      refine ⟨rfl, rfl, hP1.upd49 (c' := c) (l' := true) (cu' := cu) (le' := le) (ta' := ta) (fun _ => hLc) (fun z => ?_) (fun z i hi => ?_) (fun z => ⟨B3, E3, h5.fr hF1 (by omega), h5' z⟩), (hF1.wide (by omega) (by omega)).set (by omega) (by omega)⟩
      · have := h6' z; subst this; exact h6.fr hF1 (by omega)
      · obtain ⟨q, g1, g2⟩ := h8 i hi; have := g2 z; subst this; exact g1.fr hF1 (by omega)
/-- the ladder stands -/
theorem Pa.ld {h : gH} {c : CD} {cu le ta : Bool} (q : Pa h c true cu le ta) : Ld h (so c.1).1 (so c.1).2.1 (so c.1).2.2 := q.2.2.1 rfl
set_option maxRecDepth 100000 in
theorem fees_loop {d N : Nat} {c : CD} {h0 : gH} {l cu le ta : Bool} {Q : Option Value → gH → Nat → Prop} (hN : 147 ≤ N) (hw : CW c)
    (hq : ∀ (h : gH) (B : Nat → Nat → Int64) (E : Nat → Nat → Int32) (Fe : Nat → Int64) (w1 : Option Value), Wy h 79 B E Fe → (∀ t, t < (so c.1).1 → Fe t = feeN c t) → Fr 96 97 h0 h → Go none RX6 cX6_ofNow 2 (some (FieldType.object "ShadeClasses$Parting")) false (d + 2) 56 [some (.ref 49), w1] [] h N 0 0 Q)
    (hP : h0 49 = .inr (6, [.ref 1, .ref 50, .ref 79, .ref 97, .ref 115, .ref 132, .ref 134, .int (bI l), .int (bI cu), .int (bI le), .int (bI ta)])) (hL0 : Ld h0 (so c.1).1 (so c.1).2.1 (so c.1).2.2) (hC0 : Ct h0 1 c) :
    ∀ (m i : Nat) (h : gH) (B : Nat → Nat → Int64) (E : Nat → Nat → Int32) (Fe : Nat → Int64), i + m = (so c.1).1 → Wy h 79 B E Fe → (∀ t, t < i → Fe t = feeN c t) → Fr 96 97 h0 h → Go none RX6 cX6_ofNow 2 (some (FieldType.object "ShadeClasses$Parting")) false (d + 2) 14 [some (.ref 49), some (.int (nI i))] [] h N 0 0 Q := by
  have h24 := so_24 hw.2.1
  intro m
  induction m with
  | zero =>
    intro i h B E Fe hm hY hF hfr
    have hL := hL0.fr hfr (by omega)
    obtain ⟨⟨FA, FW, l0, l1, l2, l3, l4, l5⟩, -⟩ := id hL
    have k0 := (hfr 49 (by omega)).trans hP
    refine go_iload_n dX6_ofNow_14 rfl ?_
    refine go_aload_n dX6_ofNow_15 rfl ?_
    refine go_get dX6_ofNow_16 fX6_12 (by omega) k0 rfl ?_
    refine go_get dX6_ofNow_19 fX6_71 (by omega) l0 rfl ?_
    refine go_icmp_ge (tgt := 56) dX6_ofNow_22 (by decide) (fun c_22 => ?_) (fun c_22 => ?_)
    · skip
      exact hq h B E Fe _ hY (fun t ht => hF t (by omega)) hfr
    · exact absurd (nI_le (by omega) (by omega)) c_22
  | succ m ih =>
    intro i h B E Fe hm hY hF hfr
    have hL := hL0.fr hfr (by omega)
    have hC := hC0.fr hfr (by omega)
    obtain ⟨⟨FA, FW, l0, l1, l2, l3, l4, l5⟩, -⟩ := id hL
    obtain ⟨R1, R2, y0, y1, y2, y3, y4, y5, y6, y7⟩ := id hY
    obtain ⟨F, G, g0, g1, g2, -⟩ := id hC
    have k0 := (hfr 49 (by omega)).trans hP
    have hi : i < (so c.1).1 := by omega
    have hA9 := so_le hw.1 i hi
    refine go_iload_n dX6_ofNow_14 rfl ?_
    refine go_aload_n dX6_ofNow_15 rfl ?_
    refine go_get dX6_ofNow_16 fX6_12 (by omega) k0 rfl ?_
    refine go_get dX6_ofNow_19 fX6_71 (by omega) l0 rfl ?_
    refine go_icmp_ge (tgt := 56) dX6_ofNow_22 (by decide) (fun c_22 => ?_) (fun c_22 => ?_)
    · exact absurd c_22 (nI_ge hi (by omega))
    · skip
      refine go_aload_n dX6_ofNow_25 rfl ?_
      refine go_get dX6_ofNow_26 fX6_21 (by omega) k0 rfl ?_
      refine go_get dX6_ofNow_29 fX6_75 (by omega) y0 rfl ?_
      refine go_iload_n dX6_ofNow_32 rfl ?_
      refine go_aload_n dX6_ofNow_33 rfl ?_
      refine go_get dX6_ofNow_34 fX6_46 (by omega) k0 rfl ?_
      refine go_aload_n dX6_ofNow_37 rfl ?_
      refine go_get dX6_ofNow_38 fX6_12 (by omega) k0 rfl ?_
      refine go_get dX6_ofNow_41 fX6_79 (by omega) l0 rfl ?_
      refine go_iload_n dX6_ofNow_44 rfl ?_
      refine go_iald dX6_ofNow_45 (by omega) l1 rfl (by omega) (by omega) ?_
      refine go_top (y := .int (nI ((so c.1).2.1 i))) (by rw [l4 i hi]) ?_
      refine go_iv dX6_ofNow_46 mX0_feeOf iX6_83 (run_feeOf d (by omega) (fun x hx => by have := hw.2.2.2.1 x hx; omega) hw.2.2.1 (by have := hw.2.2.2.2.2; omega) (by omega) hC) rfl rfl (by omega) g0 rfl (Nat.le_of_ble_eq_true rfl) (Nat.zero_le _) (Nat.zero_le _) (fun v_46 h_46 n_46 q_46 => ?_)
      obtain ⟨rfl, rfl, rfl⟩ := q_46
      refine go_last dX6_ofNow_49 (by omega) y7 rfl (by omega) (by omega) ?_
      refine go_inc (L' := [_, _]) dX6_ofNow_50 rfl (by decide) rfl ?_
      refine go_goto (tgt := 14) dX6_ofNow_53 (by decide) ?_
      have fr : ∀ y, Fr 96 97 h_46 (hset h_46 96 y) := fun y => Fr.rf.set (by omega) (by omega)
      refine ih (i + 1) _ B E (vp_updL Fe i (feeC c ((so c.1).2.1 i))) (by omega) ⟨R1, R2, (hset_ne (by omega)).trans y0, (hset_ne (by omega)).trans y1, y2, (hset_ne (by omega)).trans y3, y4, fun j hj => (hset_ne (by omega)).trans (y5 j hj), fun j hj => (hset_ne (by omega)).trans (y6 j hj), hset_same⟩ (fun t ht => ?_) (hfr.trans (fr _))
      by_cases e : t = i
      · subst e; rw [pk_uLs]; rfl
      · rw [pk_uLn e]; exact hF t (by omega)
theorem Pa.ways {h h' : gH} {c : CD} {l cu le ta : Bool} (q : Pa h c l cu le ta) (f : Fr 79 97 h h') (hY : ∃ B E Fe, Wy h' 79 B E Fe) : Pa h' c l cu le ta := by
  obtain ⟨h0, h1, h2, -, ⟨B2, E2, h4⟩, ⟨B3, E3, h5, h5'⟩, ⟨p, h6, h6'⟩, ⟨R, h7, h7'⟩, h8⟩ := q
  refine ⟨(f _ (by omega)).trans h0, h1.fr f (by omega), fun z => (h2 z).fr f (by omega), hY, ⟨B2, E2, h4.fr f (by omega)⟩, ⟨B3, E3, h5.fr f (by omega), h5'⟩, ⟨p, h6.fr f (by omega), h6'⟩, ⟨R, (f _ (by omega)).trans h7, h7'⟩, fun i hi => ?_⟩
  obtain ⟨q, h9, h10⟩ := h8 i hi
  exact ⟨q, h9.fr f (by omega), h10⟩
theorem Pa.free {h h' : gH} {c : CD} {l cu le ta : Bool} (q : Pa h c l cu le ta) (f : Fr 97 115 h h') (hY : ∃ B E, Wy h' 97 B E (fun _ => 0)) : Pa h' c l cu le ta := by
  obtain ⟨h0, h1, h2, ⟨B1, E1, Fe, h3⟩, -, ⟨B3, E3, h5, h5'⟩, ⟨p, h6, h6'⟩, ⟨R, h7, h7'⟩, h8⟩ := q
  refine ⟨(f _ (by omega)).trans h0, h1.fr f (by omega), fun z => (h2 z).fr f (by omega), ⟨B1, E1, Fe, h3.fr f (by omega)⟩, hY, ⟨B3, E3, h5.fr f (by omega), h5'⟩, ⟨p, h6.fr f (by omega), h6'⟩, ⟨R, (f _ (by omega)).trans h7, h7'⟩, fun i hi => ?_⟩
  obtain ⟨q, h9, h10⟩ := h8 i hi
  exact ⟨q, h9.fr f (by omega), h10⟩
theorem Pa.cur {h h' : gH} {c : CD} {l cu le ta : Bool} (q : Pa h c l cu le ta) (f : Fr 132 134 h h') {p : PD} (hp : Pg h' 132 p) (hcu : cu = false) : Pa h' c l cu le ta := by
  obtain ⟨h0, h1, h2, ⟨B1, E1, Fe, h3⟩, ⟨B2, E2, h4⟩, ⟨B3, E3, h5, h5'⟩, -, ⟨R, h7, h7'⟩, h8⟩ := q
  refine ⟨(f _ (by omega)).trans h0, h1.fr f (by omega), fun z => (h2 z).fr f (by omega), ⟨B1, E1, Fe, h3.fr f (by omega)⟩, ⟨B2, E2, h4.fr f (by omega)⟩, ⟨B3, E3, h5.fr f (by omega), h5'⟩, ⟨p, hp, fun z => by rw [hcu] at z; cases z⟩, ⟨R, (f _ (by omega)).trans h7, h7'⟩, fun i hi => ?_⟩
  obtain ⟨q, h9, h10⟩ := h8 i hi
  exact ⟨q, h9.fr f (by omega), h10⟩
theorem Pa.lea {h h' : gH} {c : CD} {l cu le ta : Bool} {i : Nat} (q : Pa h c l cu le ta) (hi6 : i < 6) (f : Fr (135 + 2 * i) (135 + 2 * i + 2) h h') {p : PD} (hp : Pg h' (135 + 2 * i) p) (hle : le = false) : Pa h' c l cu le ta := by
  obtain ⟨h0, h1, h2, ⟨B1, E1, Fe, h3⟩, ⟨B2, E2, h4⟩, ⟨B3, E3, h5, h5'⟩, ⟨p6, h6, h6'⟩, ⟨R, h7, h7'⟩, h8⟩ := q
  refine ⟨(f _ (by omega)).trans h0, h1.fr f (by omega), fun z => (h2 z).fr f (by omega), ⟨B1, E1, Fe, h3.fr f (by omega)⟩, ⟨B2, E2, h4.fr f (by omega)⟩, ⟨B3, E3, h5.fr f (by omega), h5'⟩, ⟨p6, h6.fr f (by omega), h6'⟩, ⟨R, (f _ (by omega)).trans h7, h7'⟩, fun j hj => ?_⟩
  by_cases e : j = i
  · subst e
    exact ⟨p, hp, fun z => by rw [hle] at z; cases z⟩
  · obtain ⟨q, h9, h10⟩ := h8 j hj
    exact ⟨q, h9.fr f (by omega), h10⟩
theorem Pa.tab {h h' : gH} {c : CD} {l cu le ta : Bool} (q : Pa h c l cu le ta) (f : Fr 115 132 h h') (hT : ∃ B E, Lt h' B E) (hta : ta = false) : Pa h' c l cu le ta := by
  obtain ⟨h0, h1, h2, ⟨B1, E1, Fe, h3⟩, ⟨B2, E2, h4⟩, -, ⟨p, h6, h6'⟩, ⟨R, h7, h7'⟩, h8⟩ := q
  obtain ⟨B3, E3, h5⟩ := hT
  refine ⟨(f _ (by omega)).trans h0, h1.fr f (by omega), fun z => (h2 z).fr f (by omega), ⟨B1, E1, Fe, h3.fr f (by omega)⟩, ⟨B2, E2, h4.fr f (by omega)⟩, ⟨B3, E3, h5, fun z => by rw [hta] at z; cases z⟩, ⟨p, h6.fr f (by omega), h6'⟩, ⟨R, (f _ (by omega)).trans h7, h7'⟩, fun i hi => ?_⟩
  obtain ⟨q, h9, h10⟩ := h8 i hi
  exact ⟨q, h9.fr f (by omega), h10⟩
set_option maxRecDepth 100000 in
theorem run_ofNow (d : Nat) {N : Nat} {h : gH} {c : CD} (hN : 147 ≤ N) (hw : CW c) (hC : Ct h 1 c) (hP : PaE h c) : Run (d + 4) yX6_ofNow cX6_ofNow 2 (some (FieldType.object "ShadeClasses$Parting")) [.ref 49] h N 0 0 (fun v h' N' => v = some (.ref 132) ∧ N' = N ∧ PaE h' c ∧ Pg h' 132 (nowD c) ∧ Fr 49 147 h h') := by
  obtain ⟨l, cu, le, ta, hP⟩ := hP
  have h0 := hP.1
  refine Run.of (ini := false) (L := [_, _]) mX6_ofNow (fun h => by cases h) rfl (Nat.le_of_ble_eq_true rfl) rfl ?_
  cases cu with
  | true =>
    refine go_aload_n dX6_ofNow_0 rfl ?_
    refine go_get dX6_ofNow_1 fX6_54 (by omega) h0 rfl ?_
    refine go_if_ne (tgt := 101) dX6_ofNow_4 (by decide) (fun c_4 => ?_) (fun c_4 => ?_)
    · skip
      refine go_aload_n dX6_ofNow_101 rfl ?_
      refine go_get dX6_ofNow_102 fX6_38 (by omega) h0 rfl ?_
      refine go_aret dX6_ofNow_105 rfl ?_
      obtain ⟨q, g1, g2⟩ := hP.2.2.2.2.2.2.1
      have e := g2 rfl
      subst e
      exact ⟨rfl, rfl, ⟨l, true, le, ta, hP⟩, g1, Fr.rf⟩
    · exact absurd (by decide) c_4
  | false =>
    refine go_aload_n dX6_ofNow_0 rfl ?_
    refine go_get dX6_ofNow_1 fX6_54 (by omega) h0 rfl ?_
    refine go_if_ne (tgt := 101) dX6_ofNow_4 (by decide) (fun c_4 => ?_) (fun c_4 => ?_)
    · exact absurd rfl c_4
    · skip
      refine go_aload_n dX6_ofNow_7 rfl ?_
      refine go_iv dX6_ofNow_8 mX6_rungs iX6_67 (run_rungs d hN hw hC hP) rfl rfl (by omega) h0 rfl (Nat.le_of_ble_eq_true rfl) (Nat.zero_le _) (Nat.zero_le _) (fun v_8 h_8 n_8 q_8 => ?_)
      obtain ⟨rfl, rfl, hP1, hF1⟩ := q_8
      have hC1 := hC.fr hF1 (by omega)
      refine go_pop dX6_ofNow_11 rfl ?_
      refine go_iconst (v := nI 0) dX6_ofNow_12 (by decide) ?_
      refine go_istore_n (L' := [_, _]) dX6_ofNow_13 rfl (by decide) rfl ?_
      obtain ⟨B1, E1, Fe1, hY1⟩ := hP1.2.2.2.1
      refine fees_loop (d := d + 2) hN hw ?_ hP1.1 hP1.ld hC1 (so c.1).1 0 h_8 B1 E1 Fe1 (by omega) hY1 (fun t ht => absurd ht (by omega)) Fr.rf
      intro h2 B2 E2 Fe2 w1 hY2 hFe hF2
      have hP2 : Pa h2 c true false le ta := hP1.ways (hF2.wide (by omega) (by omega)) ⟨B2, E2, Fe2, hY2⟩
      have hC2 := hC1.fr hF2 (by omega)
      obtain ⟨F, G, g0, g1, g2, -⟩ := id hC2
      obtain ⟨R1, R2, y0, -⟩ := id hY2
      refine go_aload_n dX6_ofNow_56 rfl ?_
      refine go_get dX6_ofNow_57 fX6_21 (by omega) hP2.1 rfl ?_
      refine go_aload_n dX6_ofNow_60 rfl ?_
      refine go_get dX6_ofNow_61 fX6_12 (by omega) hP2.1 rfl ?_
      refine go_aload_n dX6_ofNow_64 rfl ?_
      refine go_get dX6_ofNow_65 fX6_46 (by omega) hP2.1 rfl ?_
      refine go_get dX6_ofNow_68 fX6_89 (by omega) g0 rfl ?_
      refine go_iv dX6_ofNow_71 mX7_build iX6_92 (run_wbuild (d + 2) (by omega) (by omega) hw.2.2.2.2.1.1 hw.2.2.2.2.1.2 hP2.ld hY2) rfl rfl (by omega) y0 rfl (Nat.le_of_ble_eq_true rfl) (Nat.zero_le _) (Nat.zero_le _) (fun v_71 h_71 n_71 q_71 => ?_)
      obtain ⟨rfl, rfl, ⟨B3, E3, hY3, hD3⟩, hF3⟩ := q_71
      have hP3 : Pa h_71 c true false le ta := hP2.ways (hF3.wide (by omega) (by omega)) ⟨B3, E3, Fe2, hY3⟩
      have hC3 := hC2.fr hF3 (by omega)
      obtain ⟨F', G', g0', -⟩ := id hC3
      obtain ⟨R1', R2', y0', -⟩ := id hY3
      obtain ⟨pd, hpd, -⟩ := hP3.2.2.2.2.2.2.1
      refine go_aload_n dX6_ofNow_74 rfl ?_
      refine go_get dX6_ofNow_75 fX6_21 (by omega) hP3.1 rfl ?_
      refine go_aload_n dX6_ofNow_78 rfl ?_
      refine go_get dX6_ofNow_79 fX6_12 (by omega) hP3.1 rfl ?_
      refine go_aload_n dX6_ofNow_82 rfl ?_
      refine go_get dX6_ofNow_83 fX6_46 (by omega) hP3.1 rfl ?_
      refine go_get dX6_ofNow_86 fX6_89 (by omega) g0' rfl ?_
      refine go_aload_n dX6_ofNow_89 rfl ?_
      refine go_get dX6_ofNow_90 fX6_38 (by omega) hP3.1 rfl ?_
      refine go_iv dX6_ofNow_93 mX7_follow iX6_95 (run_follow (d + 2) (p := 132) (by omega) (by omega) (by omega) hw.2.2.2.2.1.2 hD3 hP3.ld hY3 hpd) rfl rfl (by omega) y0' rfl (Nat.le_of_ble_eq_true rfl) (Nat.zero_le _) (Nat.zero_le _) (fun v_93 h_93 n_93 q_93 => ?_)
      obtain ⟨rfl, rfl, hpg, hF4⟩ := q_93
      have hP4 : Pa h_93 c true false le ta := hP3.cur hF4 hpg rfl
      have hnow : Pg h_93 132 (nowD c) := hpg.cong (fun x hx => bg_cong (fun a b _ _ => rfl) hFe (Nat.min_le_right _ _) (Nat.le_of_lt hx)) (tot_cong (fun a b _ _ => rfl) hFe (Nat.min_le_right _ _) (Nat.le_refl _))
      refine go_aload_n dX6_ofNow_96 rfl ?_
      refine go_iconst (v := nI 1) dX6_ofNow_97 (by decide) ?_
      refine go_put (fs' := [_, _, _, _, _, _, _, _, _, _, _]) dX6_ofNow_98 fX6_54 (by omega) hP4.1 (Nat.le_of_ble_eq_true rfl) (Or.inr ⟨rfl, by decide⟩) ⟨_, _, _, rfl, Or.inl rfl⟩ rfl ?_
      refine go_aload_n dX6_ofNow_101 rfl ?_
      refine go_get dX6_ofNow_102 fX6_38 (by omega) hset_same rfl ?_
      refine go_aret dX6_ofNow_105 rfl ?_
      have hP5 : Pa (hset h_93 49 (pa49 true true le ta)) c true true le ta := hP4.upd49 (fun _ => hP4.ld) (fun _ => hnow) (fun z i hi => by obtain ⟨q, a1, a2⟩ := hP4.2.2.2.2.2.2.2.2 i hi; have := a2 z; subst this; exact a1) (fun z => by obtain ⟨B, E, a1, a2⟩ := hP4.2.2.2.2.2.1; exact ⟨B, E, a1, a2 z⟩)
      refine ⟨rfl, rfl, ⟨true, true, le, ta, hP5⟩, hnow.fr fr49 (by omega), ?_⟩
      exact ((((hF1.wide (by omega) (by omega)).trans (hF2.wide (by omega) (by omega))).trans (hF3.wide (by omega) (by omega))).trans (hF4.wide (by omega) (by omega))).set (by omega) (by omega)
set_option maxRecDepth 100000 in
theorem least_loop {d N : Nat} {c : CD} {cu ta : Bool} {B : Nat → Nat → Int64} {E : Nat → Nat → Int32} {h0 : gH} {Q : Option Value → gH → Nat → Prop} (hN : 147 ≤ N) (hD : WD (so c.1).1 (spr (so c.1).2.1 (so c.1).2.2) B E (fun _ => 0) 7 0) {k : Int32}
    (hq : ∀ (h : gH) (w2 : Option Value), Pa h c true cu false ta → (∀ j, j < 6 → Pg h (135 + 2 * j) (leastD c (j + 1))) → Fr 135 147 h0 h → Go none RX6 cX6_leastIn 3 (some (FieldType.object "ShadeClasses$Parting")) false (d + 2) 59 [some (.ref 49), some (.int k), w2] [] h N 0 0 Q) :
    ∀ (m i : Nat) (h : gH), i + m = 6 → Pa h c true cu false ta → Wy h 97 B E (fun _ => 0) → (∀ j, j < i → Pg h (135 + 2 * j) (leastD c (j + 1))) → Fr 135 147 h0 h → Go none RX6 cX6_leastIn 3 (some (FieldType.object "ShadeClasses$Parting")) false (d + 2) 27 [some (.ref 49), some (.int k), some (.int (nI i))] [] h N 0 0 Q := by
  intro m
  induction m with
  | zero =>
    intro i h hm hP hY hg hF
    have e : i = 6 := by omega
    subst e
    refine go_iload_n dX6_leastIn_27 rfl ?_
    refine go_bipush (v := nI 6) dX6_leastIn_28 (by decide) ?_
    refine go_icmp_ge (tgt := 59) dX6_leastIn_30 (by decide) (fun c_30 => ?_) (fun c_30 => ?_)
    · skip
      exact hq h _ hP hg hF
    · exact absurd (nI_le (Nat.le_refl _) (by decide)) c_30
  | succ m ih =>
    intro i h hm hP hY hg hF
    obtain ⟨R1, R2, y0, -⟩ := id hY
    obtain ⟨R, r0, r1⟩ := hP.2.2.2.2.2.2.2.1
    obtain ⟨pd, hpd, -⟩ := hP.2.2.2.2.2.2.2.2 i (by omega)
    refine go_iload_n dX6_leastIn_27 rfl ?_
    refine go_bipush (v := nI 6) dX6_leastIn_28 (by decide) ?_
    refine go_icmp_ge (tgt := 59) dX6_leastIn_30 (by decide) (fun c_30 => ?_) (fun c_30 => ?_)
    · exact absurd c_30 (nI_ge (by omega) (by decide))
    · skip
      refine go_aload_n dX6_leastIn_33 rfl ?_
      refine go_get dX6_leastIn_34 fX6_25 (by omega) hP.1 rfl ?_
      refine go_aload_n dX6_leastIn_37 rfl ?_
      refine go_get dX6_leastIn_38 fX6_12 (by omega) hP.1 rfl ?_
      refine go_iload_n dX6_leastIn_41 rfl ?_
      refine go_iconst (v := nI 1) dX6_leastIn_42 (by decide) ?_
      refine go_iadd dX6_leastIn_43 ?_
      refine go_top (y := .int (nI (i + 1))) (by rw [nI_add]) ?_
      refine go_aload_n dX6_leastIn_44 rfl ?_
      refine go_get dX6_leastIn_45 fX6_42 (by omega) hP.1 rfl ?_
      refine go_iload_n dX6_leastIn_48 rfl ?_
      refine go_aald dX6_leastIn_49 (by omega) r0 (by decide) (by decide) rfl (by omega) (by omega) (r1 i (by omega)) ?_
      refine go_iv dX6_leastIn_50 mX7_follow iX6_95 (run_follow d (p := 135 + 2 * i) (K := i + 1) (by omega) (by omega) (by omega) (by omega) (fun k' a' q1 q2 q3 q4 => hD k' a' q1 q2 (by omega) q4) hP.ld hY hpd) rfl rfl (by omega) y0 rfl (Nat.le_of_ble_eq_true rfl) (Nat.zero_le _) (Nat.zero_le _) (fun v_50 h_50 n_50 q_50 => ?_)
      obtain ⟨rfl, rfl, hpg, hF4⟩ := q_50
      refine go_inc (L' := [_, _, _]) dX6_leastIn_53 rfl (by decide) rfl ?_
      refine go_goto (tgt := 27) dX6_leastIn_56 (by decide) ?_
      refine ih (i + 1) _ (by omega) (hP.lea (by omega) hF4 hpg rfl) (hY.fr hF4 (by omega)) (fun j hj => ?_) (hF.trans (hF4.wide (by omega) (by omega)))
      by_cases e : j = i
      · subst e; exact hpg
      · exact (hg j (by omega)).fr hF4 (by omega)
set_option maxRecDepth 100000 in
theorem run_leastIn (d : Nat) {N k : Nat} {h : gH} {c : CD} (hN : 147 ≤ N) (hk1 : 1 ≤ k) (hk6 : k ≤ 6) (hw : CW c) (hC : Ct h 1 c) (hP : PaE h c) : Run (d + 4) yX6_leastIn cX6_leastIn 3 (some (FieldType.object "ShadeClasses$Parting")) [.ref 49, .int (nI k)] h N 0 0 (fun v h' N' => v = some (.ref (135 + 2 * (k - 1))) ∧ N' = N ∧ PaE h' c ∧ Pg h' (135 + 2 * (k - 1)) (leastD c k) ∧ Fr 49 147 h h') := by
  obtain ⟨l, cu, le, ta, hP⟩ := hP
  have h0 := hP.1
  have tail : ∀ (h : gH) (w2 : Option Value) (Q : Option Value → gH → Nat → Prop), PaE h c → (∀ j, j < 6 → Pg h (135 + 2 * j) (leastD c (j + 1))) → Q (some (.ref (135 + 2 * (k - 1)))) h N → Go none RX6 cX6_leastIn 3 (some (FieldType.object "ShadeClasses$Parting")) false (d + 4) 64 [some (.ref 49), some (.int (nI k)), w2] [] h N 0 0 Q := by
    intro h w2 Q hP hg hq
    obtain ⟨l, cu, le, ta, hP⟩ := hP
    obtain ⟨R, r0, r1⟩ := hP.2.2.2.2.2.2.2.1
    refine go_aload_n dX6_leastIn_64 rfl ?_
    refine go_get dX6_leastIn_65 fX6_42 (by omega) hP.1 rfl ?_
    refine go_iload_n dX6_leastIn_68 rfl ?_
    refine go_bipush (v := nI 6) dX6_leastIn_69 (by decide) ?_
    refine go_min dX6_leastIn_71 iX6_99 (Nat.le_of_ble_eq_true rfl) ?_
    refine go_top (y := .int (nI k)) (by rw [if_neg (nI_nlt (by omega) (by omega))]) ?_
    refine go_iconst (v := nI 1) dX6_leastIn_74 (by decide) ?_
    refine go_max dX6_leastIn_75 iX6_105 (Nat.le_of_ble_eq_true rfl) ?_
    refine go_top (y := .int (nI k)) ?_ ?_
    · by_cases e : k < 1
      · omega
      · rw [if_neg (nI_nlt (by omega) (by omega))]
    refine go_iconst (v := nI 1) dX6_leastIn_78 (by decide) ?_
    refine go_isub dX6_leastIn_79 ?_
    refine go_top (y := .int (nI (k - 1))) (by rw [pk_sub (by omega)]) ?_
    refine go_aald dX6_leastIn_80 (by omega) r0 (by decide) (by decide) rfl (by omega) (by omega) (r1 (k - 1) (by omega)) ?_
    refine go_aret dX6_leastIn_81 rfl ?_
    exact hq
  have ek : k - 1 + 1 = k := by omega
  refine Run.of (ini := false) (L := [_, _, _]) mX6_leastIn (fun h => by cases h) rfl (Nat.le_of_ble_eq_true rfl) rfl ?_
  cases le with
  | true =>
    have hg : ∀ j, j < 6 → Pg h (135 + 2 * j) (leastD c (j + 1)) := fun j hj => by
      obtain ⟨q, a1, a2⟩ := hP.2.2.2.2.2.2.2.2 j hj
      have := a2 rfl
      subst this
      exact a1
    refine go_aload_n dX6_leastIn_0 rfl ?_
    refine go_get dX6_leastIn_1 fX6_57 (by omega) h0 rfl ?_
    refine go_if_ne (tgt := 64) dX6_leastIn_4 (by decide) (fun c_4 => ?_) (fun c_4 => ?_)
    · skip
      exact tail h none _ ⟨l, cu, true, ta, hP⟩ hg ⟨rfl, rfl, ⟨l, cu, true, ta, hP⟩, by have := hg (k - 1) (by omega); rw [ek] at this; exact this, Fr.rf⟩
    · exact absurd (by decide) c_4
  | false =>
    refine go_aload_n dX6_leastIn_0 rfl ?_
    refine go_get dX6_leastIn_1 fX6_57 (by omega) h0 rfl ?_
    refine go_if_ne (tgt := 64) dX6_leastIn_4 (by decide) (fun c_4 => ?_) (fun c_4 => ?_)
    · exact absurd rfl c_4
    · skip
      refine go_aload_n dX6_leastIn_7 rfl ?_
      refine go_iv dX6_leastIn_8 mX6_rungs iX6_67 (run_rungs d hN hw hC hP) rfl rfl (by omega) h0 rfl (Nat.le_of_ble_eq_true rfl) (Nat.zero_le _) (Nat.zero_le _) (fun v_8 h_8 n_8 q_8 => ?_)
      obtain ⟨rfl, rfl, hP1, hF1⟩ := q_8
      obtain ⟨B1, E1, hY1⟩ := hP1.2.2.2.2.1
      obtain ⟨R1, R2, y0, -⟩ := id hY1
      refine go_pop dX6_leastIn_11 rfl ?_
      refine go_aload_n dX6_leastIn_12 rfl ?_
      refine go_get dX6_leastIn_13 fX6_25 (by omega) hP1.1 rfl ?_
      refine go_aload_n dX6_leastIn_16 rfl ?_
      refine go_get dX6_leastIn_17 fX6_12 (by omega) hP1.1 rfl ?_
      refine go_bipush (v := nI 6) dX6_leastIn_20 (by decide) ?_
      refine go_iv dX6_leastIn_22 mX7_build iX6_92 (run_wbuild (d + 2) (by omega) (by omega) (by decide) (by decide) hP1.ld hY1) rfl rfl (by omega) y0 rfl (Nat.le_of_ble_eq_true rfl) (Nat.zero_le _) (Nat.zero_le _) (fun v_22 h_22 n_22 q_22 => ?_)
      obtain ⟨rfl, rfl, ⟨B3, E3, hY3, hD3⟩, hF3⟩ := q_22
      have hP3 : Pa h_22 c true cu false ta := hP1.free (hF3.wide (by omega) (by omega)) ⟨B3, E3, hY3⟩
      refine go_iconst (v := nI 0) dX6_leastIn_25 (by decide) ?_
      refine go_istore_n (L' := [_, _, _]) dX6_leastIn_26 rfl (by decide) rfl ?_
      refine least_loop (d := d + 2) hN hD3 ?_ 6 0 h_22 (by omega) hP3 hY3 (fun j hj => absurd hj (by omega)) Fr.rf
      intro h4 w2 hP4 hg4 hF4
      refine go_aload_n dX6_leastIn_59 rfl ?_
      refine go_iconst (v := nI 1) dX6_leastIn_60 (by decide) ?_
      refine go_put (fs' := [_, _, _, _, _, _, _, _, _, _, _]) dX6_leastIn_61 fX6_57 (by omega) hP4.1 (Nat.le_of_ble_eq_true rfl) (Or.inr ⟨rfl, by decide⟩) ⟨_, _, _, rfl, Or.inl rfl⟩ rfl ?_
      have hP5 : Pa (hset h4 49 (pa49 true cu true ta)) c true cu true ta := hP4.upd49 (fun _ => hP4.ld) (fun z => by obtain ⟨q, a1, a2⟩ := hP4.2.2.2.2.2.2.1; have := a2 z; subst this; exact a1) (fun _ => hg4) (fun z => by obtain ⟨B, E, a1, a2⟩ := hP4.2.2.2.2.2.1; exact ⟨B, E, a1, a2 z⟩)
      have hg5 : ∀ j, j < 6 → Pg (hset h4 49 (pa49 true cu true ta)) (135 + 2 * j) (leastD c (j + 1)) := fun j hj => (hg4 j hj).fr fr49 (by omega)
      exact tail _ w2 _ ⟨_, _, _, _, hP5⟩ hg5 ⟨rfl, rfl, ⟨_, _, _, _, hP5⟩, by have := hg5 (k - 1) (by omega); rw [ek] at this; exact this, (((hF1.wide (by omega) (by omega)).trans (hF3.wide (by omega) (by omega))).trans (hF4.wide (by omega) (by omega))).set (by omega) (by omega)⟩
