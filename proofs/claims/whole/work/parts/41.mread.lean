/-! ===== what the reference reads off its parting ===== -/
theorem feF_t (c : CD) : feF c true = fun _ => 0 := by unfold feF; rw [if_pos rfl]
def MQq (h : gH) (s : SD) (q : PD) : Prop := (∃ r0 r1 r2 r3 r4, h 147 = mS s.1 s.2.2.2.1 s.2.1.1 r0 r1 r2 r3 r4 (nI (so s.1.1).1) (nI q.1)) ∧ Ms h s.1 ∧ MP h q ∧ MS h s
theorem ms_of {h h' : gH} {s : SD} {r0 r1 r2 r3 r4 sn rn : Int32} (q : MS h s) (h7 : h' 147 = mS s.1 s.2.2.2.1 s.2.1.1 r0 r1 r2 r3 r4 sn rn) (hX : MX h') (f : ∀ x, x ≠ 147 → (x < 156 ∨ 161 ≤ x) → h' x = h x) : MS h' s :=
  ⟨⟨r0, r1, r2, r3, r4, sn, rn, h7⟩, q.2.1.ag (fun x q1 q2 => f x (by omega) (by omega)), q.2.2.1.ag (f _ (by omega) (by omega)), q.2.2.2.1.ag (f _ (by omega) (by omega)), q.2.2.2.2.1.ag (f _ (by omega) (by omega)), hX⟩
theorem partsS {h : gH} {s : SD} (hw : CW s.1) (hS : MS h s) (d : Nat) : Run (d + 4) yX9_partsNow cX9_partsNow 1 none [.ref 147] h 163 0 0 (fun v h' N' => v = none ∧ N' = 163 ∧ MQq h' s (nowD s.1) ∧ (∀ x, x ≠ 147 → (x < 156 ∨ 161 ≤ x) → h' x = h x)) := by
  obtain ⟨⟨r0, r1, r2, r3, r4, sn, rn, h7⟩, h3, -, -, -, hX⟩ := id hS
  refine (run_partsNow d hw h7 h3 hX).mono ?_
  rintro v h' N' ⟨a, b, c, e, f, g, k⟩
  exact ⟨a, b, ⟨⟨r0, r1, r2, r3, r4, c⟩, e, f, ms_of hS c g k⟩, k⟩
theorem partsL {h : gH} {s : SD} {k : Nat} (hw : CW s.1) (hS : MS h s) (hk : 1 ≤ k) (hk6 : k ≤ 6) (d : Nat) : Run (d + 3) yX9_parts cX9_parts 5 none [.ref 147, .int (nI k), .int (nI 1)] h 163 0 0 (fun v h' N' => v = none ∧ N' = 163 ∧ MQq h' s (leastD s.1 k) ∧ (∀ x, x ≠ 147 → (x < 156 ∨ 161 ≤ x) → h' x = h x)) := by
  obtain ⟨⟨r0, r1, r2, r3, r4, sn, rn, h7⟩, h3, -, -, -, hX⟩ := id hS
  refine (run_parts d true hw hk hk6 h7 h3 hX).mono ?_
  rintro v h' N' ⟨a, b, c, e, f, g, k⟩
  rw [feF_t] at c f
  exact ⟨a, b, ⟨⟨r0, r1, r2, r3, r4, c⟩, e, f, ms_of hS c g k⟩, k⟩
set_option maxRecDepth 100000 in
theorem sr_loop {d k : Nat} {h : gH} {s : SD} {fee : Nat → Int64} (hw : CW s.1) (hk6 : k ≤ 6) (hQ : MQq h s (parD s.1 fee k)) : ∀ (m i : Nat), i + m = (parD s.1 fee k).1 → Go none RX9 cX9_spreadOfRuns 4 (some .long) false (d + 1) 4 [some (.ref 147), some (.long (tot (so s.1.1).1 (spr (so s.1.1).2.1 (so s.1.1).2.2) fee (parD s.1 fee k).1 i)), none, some (.int (nI i))] [] h 163 0 0 (fun v h' N' => v = some (.long (parD s.1 fee k).2.2) ∧ h' = h ∧ N' = 163) := by
  obtain ⟨⟨r0, r1, r2, r3, r4, h7⟩, hM, ⟨FB, b0, b1⟩, -⟩ := hQ
  have h24 := so_24 hw.2.1
  have hr : (parD s.1 fee k).1 ≤ (so s.1.1).1 := Nat.min_le_right _ _
  have hr6 : (parD s.1 fee k).1 ≤ 6 := by show min k _ ≤ 6; omega
  intro m
  induction m with
  | zero =>
    intro i hi
    have e : i = (parD s.1 fee k).1 := by omega
    subst e
    refine go_iload_n dX9_spreadOfRuns_4 rfl ?_
    refine go_aload_n dX9_spreadOfRuns_5 rfl ?_
    refine go_get dX9_spreadOfRuns_6 fX9_163 (by omega) h7 rfl ?_
    refine go_icmp_ge (tgt := 56) dX9_spreadOfRuns_9 (by decide) (fun c_9 => ?_) (fun c_9 => ?_)
    · skip
      refine go_lload_n dX9_spreadOfRuns_56 rfl ?_
      refine go_lret dX9_spreadOfRuns_57 rfl ?_
      exact ⟨rfl, rfl, rfl⟩
    · exact absurd (nI_le (Nat.le_refl _) (by omega)) c_9
  | succ m ih =>
    intro i hi
    have hl := bg_lt (n := (so s.1.1).1) (S := spr (so s.1.1).2.1 (so s.1.1).2.2) (fee := fee) hr (i := i) (by omega)
    have hb := bg_in (n := (so s.1.1).1) (S := spr (so s.1.1).2.1 (so s.1.1).2.2) (fee := fee) hr (i := i + 1) (by omega)
    have hbi : FB i = nI (bg (so s.1.1).1 (spr (so s.1.1).2.1 (so s.1.1).2.2) fee (parD s.1 fee k).1 i) := b1 i (by omega)
    refine go_iload_n dX9_spreadOfRuns_4 rfl ?_
    refine go_aload_n dX9_spreadOfRuns_5 rfl ?_
    refine go_get dX9_spreadOfRuns_6 fX9_163 (by omega) h7 rfl ?_
    refine go_icmp_ge (tgt := 56) dX9_spreadOfRuns_9 (by decide) (fun c_9 => ?_) (fun c_9 => ?_)
    · exact absurd c_9 (nI_ge (by omega) (by omega))
    · skip
      refine go_lload_n dX9_spreadOfRuns_12 rfl ?_
      refine go_aload_n dX9_spreadOfRuns_13 rfl ?_
      refine go_aload_n dX9_spreadOfRuns_14 rfl ?_
      refine go_get dX9_spreadOfRuns_15 fX9_51 (by omega) h7 rfl ?_
      refine go_iload_n dX9_spreadOfRuns_18 rfl ?_
      refine go_iald dX9_spreadOfRuns_19 (by omega) b0 rfl (by omega) (by omega) ?_
      refine go_top (y := .int (nI (bg (so s.1.1).1 (spr (so s.1.1).2.1 (so s.1.1).2.2) fee (parD s.1 fee k).1 i))) (by rw [hbi]) ?_
      refine go_iload_n dX9_spreadOfRuns_20 rfl ?_
      refine go_iconst (v := nI 1) dX9_spreadOfRuns_21 (by decide) ?_
      refine go_iadd dX9_spreadOfRuns_22 ?_
      refine go_top (y := .int (nI (i + 1))) (by rw [nI_add]) ?_
      refine go_aload_n dX9_spreadOfRuns_23 rfl ?_
      refine go_get dX9_spreadOfRuns_24 fX9_163 (by omega) h7 rfl ?_
      refine go_icmp_ge (tgt := 41) dX9_spreadOfRuns_27 (by decide) (fun c_27 => ?_) (fun c_27 => ?_)
      · skip
        have he : i + 1 = (parD s.1 fee k).1 := by have := (nI_leI (by omega) (by omega)).mp c_27; omega
        have hbe := bg_end (n := (so s.1.1).1) (S := spr (so s.1.1).2.1 (so s.1.1).2.2) (fee := fee) hr (by omega)
        refine go_aload_n dX9_spreadOfRuns_41 rfl ?_
        refine go_get dX9_spreadOfRuns_42 fX9_142 (by omega) h7 rfl ?_
        refine go_top (y := .int (nI (bg (so s.1.1).1 (spr (so s.1.1).2.1 (so s.1.1).2.2) fee (parD s.1 fee k).1 (i + 1)))) (by first | rw [hbj] | rw [he, hbe]) ?_
        refine go_iv dX9_spreadOfRuns_45 mX9_spreadOf iX9_152 (run_spreadOf d hw h7 hM hl (by omega)) rfl rfl (by omega) h7 rfl (Nat.le_of_ble_eq_true rfl) (Nat.zero_le _) (Nat.zero_le _) (fun v_45 h_45 n_45 q_45 => ?_)
        obtain ⟨rfl, rfl, rfl⟩ := q_45
        refine go_ladd dX9_spreadOfRuns_48 ?_
        refine go_lstore_n (L' := [_, _, _, _]) dX9_spreadOfRuns_49 rfl (by decide) rfl ?_
        refine go_inc (L' := [_, _, _, _]) dX9_spreadOfRuns_50 rfl (by decide) rfl ?_
        refine go_goto (tgt := 4) dX9_spreadOfRuns_53 (by decide) ?_
        exact ih (i + 1) (by omega)
      · skip
        have he : i + 1 < (parD s.1 fee k).1 := by have := mt (nI_leI (a := (parD s.1 fee k).1) (b := i + 1) (by omega) (by omega)).mpr c_27; omega
        have hbj : FB (i + 1) = nI (bg (so s.1.1).1 (spr (so s.1.1).2.1 (so s.1.1).2.2) fee (parD s.1 fee k).1 (i + 1)) := b1 (i + 1) (by omega)
        refine go_aload_n dX9_spreadOfRuns_30 rfl ?_
        refine go_get dX9_spreadOfRuns_31 fX9_51 (by omega) h7 rfl ?_
        refine go_iload_n dX9_spreadOfRuns_34 rfl ?_
        refine go_iconst (v := nI 1) dX9_spreadOfRuns_35 (by decide) ?_
        refine go_iadd dX9_spreadOfRuns_36 ?_
        refine go_top (y := .int (nI (i + 1))) (by rw [nI_add]) ?_
        refine go_iald dX9_spreadOfRuns_37 (by omega) b0 rfl (by omega) (by omega) ?_
        refine go_goto (tgt := 45) dX9_spreadOfRuns_38 (by decide) ?_
        refine go_top (y := .int (nI (bg (so s.1.1).1 (spr (so s.1.1).2.1 (so s.1.1).2.2) fee (parD s.1 fee k).1 (i + 1)))) (by first | rw [hbj] | rw [he, hbe]) ?_
        refine go_iv dX9_spreadOfRuns_45 mX9_spreadOf iX9_152 (run_spreadOf d hw h7 hM hl (by omega)) rfl rfl (by omega) h7 rfl (Nat.le_of_ble_eq_true rfl) (Nat.zero_le _) (Nat.zero_le _) (fun v_45 h_45 n_45 q_45 => ?_)
        obtain ⟨rfl, rfl, rfl⟩ := q_45
        refine go_ladd dX9_spreadOfRuns_48 ?_
        refine go_lstore_n (L' := [_, _, _, _]) dX9_spreadOfRuns_49 rfl (by decide) rfl ?_
        refine go_inc (L' := [_, _, _, _]) dX9_spreadOfRuns_50 rfl (by decide) rfl ?_
        refine go_goto (tgt := 4) dX9_spreadOfRuns_53 (by decide) ?_
        exact ih (i + 1) (by omega)
theorem run_spreadOfRuns (d : Nat) {k : Nat} {h : gH} {s : SD} {fee : Nat → Int64} (hw : CW s.1) (hk6 : k ≤ 6) (hQ : MQq h s (parD s.1 fee k)) : Run (d + 1) yX9_spreadOfRuns cX9_spreadOfRuns 4 (some .long) [.ref 147] h 163 0 0 (fun v h' N' => v = some (.long (parD s.1 fee k).2.2) ∧ h' = h ∧ N' = 163) := by
  refine Run.of (ini := false) (L := [_, _, _, _]) mX9_spreadOfRuns (fun h => by cases h) rfl (Nat.le_of_ble_eq_true rfl) rfl ?_
  refine go_lconst (v := lN 0) dX9_spreadOfRuns_0 rfl ?_
  refine go_lstore_n (L' := [_, _, _, _]) dX9_spreadOfRuns_1 rfl (by decide) rfl ?_
  refine go_iconst (v := nI 0) dX9_spreadOfRuns_2 (by decide) ?_
  refine go_istore_n (L' := [_, _, _, _]) dX9_spreadOfRuns_3 rfl (by decide) rfl ?_
  exact sr_loop hw hk6 hQ (parD s.1 fee k).1 0 (by omega)
set_option maxRecDepth 100000 in
theorem mm_loop {d : Nat} {h : gH} {s : SD} {q : PD} (hw : CW s.1) (hq6 : q.1 ≤ 6) (hq : ∀ j, j < q.1 → q.2.1 j < (so s.1.1).1) (hQ : MQq h s q) : ∀ (m k : Nat), k + 1 + m = q.1 → Go none RX9 cX9_movedMany 3 (some .int) false (d + 1) 4 [some (.ref 147), some (.int (nI (stB s.1 q k))), some (.int (nI (k + 1)))] [] h 163 0 0 (fun v h' N' => v = some (.int (nI (stB s.1 q (q.1 - 1)))) ∧ h' = h ∧ N' = 163) := by
  obtain ⟨⟨r0, r1, r2, r3, r4, h7⟩, ⟨FS, FW, f1, f2, f3⟩, ⟨FB, b0, b1⟩, hS⟩ := hQ
  have h24 := so_24 hw.2.1
  intro m
  induction m with
  | zero =>
    intro k hk
    have e : q.1 - 1 = k := by omega
    rw [e]
    refine go_iload_n dX9_movedMany_4 rfl ?_
    refine go_aload_n dX9_movedMany_5 rfl ?_
    refine go_get dX9_movedMany_6 fX9_163 (by omega) h7 rfl ?_
    refine go_icmp_ge (tgt := 44) dX9_movedMany_9 (by decide) (fun c_9 => ?_) (fun c_9 => ?_)
    · skip
      refine go_iload_n dX9_movedMany_44 rfl ?_
      refine go_iret dX9_movedMany_45 rfl ?_
      exact ⟨rfl, rfl, rfl⟩
    · exact absurd (nI_le (by omega) (by omega)) c_9
  | succ m ih =>
    intro k hk
    have hk1 : k + 1 < q.1 := by omega
    have hB := hq (k + 1) hk1
    have hA := so_le hw.1 _ hB
    have ih := ih (k + 1) (by omega)
    refine go_iload_n dX9_movedMany_4 rfl ?_
    refine go_aload_n dX9_movedMany_5 rfl ?_
    refine go_get dX9_movedMany_6 fX9_163 (by omega) h7 rfl ?_
    refine go_icmp_ge (tgt := 44) dX9_movedMany_9 (by decide) (fun c_9 => ?_) (fun c_9 => ?_)
    · exact absurd c_9 (nI_ge (by omega) (by omega))
    · skip
      refine go_iload_n dX9_movedMany_12 rfl ?_
      refine go_aload_n dX9_movedMany_13 rfl ?_
      refine go_aload_n dX9_movedMany_14 rfl ?_
      refine go_get dX9_movedMany_15 fX9_38 (by omega) h7 rfl ?_
      refine go_aload_n dX9_movedMany_18 rfl ?_
      refine go_get dX9_movedMany_19 fX9_51 (by omega) h7 rfl ?_
      refine go_iload_n dX9_movedMany_22 rfl ?_
      refine go_iald dX9_movedMany_23 (by omega) b0 rfl (by omega) (by omega) ?_
      refine go_top (y := .int (nI (q.2.1 (k + 1)))) (by rw [b1 _ hk1]) ?_
      refine go_iald dX9_movedMany_24 (by omega) f1 rfl (by omega) (by omega) ?_
      refine go_top (y := .int (nI ((so s.1.1).2.1 (q.2.1 (k + 1))))) (by rw [(f3 _ hB).1]) ?_
      refine go_iv dX9_movedMany_25 mX9_isOld iX9_147 (run_mOld d hw (by omega) h7 hS.2.1) rfl rfl (by omega) h7 rfl (Nat.le_of_ble_eq_true rfl) (Nat.zero_le _) (Nat.zero_le _) (fun v_25 h_25 n_25 q_25 => ?_)
      obtain ⟨rfl, rfl, rfl⟩ := q_25
      refine go_if_eq (tgt := 35) dX9_movedMany_28 (by decide) (fun c_28 => ?_) (fun c_28 => ?_)
      · skip
        have hb : ¬ oldB s.1.2.1 ((so s.1.1).2.1 (q.2.1 (k + 1))) (oK s.1.2.2.1) = true := fun z => absurd (bI_eq.mp c_28) (by rw [z]; decide)
        refine go_iconst (v := nI 1) dX9_movedMany_35 (by decide) ?_
        refine go_iadd dX9_movedMany_36 ?_
        refine go_istore_n (L' := [_, _, _]) dX9_movedMany_37 rfl (by decide) rfl ?_
        refine go_inc (L' := [_, _, _]) dX9_movedMany_38 rfl (by decide) rfl ?_
        refine go_goto (tgt := 4) dX9_movedMany_41 (by decide) ?_
        refine go_eqL ?_ ih
        simp only [stB, hb, if_true, if_false, Nat.add_zero, nI_add, nI_1, Bool.false_eq_true]
      · skip
        have hb := bI_ne.mp c_28
        refine go_iconst (v := nI 0) dX9_movedMany_31 (by decide) ?_
        refine go_goto (tgt := 36) dX9_movedMany_32 (by decide) ?_
        refine go_iadd dX9_movedMany_36 ?_
        refine go_istore_n (L' := [_, _, _]) dX9_movedMany_37 rfl (by decide) rfl ?_
        refine go_inc (L' := [_, _, _]) dX9_movedMany_38 rfl (by decide) rfl ?_
        refine go_goto (tgt := 4) dX9_movedMany_41 (by decide) ?_
        refine go_eqL ?_ ih
        simp only [stB, hb, if_true, if_false, Nat.add_zero, nI_add, nI_1, Bool.false_eq_true]
theorem run_movedMany (d : Nat) {h : gH} {s : SD} {q : PD} (hw : CW s.1) (hq6 : q.1 ≤ 6) (hq : ∀ j, j < q.1 → q.2.1 j < (so s.1.1).1) (hQ : MQq h s q) : Run (d + 1) yX9_movedMany cX9_movedMany 3 (some .int) [.ref 147] h 163 0 0 (fun v h' N' => v = some (.int (nI (stB s.1 q (q.1 - 1)))) ∧ h' = h ∧ N' = 163) := by
  obtain ⟨⟨r0, r1, r2, r3, r4, h7⟩, -⟩ := id hQ
  refine Run.of (ini := false) (L := [_, _, _]) mX9_movedMany (fun h => by cases h) rfl (Nat.le_of_ble_eq_true rfl) rfl ?_
  by_cases e : q.1 = 0
  · unfold mS at h7
    rw [e] at h7 ⊢
    refine go_iconst (v := nI 0) dX9_movedMany_0 (by decide) ?_
    refine go_istore_n (L' := [_, _, _]) dX9_movedMany_1 rfl (by decide) rfl ?_
    refine go_iconst (v := nI 1) dX9_movedMany_2 (by decide) ?_
    refine go_istore_n (L' := [_, _, _]) dX9_movedMany_3 rfl (by decide) rfl ?_
    refine go_iload_n dX9_movedMany_4 rfl ?_
    refine go_aload_n dX9_movedMany_5 rfl ?_
    refine go_get dX9_movedMany_6 fX9_163 (by omega) h7 rfl ?_
    refine go_icmp_ge (tgt := 44) dX9_movedMany_9 (by decide) (fun c_9 => ?_) (fun c_9 => ?_)
    · skip
      refine go_iload_n dX9_movedMany_44 rfl ?_
      refine go_iret dX9_movedMany_45 rfl ?_
      exact ⟨rfl, rfl, rfl⟩
    · exact absurd (by decide) c_9
  · skip
    refine go_iconst (v := nI 0) dX9_movedMany_0 (by decide) ?_
    refine go_istore_n (L' := [_, _, _]) dX9_movedMany_1 rfl (by decide) rfl ?_
    refine go_iconst (v := nI 1) dX9_movedMany_2 (by decide) ?_
    refine go_istore_n (L' := [_, _, _]) dX9_movedMany_3 rfl (by decide) rfl ?_
    exact mm_loop hw hq6 hq hQ (q.1 - 1) 0 (by omega)
set_option maxRecDepth 100000 in
theorem mr_loop {d v : Nat} {h : gH} {s : SD} {q : PD} (hw : CW s.1) (hv : v < 2 ^ 31) (hq6 : q.1 ≤ 6) (hq : ∀ j, j < q.1 → q.2.1 j < (so s.1.1).1) (hQ : MQq h s q) : ∀ (m run : Nat), q.1 ≤ run + 1 + m → run ≤ q.1 → Go none RX9 cX9_runOf 3 (some .int) false d 2 [some (.ref 147), some (.int (nI v)), some (.int (nI run))] [] h 163 0 0 (fun r h' N' => r = some (.int (nI (rO (fun j => decide ((so s.1.1).2.1 (q.2.1 j) ≤ v)) q.1 m run))) ∧ h' = h ∧ N' = 163) := by
  obtain ⟨⟨r0, r1, r2, r3, r4, h7⟩, ⟨FS, FW, f1, f2, f3⟩, ⟨FB, b0, b1⟩, hS⟩ := hQ
  have h24 := so_24 hw.2.1
  intro m
  induction m with
  | zero =>
    intro run h1 h2
    refine go_iload_n dX9_runOf_2 rfl ?_
    refine go_iconst (v := nI 1) dX9_runOf_3 (by decide) ?_
    refine go_iadd dX9_runOf_4 ?_
    refine go_top (y := .int (nI (run + 1))) (by rw [nI_add]) ?_
    refine go_aload_n dX9_runOf_5 rfl ?_
    refine go_get dX9_runOf_6 fX9_163 (by omega) h7 rfl ?_
    refine go_icmp_ge (tgt := 35) dX9_runOf_9 (by decide) (fun c_9 => ?_) (fun c_9 => ?_)
    · skip
      refine go_iload_n dX9_runOf_35 rfl ?_
      refine go_iret dX9_runOf_36 rfl ?_
      exact ⟨rfl, rfl, rfl⟩
    · exact absurd (nI_le (by omega) (by omega)) c_9
  | succ m ih =>
    intro run h1 h2
    rw [rO]
    by_cases hr : run + 1 < q.1
    · have hB := hq (run + 1) hr
      have hA := so_le hw.1 _ hB
      refine go_iload_n dX9_runOf_2 rfl ?_
      refine go_iconst (v := nI 1) dX9_runOf_3 (by decide) ?_
      refine go_iadd dX9_runOf_4 ?_
      refine go_top (y := .int (nI (run + 1))) (by rw [nI_add]) ?_
      refine go_aload_n dX9_runOf_5 rfl ?_
      refine go_get dX9_runOf_6 fX9_163 (by omega) h7 rfl ?_
      refine go_icmp_ge (tgt := 35) dX9_runOf_9 (by decide) (fun c_9 => ?_) (fun c_9 => ?_)
      · exact absurd c_9 (nI_ge (by omega) (by omega))
      · skip
        refine go_aload_n dX9_runOf_12 rfl ?_
        refine go_get dX9_runOf_13 fX9_38 (by omega) h7 rfl ?_
        refine go_aload_n dX9_runOf_16 rfl ?_
        refine go_get dX9_runOf_17 fX9_51 (by omega) h7 rfl ?_
        refine go_iload_n dX9_runOf_20 rfl ?_
        refine go_iconst (v := nI 1) dX9_runOf_21 (by decide) ?_
        refine go_iadd dX9_runOf_22 ?_
        refine go_top (y := .int (nI (run + 1))) (by rw [nI_add]) ?_
        refine go_iald dX9_runOf_23 (by omega) b0 rfl (by omega) (by omega) ?_
        refine go_top (y := .int (nI (q.2.1 (run + 1)))) (by rw [b1 _ hr]) ?_
        refine go_iald dX9_runOf_24 (by omega) f1 rfl (by omega) (by omega) ?_
        refine go_top (y := .int (nI ((so s.1.1).2.1 (q.2.1 (run + 1))))) (by rw [(f3 _ hB).1]) ?_
        refine go_iload_n dX9_runOf_25 rfl ?_
        refine go_icmp_gt (tgt := 35) dX9_runOf_26 (by decide) (fun c_26 => ?_) (fun c_26 => ?_)
        · skip
          have c1 : ¬ (so s.1.1).2.1 (q.2.1 (run + 1)) ≤ v := by have := (nI_ltI (by omega) (by omega)).mp c_26; omega
          refine go_iload_n dX9_runOf_35 rfl ?_
          refine go_iret dX9_runOf_36 rfl ?_
          rw [if_neg (fun z => c1 (of_decide_eq_true z.2))]
          exact ⟨rfl, rfl, rfl⟩
        · skip
          have c1 : (so s.1.1).2.1 (q.2.1 (run + 1)) ≤ v := by have := mt (nI_ltI (a := v) (b := (so s.1.1).2.1 (q.2.1 (run + 1))) (by omega) (by omega)).mpr c_26; omega
          refine go_inc (L' := [_, _, _]) dX9_runOf_29 rfl (by decide) rfl ?_
          refine go_goto (tgt := 2) dX9_runOf_32 (by decide) ?_
          rw [if_pos ⟨hr, decide_eq_true c1⟩]
          exact ih (run + 1) (by omega) (by omega)
    · rw [if_neg (fun z => hr z.1)]
      refine go_iload_n dX9_runOf_2 rfl ?_
      refine go_iconst (v := nI 1) dX9_runOf_3 (by decide) ?_
      refine go_iadd dX9_runOf_4 ?_
      refine go_top (y := .int (nI (run + 1))) (by rw [nI_add]) ?_
      refine go_aload_n dX9_runOf_5 rfl ?_
      refine go_get dX9_runOf_6 fX9_163 (by omega) h7 rfl ?_
      refine go_icmp_ge (tgt := 35) dX9_runOf_9 (by decide) (fun c_9 => ?_) (fun c_9 => ?_)
      · skip
        refine go_iload_n dX9_runOf_35 rfl ?_
        refine go_iret dX9_runOf_36 rfl ?_
        exact ⟨rfl, rfl, rfl⟩
      · exact absurd (nI_le (by omega) (by omega)) c_9
theorem run_mRunOf (d : Nat) {v : Nat} {h : gH} {s : SD} {q : PD} (hw : CW s.1) (hv : v < 2 ^ 31) (hq6 : q.1 ≤ 6) (hq : ∀ j, j < q.1 → q.2.1 j < (so s.1.1).1) (hQ : MQq h s q) : Run d yX9_runOf cX9_runOf 3 (some .int) [.ref 147, .int (nI v)] h 163 0 0 (fun r h' N' => r = some (.int (nI (rO (fun j => decide ((so s.1.1).2.1 (q.2.1 j) ≤ v)) q.1 q.1 0))) ∧ h' = h ∧ N' = 163) := by
  refine Run.of (ini := false) (L := [_, _, _]) mX9_runOf (fun h => by cases h) rfl (Nat.le_of_ble_eq_true rfl) rfl ?_
  refine go_iconst (v := nI 0) dX9_runOf_0 (by decide) ?_
  refine go_istore_n (L' := [_, _, _]) dX9_runOf_1 rfl (by decide) rfl ?_
  exact mr_loop hw hv hq6 hq hQ q.1 0 (by omega) (by omega)
theorem sub1_toInt {r : Nat} (h : r ≤ 30) : (nI r - nI 1).toInt = (r : Int) - 1 := by
  have key : ∀ r, r < 31 → (nI r - nI 1).toInt = (r : Int) - 1 := by decide
  exact key r (by omega)
set_option maxRecDepth 100000 in
theorem run_mBeginOf (d : Nat) {h : gH} {s : SD} {q : PD} (hw : CW s.1) (hq6 : q.1 ≤ 6) (hq : ∀ j, j < q.1 → q.2.1 j < (so s.1.1).1) (hQ : MQq h s q) (i : Int32) : Run (d + 1) yX9_beginOf cX9_beginOf 2 (some .int) [.ref 147, .int i] h 163 0 0 (fun v h' N' => v = some (.int (begS s.1 q i)) ∧ h' = h ∧ N' = 163) := by
  obtain ⟨⟨r0, r1, r2, r3, r4, h7⟩, ⟨FS, FW, f1, f2, f3⟩, ⟨FB, b0, b1⟩, hS⟩ := hQ
  have h24 := so_24 hw.2.1
  have em : (-1 : Int32).toInt = -1 := by decide
  have es := sub1_toInt (r := q.1) (by omega)
  refine Run.of (ini := false) (L := [_, _]) mX9_beginOf (fun h => by cases h) rfl (Nat.le_of_ble_eq_true rfl) rfl ?_
  by_cases hb : i.toInt < -1 ∨ (q.1 : Int) ≤ i.toInt
  · rw [begS_bad hb]
    refine go_iload_n dX9_beginOf_0 rfl ?_
    refine go_iconst (v := (-1)) dX9_beginOf_1 (by decide) ?_
    refine go_aload_n dX9_beginOf_2 rfl ?_
    refine go_get dX9_beginOf_3 fX9_163 (by omega) h7 rfl ?_
    refine go_iconst (v := nI 1) dX9_beginOf_6 (by decide) ?_
    refine go_isub dX9_beginOf_7 ?_
    refine go_is dX9_beginOf_8 mX9_in iX9_63 (run_inI d i (-1) (nI q.1 - nI 1)) rfl rfl (Nat.le_of_ble_eq_true rfl) (Nat.zero_le _) (Nat.zero_le _) (fun v_8 h_8 n_8 q_8 => ?_)
    obtain ⟨rfl, rfl, rfl⟩ := q_8
    refine go_if_ne (tgt := 16) dX9_beginOf_11 (by decide) (fun c_11 => ?_) (fun c_11 => ?_)
    · rw [bI_ne, decide_eq_true_iff, em, es] at c_11; omega
    · skip
      refine go_iconst (v := (-1)) dX9_beginOf_14 (by decide) ?_
      refine go_iret dX9_beginOf_15 rfl ?_
      exact ⟨rfl, rfl, rfl⟩
  · by_cases e : i = -1
    · subst e
      rw [begS_m1]
      refine go_iload_n dX9_beginOf_0 rfl ?_
      refine go_iconst (v := (-1)) dX9_beginOf_1 (by decide) ?_
      refine go_aload_n dX9_beginOf_2 rfl ?_
      refine go_get dX9_beginOf_3 fX9_163 (by omega) h7 rfl ?_
      refine go_iconst (v := nI 1) dX9_beginOf_6 (by decide) ?_
      refine go_isub dX9_beginOf_7 ?_
      refine go_is dX9_beginOf_8 mX9_in iX9_63 (run_inI d (-1) (-1) (nI q.1 - nI 1)) rfl rfl (Nat.le_of_ble_eq_true rfl) (Nat.zero_le _) (Nat.zero_le _) (fun v_8 h_8 n_8 q_8 => ?_)
      obtain ⟨rfl, rfl, rfl⟩ := q_8
      refine go_if_ne (tgt := 16) dX9_beginOf_11 (by decide) (fun c_11 => ?_) (fun c_11 => ?_)
      · skip
        refine go_iload_n dX9_beginOf_16 rfl ?_
        refine go_iconst (v := (-1)) dX9_beginOf_17 (by decide) ?_
        refine go_icmp_ne (tgt := 28) dX9_beginOf_18 (by decide) (fun c_18 => ?_) (fun c_18 => ?_)
        · exact absurd rfl c_18
        · skip
          refine go_aload_n dX9_beginOf_21 rfl ?_
          refine go_get dX9_beginOf_22 fX9_163 (by omega) h7 rfl ?_
          refine go_goto (tgt := 39) dX9_beginOf_25 (by decide) ?_
          refine go_iret dX9_beginOf_39 rfl ?_
          exact ⟨rfl, rfl, rfl⟩
      · exact absurd (bI_ne.mpr (decide_eq_true ⟨Int.le_refl _, by rw [es, em]; omega⟩)) c_11
    · obtain ⟨k, rfl, hk, hk2⟩ := eq_nI (x := i) (by
        have : i.toInt ≠ -1 := fun z => e (Int32.toInt_inj.mp (z.trans (by decide)))
        omega)
      have hkq : k < q.1 := by omega
      have hB := hq k hkq
      rw [begS_n hq6 hkq]
      refine go_iload_n dX9_beginOf_0 rfl ?_
      refine go_iconst (v := (-1)) dX9_beginOf_1 (by decide) ?_
      refine go_aload_n dX9_beginOf_2 rfl ?_
      refine go_get dX9_beginOf_3 fX9_163 (by omega) h7 rfl ?_
      refine go_iconst (v := nI 1) dX9_beginOf_6 (by decide) ?_
      refine go_isub dX9_beginOf_7 ?_
      refine go_is dX9_beginOf_8 mX9_in iX9_63 (run_inI d (nI k) (-1) (nI q.1 - nI 1)) rfl rfl (Nat.le_of_ble_eq_true rfl) (Nat.zero_le _) (Nat.zero_le _) (fun v_8 h_8 n_8 q_8 => ?_)
      obtain ⟨rfl, rfl, rfl⟩ := q_8
      refine go_if_ne (tgt := 16) dX9_beginOf_11 (by decide) (fun c_11 => ?_) (fun c_11 => ?_)
      · skip
        refine go_iload_n dX9_beginOf_16 rfl ?_
        refine go_iconst (v := (-1)) dX9_beginOf_17 (by decide) ?_
        refine go_icmp_ne (tgt := 28) dX9_beginOf_18 (by decide) (fun c_18 => ?_) (fun c_18 => ?_)
        · skip
          refine go_aload_n dX9_beginOf_28 rfl ?_
          refine go_get dX9_beginOf_29 fX9_38 (by omega) h7 rfl ?_
          refine go_aload_n dX9_beginOf_32 rfl ?_
          refine go_get dX9_beginOf_33 fX9_51 (by omega) h7 rfl ?_
          refine go_iload_n dX9_beginOf_36 rfl ?_
          refine go_iald dX9_beginOf_37 (by omega) b0 rfl (by omega) (by omega) ?_
          refine go_top (y := .int (nI (q.2.1 k))) (by rw [b1 _ hkq]) ?_
          refine go_iald dX9_beginOf_38 (by omega) f1 rfl (by omega) (by omega) ?_
          refine go_top (y := .int (nI ((so s.1.1).2.1 (q.2.1 k)))) (by rw [(f3 _ hB).1]) ?_
          refine go_iret dX9_beginOf_39 rfl ?_
          exact ⟨rfl, rfl, rfl⟩
        · exact absurd (nI_ne_m1 hk2) c_18
      · exact absurd (bI_ne.mpr (decide_eq_true ⟨by rw [em]; omega, by rw [es]; omega⟩)) c_11
theorem frP {h h' : gH} (k : ∀ x, x ≠ 147 → (x < 156 ∨ 161 ≤ x) → h' x = h x) : Fr 147 163 h h' := fun x hx => k x (by omega) (by omega)
