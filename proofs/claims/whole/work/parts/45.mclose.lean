/-! ===== closes, last: the reference's side ===== -/
set_option maxRecDepth 100000 in
theorem mc_loop {d : Nat} {h0 : gH} {c : CD} {q : PD} {str a k e s r0 r1 r2 r3 r4 u sn m : Int32} {Q : Option Value → gH → Nat → Prop} (hw : CW c) (hq6 : q.1 ≤ 6) (hq : ∀ j, j < q.1 → q.2.1 j < (so c.1).1) (h7 : h0 147 = mo m a k e s r0 r1 r2 r3 r4 u sn (nI q.1)) (hM : Ms h0 c) (hP : MP h0 q)
    (kk : ∀ (h : gH) (F6 : Nat → Int32), h 150 = iA 5 F6 → (∀ i, i < q.1 - 1 → F6 i = nI ((so c.1).2.1 (q.2.1 (i + 1)))) → Fr 150 151 h0 h → Q (some (.int str)) h 163) :
    ∀ (n i : Nat) (h : gH) (F6 : Nat → Int32), (i + 1 + n = q.1 ∨ (n = 0 ∧ i = 0 ∧ q.1 = 0)) → h 150 = iA 5 F6 → (∀ j, j < i → F6 j = nI ((so c.1).2.1 (q.2.1 (j + 1)))) → Fr 150 151 h0 h → Go none RX9 cX9_closes 3 (some .int) false d 34 [some (.ref 147), some (.int str), some (.int (nI (i + 1)))] [] h 163 0 0 Q := by
  obtain ⟨FS, FW, f1, f2, f3⟩ := hM
  obtain ⟨FB, b0, b1⟩ := hP
  have h24 := so_24 hw.2.1
  intro n
  induction n with
  | zero =>
    intro i h F6 hi h6 hF hfr
    have h7' := (hfr 147 (by omega)).trans h7
    refine go_iload_n dX9_closes_34 rfl ?_
    refine go_aload_n dX9_closes_35 rfl ?_
    refine go_get dX9_closes_36 fX9_163 (by omega) h7' rfl ?_
    refine go_icmp_ge (tgt := 67) dX9_closes_39 (by decide) (fun c_39 => ?_) (fun c_39 => ?_)
    · skip
      refine go_iload_n dX9_closes_67 rfl ?_
      refine go_iret dX9_closes_68 rfl ?_
      exact kk h F6 h6 (fun j hj => hF j (by omega)) hfr
    · exact absurd (nI_le (by omega) (by omega)) c_39
  | succ n ih =>
    intro i h F6 hi h6 hF hfr
    have h7' := (hfr 147 (by omega)).trans h7
    have hi1 : i + 1 < q.1 := by omega
    have hB := hq _ hi1
    refine go_iload_n dX9_closes_34 rfl ?_
    refine go_aload_n dX9_closes_35 rfl ?_
    refine go_get dX9_closes_36 fX9_163 (by omega) h7' rfl ?_
    refine go_icmp_ge (tgt := 67) dX9_closes_39 (by decide) (fun c_39 => ?_) (fun c_39 => ?_)
    · exact absurd c_39 (nI_ge (by omega) (by omega))
    · skip
      refine go_aload_n dX9_closes_42 rfl ?_
      refine go_get dX9_closes_43 fX9_20 (by omega) h7' rfl ?_
      refine go_iload_n dX9_closes_46 rfl ?_
      refine go_iconst (v := nI 1) dX9_closes_47 (by decide) ?_
      refine go_isub dX9_closes_48 ?_
      refine go_top (y := .int (nI i)) (by rw [nI_sub (by omega)]; rfl) ?_
      refine go_aload_n dX9_closes_49 rfl ?_
      refine go_get dX9_closes_50 fX9_38 (by omega) h7' rfl ?_
      refine go_aload_n dX9_closes_53 rfl ?_
      refine go_get dX9_closes_54 fX9_51 (by omega) h7' rfl ?_
      refine go_iload_n dX9_closes_57 rfl ?_
      refine go_iald dX9_closes_58 (by omega) ((hfr _ (by omega)).trans b0) rfl (by omega) (by omega) ?_
      refine go_top (y := .int (nI (q.2.1 (i + 1)))) (by rw [b1 _ hi1]) ?_
      refine go_iald dX9_closes_59 (by omega) ((hfr _ (by omega)).trans f1) rfl (by omega) (by omega) ?_
      refine go_top (y := .int (nI ((so c.1).2.1 (q.2.1 (i + 1))))) (by rw [(f3 _ hB).1]) ?_
      refine go_iast dX9_closes_60 (by omega) h6 rfl (by omega) (by omega) ?_
      refine go_inc (L' := [_, _, _]) dX9_closes_61 rfl (by decide) rfl ?_
      refine go_goto (tgt := 34) dX9_closes_64 (by decide) ?_
      refine ih (i + 1) _ _ (Or.inl (by omega)) hset_same (fun j hj => ?_) (hfr.set (by omega) (by omega))
      by_cases e : j = i
      · subst e; rw [pk_us]
      · rw [pk_un e]; exact hF j (by omega)
set_option maxRecDepth 100000 in
theorem m_closes {h : gH} {s : SD} (hw : SW s) (hS : MS h s) : Run 8 yX9_closes cX9_closes 3 (some .int) [.ref 147] h 163 0 0 (fun v h' N' => v = some (.int (closesS s).1) ∧ N' = 163 ∧ MS h' (closesS s).2 ∧ Fr 147 163 h h') := by
  obtain ⟨⟨r0, r1, r2, r3, r4, sn, rn, h7⟩, -⟩ := id hS
  have h6 := now_6 hw.1
  have K : ∀ (h1 h : gH), MQq h (chS s s.1) (nowD s.1) → Fr 147 163 h1 h → Go none RX9 cX9_closes 3 (some .int) false 8 13 [some (.ref 147), some (.int (nI (strS s.1))), none] [] h 163 0 0 (fun v h' N' => v = some (.int (closesS s).1) ∧ N' = 163 ∧ MS h' (closesS s).2 ∧ Fr 147 163 h1 h') := by
    intro h1 h hQ hF1
    obtain ⟨⟨r0, r1, r2, r3, r4, k7⟩, hMs, hMp, hS2⟩ := hQ
    have k7 : h 147 = mS s.1 s.2.2.2.1 (pushU s.2.1 s.1).1 r0 r1 r2 r3 r4 (nI (so s.1.1).1) (nI (nowD s.1).1) := k7
    obtain ⟨F4, F5, F6, q4, q5, q6, ⟨w, v, hE, hEw⟩, ho⟩ := id hS2.2.1
    refine go_aload_n dX9_closes_13 rfl ?_
    refine go_aload_n dX9_closes_14 rfl ?_
    refine go_get dX9_closes_15 fX9_163 (by omega) k7 rfl ?_
    refine go_if_le (tgt := 28) dX9_closes_18 (by decide) (fun c_18 => ?_) (fun c_18 => ?_)
    · skip
      have z : (nowD s.1).1 = 0 := by have := (nI_leI (b := 0) (by omega) (by omega)).mp c_18; omega
      refine go_iconst (v := nI 1) dX9_closes_28 (by decide) ?_
      refine go_top (y := .int (nI ((nowD s.1).1 - 1 + 1))) (by first | rw [z] | (rw [z]; rfl) | (rw [show (nowD s.1).1 - 1 + 1 = (nowD s.1).1 by omega])) ?_
      refine go_put (fs' := [_, _, _, _, _, _, _, _, _, _, _, _, _, _, _, _, _, _, _, _, _, _, _, _, _, _, _, _]) dX9_closes_29 fX9_119 (by omega) k7 (Nat.le_of_ble_eq_true rfl) (Or.inl rfl) ⟨_, _, _, rfl, Or.inl rfl⟩ rfl ?_
      refine go_iconst (v := nI 1) dX9_closes_32 (by decide) ?_
      refine go_istore_n (L' := [_, _, _]) dX9_closes_33 rfl (by decide) rfl ?_
      refine mc_loop (q := nowD s.1) hw.1 h6 (fun j hj => now_lt hj) hset_same (hMs.ag (hset_ne (by omega)) (hset_ne (by omega))) (by obtain ⟨FB, b0, b1⟩ := hMp; exact ⟨FB, (hset_ne (by omega)).trans b0, b1⟩) (fun h2 F6' a1 a2 a3 => ?_) ((nowD s.1).1 - 1) 0 _ F6 (by omega) ((hset_ne (by omega)).trans q6) (fun j hj => absurd hj (by omega)) Fr.rf
      refine ⟨rfl, rfl, hS2.chart (r0 := r0) (r1 := r1) (r2 := r2) (r3 := r3) (r4 := r4) (sn := nI (so s.1.1).1) (rn := nI (nowD s.1).1) ((a3 147 (by omega)).trans hset_same) ⟨F4, F5, F6', (a3 _ (by omega)).trans ((hset_ne (by omega)).trans q4), (a3 _ (by omega)).trans ((hset_ne (by omega)).trans q5), a1, ⟨w, v, hE, hEw⟩, fun i hi => ?_⟩ (fun x hx => (a3 x (by omega)).trans (hset_ne (by omega))), fun x hx => (a3 x (by omega)).trans ((hset_ne (by omega)).trans (hF1 x hx))⟩
      have hi : i < (nowD s.1).1 - 1 := hi
      rw [a2 i hi]
      simp only [closeC, if_pos hi]
    · skip
      have z : 0 < (nowD s.1).1 := by have := mt (nI_leI (a := (nowD s.1).1) (b := 0) (by omega) (by omega)).mpr c_18; omega
      refine go_aload_n dX9_closes_21 rfl ?_
      refine go_get dX9_closes_22 fX9_163 (by omega) k7 rfl ?_
      refine go_goto (tgt := 29) dX9_closes_25 (by decide) ?_
      refine go_top (y := .int (nI ((nowD s.1).1 - 1 + 1))) (by first | rw [z] | (rw [z]; rfl) | (rw [show (nowD s.1).1 - 1 + 1 = (nowD s.1).1 by omega])) ?_
      refine go_put (fs' := [_, _, _, _, _, _, _, _, _, _, _, _, _, _, _, _, _, _, _, _, _, _, _, _, _, _, _, _]) dX9_closes_29 fX9_119 (by omega) k7 (Nat.le_of_ble_eq_true rfl) (Or.inl rfl) ⟨_, _, _, rfl, Or.inl rfl⟩ rfl ?_
      refine go_iconst (v := nI 1) dX9_closes_32 (by decide) ?_
      refine go_istore_n (L' := [_, _, _]) dX9_closes_33 rfl (by decide) rfl ?_
      refine mc_loop (q := nowD s.1) hw.1 h6 (fun j hj => now_lt hj) hset_same (hMs.ag (hset_ne (by omega)) (hset_ne (by omega))) (by obtain ⟨FB, b0, b1⟩ := hMp; exact ⟨FB, (hset_ne (by omega)).trans b0, b1⟩) (fun h2 F6' a1 a2 a3 => ?_) ((nowD s.1).1 - 1) 0 _ F6 (by omega) ((hset_ne (by omega)).trans q6) (fun j hj => absurd hj (by omega)) Fr.rf
      refine ⟨rfl, rfl, hS2.chart (r0 := r0) (r1 := r1) (r2 := r2) (r3 := r3) (r4 := r4) (sn := nI (so s.1.1).1) (rn := nI (nowD s.1).1) ((a3 147 (by omega)).trans hset_same) ⟨F4, F5, F6', (a3 _ (by omega)).trans ((hset_ne (by omega)).trans q4), (a3 _ (by omega)).trans ((hset_ne (by omega)).trans q5), a1, ⟨w, v, hE, hEw⟩, fun i hi => ?_⟩ (fun x hx => (a3 x (by omega)).trans (hset_ne (by omega))), fun x hx => (a3 x (by omega)).trans ((hset_ne (by omega)).trans (hF1 x hx))⟩
      have hi : i < (nowD s.1).1 - 1 := hi
      rw [a2 i hi]
      simp only [closeC, if_pos hi]
  refine Run.of (ini := false) (L := [_, _, _]) mX9_closes (fun h => by cases h) rfl (Nat.le_of_ble_eq_true rfl) rfl ?_
  refine go_aload_n dX9_closes_0 rfl ?_
  refine go_iv dX9_closes_1 mX9_notes iX9_136 (run_notes 6 hw hS) rfl rfl (by omega) h7 rfl (Nat.le_of_ble_eq_true rfl) (Nat.zero_le _) (Nat.zero_le _) (fun v_1 h_1 n_1 q_1 => ?_)
  obtain ⟨rfl, rfl, hS1, hF1⟩ := q_1
  obtain ⟨⟨q0, q1, q2, q3, q4, q5, q6, k7⟩, -⟩ := id hS1
  refine go_aload_n dX9_closes_4 rfl ?_
  refine go_iv dX9_closes_5 mX9_partsNow iX9_174 (partsS (s := chS s s.1) hw.1 hS1 3) rfl rfl (by omega) k7 rfl (Nat.le_of_ble_eq_true rfl) (Nat.zero_le _) (Nat.zero_le _) (fun v_5 h_5 n_5 q_5 => ?_)
  obtain ⟨rfl, rfl, hQ, hF2⟩ := q_5
  obtain ⟨p0, p1, p2, p3, p4, l7⟩ := hQ.1
  refine go_aload_n dX9_closes_8 rfl ?_
  refine go_iv dX9_closes_9 mX9_movedMany iX9_177 (run_movedMany (s := chS s s.1) 6 hw.1 h6 (fun j hj => now_lt hj) hQ) rfl rfl (by omega) l7 rfl (Nat.le_of_ble_eq_true rfl) (Nat.zero_le _) (Nat.zero_le _) (fun v_9 h_9 n_9 q_9 => ?_)
  obtain ⟨rfl, rfl, rfl⟩ := q_9
  refine go_istore_n (L' := [_, _, _]) dX9_closes_12 rfl (by decide) rfl ?_
  exact K _ _ hQ (fun x hx => (hF2 x (by omega) (by omega)).trans (hF1 x (by omega) (by omega)))
