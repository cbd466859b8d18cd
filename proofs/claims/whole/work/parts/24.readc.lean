/-! ===== the class's side of the calls that only read ===== -/
theorem begS_bad {c : CD} {q : PD} {i : Int32} (h : i.toInt < -1 ∨ (q.1 : Int) ≤ i.toInt) : begS c q i = -1 := by
  unfold begS
  rw [if_neg (by omega), if_neg (by omega)]
theorem eq_nI {x : Int32} (h : 0 ≤ x.toInt) : ∃ k, x = nI k ∧ (k : Int) = x.toInt ∧ k < 2 ^ 31 := by
  have hb := Int32.toInt_lt x
  refine ⟨x.toInt.toNat, ?_, by omega, by omega⟩
  apply Int32.toInt_inj.mp
  rw [nI_toInt (by omega)]
  omega
theorem begS_m1 (c : CD) (q : PD) : begS c q (-1) = nI q.1 := by unfold begS; rw [if_pos (by decide)]
theorem begS_n {c : CD} {q : PD} {k : Nat} (h6 : q.1 ≤ 6) (hk : k < q.1) : begS c q (nI k) = nI ((so c.1).2.1 (q.2.1 k)) := by
  unfold begS
  rw [if_neg (by rw [nI_toInt (by omega)]; omega), if_pos (by rw [nI_toInt (by omega)]; omega), toN_nI (by omega)]
theorem m1_lt {x : Int32} : x < -1 ↔ x.toInt < -1 := by
  rw [Int32.lt_iff_toInt_lt]; exact Iff.rfl
set_option maxRecDepth 100000 in
theorem run_beginning {h : gH} {s : SD} {p : Nat} {q : PD} (hw : SW s) (hS : CS h s) (hp : 132 ≤ p) (hp2 : p + 1 < 147) (hP : Pg h p q) (hq : ∀ j, j < q.1 → q.2.1 j < (so s.1.1).1) (i : Int32) : Run 7 yX8_beginning cX8_beginning 3 (some .int) [.ref 0, .ref p, .int i] h 163 0 0 (fun v h' N' => v = some (.int (begS s.1 q i)) ∧ N' = 163 ∧ CS h' s ∧ Fr 49 147 h h') := by
  obtain ⟨o, hC, hU, hI, hM, hPa⟩ := id hS
  obtain ⟨F, f0, f1, f2, f3⟩ := id hP
  obtain ⟨l, cu, le, ta, k0⟩ := hPa.h49
  have h24 := so_24 hw.1.2.1
  refine Run.of (ini := false) (L := [_, _, _]) mX8_beginning (fun h => by cases h) rfl (Nat.le_of_ble_eq_true rfl) rfl ?_
  by_cases hb : i.toInt < -1 ∨ (q.1 : Int) ≤ i.toInt
  · rw [begS_bad hb]
    refine go_iload_n dX8_beginning_0 rfl ?_
    refine go_iconst (v := (-1)) dX8_beginning_1 (by decide) ?_
    refine go_icmp_lt (tgt := 13) dX8_beginning_2 (by decide) (fun c_2 => ?_) (fun c_2 => ?_)
    · skip
      refine go_iconst (v := (-1)) dX8_beginning_13 (by decide) ?_
      refine go_iret dX8_beginning_14 rfl ?_
      exact ⟨rfl, rfl, hS, Fr.rf⟩
    · skip
      rw [m1_lt] at c_2
      refine go_iload_n dX8_beginning_5 rfl ?_
      refine go_aload_n dX8_beginning_6 rfl ?_
      refine go_get dX8_beginning_7 fX8_102 (by omega) f0 rfl ?_
      refine go_icmp_lt (tgt := 15) dX8_beginning_10 (by decide) (fun c_10 => ?_) (fun c_10 => ?_)
      · rw [ltN (by omega)] at c_10; omega
      · skip
        refine go_iconst (v := (-1)) dX8_beginning_13 (by decide) ?_
        refine go_iret dX8_beginning_14 rfl ?_
        exact ⟨rfl, rfl, hS, Fr.rf⟩
  · by_cases e : i = -1
    · subst e
      rw [begS_m1]
      refine go_iload_n dX8_beginning_0 rfl ?_
      refine go_iconst (v := (-1)) dX8_beginning_1 (by decide) ?_
      refine go_icmp_lt (tgt := 13) dX8_beginning_2 (by decide) (fun c_2 => ?_) (fun c_2 => ?_)
      · exact absurd c_2 (by decide)
      · skip
        refine go_iload_n dX8_beginning_5 rfl ?_
        refine go_aload_n dX8_beginning_6 rfl ?_
        refine go_get dX8_beginning_7 fX8_102 (by omega) f0 rfl ?_
        refine go_icmp_lt (tgt := 15) dX8_beginning_10 (by decide) (fun c_10 => ?_) (fun c_10 => ?_)
        · skip
          refine go_iload_n dX8_beginning_15 rfl ?_
          refine go_iconst (v := (-1)) dX8_beginning_16 (by decide) ?_
          refine go_icmp_ne (tgt := 27) dX8_beginning_17 (by decide) (fun c_17 => ?_) (fun c_17 => ?_)
          · exact absurd rfl c_17
          · skip
            refine go_aload_n dX8_beginning_20 rfl ?_
            refine go_get dX8_beginning_21 fX8_102 (by omega) f0 rfl ?_
            refine go_goto (tgt := 42) dX8_beginning_24 (by decide) ?_
            refine go_iret dX8_beginning_42 rfl ?_
            exact ⟨rfl, rfl, hS, Fr.rf⟩
        · exact absurd (by rw [ltN (by omega)]; show (-1 : Int) < _; omega) c_10
    · obtain ⟨k, rfl, hk, hk2⟩ := eq_nI (x := i) (by
        have : i.toInt ≠ -1 := fun z => e (Int32.toInt_inj.mp (z.trans (by decide)))
        omega)
      have hkq : k < q.1 := by omega
      rw [begS_n f2 hkq]
      refine go_iload_n dX8_beginning_0 rfl ?_
      refine go_iconst (v := (-1)) dX8_beginning_1 (by decide) ?_
      refine go_icmp_lt (tgt := 13) dX8_beginning_2 (by decide) (fun c_2 => ?_) (fun c_2 => ?_)
      · rw [m1_lt, nI_toInt hk2] at c_2; omega
      · skip
        refine go_iload_n dX8_beginning_5 rfl ?_
        refine go_aload_n dX8_beginning_6 rfl ?_
        refine go_get dX8_beginning_7 fX8_102 (by omega) f0 rfl ?_
        refine go_icmp_lt (tgt := 15) dX8_beginning_10 (by decide) (fun c_10 => ?_) (fun c_10 => ?_)
        · skip
          refine go_iload_n dX8_beginning_15 rfl ?_
          refine go_iconst (v := (-1)) dX8_beginning_16 (by decide) ?_
          refine go_icmp_ne (tgt := 27) dX8_beginning_17 (by decide) (fun c_17 => ?_) (fun c_17 => ?_)
          · skip
            refine go_aload_n dX8_beginning_27 rfl ?_
            refine go_get dX8_beginning_28 fX8_43 (by omega) o rfl ?_
            refine go_iv dX8_beginning_31 mX6_rungs iX8_94 (run_rungsE 3 (by omega) hw.1 hC hPa) rfl rfl (by omega) k0 rfl (Nat.le_of_ble_eq_true rfl) (Nat.zero_le _) (Nat.zero_le _) (fun v_31 h_31 n_31 q_31 => ?_)
            obtain ⟨rfl, rfl, hP1, hL1, hF1⟩ := q_31
            have hPg := hP.fr hF1 (by omega)
            obtain ⟨F', g0, -⟩ := id hPg
            refine go_aload_n dX8_beginning_34 rfl ?_
            refine go_iload_n dX8_beginning_35 rfl ?_
            refine go_iv dX8_beginning_36 mX5_beginOf iX8_118 (run_beginOf 6 (by omega) hkq hPg) rfl rfl (by omega) g0 rfl (Nat.le_of_ble_eq_true rfl) (Nat.zero_le _) (Nat.zero_le _) (fun v_36 h_36 n_36 q_36 => ?_)
            obtain ⟨rfl, rfl, rfl⟩ := q_36
            obtain ⟨FA, FW, l0, -⟩ := id hL1.1
            refine go_iv dX8_beginning_39 mX2_numberAt iX8_122 (run_numberAt 6 (by omega) (hq k hkq) hL1.1) rfl rfl (by omega) l0 rfl (Nat.le_of_ble_eq_true rfl) (Nat.zero_le _) (Nat.zero_le _) (fun v_39 h_39 n_39 q_39 => ?_)
            obtain ⟨rfl, rfl, rfl⟩ := q_39
            refine go_iret dX8_beginning_42 rfl ?_
            exact ⟨rfl, rfl, hS.pa (hF1.wide (by omega) (by omega)) hP1, hF1.wide (by omega) (by omega)⟩
          · exact absurd (nI_ne_m1 hk2) c_17
        · exact absurd (nI_lt hkq (by omega)) c_10
theorem strange_loop {d N : Nat} {h : gH} {c : CD} {q : PD} {p : Nat} (hN : N = 163) (hw : CW c) (ho : h 0 = .inr (8, [.ref 1, .ref 4, .ref 36, .ref 43, .ref 44, .ref 49])) (hp2 : p + 1 < 147) (hC : Ct h 1 c) (hL : Ld h (so c.1).1 (so c.1).2.1 (so c.1).2.2) (hP : Pg h p q) (hq : ∀ j, j < q.1 → q.2.1 j < (so c.1).1) : ∀ (m k : Nat), k + 1 + m = q.1 → Go none RX8 cX8_strangeBorders 5 (some .int) false (d + 1) 5 [some (.ref 0), some (.ref p), some (.ref 50), some (.int (nI (stB c q k))), some (.int (nI (k + 1)))] [] h N 0 0 (fun v h' N' => v = some (.int (nI (stB c q (q.1 - 1)))) ∧ h' = h ∧ N' = N) := by
  subst hN
  obtain ⟨F, f0, f1, f2, f3⟩ := id hP
  obtain ⟨FC, GC, g0, -⟩ := id hC
  obtain ⟨FA, FW, l0, -⟩ := id hL.1
  have h24 := so_24 hw.2.1
  intro m
  induction m with
  | zero =>
    intro k hk
    have e : q.1 - 1 = k := by omega
    rw [e]
    refine go_iload dX8_strangeBorders_5 rfl ?_
    refine go_aload_n dX8_strangeBorders_7 rfl ?_
    refine go_get dX8_strangeBorders_8 fX8_102 (by omega) f0 rfl ?_
    refine go_icmp_ge (tgt := 43) dX8_strangeBorders_11 (by decide) (fun c_11 => ?_) (fun c_11 => ?_)
    · skip
      refine go_iload_n dX8_strangeBorders_43 rfl ?_
      refine go_iret dX8_strangeBorders_44 rfl ?_
      exact ⟨rfl, rfl, rfl⟩
    · exact absurd (nI_le (by omega) (by omega)) c_11
  | succ m ih =>
    intro k hk
    have hk1 : k + 1 < q.1 := by omega
    have hA := so_le hw.1 _ (hq (k + 1) hk1)
    have ih := ih (k + 1) (by omega)
    have hs := stB_le c q k
    refine go_iload dX8_strangeBorders_5 rfl ?_
    refine go_aload_n dX8_strangeBorders_7 rfl ?_
    refine go_get dX8_strangeBorders_8 fX8_102 (by omega) f0 rfl ?_
    refine go_icmp_ge (tgt := 43) dX8_strangeBorders_11 (by decide) (fun c_11 => ?_) (fun c_11 => ?_)
    · exact absurd c_11 (nI_ge (by omega) (by omega))
    · skip
      refine go_aload_n dX8_strangeBorders_14 rfl ?_
      refine go_get dX8_strangeBorders_15 fX8_10 (by omega) ho rfl ?_
      refine go_aload_n dX8_strangeBorders_18 rfl ?_
      refine go_aload_n dX8_strangeBorders_19 rfl ?_
      refine go_iload dX8_strangeBorders_20 rfl ?_
      refine go_iv dX8_strangeBorders_22 mX5_beginOf iX8_118 (run_beginOf d (by omega) hk1 hP) rfl rfl (by omega) f0 rfl (Nat.le_of_ble_eq_true rfl) (Nat.zero_le _) (Nat.zero_le _) (fun v_22 h_22 n_22 q_22 => ?_)
      obtain ⟨rfl, rfl, rfl⟩ := q_22
      refine go_iv dX8_strangeBorders_25 mX2_numberAt iX8_122 (run_numberAt d (by omega) (hq _ hk1) hL.1) rfl rfl (by omega) l0 rfl (Nat.le_of_ble_eq_true rfl) (Nat.zero_le _) (Nat.zero_le _) (fun v_25 h_25 n_25 q_25 => ?_)
      obtain ⟨rfl, rfl, rfl⟩ := q_25
      refine go_iv dX8_strangeBorders_28 mX0_isOld iX8_177 (run_isOld d (by omega) (fun x hx => by have := hw.2.2.2.1 x hx; omega) hw.2.2.1 (by omega) hC) rfl rfl (by omega) g0 rfl (Nat.le_of_ble_eq_true rfl) (Nat.zero_le _) (Nat.zero_le _) (fun v_28 h_28 n_28 q_28 => ?_)
      obtain ⟨rfl, rfl, rfl⟩ := q_28
      refine go_if_ne (tgt := 37) dX8_strangeBorders_31 (by decide) (fun c_31 => ?_) (fun c_31 => ?_)
      · skip
        have hb := bI_ne.mp c_31
        refine go_inc (L' := [_, _, _, _, _]) dX8_strangeBorders_37 rfl (by decide) rfl ?_
        refine go_goto (tgt := 5) dX8_strangeBorders_40 (by decide) ?_
        refine go_eqL ?_ ih
        simp only [stB, hb, if_true, if_false, Nat.add_zero, nI_add, nI_1, Bool.false_eq_true]
      · skip
        have hb : ¬ oldB c.2.1 ((so c.1).2.1 (q.2.1 (k + 1))) (oK c.2.2.1) = true := mt bI_ne.mpr c_31
        refine go_inc (L' := [_, _, _, _, _]) dX8_strangeBorders_34 rfl (by decide) rfl ?_
        refine go_inc (L' := [_, _, _, _, _]) dX8_strangeBorders_37 rfl (by decide) rfl ?_
        refine go_goto (tgt := 5) dX8_strangeBorders_40 (by decide) ?_
        refine go_eqL ?_ ih
        simp only [stB, hb, if_true, if_false, Nat.add_zero, nI_add, nI_1, Bool.false_eq_true]
theorem run_strange (d : Nat) {h : gH} {c : CD} {q : PD} {p : Nat} (hw : CW c) (ho : Ob h) (hp2 : p + 1 < 147) (hC : Ct h 1 c) (hL : Ld h (so c.1).1 (so c.1).2.1 (so c.1).2.2) (hP : Pg h p q) (hq : ∀ j, j < q.1 → q.2.1 j < (so c.1).1) : Run (d + 1) yX8_strangeBorders cX8_strangeBorders 5 (some .int) [.ref 0, .ref p, .ref 50] h 163 0 0 (fun v h' N' => v = some (.int (nI (stB c q (q.1 - 1)))) ∧ h' = h ∧ N' = 163) := by
  obtain ⟨F, f0, f1, f2, f3⟩ := id hP
  refine Run.of (ini := false) (L := [_, _, _, _, _]) mX8_strangeBorders (fun h => by cases h) rfl (Nat.le_of_ble_eq_true rfl) rfl ?_
  by_cases e : q.1 = 0
  · rw [e]
    refine go_iconst (v := nI 0) dX8_strangeBorders_0 (by decide) ?_
    refine go_istore_n (L' := [_, _, _, _, _]) dX8_strangeBorders_1 rfl (by decide) rfl ?_
    refine go_iconst (v := nI 1) dX8_strangeBorders_2 (by decide) ?_
    refine go_istore (L' := [_, _, _, _, _]) dX8_strangeBorders_3 (by decide) rfl ?_
    refine go_iload dX8_strangeBorders_5 rfl ?_
    refine go_aload_n dX8_strangeBorders_7 rfl ?_
    refine go_get dX8_strangeBorders_8 fX8_102 (by omega) f0 rfl ?_
    refine go_icmp_ge (tgt := 43) dX8_strangeBorders_11 (by decide) (fun c_11 => ?_) (fun c_11 => ?_)
    · skip
      refine go_iload_n dX8_strangeBorders_43 rfl ?_
      refine go_iret dX8_strangeBorders_44 rfl ?_
      exact ⟨rfl, rfl, rfl⟩
    · exact absurd (by rw [e]; decide) c_11
  · skip
    refine go_iconst (v := nI 0) dX8_strangeBorders_0 (by decide) ?_
    refine go_istore_n (L' := [_, _, _, _, _]) dX8_strangeBorders_1 rfl (by decide) rfl ?_
    refine go_iconst (v := nI 1) dX8_strangeBorders_2 (by decide) ?_
    refine go_istore (L' := [_, _, _, _, _]) dX8_strangeBorders_3 (by decide) rfl ?_
    exact strange_loop rfl hw ho hp2 hC hL hP hq (q.1 - 1) 0 (by omega)
