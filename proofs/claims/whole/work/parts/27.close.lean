/-! ===== closes: the class's side ===== -/
noncomputable def clG (c : CD) (j : Nat) : Nat → Nat := fun i => if i < j then (so c.1).2.1 ((nowD c).2.1 (i + 1)) else c.2.1 i
set_option maxRecDepth 100000 in
theorem closes_loop {h0 : gH} {s : SD} {str : Int32} {Q : Option Value → gH → Nat → Prop} (hw : SW s) (ho : Ob h0) (hL0 : Ld h0 (so s.1.1).1 (so s.1.1).2.1 (so s.1.1).2.2) (hP0 : Pg h0 132 (nowD s.1))
    (hq : ∀ h, Ct h 1 (closeC s.1) → Fr 1 4 h0 h → Q (some (.int str)) h 163) : ∀ (m j : Nat) (h : gH), j + m = (nowD s.1).1 - 1 → Ct h 1 (s.1.1, clG s.1 j, some ((nowD s.1).1 - 1), s.1.2.2.2) → Fr 1 4 h0 h → Go none RX8 cX8_closes 5 (some .int) false 8 47 [some (.ref 0), some (.ref 132), some (.ref 50), some (.int str), some (.int (nI j))] [] h 163 0 0 Q := by
  have h6 := now_6 hw.1
  have h24 := so_24 hw.1.2.1
  intro m
  induction m with
  | zero =>
    intro j h hj hC hF
    obtain ⟨F, G, g0, g1, g2, gf, gg⟩ := id hC
    have o := (hF 0 (by omega)).trans ho
    refine go_iload dX8_closes_47 rfl ?_
    refine go_aload_n dX8_closes_49 rfl ?_
    refine go_get dX8_closes_50 fX8_10 (by omega) o rfl ?_
    refine go_get dX8_closes_53 fX8_112 (by omega) g0 rfl ?_
    refine go_icmp_ge (tgt := 100) dX8_closes_56 (by decide) (fun c_56 => ?_) (fun c_56 => ?_)
    · skip
      refine go_iload_n dX8_closes_100 rfl ?_
      refine go_iret dX8_closes_101 rfl ?_
      exact hq h (by rw [show j = (nowD s.1).1 - 1 by omega] at hC; exact hC) hF
    · exact absurd (show nI ((nowD s.1).1 - 1) ≤ nI j from nI_le (by omega) (by omega)) c_56
  | succ m ih =>
    intro j h hj hC hF
    obtain ⟨F, G, g0, g1, g2, gf, gg⟩ := id hC
    have o := (hF 0 (by omega)).trans ho
    have hL := hL0.fr hF (by omega)
    have hP := hP0.fr hF (by omega)
    obtain ⟨FA, FW, l0, -⟩ := id hL.1
    obtain ⟨FP, p0, -⟩ := id hP
    have hj1 : j + 1 < (nowD s.1).1 := by omega
    refine go_iload dX8_closes_47 rfl ?_
    refine go_aload_n dX8_closes_49 rfl ?_
    refine go_get dX8_closes_50 fX8_10 (by omega) o rfl ?_
    refine go_get dX8_closes_53 fX8_112 (by omega) g0 rfl ?_
    refine go_icmp_ge (tgt := 100) dX8_closes_56 (by decide) (fun c_56 => ?_) (fun c_56 => ?_)
    · exact absurd c_56 (show ¬ nI ((nowD s.1).1 - 1) ≤ nI j from nI_ge (by omega) (by omega))
    · skip
      refine go_iload dX8_closes_59 rfl ?_
      refine go_aload_n dX8_closes_61 rfl ?_
      refine go_get dX8_closes_62 fX8_10 (by omega) o rfl ?_
      refine go_get dX8_closes_65 fX8_115 (by omega) g0 rfl ?_
      refine go_alen dX8_closes_68 (by omega) g2 (by decide) ?_
      refine go_icmp_ge (tgt := 100) dX8_closes_69 (by decide) (fun c_69 => ?_) (fun c_69 => ?_)
      · exact absurd c_69 (nI_ge (by omega) (by omega))
      · skip
        refine go_aload_n dX8_closes_72 rfl ?_
        refine go_get dX8_closes_73 fX8_10 (by omega) o rfl ?_
        refine go_get dX8_closes_76 fX8_115 (by omega) g0 rfl ?_
        refine go_iload dX8_closes_79 rfl ?_
        refine go_aload_n dX8_closes_81 rfl ?_
        refine go_aload_n dX8_closes_82 rfl ?_
        refine go_iload dX8_closes_83 rfl ?_
        refine go_iconst (v := nI 1) dX8_closes_85 (by decide) ?_
        refine go_iadd dX8_closes_86 ?_
        refine go_top (y := .int (nI (j + 1))) (by rw [nI_add]) ?_
        refine go_iv dX8_closes_87 mX5_beginOf iX8_118 (run_beginOf 7 (by omega) hj1 hP) rfl rfl (by omega) p0 rfl (Nat.le_of_ble_eq_true rfl) (Nat.zero_le _) (Nat.zero_le _) (fun v_87 h_87 n_87 q_87 => ?_)
        obtain ⟨rfl, rfl, rfl⟩ := q_87
        refine go_iv dX8_closes_90 mX2_numberAt iX8_122 (run_numberAt 7 (by omega) (now_lt hj1) hL.1) rfl rfl (by omega) l0 rfl (Nat.le_of_ble_eq_true rfl) (Nat.zero_le _) (Nat.zero_le _) (fun v_90 h_90 n_90 q_90 => ?_)
        obtain ⟨rfl, rfl, rfl⟩ := q_90
        refine go_iast dX8_closes_93 (by omega) g2 rfl (by omega) (by omega) ?_
        refine go_inc (L' := [_, _, _, _, _]) dX8_closes_94 rfl (by decide) rfl ?_
        refine go_goto (tgt := 47) dX8_closes_97 (by decide) ?_
        refine ih (j + 1) _ (by omega) ⟨F, _, (hset_ne (by omega)).trans g0, (hset_ne (by omega)).trans g1, hset_same, gf, fun x hx => ?_⟩ (hF.set (by omega) (by omega))
        by_cases e : x = j
        · subst e; rw [pk_us]; simp [clG]
        · rw [pk_un e, gg x hx]; simp only [clG]; by_cases e2 : x < j
          · rw [if_pos e2, if_pos (by omega)]
          · rw [if_neg e2, if_neg (by omega)]
set_option maxRecDepth 100000 in
theorem c_closes {h : gH} {s : SD} (hw : SW s) (hS : CS h s) : Run 8 yX8_closes cX8_closes 5 (some .int) [.ref 0] h 163 0 0 (fun v h' N' => v = some (.int (closesS s).1) ∧ N' = 163 ∧ CS h' (closesS s).2 ∧ Fr 0 147 h h') := by
  obtain ⟨l, cu, le, ta, k0⟩ := hS.2.2.2.2.2.h49
  have h6 := now_6 hw.1
  refine Run.of (ini := false) (L := [_, _, _, _, _]) mX8_closes (fun h => by cases h) rfl (Nat.le_of_ble_eq_true rfl) rfl ?_
  refine go_aload_n dX8_closes_0 rfl ?_
  refine go_get dX8_closes_1 fX8_43 (by omega) hS.1 rfl ?_
  refine go_iv dX8_closes_4 mX6_ofNow iX8_90 (ofNowS hw hS) rfl rfl (by omega) k0 rfl (Nat.le_of_ble_eq_true rfl) (Nat.zero_le _) (Nat.zero_le _) (fun v_4 h_4 n_4 q_4 => ?_)
  obtain ⟨rfl, rfl, hS1, hP1, hF1⟩ := q_4
  obtain ⟨l1, cu1, le1, ta1, k1⟩ := hS1.2.2.2.2.2.h49
  refine go_astore_n (L' := [_, _, _, _, _]) dX8_closes_7 rfl (by decide) rfl ?_
  refine go_aload_n dX8_closes_8 rfl ?_
  refine go_get dX8_closes_9 fX8_43 (by omega) hS1.1 rfl ?_
  refine go_iv dX8_closes_12 mX6_rungs iX8_94 (rungsS hw hS1) rfl rfl (by omega) k1 rfl (Nat.le_of_ble_eq_true rfl) (Nat.zero_le _) (Nat.zero_le _) (fun v_12 h_12 n_12 q_12 => ?_)
  obtain ⟨rfl, rfl, hS2, hL2, hF2⟩ := q_12
  have hP2 := hP1.fr hF2 (by omega)
  refine go_astore_n (L' := [_, _, _, _, _]) dX8_closes_15 rfl (by decide) rfl ?_
  refine go_aload_n dX8_closes_16 rfl ?_
  refine go_aload_n dX8_closes_17 rfl ?_
  refine go_aload_n dX8_closes_18 rfl ?_
  refine go_iv dX8_closes_19 mX8_strangeBorders iX8_98 (run_strange 6 hw.1 hS2.1 (by omega) hS2.2.1 hL2 hP2 (fun j hj => now_lt hj)) rfl rfl (by omega) hS2.1 rfl (Nat.le_of_ble_eq_true rfl) (Nat.zero_le _) (Nat.zero_le _) (fun v_19 h_19 n_19 q_19 => ?_)
  obtain ⟨rfl, rfl, rfl⟩ := q_19
  refine go_istore_n (L' := [_, _, _, _, _]) dX8_closes_22 rfl (by decide) rfl ?_
  refine go_aload_n dX8_closes_23 rfl ?_
  refine go_iv dX8_closes_24 mX8_aheadOfChange iX8_78 (run_ahead hw hS2) rfl rfl (by omega) hS2.1 rfl (Nat.le_of_ble_eq_true rfl) (Nat.zero_le _) (Nat.zero_le _) (fun v_24 h_24 n_24 q_24 => ?_)
  obtain ⟨rfl, rfl, ⟨o3, hC3, hU3, hI3, hM3, hP3⟩, hF3⟩ := q_24
  have hL4 := hL2.fr hF3 (by omega)
  have hP4 := hP2.fr hF3 (by omega)
  obtain ⟨F1, G1, k0, k1, k2, kf, kg⟩ := id hC3
  obtain ⟨FP, p0, -⟩ := id hP4
  refine go_aload_n dX8_closes_27 rfl ?_
  refine go_get dX8_closes_28 fX8_10 (by omega) o3 rfl ?_
  refine go_aload_n dX8_closes_31 rfl ?_
  refine go_get dX8_closes_32 fX8_102 (by omega) p0 rfl ?_
  refine go_iconst (v := nI 1) dX8_closes_35 (by decide) ?_
  refine go_isub dX8_closes_36 ?_
  refine go_iconst (v := nI 0) dX8_closes_37 (by decide) ?_
  refine go_max dX8_closes_38 iX8_107 (Nat.le_of_ble_eq_true rfl) ?_
  refine go_top (y := .int (nI ((nowD s.1).1 - 1))) ?_ ?_
  · rcases (show (nowD s.1).1 = 0 ∨ (nowD s.1).1 = 1 ∨ (nowD s.1).1 = 2 ∨ (nowD s.1).1 = 3 ∨ (nowD s.1).1 = 4 ∨ (nowD s.1).1 = 5 ∨ (nowD s.1).1 = 6 by omega) with e | e | e | e | e | e | e <;> rw [e] <;> rfl
  refine go_put (fs' := [_, _, _, _, _]) dX8_closes_41 fX8_112 (by omega) k0 (Nat.le_of_ble_eq_true rfl) (Or.inl rfl) ⟨_, _, _, rfl, Or.inl rfl⟩ rfl ?_
  refine go_iconst (v := nI 0) dX8_closes_44 (by decide) ?_
  refine go_istore (L' := [_, _, _, _, _]) dX8_closes_45 (by decide) rfl ?_
  have fr : ∀ y, Fr 1 4 h_24 (hset h_24 1 y) := fun y => Fr.rf.set (by omega) (by omega)
  refine closes_loop hw o3 hL4 hP4 (fun h' hC5 hF5 => ?_) ((nowD s.1).1 - 1) 0 _ (by omega) ⟨F1, G1, hset_same, (hset_ne (by omega)).trans k1, (hset_ne (by omega)).trans k2, kf, fun x hx => by rw [kg x hx]; simp [clG]⟩ (fr _)
  exact ⟨rfl, rfl, ⟨(hF5 0 (by omega)).trans o3, hC5, hU3.fr hF5 (by omega), hI3.fr hF5 (by omega), hM3.fr hF5 (by omega), (hP3 _).fr hF5 (by omega)⟩, (((hF1.wide (by omega) (by omega)).trans (hF2.wide (by omega) (by omega))).trans (hF3.wide (by omega) (by omega))).trans (hF5.wide (by omega) (by omega))⟩
