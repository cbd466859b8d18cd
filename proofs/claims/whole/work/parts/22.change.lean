/-! ===== the calls that change the chart ===== -/
theorem Ct.putN {h : gH} {i k : Nat} {c : CD} {F : Nat → Int32} {v : Option Nat} (q : Ct h i c) (h1 : h (i + 1) = .inl (0, 100, .inl F)) (hF : ∀ x, x < 100 → F x = nO (c.1 x)) : Ct (hset h (i + 1) (.inl (0, 100, .inl (upd F k (nO v))))) i (setF c.1 k v, c.2) := by
  obtain ⟨F', G, a0, a1, a2, a3, a4⟩ := q
  refine ⟨upd F k (nO v), G, (hset_ne (by omega)).trans a0, hset_same, (hset_ne (by omega)).trans a2, fun x hx => ?_, a4⟩
  by_cases e : x = k
  · subst e; rw [pk_us]; simp [setF]
  · rw [pk_un e, hF x hx]; simp [setF, e]
set_option maxRecDepth 100000 in
theorem c_puts {h : gH} {s : SD} (hw : SW s) (hS : CS h s) (r c x : Int32) : Run 8 yX8_puts cX8_puts 6 (some .int) [.ref 0, .int r, .int c, .int x] h 163 0 0 (fun v h' N' => v = some (.int (putsS s r c x).1) ∧ N' = 163 ∧ CS h' (putsS s r c x).2 ∧ Fr 0 147 h h') := by
  obtain ⟨o, hC, hU, hI, hM, hP⟩ := id hS
  obtain ⟨F, G, g0, g1, g2, hf, hg⟩ := id hC
  cases hrc : (rI 0 9 r && rI 0 9 c) with
  | false =>
    have e : putsS s r c x = (-1, s) := by unfold putsS; rw [hrc]; rfl
    rw [e]
    refine Run.of (ini := false) (L := [_, _, _, _, _, _]) mX8_puts (fun h => by cases h) rfl (Nat.le_of_ble_eq_true rfl) rfl ?_
    refine go_iload_n dX8_puts_0 rfl ?_
    refine go_iload_n dX8_puts_1 rfl ?_
    refine go_is dX8_puts_2 mX8_cellOf iX8_67 (run_cellOf 6 r c) rfl rfl (Nat.le_of_ble_eq_true rfl) (Nat.zero_le _) (Nat.zero_le _) (fun v_2 h_2 n_2 q_2 => ?_)
    obtain ⟨rfl, rfl, rfl⟩ := q_2
    rw [cellI_no hrc]
    refine go_istore (L' := [_, _, _, _, _, _]) dX8_puts_5 (by decide) rfl ?_
    refine go_iload dX8_puts_7 rfl ?_
    refine go_if_lt (tgt := 23) dX8_puts_9 (by decide) (fun c_9 => ?_) (fun c_9 => ?_)
    · skip
      refine go_iconst (v := (-1)) dX8_puts_23 (by decide) ?_
      refine go_iret dX8_puts_24 rfl ?_
      exact ⟨rfl, rfl, hS, Fr.rf⟩
    · exact absurd (by decide) c_9
  | true =>
    obtain ⟨i, j, hi, hj, rfl, rfl, hce⟩ := cellI_yes hrc
    cases hx : rI 0 999 x with
    | false =>
      have e : putsS s (nI i) (nI j) x = (-1, s) := by unfold putsS; rw [hrc, hx]; rfl
      rw [e]
      refine Run.of (ini := false) (L := [_, _, _, _, _, _]) mX8_puts (fun h => by cases h) rfl (Nat.le_of_ble_eq_true rfl) rfl ?_
      refine go_iload_n dX8_puts_0 rfl ?_
      refine go_iload_n dX8_puts_1 rfl ?_
      refine go_is dX8_puts_2 mX8_cellOf iX8_67 (run_cellOf 6 (nI i) (nI j)) rfl rfl (Nat.le_of_ble_eq_true rfl) (Nat.zero_le _) (Nat.zero_le _) (fun v_2 h_2 n_2 q_2 => ?_)
      obtain ⟨rfl, rfl, rfl⟩ := q_2
      rw [hce]
      refine go_istore (L' := [_, _, _, _, _, _]) dX8_puts_5 (by decide) rfl ?_
      refine go_iload dX8_puts_7 rfl ?_
      refine go_if_lt (tgt := 23) dX8_puts_9 (by decide) (fun c_9 => ?_) (fun c_9 => ?_)
      · exact absurd c_9 (nI_pos (by omega))
      · skip
        refine go_iload_n dX8_puts_12 rfl ?_
        refine go_if_lt (tgt := 23) dX8_puts_13 (by decide) (fun c_13 => ?_) (fun c_13 => ?_)
        · skip
          refine go_iconst (v := (-1)) dX8_puts_23 (by decide) ?_
          refine go_iret dX8_puts_24 rfl ?_
          exact ⟨rfl, rfl, hS, Fr.rf⟩
        · skip
          rw [lt0] at c_13
          refine go_iload_n dX8_puts_16 rfl ?_
          refine go_sipush (v := nI 999) dX8_puts_17 (by decide) ?_
          refine go_icmp_le (tgt := 25) dX8_puts_20 (by decide) (fun c_20 => ?_) (fun c_20 => ?_)
          · exact absurd (rI_f hx) (by rw [leN (by decide)] at c_20; omega)
          · skip
            refine go_iconst (v := (-1)) dX8_puts_23 (by decide) ?_
            refine go_iret dX8_puts_24 rfl ?_
            exact ⟨rfl, rfl, hS, Fr.rf⟩
    | true =>
      obtain ⟨v, -, hv, rfl⟩ := rI_t hx
      have e : putsS s (nI i) (nI j) (nI v) = if s.1.1 (10 * i + j) = none ∧ 24 ≤ cP s.1.1 100 then (-3, s) else (nN (s.1.1 (10 * i + j)), chS s (setF s.1.1 (10 * i + j) (some v), s.1.2)) := by
        unfold putsS
        rw [hrc, hx, toN_nI (by omega), toN_nI (by omega), toN_nI (by omega)]
        rfl
      rw [e]
      have hcell : 10 * i + j < 100 := by omega
      have h24 : cP s.1.1 100 ≤ 24 := hw.1.2.1
      refine Run.of (ini := false) (L := [_, _, _, _, _, _]) mX8_puts (fun h => by cases h) rfl (Nat.le_of_ble_eq_true rfl) rfl ?_
      cases hq : s.1.1 (10 * i + j) with
      | none =>
        refine go_iload_n dX8_puts_0 rfl ?_
        refine go_iload_n dX8_puts_1 rfl ?_
        refine go_is dX8_puts_2 mX8_cellOf iX8_67 (run_cellOf 6 (nI i) (nI j)) rfl rfl (Nat.le_of_ble_eq_true rfl) (Nat.zero_le _) (Nat.zero_le _) (fun v_2 h_2 n_2 q_2 => ?_)
        obtain ⟨rfl, rfl, rfl⟩ := q_2
        rw [hce]
        refine go_istore (L' := [_, _, _, _, _, _]) dX8_puts_5 (by decide) rfl ?_
        refine go_iload dX8_puts_7 rfl ?_
        refine go_if_lt (tgt := 23) dX8_puts_9 (by decide) (fun c_9 => ?_) (fun c_9 => ?_)
        · exact absurd c_9 (nI_pos (by omega))
        · skip
          refine go_iload_n dX8_puts_12 rfl ?_
          refine go_if_lt (tgt := 23) dX8_puts_13 (by decide) (fun c_13 => ?_) (fun c_13 => ?_)
          · exact absurd c_13 (nI_pos (by omega))
          · skip
            refine go_iload_n dX8_puts_16 rfl ?_
            refine go_sipush (v := nI 999) dX8_puts_17 (by decide) ?_
            refine go_icmp_le (tgt := 25) dX8_puts_20 (by decide) (fun c_20 => ?_) (fun c_20 => ?_)
            · skip
              refine go_aload_n dX8_puts_25 rfl ?_
              refine go_get dX8_puts_26 fX8_10 (by omega) o rfl ?_
              refine go_get dX8_puts_29 fX8_71 (by omega) g0 rfl ?_
              refine go_iload dX8_puts_32 rfl ?_
              refine go_iald dX8_puts_34 (by omega) g1 rfl (by omega) (by omega) ?_
              refine go_top (y := .int (-1)) (by rw [hf _ hcell, hq]; rfl) ?_
              refine go_istore (L' := [_, _, _, _, _, _]) dX8_puts_35 (by decide) rfl ?_
              refine go_iload dX8_puts_37 rfl ?_
              refine go_iconst (v := (-1)) dX8_puts_39 (by decide) ?_
              refine go_icmp_ne (tgt := 58) dX8_puts_40 (by decide) (fun c_40 => ?_) (fun c_40 => ?_)
              · exact absurd rfl c_40
              · skip
                refine go_aload_n dX8_puts_43 rfl ?_
                refine go_get dX8_puts_44 fX8_10 (by omega) o rfl ?_
                refine go_iv dX8_puts_47 mX0_places iX8_75 (run_places 7 hw.1.1 (by omega) hC) rfl rfl (by omega) g0 rfl (Nat.le_of_ble_eq_true rfl) (Nat.zero_le _) (Nat.zero_le _) (fun v_47 h_47 n_47 q_47 => ?_)
                obtain ⟨rfl, rfl, rfl⟩ := q_47
                refine go_bipush (v := nI 24) dX8_puts_50 (by decide) ?_
                refine go_icmp_lt (tgt := 58) dX8_puts_52 (by decide) (fun c_52 => ?_) (fun c_52 => ?_)
                · skip
                  have hfree := (nI_ltI (by omega) (by decide)).mp c_52
                  refine go_aload_n dX8_puts_58 rfl ?_
                  refine go_iv dX8_puts_59 mX8_aheadOfChange iX8_78 (run_ahead hw hS) rfl rfl (by omega) o rfl (Nat.le_of_ble_eq_true rfl) (Nat.zero_le _) (Nat.zero_le _) (fun v_59 h_59 n_59 q_59 => ?_)
                  obtain ⟨rfl, rfl, ⟨o1, hC1, hU1, hI1, hM1, hP1⟩, hF1⟩ := q_59
                  obtain ⟨F1, G1, k0, k1, k2, kf, kg⟩ := id hC1
                  refine go_aload_n dX8_puts_62 rfl ?_
                  refine go_get dX8_puts_63 fX8_10 (by omega) o1 rfl ?_
                  refine go_get dX8_puts_66 fX8_71 (by omega) k0 rfl ?_
                  refine go_iload dX8_puts_69 rfl ?_
                  refine go_iload_n dX8_puts_71 rfl ?_
                  refine go_iast dX8_puts_72 (by omega) k1 rfl (by omega) (by omega) ?_
                  refine go_iload dX8_puts_73 rfl ?_
                  refine go_iconst (v := (-1)) dX8_puts_75 (by decide) ?_
                  refine go_icmp_ne (tgt := 84) dX8_puts_76 (by decide) (fun c_76 => ?_) (fun c_76 => ?_)
                  · exact absurd rfl c_76
                  · skip
                    refine go_bipush (v := (-9)) dX8_puts_79 (by decide) ?_
                    refine go_goto (tgt := 86) dX8_puts_81 (by decide) ?_
                    refine go_iret dX8_puts_86 rfl ?_
                    rw [if_neg (by omega)]
                    have fr : ∀ y, Fr 2 3 h_59 (hset h_59 2 y) := fun y => Fr.rf.set (by omega) (by omega)
                    exact ⟨rfl, rfl, ⟨(fr _ 0 (by omega)).trans o1, hC1.putN (v := some v) k1 kf, hU1.fr (fr _) (by omega), hI1.fr (fr _) (by omega), hM1.fr (fr _) (by omega), (hP1 _).fr (fr _) (by omega)⟩, (hF1.wide (by omega) (by omega)).set (by omega) (by omega)⟩
                · skip
                  have hfull : 24 ≤ cP s.1.1 100 := by have := mt (nI_ltI (a := cP s.1.1 100) (b := 24) (by omega) (by decide)).mpr c_52; omega
                  refine go_bipush (v := (-3)) dX8_puts_55 (by decide) ?_
                  refine go_iret dX8_puts_57 rfl ?_
                  rw [if_pos ⟨rfl, hfull⟩]
                  exact ⟨rfl, rfl, hS, Fr.rf⟩
            · exact absurd (nI_le hv (by decide)) c_20
      | some w =>
        have hw9 := hw.1.1 _ hcell w hq
        refine go_iload_n dX8_puts_0 rfl ?_
        refine go_iload_n dX8_puts_1 rfl ?_
        refine go_is dX8_puts_2 mX8_cellOf iX8_67 (run_cellOf 6 (nI i) (nI j)) rfl rfl (Nat.le_of_ble_eq_true rfl) (Nat.zero_le _) (Nat.zero_le _) (fun v_2 h_2 n_2 q_2 => ?_)
        obtain ⟨rfl, rfl, rfl⟩ := q_2
        rw [hce]
        refine go_istore (L' := [_, _, _, _, _, _]) dX8_puts_5 (by decide) rfl ?_
        refine go_iload dX8_puts_7 rfl ?_
        refine go_if_lt (tgt := 23) dX8_puts_9 (by decide) (fun c_9 => ?_) (fun c_9 => ?_)
        · exact absurd c_9 (nI_pos (by omega))
        · skip
          refine go_iload_n dX8_puts_12 rfl ?_
          refine go_if_lt (tgt := 23) dX8_puts_13 (by decide) (fun c_13 => ?_) (fun c_13 => ?_)
          · exact absurd c_13 (nI_pos (by omega))
          · skip
            refine go_iload_n dX8_puts_16 rfl ?_
            refine go_sipush (v := nI 999) dX8_puts_17 (by decide) ?_
            refine go_icmp_le (tgt := 25) dX8_puts_20 (by decide) (fun c_20 => ?_) (fun c_20 => ?_)
            · skip
              refine go_aload_n dX8_puts_25 rfl ?_
              refine go_get dX8_puts_26 fX8_10 (by omega) o rfl ?_
              refine go_get dX8_puts_29 fX8_71 (by omega) g0 rfl ?_
              refine go_iload dX8_puts_32 rfl ?_
              refine go_iald dX8_puts_34 (by omega) g1 rfl (by omega) (by omega) ?_
              refine go_top (y := .int (nI w)) (by rw [hf _ hcell, hq]; rfl) ?_
              refine go_istore (L' := [_, _, _, _, _, _]) dX8_puts_35 (by decide) rfl ?_
              refine go_iload dX8_puts_37 rfl ?_
              refine go_iconst (v := (-1)) dX8_puts_39 (by decide) ?_
              refine go_icmp_ne (tgt := 58) dX8_puts_40 (by decide) (fun c_40 => ?_) (fun c_40 => ?_)
              · skip
                refine go_aload_n dX8_puts_58 rfl ?_
                refine go_iv dX8_puts_59 mX8_aheadOfChange iX8_78 (run_ahead hw hS) rfl rfl (by omega) o rfl (Nat.le_of_ble_eq_true rfl) (Nat.zero_le _) (Nat.zero_le _) (fun v_59 h_59 n_59 q_59 => ?_)
                obtain ⟨rfl, rfl, ⟨o1, hC1, hU1, hI1, hM1, hP1⟩, hF1⟩ := q_59
                obtain ⟨F1, G1, k0, k1, k2, kf, kg⟩ := id hC1
                refine go_aload_n dX8_puts_62 rfl ?_
                refine go_get dX8_puts_63 fX8_10 (by omega) o1 rfl ?_
                refine go_get dX8_puts_66 fX8_71 (by omega) k0 rfl ?_
                refine go_iload dX8_puts_69 rfl ?_
                refine go_iload_n dX8_puts_71 rfl ?_
                refine go_iast dX8_puts_72 (by omega) k1 rfl (by omega) (by omega) ?_
                refine go_iload dX8_puts_73 rfl ?_
                refine go_iconst (v := (-1)) dX8_puts_75 (by decide) ?_
                refine go_icmp_ne (tgt := 84) dX8_puts_76 (by decide) (fun c_76 => ?_) (fun c_76 => ?_)
                · skip
                  refine go_iload dX8_puts_84 rfl ?_
                  refine go_iret dX8_puts_86 rfl ?_
                  rw [if_neg (by simp)]
                  have fr : ∀ y, Fr 2 3 h_59 (hset h_59 2 y) := fun y => Fr.rf.set (by omega) (by omega)
                  exact ⟨rfl, rfl, ⟨(fr _ 0 (by omega)).trans o1, hC1.putN (v := some v) k1 kf, hU1.fr (fr _) (by omega), hI1.fr (fr _) (by omega), hM1.fr (fr _) (by omega), (hP1 _).fr (fr _) (by omega)⟩, (hF1.wide (by omega) (by omega)).set (by omega) (by omega)⟩
                · exact absurd (nI_ne_m1 (by omega)) c_76
              · exact absurd (nI_ne_m1 (by omega)) c_40
            · exact absurd (nI_le hv (by decide)) c_20
set_option maxRecDepth 100000 in
theorem c_drops {h : gH} {s : SD} (hw : SW s) (hS : CS h s) (r c : Int32) : Run 8 yX8_drops cX8_drops 5 (some .int) [.ref 0, .int r, .int c] h 163 0 0 (fun v h' N' => v = some (.int (dropsS s r c).1) ∧ N' = 163 ∧ CS h' (dropsS s r c).2 ∧ Fr 0 147 h h') := by
  obtain ⟨o, hC, hU, hI, hM, hP⟩ := id hS
  obtain ⟨F, G, g0, g1, g2, hf, hg⟩ := id hC
  cases hrc : (rI 0 9 r && rI 0 9 c) with
  | false =>
    have e : dropsS s r c = (-1, s) := by unfold dropsS; rw [hrc]; rfl
    rw [e]
    refine Run.of (ini := false) (L := [_, _, _, _, _]) mX8_drops (fun h => by cases h) rfl (Nat.le_of_ble_eq_true rfl) rfl ?_
    refine go_iload_n dX8_drops_0 rfl ?_
    refine go_iload_n dX8_drops_1 rfl ?_
    refine go_is dX8_drops_2 mX8_cellOf iX8_67 (run_cellOf 6 r c) rfl rfl (Nat.le_of_ble_eq_true rfl) (Nat.zero_le _) (Nat.zero_le _) (fun v_2 h_2 n_2 q_2 => ?_)
    obtain ⟨rfl, rfl, rfl⟩ := q_2
    rw [cellI_no hrc]
    refine go_istore_n (L' := [_, _, _, _, _]) dX8_drops_5 rfl (by decide) rfl ?_
    refine go_iload_n dX8_drops_6 rfl ?_
    refine go_if_ge (tgt := 12) dX8_drops_7 (by decide) (fun c_7 => ?_) (fun c_7 => ?_)
    · exact absurd c_7 (by decide)
    · skip
      refine go_iconst (v := (-1)) dX8_drops_10 (by decide) ?_
      refine go_iret dX8_drops_11 rfl ?_
      exact ⟨rfl, rfl, hS, Fr.rf⟩
  | true =>
    obtain ⟨i, j, hi, hj, rfl, rfl, hce⟩ := cellI_yes hrc
    have e : dropsS s (nI i) (nI j) = if s.1.1 (10 * i + j) = none then (-2, s) else (nN (s.1.1 (10 * i + j)), chS s (setF s.1.1 (10 * i + j) none, s.1.2)) := by
      unfold dropsS
      rw [hrc, toN_nI (by omega), toN_nI (by omega)]
      rfl
    rw [e]
    have hcell : 10 * i + j < 100 := by omega
    refine Run.of (ini := false) (L := [_, _, _, _, _]) mX8_drops (fun h => by cases h) rfl (Nat.le_of_ble_eq_true rfl) rfl ?_
    cases hq : s.1.1 (10 * i + j) with
    | none =>
      refine go_iload_n dX8_drops_0 rfl ?_
      refine go_iload_n dX8_drops_1 rfl ?_
      refine go_is dX8_drops_2 mX8_cellOf iX8_67 (run_cellOf 6 (nI i) (nI j)) rfl rfl (Nat.le_of_ble_eq_true rfl) (Nat.zero_le _) (Nat.zero_le _) (fun v_2 h_2 n_2 q_2 => ?_)
      obtain ⟨rfl, rfl, rfl⟩ := q_2
      rw [hce]
      refine go_istore_n (L' := [_, _, _, _, _]) dX8_drops_5 rfl (by decide) rfl ?_
      refine go_iload_n dX8_drops_6 rfl ?_
      refine go_if_ge (tgt := 12) dX8_drops_7 (by decide) (fun c_7 => ?_) (fun c_7 => ?_)
      · skip
        refine go_aload_n dX8_drops_12 rfl ?_
        refine go_get dX8_drops_13 fX8_10 (by omega) o rfl ?_
        refine go_get dX8_drops_16 fX8_71 (by omega) g0 rfl ?_
        refine go_iload_n dX8_drops_19 rfl ?_
        refine go_iald dX8_drops_20 (by omega) g1 rfl (by omega) (by omega) ?_
        refine go_top (y := .int (-1)) (by rw [hf _ hcell, hq]; rfl) ?_
        refine go_istore (L' := [_, _, _, _, _]) dX8_drops_21 (by decide) rfl ?_
        refine go_iload dX8_drops_23 rfl ?_
        refine go_iconst (v := (-1)) dX8_drops_25 (by decide) ?_
        refine go_icmp_ne (tgt := 32) dX8_drops_26 (by decide) (fun c_26 => ?_) (fun c_26 => ?_)
        · exact absurd rfl c_26
        · skip
          refine go_bipush (v := (-2)) dX8_drops_29 (by decide) ?_
          refine go_iret dX8_drops_31 rfl ?_
          rw [if_pos rfl]
          exact ⟨rfl, rfl, hS, Fr.rf⟩
      · exact absurd (nI_pos' (by omega)) c_7
    | some w =>
      have hw9 := hw.1.1 _ hcell w hq
      refine go_iload_n dX8_drops_0 rfl ?_
      refine go_iload_n dX8_drops_1 rfl ?_
      refine go_is dX8_drops_2 mX8_cellOf iX8_67 (run_cellOf 6 (nI i) (nI j)) rfl rfl (Nat.le_of_ble_eq_true rfl) (Nat.zero_le _) (Nat.zero_le _) (fun v_2 h_2 n_2 q_2 => ?_)
      obtain ⟨rfl, rfl, rfl⟩ := q_2
      rw [hce]
      refine go_istore_n (L' := [_, _, _, _, _]) dX8_drops_5 rfl (by decide) rfl ?_
      refine go_iload_n dX8_drops_6 rfl ?_
      refine go_if_ge (tgt := 12) dX8_drops_7 (by decide) (fun c_7 => ?_) (fun c_7 => ?_)
      · skip
        refine go_aload_n dX8_drops_12 rfl ?_
        refine go_get dX8_drops_13 fX8_10 (by omega) o rfl ?_
        refine go_get dX8_drops_16 fX8_71 (by omega) g0 rfl ?_
        refine go_iload_n dX8_drops_19 rfl ?_
        refine go_iald dX8_drops_20 (by omega) g1 rfl (by omega) (by omega) ?_
        refine go_top (y := .int (nI w)) (by rw [hf _ hcell, hq]; rfl) ?_
        refine go_istore (L' := [_, _, _, _, _]) dX8_drops_21 (by decide) rfl ?_
        refine go_iload dX8_drops_23 rfl ?_
        refine go_iconst (v := (-1)) dX8_drops_25 (by decide) ?_
        refine go_icmp_ne (tgt := 32) dX8_drops_26 (by decide) (fun c_26 => ?_) (fun c_26 => ?_)
        · skip
          refine go_aload_n dX8_drops_32 rfl ?_
          refine go_iv dX8_drops_33 mX8_aheadOfChange iX8_78 (run_ahead hw hS) rfl rfl (by omega) o rfl (Nat.le_of_ble_eq_true rfl) (Nat.zero_le _) (Nat.zero_le _) (fun v_33 h_33 n_33 q_33 => ?_)
          obtain ⟨rfl, rfl, ⟨o1, hC1, hU1, hI1, hM1, hP1⟩, hF1⟩ := q_33
          obtain ⟨F1, G1, k0, k1, k2, kf, kg⟩ := id hC1
          refine go_aload_n dX8_drops_36 rfl ?_
          refine go_get dX8_drops_37 fX8_10 (by omega) o1 rfl ?_
          refine go_get dX8_drops_40 fX8_71 (by omega) k0 rfl ?_
          refine go_iload_n dX8_drops_43 rfl ?_
          refine go_iconst (v := (-1)) dX8_drops_44 (by decide) ?_
          refine go_iast dX8_drops_45 (by omega) k1 rfl (by omega) (by omega) ?_
          refine go_iload dX8_drops_46 rfl ?_
          refine go_iret dX8_drops_48 rfl ?_
          rw [if_neg (by simp)]
          have fr : ∀ y, Fr 2 3 h_33 (hset h_33 2 y) := fun y => Fr.rf.set (by omega) (by omega)
          exact ⟨rfl, rfl, ⟨(fr _ 0 (by omega)).trans o1, hC1.putN (v := none) k1 kf, hU1.fr (fr _) (by omega), hI1.fr (fr _) (by omega), hM1.fr (fr _) (by omega), (hP1 _).fr (fr _) (by omega)⟩, (hF1.wide (by omega) (by omega)).set (by omega) (by omega)⟩
        · exact absurd (nI_ne_m1 (by omega)) c_26
      · exact absurd (nI_pos' (by omega)) c_7
set_option maxRecDepth 100000 in
theorem c_asks {h : gH} {s : SD} (hw : SW s) (hS : CS h s) (x : Int32) : Run 8 yX8_asks cX8_asks 3 (some .int) [.ref 0, .int x] h 163 0 0 (fun v h' N' => v = some (.int (asksS s x).1) ∧ N' = 163 ∧ CS h' (asksS s x).2 ∧ Fr 0 147 h h') := by
  obtain ⟨o, hC, hU, hI, hM, hP⟩ := id hS
  obtain ⟨F, G, g0, g1, g2, hf, hg⟩ := id hC
  have hK := hw.1.2.2.2.2.1
  cases hr : rI 1 6 x with
  | false =>
    have e : asksS s x = (-1, s) := by unfold asksS; rw [hr]; rfl
    rw [e]
    refine Run.of (ini := false) (L := [_, _, _]) mX8_asks (fun h => by cases h) rfl (Nat.le_of_ble_eq_true rfl) rfl ?_
    refine go_iload_n dX8_asks_0 rfl ?_
    refine go_is dX8_asks_1 mX8_isClasses iX8_81 (run_isClasses 7 x) rfl rfl (Nat.le_of_ble_eq_true rfl) (Nat.zero_le _) (Nat.zero_le _) (fun v_1 h_1 n_1 q_1 => ?_)
    obtain ⟨rfl, rfl, rfl⟩ := q_1
    refine go_if_ne (tgt := 9) dX8_asks_4 (by decide) (fun c_4 => ?_) (fun c_4 => ?_)
    · exact absurd (bI_ne.mp c_4) (by rw [hr]; decide)
    · skip
      refine go_iconst (v := (-1)) dX8_asks_7 (by decide) ?_
      refine go_iret dX8_asks_8 rfl ?_
      exact ⟨rfl, rfl, hS, Fr.rf⟩
  | true =>
    obtain ⟨k, hk1, hk6, rfl⟩ := rI_t hr
    have e : asksS s (nI k) = if s.1.2.2.2.1 = k then (-2, s) else (nI s.1.2.2.2.1, chS s (s.1.1, s.1.2.1, s.1.2.2.1, k, s.1.2.2.2.2)) := by
      unfold asksS
      rw [hr, toN_nI (by omega)]
      rfl
    rw [e]
    refine Run.of (ini := false) (L := [_, _, _]) mX8_asks (fun h => by cases h) rfl (Nat.le_of_ble_eq_true rfl) rfl ?_
    refine go_iload_n dX8_asks_0 rfl ?_
    refine go_is dX8_asks_1 mX8_isClasses iX8_81 (run_isClasses 7 (nI k)) rfl rfl (Nat.le_of_ble_eq_true rfl) (Nat.zero_le _) (Nat.zero_le _) (fun v_1 h_1 n_1 q_1 => ?_)
    obtain ⟨rfl, rfl, rfl⟩ := q_1
    refine go_if_ne (tgt := 9) dX8_asks_4 (by decide) (fun c_4 => ?_) (fun c_4 => ?_)
    · skip
      refine go_aload_n dX8_asks_9 rfl ?_
      refine go_get dX8_asks_10 fX8_10 (by omega) o rfl ?_
      refine go_get dX8_asks_13 fX8_84 (by omega) g0 rfl ?_
      refine go_istore_n (L' := [_, _, _]) dX8_asks_16 rfl (by decide) rfl ?_
      refine go_iload_n dX8_asks_17 rfl ?_
      refine go_iload_n dX8_asks_18 rfl ?_
      refine go_icmp_ne (tgt := 25) dX8_asks_19 (by decide) (fun c_19 => ?_) (fun c_19 => ?_)
      · skip
        have hne : ¬ s.1.2.2.2.1 = k := fun q => c_19 (by rw [q])
        refine go_aload_n dX8_asks_25 rfl ?_
        refine go_iv dX8_asks_26 mX8_aheadOfChange iX8_78 (run_ahead hw hS) rfl rfl (by omega) o rfl (Nat.le_of_ble_eq_true rfl) (Nat.zero_le _) (Nat.zero_le _) (fun v_26 h_26 n_26 q_26 => ?_)
        obtain ⟨rfl, rfl, ⟨o1, hC1, hU1, hI1, hM1, hP1⟩, hF1⟩ := q_26
        obtain ⟨F1, G1, k0, k1, k2, kf, kg⟩ := id hC1
        refine go_aload_n dX8_asks_29 rfl ?_
        refine go_get dX8_asks_30 fX8_10 (by omega) o1 rfl ?_
        refine go_iload_n dX8_asks_33 rfl ?_
        refine go_put (fs' := [_, _, _, _, _]) dX8_asks_34 fX8_84 (by omega) k0 (Nat.le_of_ble_eq_true rfl) (Or.inl rfl) ⟨_, _, _, rfl, Or.inl rfl⟩ rfl ?_
        refine go_iload_n dX8_asks_37 rfl ?_
        refine go_iret dX8_asks_38 rfl ?_
        rw [if_neg hne]
        have fr : ∀ y, Fr 1 2 h_26 (hset h_26 1 y) := fun y => Fr.rf.set (by omega) (by omega)
        exact ⟨rfl, rfl, ⟨(fr _ 0 (by omega)).trans o1, ⟨F1, G1, hset_same, (hset_ne (by omega)).trans k1, (hset_ne (by omega)).trans k2, kf, kg⟩, hU1.fr (fr _) (by omega), hI1.fr (fr _) (by omega), hM1.fr (fr _) (by omega), (hP1 _).fr (fr _) (by omega)⟩, (hF1.wide (by omega) (by omega)).set (by omega) (by omega)⟩
      · skip
        have heq : s.1.2.2.2.1 = k := (nI_eq (by omega) (by omega)).mp (Decidable.not_not.mp c_19)
        refine go_bipush (v := (-2)) dX8_asks_22 (by decide) ?_
        refine go_iret dX8_asks_24 rfl ?_
        rw [if_pos heq]
        exact ⟨rfl, rfl, hS, Fr.rf⟩
    · exact absurd (bI_eq.mp (Decidable.not_not.mp c_4)) (by rw [hr]; decide)
set_option maxRecDepth 100000 in
theorem c_costs {h : gH} {s : SD} (hw : SW s) (hS : CS h s) (x : Int32) : Run 8 yX8_costs cX8_costs 3 (some .int) [.ref 0, .int x] h 163 0 0 (fun v h' N' => v = some (.int (costsS s x).1) ∧ N' = 163 ∧ CS h' (costsS s x).2 ∧ Fr 0 147 h h') := by
  obtain ⟨o, hC, hU, hI, hM, hP⟩ := id hS
  obtain ⟨F, G, g0, g1, g2, hf, hg⟩ := id hC
  have hK := hw.1.2.2.2.2.2
  cases hr : rI 0 999 x with
  | false =>
    have e : costsS s x = (-1, s) := by unfold costsS; rw [hr]; rfl
    rw [e]
    refine Run.of (ini := false) (L := [_, _, _]) mX8_costs (fun h => by cases h) rfl (Nat.le_of_ble_eq_true rfl) rfl ?_
    refine go_iload_n dX8_costs_0 rfl ?_
    refine go_if_lt (tgt := 11) dX8_costs_1 (by decide) (fun c_1 => ?_) (fun c_1 => ?_)
    · skip
      refine go_iconst (v := (-1)) dX8_costs_11 (by decide) ?_
      refine go_iret dX8_costs_12 rfl ?_
      exact ⟨rfl, rfl, hS, Fr.rf⟩
    · skip
      rw [lt0] at c_1
      refine go_iload_n dX8_costs_4 rfl ?_
      refine go_sipush (v := nI 999) dX8_costs_5 (by decide) ?_
      refine go_icmp_le (tgt := 13) dX8_costs_8 (by decide) (fun c_8 => ?_) (fun c_8 => ?_)
      · exact absurd (rI_f hr) (by rw [leN (by decide)] at c_8; omega)
      · skip
        refine go_iconst (v := (-1)) dX8_costs_11 (by decide) ?_
        refine go_iret dX8_costs_12 rfl ?_
        exact ⟨rfl, rfl, hS, Fr.rf⟩
  | true =>
    obtain ⟨k, -, hk6, rfl⟩ := rI_t hr
    have e : costsS s (nI k) = if s.1.2.2.2.2 = k then (-2, s) else (nI s.1.2.2.2.2, chS s (s.1.1, s.1.2.1, s.1.2.2.1, s.1.2.2.2.1, k)) := by
      unfold costsS
      rw [hr, toN_nI (by omega)]
      rfl
    rw [e]
    refine Run.of (ini := false) (L := [_, _, _]) mX8_costs (fun h => by cases h) rfl (Nat.le_of_ble_eq_true rfl) rfl ?_
    refine go_iload_n dX8_costs_0 rfl ?_
    refine go_if_lt (tgt := 11) dX8_costs_1 (by decide) (fun c_1 => ?_) (fun c_1 => ?_)
    · exact absurd c_1 (nI_pos (by omega))
    · skip
      refine go_iload_n dX8_costs_4 rfl ?_
      refine go_sipush (v := nI 999) dX8_costs_5 (by decide) ?_
      refine go_icmp_le (tgt := 13) dX8_costs_8 (by decide) (fun c_8 => ?_) (fun c_8 => ?_)
      · skip
        refine go_aload_n dX8_costs_13 rfl ?_
        refine go_get dX8_costs_14 fX8_10 (by omega) o rfl ?_
        refine go_get dX8_costs_17 fX8_87 (by omega) g0 rfl ?_
        refine go_istore_n (L' := [_, _, _]) dX8_costs_20 rfl (by decide) rfl ?_
        refine go_iload_n dX8_costs_21 rfl ?_
        refine go_iload_n dX8_costs_22 rfl ?_
        refine go_icmp_ne (tgt := 29) dX8_costs_23 (by decide) (fun c_23 => ?_) (fun c_23 => ?_)
        · skip
          have hne : ¬ s.1.2.2.2.2 = k := fun q => c_23 (by rw [q])
          refine go_aload_n dX8_costs_29 rfl ?_
          refine go_iv dX8_costs_30 mX8_aheadOfChange iX8_78 (run_ahead hw hS) rfl rfl (by omega) o rfl (Nat.le_of_ble_eq_true rfl) (Nat.zero_le _) (Nat.zero_le _) (fun v_30 h_30 n_30 q_30 => ?_)
          obtain ⟨rfl, rfl, ⟨o1, hC1, hU1, hI1, hM1, hP1⟩, hF1⟩ := q_30
          obtain ⟨F1, G1, k0, k1, k2, kf, kg⟩ := id hC1
          refine go_aload_n dX8_costs_33 rfl ?_
          refine go_get dX8_costs_34 fX8_10 (by omega) o1 rfl ?_
          refine go_iload_n dX8_costs_37 rfl ?_
          refine go_put (fs' := [_, _, _, _, _]) dX8_costs_38 fX8_87 (by omega) k0 (Nat.le_of_ble_eq_true rfl) (Or.inl rfl) ⟨_, _, _, rfl, Or.inl rfl⟩ rfl ?_
          refine go_iload_n dX8_costs_41 rfl ?_
          refine go_iret dX8_costs_42 rfl ?_
          rw [if_neg hne]
          have fr : ∀ y, Fr 1 2 h_30 (hset h_30 1 y) := fun y => Fr.rf.set (by omega) (by omega)
          exact ⟨rfl, rfl, ⟨(fr _ 0 (by omega)).trans o1, ⟨F1, G1, hset_same, (hset_ne (by omega)).trans k1, (hset_ne (by omega)).trans k2, kf, kg⟩, hU1.fr (fr _) (by omega), hI1.fr (fr _) (by omega), hM1.fr (fr _) (by omega), (hP1 _).fr (fr _) (by omega)⟩, (hF1.wide (by omega) (by omega)).set (by omega) (by omega)⟩
        · skip
          have heq : s.1.2.2.2.2 = k := (nI_eq (by omega) (by omega)).mp (Decidable.not_not.mp c_23)
          refine go_bipush (v := (-2)) dX8_costs_26 (by decide) ?_
          refine go_iret dX8_costs_28 rfl ?_
          rw [if_pos heq]
          exact ⟨rfl, rfl, hS, Fr.rf⟩
      · exact absurd (nI_le hk6 (by decide)) c_8
set_option maxRecDepth 100000 in
theorem c_undo {h : gH} {s : SD} (hw : SW s) (hS : CS h s) : Run 8 yX8_undo cX8_undo 1 (some .int) [.ref 0] h 163 0 0 (fun v h' N' => v = some (.int (undoS s).1) ∧ N' = 163 ∧ CS h' (undoS s).2 ∧ Fr 0 147 h h') := by
  obtain ⟨o, hC, ⟨nx, H, hx, hH, hU⟩, hI, hM, l, cu, le, ta, hP⟩ := id hS
  obtain ⟨R, g0, -⟩ := id hH
  have h10 := hw.2.1
  refine Run.of (ini := false) (L := [_]) mX8_undo (fun h => by cases h) rfl (Nat.le_of_ble_eq_true rfl) rfl ?_
  by_cases hk : s.2.1.1 = 0
  · have e : undoS s = (-2, s) := by unfold undoS; rw [if_pos hk]
    rw [e]
    refine go_aload_n dX8_undo_0 rfl ?_
    refine go_get dX8_undo_1 fX8_19 (by omega) o rfl ?_
    refine go_get dX8_undo_4 fX8_127 (by omega) g0 rfl ?_
    refine go_if_ne (tgt := 13) dX8_undo_7 (by decide) (fun c_7 => ?_) (fun c_7 => ?_)
    · exact absurd (by rw [hk]; rfl) c_7
    · skip
      refine go_bipush (v := (-2)) dX8_undo_10 (by decide) ?_
      refine go_iret dX8_undo_12 rfl ?_
      exact ⟨rfl, rfl, hS, Fr.rf⟩
  · have e : undoS s = (nI (s.2.1.1 - 1), (s.2.1.2 (s.2.1.1 - 1), (s.2.1.1 - 1, s.2.1.2), s.2.2)) := by unfold undoS; rw [if_neg hk]
    rw [e]
    refine go_aload_n dX8_undo_0 rfl ?_
    refine go_get dX8_undo_1 fX8_19 (by omega) o rfl ?_
    refine go_get dX8_undo_4 fX8_127 (by omega) g0 rfl ?_
    refine go_if_ne (tgt := 13) dX8_undo_7 (by decide) (fun c_7 => ?_) (fun c_7 => ?_)
    · skip
      refine go_aload_n dX8_undo_13 rfl ?_
      refine go_get dX8_undo_14 fX8_19 (by omega) o rfl ?_
      refine go_aload_n dX8_undo_17 rfl ?_
      refine go_get dX8_undo_18 fX8_10 (by omega) o rfl ?_
      refine go_iv dX8_undo_21 mX1_recall iX8_130 (run_recall 5 (by omega) hx (by omega) h10 hH hC) rfl rfl (by omega) g0 rfl (Nat.le_of_ble_eq_true rfl) (Nat.zero_le _) (Nat.zero_le _) (fun v_21 h_21 n_21 q_21 => ?_)
      obtain ⟨rfl, rfl, hH1, hC1, hF1⟩ := q_21
      have o1 := (hF1 0 (by omega)).trans o
      have hP1 := hP.fr hF1 (by omega)
      refine go_aload_n dX8_undo_24 rfl ?_
      refine go_get dX8_undo_25 fX8_43 (by omega) o1 rfl ?_
      refine go_iv dX8_undo_28 mX6_forget iX8_66 (run_pforget 7 (by omega) hP1) rfl rfl (by omega) hP1.1 rfl (Nat.le_of_ble_eq_true rfl) (Nat.zero_le _) (Nat.zero_le _) (fun v_28 h_28 n_28 q_28 => ?_)
      obtain ⟨rfl, rfl, hP2, hF2⟩ := q_28
      have hH2 := hH1.fr hF2 (by omega)
      obtain ⟨R2, g2, -⟩ := id hH2
      refine go_aload_n dX8_undo_31 rfl ?_
      refine go_get dX8_undo_32 fX8_19 (by omega) ((hF2 0 (by omega)).trans o1) rfl ?_
      refine go_get dX8_undo_35 fX8_127 (by omega) g2 rfl ?_
      refine go_iret dX8_undo_38 rfl ?_
      have hc : H ((nx + 9) % 10) = s.2.1.2 (s.2.1.1 - 1) := by
        rw [← hU (s.2.1.1 - 1) (by omega)]
        congr 1
        omega
      rw [hc] at hC1
      refine ⟨rfl, rfl, ⟨(hF2 0 (by omega)).trans o1, hC1.fr hF2 (by omega), ⟨(nx + 9) % 10, H, Nat.mod_lt _ (by decide), hH2, fun i hi => ?_⟩, (hI.fr hF1 (by omega)).fr hF2 (by omega), (hM.fr hF1 (by omega)).fr hF2 (by omega), ⟨_, _, _, _, hP2 _⟩⟩, (hF1.wide (by omega) (by omega)).trans (hF2.wide (by omega) (by omega))⟩
      have hi : i < s.2.1.1 - 1 := hi
      show H (((nx + 9) % 10 + 10 - (s.2.1.1 - 1) + i) % 10) = s.2.1.2 i
      rw [← hU i (by omega)]
      congr 1
      omega
    · exact absurd (Decidable.not_not.mp c_7) (nI_ne0 (by omega) (by omega))
set_option maxRecDepth 100000 in
theorem c_keep {h : gH} {s : SD} (hw : SW s) (hS : CS h s) (x : Int32) : Run 8 yX8_keep cX8_keep 2 (some .int) [.ref 0, .int x] h 163 0 0 (fun v h' N' => v = some (.int (keepS s x).1) ∧ N' = 163 ∧ CS h' (keepS s x).2 ∧ Fr 0 147 h h') := by
  obtain ⟨o, hC, hU, hI, hM, hP⟩ := id hS
  obtain ⟨⟨R, r0, r1⟩, i1, K, k0, k1⟩ := id hI
  cases hr : rI 0 1 x with
  | false =>
    have e : keepS s x = (-1, s) := by unfold keepS; rw [hr]; rfl
    rw [e]
    refine Run.of (ini := false) (L := [_, _]) mX8_keep (fun h => by cases h) rfl (Nat.le_of_ble_eq_true rfl) rfl ?_
    refine go_iload_n dX8_keep_0 rfl ?_
    refine go_if_lt (tgt := 9) dX8_keep_1 (by decide) (fun c_1 => ?_) (fun c_1 => ?_)
    · skip
      refine go_iconst (v := (-1)) dX8_keep_9 (by decide) ?_
      refine go_iret dX8_keep_10 rfl ?_
      exact ⟨rfl, rfl, hS, Fr.rf⟩
    · skip
      rw [lt0] at c_1
      refine go_iload_n dX8_keep_4 rfl ?_
      refine go_iconst (v := nI 2) dX8_keep_5 (by decide) ?_
      refine go_icmp_lt (tgt := 11) dX8_keep_6 (by decide) (fun c_6 => ?_) (fun c_6 => ?_)
      · exact absurd (rI_f hr) (by rw [ltN (by decide)] at c_6; omega)
      · skip
        refine go_iconst (v := (-1)) dX8_keep_9 (by decide) ?_
        refine go_iret dX8_keep_10 rfl ?_
        exact ⟨rfl, rfl, hS, Fr.rf⟩
  | true =>
    obtain ⟨k, -, hk, rfl⟩ := rI_t hr
    have e : keepS s (nI k) = (nI (cP s.1.1 100), (s.1, s.2.1, (fun i => if i = k then s.1 else s.2.2.1.1 i, fun i => if i = k then true else s.2.2.1.2 i), s.2.2.2)) := by
      unfold keepS
      rw [hr, toN_nI (by omega)]
      rfl
    rw [e]
    obtain ⟨Fk, Gk, j0, -⟩ := id (i1 k (by omega))
    refine Run.of (ini := false) (L := [_, _]) mX8_keep (fun h => by cases h) rfl (Nat.le_of_ble_eq_true rfl) rfl ?_
    refine go_iload_n dX8_keep_0 rfl ?_
    refine go_if_lt (tgt := 9) dX8_keep_1 (by decide) (fun c_1 => ?_) (fun c_1 => ?_)
    · exact absurd c_1 (nI_pos (by omega))
    · skip
      refine go_iload_n dX8_keep_4 rfl ?_
      refine go_iconst (v := nI 2) dX8_keep_5 (by decide) ?_
      refine go_icmp_lt (tgt := 11) dX8_keep_6 (by decide) (fun c_6 => ?_) (fun c_6 => ?_)
      · skip
        refine go_aload_n dX8_keep_11 rfl ?_
        refine go_get dX8_keep_12 fX8_23 (by omega) o rfl ?_
        refine go_iload_n dX8_keep_15 rfl ?_
        refine go_aald dX8_keep_16 (by omega) r0 (by decide) (by decide) rfl (by omega) (by omega) (r1 k (by omega)) ?_
        refine go_aload_n dX8_keep_17 rfl ?_
        refine go_get dX8_keep_18 fX8_10 (by omega) o rfl ?_
        refine go_iv dX8_keep_21 mX0_become iX8_60 (run_become 6 (i := 37 + 3 * k) (j := 1) (by omega) (by omega) (by omega) (i1 k (by omega)) hC) rfl rfl (by omega) j0 rfl (Nat.le_of_ble_eq_true rfl) (Nat.zero_le _) (Nat.zero_le _) (fun v_21 h_21 n_21 q_21 => ?_)
        obtain ⟨rfl, rfl, hC1, hF1⟩ := q_21
        have o1 := (hF1 0 (by omega)).trans o
        refine go_aload_n dX8_keep_24 rfl ?_
        refine go_get dX8_keep_25 fX8_27 (by omega) o1 rfl ?_
        refine go_iload_n dX8_keep_28 rfl ?_
        refine go_iconst (v := nI 1) dX8_keep_29 (by decide) ?_
        refine go_zast dX8_keep_30 (by omega) ((hF1 43 (by omega)).trans k0) rfl (by omega) (by omega) (Or.inr rfl) ?_
        have fr : ∀ y, Fr 43 44 h_21 (hset h_21 43 y) := fun y => Fr.rf.set (by omega) (by omega)
        have hC2 := (hC.fr hF1 (by omega)).fr (fr (.inl (2, 2, .inl (upd K k (nI 1))))) (by omega)
        obtain ⟨F3, G3, q0, -⟩ := id hC2
        refine go_aload_n dX8_keep_31 rfl ?_
        refine go_get dX8_keep_32 fX8_10 (by omega) ((fr _ 0 (by omega)).trans o1) rfl ?_
        refine go_iv dX8_keep_35 mX0_places iX8_75 (run_places 7 hw.1.1 (by omega) hC2) rfl rfl (by omega) q0 rfl (Nat.le_of_ble_eq_true rfl) (Nat.zero_le _) (Nat.zero_le _) (fun v_35 h_35 n_35 q_35 => ?_)
        obtain ⟨rfl, rfl, rfl⟩ := q_35
        refine go_iret dX8_keep_38 rfl ?_
        refine ⟨rfl, rfl, ⟨(fr _ 0 (by omega)).trans o1, hC2, (hU.fr hF1 (by omega)).fr (fr _) (by omega), ⟨⟨R, (fr _ 36 (by omega)).trans ((hF1 36 (by omega)).trans r0), r1⟩, fun i hi => ?_, _, hset_same, fun i hi => ?_⟩, (hM.fr hF1 (by omega)).fr (fr _) (by omega), (hP.fr hF1 (by omega)).fr (fr _) (by omega)⟩, (hF1.wide (by omega) (by omega)).set (by omega) (by omega)⟩
        · by_cases q : i = k
          · subst q; simp only [if_true]; exact hC1.fr (fr _) (by omega)
          · simp only [if_neg q]; exact ((i1 i hi).fr hF1 (by omega)).fr (fr _) (by omega)
        · by_cases q : i = k
          · subst q; rw [pk_us]; simp; rfl
          · rw [pk_un q, k1 i hi]; simp [q]
      · exact absurd (nI_lt (by omega) (by decide)) c_6
set_option maxRecDepth 100000 in
theorem c_back {h : gH} {s : SD} (hw : SW s) (hS : CS h s) (x : Int32) : Run 8 yX8_back cX8_back 2 (some .int) [.ref 0, .int x] h 163 0 0 (fun v h' N' => v = some (.int (backS s x).1) ∧ N' = 163 ∧ CS h' (backS s x).2 ∧ Fr 0 147 h h') := by
  obtain ⟨o, hC, ⟨nx, H, hx, hH, hU⟩, hI, hM, l, cu, le, ta, hP⟩ := id hS
  obtain ⟨⟨R, r0, r1⟩, i1, K, k0, k1⟩ := id hI
  obtain ⟨F, G, g0, -⟩ := id hC
  cases hr : rI 0 1 x with
  | false =>
    have e : backS s x = (-1, s) := by unfold backS; rw [hr]; rfl
    rw [e]
    refine Run.of (ini := false) (L := [_, _]) mX8_back (fun h => by cases h) rfl (Nat.le_of_ble_eq_true rfl) rfl ?_
    refine go_iload_n dX8_back_0 rfl ?_
    refine go_if_lt (tgt := 9) dX8_back_1 (by decide) (fun c_1 => ?_) (fun c_1 => ?_)
    · skip
      refine go_iconst (v := (-1)) dX8_back_9 (by decide) ?_
      refine go_iret dX8_back_10 rfl ?_
      exact ⟨rfl, rfl, hS, Fr.rf⟩
    · skip
      rw [lt0] at c_1
      refine go_iload_n dX8_back_4 rfl ?_
      refine go_iconst (v := nI 2) dX8_back_5 (by decide) ?_
      refine go_icmp_lt (tgt := 11) dX8_back_6 (by decide) (fun c_6 => ?_) (fun c_6 => ?_)
      · exact absurd (rI_f hr) (by rw [ltN (by decide)] at c_6; omega)
      · skip
        refine go_iconst (v := (-1)) dX8_back_9 (by decide) ?_
        refine go_iret dX8_back_10 rfl ?_
        exact ⟨rfl, rfl, hS, Fr.rf⟩
  | true =>
    obtain ⟨k, -, hk, rfl⟩ := rI_t hr
    have e : backS s (nI k) = if s.2.2.1.2 k = true then (nI (cP (s.2.2.1.1 k).1 100), (s.2.2.1.1 k, (0, s.2.1.2), s.2.2)) else (-2, s) := by
      unfold backS
      rw [hr, toN_nI (by omega)]
      rfl
    rw [e]
    refine Run.of (ini := false) (L := [_, _]) mX8_back (fun h => by cases h) rfl (Nat.le_of_ble_eq_true rfl) rfl ?_
    cases hq : s.2.2.1.2 k with
    | false =>
      refine go_iload_n dX8_back_0 rfl ?_
      refine go_if_lt (tgt := 9) dX8_back_1 (by decide) (fun c_1 => ?_) (fun c_1 => ?_)
      · exact absurd c_1 (nI_pos (by omega))
      · skip
        refine go_iload_n dX8_back_4 rfl ?_
        refine go_iconst (v := nI 2) dX8_back_5 (by decide) ?_
        refine go_icmp_lt (tgt := 11) dX8_back_6 (by decide) (fun c_6 => ?_) (fun c_6 => ?_)
        · skip
          refine go_aload_n dX8_back_11 rfl ?_
          refine go_get dX8_back_12 fX8_27 (by omega) o rfl ?_
          refine go_iload_n dX8_back_15 rfl ?_
          refine go_zald dX8_back_16 (by omega) k0 rfl (by omega) (by omega) ?_
          refine go_top (y := .int (bI false)) (by rw [k1 k (by omega), hq]) ?_
          refine go_if_ne (tgt := 23) dX8_back_17 (by decide) (fun c_17 => ?_) (fun c_17 => ?_)
          · exact absurd rfl c_17
          · skip
            refine go_bipush (v := (-2)) dX8_back_20 (by decide) ?_
            refine go_iret dX8_back_22 rfl ?_
            exact ⟨rfl, rfl, hS, Fr.rf⟩
        · exact absurd (nI_lt (by omega) (by decide)) c_6
    | true =>
      have hwk := hw.2.2.2.1 k (by omega) hq
      refine go_iload_n dX8_back_0 rfl ?_
      refine go_if_lt (tgt := 9) dX8_back_1 (by decide) (fun c_1 => ?_) (fun c_1 => ?_)
      · exact absurd c_1 (nI_pos (by omega))
      · skip
        refine go_iload_n dX8_back_4 rfl ?_
        refine go_iconst (v := nI 2) dX8_back_5 (by decide) ?_
        refine go_icmp_lt (tgt := 11) dX8_back_6 (by decide) (fun c_6 => ?_) (fun c_6 => ?_)
        · skip
          refine go_aload_n dX8_back_11 rfl ?_
          refine go_get dX8_back_12 fX8_27 (by omega) o rfl ?_
          refine go_iload_n dX8_back_15 rfl ?_
          refine go_zald dX8_back_16 (by omega) k0 rfl (by omega) (by omega) ?_
          refine go_top (y := .int (bI true)) (by rw [k1 k (by omega), hq]) ?_
          refine go_if_ne (tgt := 23) dX8_back_17 (by decide) (fun c_17 => ?_) (fun c_17 => ?_)
          · skip
            refine go_aload_n dX8_back_23 rfl ?_
            refine go_get dX8_back_24 fX8_10 (by omega) o rfl ?_
            refine go_aload_n dX8_back_27 rfl ?_
            refine go_get dX8_back_28 fX8_23 (by omega) o rfl ?_
            refine go_iload_n dX8_back_31 rfl ?_
            refine go_aald dX8_back_32 (by omega) r0 (by decide) (by decide) rfl (by omega) (by omega) (r1 k (by omega)) ?_
            refine go_iv dX8_back_33 mX0_become iX8_60 (run_become 6 (i := 1) (j := 37 + 3 * k) (by omega) (by omega) (by omega) hC (i1 k (by omega))) rfl rfl (by omega) g0 rfl (Nat.le_of_ble_eq_true rfl) (Nat.zero_le _) (Nat.zero_le _) (fun v_33 h_33 n_33 q_33 => ?_)
            obtain ⟨rfl, rfl, hC1, hF1⟩ := q_33
            have o1 := (hF1 0 (by omega)).trans o
            have hH1 := hH.fr hF1 (by omega)
            obtain ⟨Rh, q0, -⟩ := id hH1
            refine go_aload_n dX8_back_36 rfl ?_
            refine go_get dX8_back_37 fX8_19 (by omega) o1 rfl ?_
            refine go_iv dX8_back_40 mX1_forget iX8_63 (run_hforget 7 (by omega) hH1) rfl rfl (by omega) q0 rfl (Nat.le_of_ble_eq_true rfl) (Nat.zero_le _) (Nat.zero_le _) (fun v_40 h_40 n_40 q_40 => ?_)
            obtain ⟨rfl, rfl, hH2, hF2⟩ := q_40
            have o2 := (hF2 0 (by omega)).trans o1
            have hP2 := (hP.fr hF1 (by omega)).fr hF2 (by omega)
            refine go_aload_n dX8_back_43 rfl ?_
            refine go_get dX8_back_44 fX8_43 (by omega) o2 rfl ?_
            refine go_iv dX8_back_47 mX6_forget iX8_66 (run_pforget 7 (by omega) hP2) rfl rfl (by omega) hP2.1 rfl (Nat.le_of_ble_eq_true rfl) (Nat.zero_le _) (Nat.zero_le _) (fun v_47 h_47 n_47 q_47 => ?_)
            obtain ⟨rfl, rfl, hP3, hF3⟩ := q_47
            have o3 := (hF3 0 (by omega)).trans o2
            have hC3 := (hC1.fr hF2 (by omega)).fr hF3 (by omega)
            obtain ⟨F3, G3, z0, -⟩ := id hC3
            refine go_aload_n dX8_back_50 rfl ?_
            refine go_get dX8_back_51 fX8_10 (by omega) o3 rfl ?_
            refine go_iv dX8_back_54 mX0_places iX8_75 (run_places 7 hwk.1 (by omega) hC3) rfl rfl (by omega) z0 rfl (Nat.le_of_ble_eq_true rfl) (Nat.zero_le _) (Nat.zero_le _) (fun v_54 h_54 n_54 q_54 => ?_)
            obtain ⟨rfl, rfl, rfl⟩ := q_54
            refine go_iret dX8_back_57 rfl ?_
            exact ⟨rfl, rfl, ⟨o3, hC3, ⟨nx, H, hx, hH2.fr hF3 (by omega), fun i hi => absurd hi (Nat.not_lt_zero _)⟩, ((hI.fr hF1 (by omega)).fr hF2 (by omega)).fr hF3 (by omega), ((hM.fr hF1 (by omega)).fr hF2 (by omega)).fr hF3 (by omega), ⟨_, _, _, _, hP3 _⟩⟩, ((hF1.wide (by omega) (by omega)).trans (hF2.wide (by omega) (by omega))).trans (hF3.wide (by omega) (by omega))⟩
          · exact absurd (by decide) c_17
        · exact absurd (nI_lt (by omega) (by decide)) c_6
