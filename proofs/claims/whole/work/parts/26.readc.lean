/-! ===== place, sorted, closes: the class's side ===== -/
theorem cF_has {f : Nat → Option Nat} {v x : Nat} (h : f x = some v) : ∀ {k : Nat}, x < k → 0 < cF f k v
  | 0, hx => absurd hx (by omega)
  | k + 1, hx => by
    by_cases e : x = k
    · subst e; rw [cF_some h]; simp [bump]
    · have := cF_has h (k := k) (by omega)
      cases hq : f k with
      | none => rw [cF_none hq]; exact this
      | some w => rw [cF_some hq]; unfold bump; split <;> omega
theorem Srt.inj {n : Nat} {A W cnt : Nat → Nat} (h : Srt n A W cnt) {i j : Nat} (hi : i < n) (hj : j < n) : A i ≤ A j ↔ i ≤ j := by
  constructor
  · intro q
    rcases Nat.lt_or_ge j i with z | z
    · have := h.1 j i z hi; omega
    · exact z
  · intro q
    rcases Nat.lt_or_ge i j with z | z
    · have := h.1 i j z hj; omega
    · rw [show i = j by omega]; exact Nat.le_refl _
/-- the class of a rank is the class of its number -/
theorem sh_rank {c : CD} {i : Nat} (hi : i < (so c.1).1) : rO (fun j => decide ((nowD c).2.1 j ≤ i)) (nowD c).1 (nowD c).1 0 = shS c ((so c.1).2.1 i) := by
  unfold shS
  apply rO_cong
  intro j hj
  have := (so_ok c.1).inj (now_lt hj) hi
  simp only [this]
theorem rank_is {c : CD} {v r x : Nat} (hx : x < 100) (hv : c.1 x = some v) (hr : Rk (so c.1).1 (so c.1).2.1 v r) : r < (so c.1).1 ∧ (so c.1).2.1 r = v := by
  obtain ⟨i, hi, e⟩ := (so_ok c.1).2.2 v (cF_has hv hx)
  have h1 : r = i := by
    rcases Nat.lt_trichotomy i r with z | z | z
    · have := hr.2.1 i z; omega
    · exact z.symm
    · have := hr.2.2 r (Nat.le_refl _) (by omega)
      have := (so_ok c.1).1 r i z hi
      omega
  rw [h1]
  exact ⟨hi, e⟩
theorem sh_lt {c : CD} {v : Nat} (h : 0 < (nowD c).1) : shS c v < (nowD c).1 := rO_lt _ _ h
theorem now_pos {c : CD} {x v : Nat} (hw : CW c) (hx : x < 100) (hv : c.1 x = some v) : 0 < (nowD c).1 := by
  obtain ⟨i, hi, -⟩ := (so_ok c.1).2.2 v (cF_has hv hx)
  have := hw.2.2.2.2.1.1
  show 0 < min _ _
  omega
set_option maxRecDepth 100000 in
theorem c_place {h : gH} {s : SD} (hw : SW s) (hS : CS h s) (r c x : Int32) : Run 8 yX8_place cX8_place 8 (some .int) [.ref 0, .int r, .int c, .int x] h 163 0 0 (fun v h' N' => v = some (.int (placeS s.1 r c x)) ∧ N' = 163 ∧ CS h' s ∧ Fr 0 147 h h') := by
  obtain ⟨l, cu, le, ta, k0⟩ := hS.2.2.2.2.2.h49
  obtain ⟨F, G, g0, g1, g2, hf, hg⟩ := id hS.2.1
  have h24 := so_24 hw.1.2.1
  have h6 := now_6 hw.1
  cases hrc : (rI 0 9 r && rI 0 9 c) with
  | false =>
    have e : placeS s.1 r c x = -1 := by unfold placeS; rw [hrc]; rfl
    rw [e]
    refine Run.of (ini := false) (L := [_, _, _, _, _, _, _, _]) mX8_place (fun h => by cases h) rfl (Nat.le_of_ble_eq_true rfl) rfl ?_
    refine go_iload_n dX8_place_0 rfl ?_
    refine go_iload_n dX8_place_1 rfl ?_
    refine go_is dX8_place_2 mX8_cellOf iX8_67 (run_cellOf 6 r c) rfl rfl (Nat.le_of_ble_eq_true rfl) (Nat.zero_le _) (Nat.zero_le _) (fun v_2 h_2 n_2 q_2 => ?_)
    obtain ⟨rfl, rfl, rfl⟩ := q_2
    rw [cellI_no hrc]
    refine go_istore (L' := [_, _, _, _, _, _, _, _]) dX8_place_5 (by decide) rfl ?_
    refine go_iload dX8_place_7 rfl ?_
    refine go_if_lt (tgt := 21) dX8_place_9 (by decide) (fun c_9 => ?_) (fun c_9 => ?_)
    · skip
      refine go_iconst (v := (-1)) dX8_place_21 (by decide) ?_
      refine go_iret dX8_place_22 rfl ?_
      exact ⟨rfl, rfl, hS, Fr.rf⟩
    · exact absurd (by decide) c_9
  | true =>
    obtain ⟨i, j, hi, hj, rfl, rfl, hce⟩ := cellI_yes hrc
    cases hx : rI 0 2 x with
    | false =>
      have e : placeS s.1 (nI i) (nI j) x = -1 := by unfold placeS; rw [hrc, hx]; rfl
      rw [e]
      refine Run.of (ini := false) (L := [_, _, _, _, _, _, _, _]) mX8_place (fun h => by cases h) rfl (Nat.le_of_ble_eq_true rfl) rfl ?_
      refine go_iload_n dX8_place_0 rfl ?_
      refine go_iload_n dX8_place_1 rfl ?_
      refine go_is dX8_place_2 mX8_cellOf iX8_67 (run_cellOf 6 (nI i) (nI j)) rfl rfl (Nat.le_of_ble_eq_true rfl) (Nat.zero_le _) (Nat.zero_le _) (fun v_2 h_2 n_2 q_2 => ?_)
      obtain ⟨rfl, rfl, rfl⟩ := q_2
      rw [hce]
      refine go_istore (L' := [_, _, _, _, _, _, _, _]) dX8_place_5 (by decide) rfl ?_
      refine go_iload dX8_place_7 rfl ?_
      refine go_if_lt (tgt := 21) dX8_place_9 (by decide) (fun c_9 => ?_) (fun c_9 => ?_)
      · exact absurd c_9 (nI_pos (by omega))
      · skip
        refine go_iload_n dX8_place_12 rfl ?_
        refine go_if_lt (tgt := 21) dX8_place_13 (by decide) (fun c_13 => ?_) (fun c_13 => ?_)
        · skip
          refine go_iconst (v := (-1)) dX8_place_21 (by decide) ?_
          refine go_iret dX8_place_22 rfl ?_
          exact ⟨rfl, rfl, hS, Fr.rf⟩
        · skip
          rw [lt0] at c_13
          refine go_iload_n dX8_place_16 rfl ?_
          refine go_iconst (v := nI 2) dX8_place_17 (by decide) ?_
          refine go_icmp_le (tgt := 23) dX8_place_18 (by decide) (fun c_18 => ?_) (fun c_18 => ?_)
          · exact absurd (rI_f hx) (by rw [leN (by decide)] at c_18; omega)
          · skip
            refine go_iconst (v := (-1)) dX8_place_21 (by decide) ?_
            refine go_iret dX8_place_22 rfl ?_
            exact ⟨rfl, rfl, hS, Fr.rf⟩
    | true =>
      obtain ⟨w, -, hw2, rfl⟩ := rI_t hx
      have hcell : 10 * i + j < 100 := by omega
      cases hq : s.1.1 (10 * i + j) with
      | none =>
        have e : placeS s.1 (nI i) (nI j) (nI w) = -9 := by unfold placeS; rw [hrc, hx, toN_nI (by omega), toN_nI (by omega), hq]; rfl
        rw [e]
        refine Run.of (ini := false) (L := [_, _, _, _, _, _, _, _]) mX8_place (fun h => by cases h) rfl (Nat.le_of_ble_eq_true rfl) rfl ?_
        refine go_iload_n dX8_place_0 rfl ?_
        refine go_iload_n dX8_place_1 rfl ?_
        refine go_is dX8_place_2 mX8_cellOf iX8_67 (run_cellOf 6 (nI i) (nI j)) rfl rfl (Nat.le_of_ble_eq_true rfl) (Nat.zero_le _) (Nat.zero_le _) (fun v_2 h_2 n_2 q_2 => ?_)
        obtain ⟨rfl, rfl, rfl⟩ := q_2
        rw [hce]
        refine go_istore (L' := [_, _, _, _, _, _, _, _]) dX8_place_5 (by decide) rfl ?_
        refine go_iload dX8_place_7 rfl ?_
        refine go_if_lt (tgt := 21) dX8_place_9 (by decide) (fun c_9 => ?_) (fun c_9 => ?_)
        · exact absurd c_9 (nI_pos (by omega))
        · skip
          refine go_iload_n dX8_place_12 rfl ?_
          refine go_if_lt (tgt := 21) dX8_place_13 (by decide) (fun c_13 => ?_) (fun c_13 => ?_)
          · exact absurd c_13 (nI_pos (by omega))
          · skip
            refine go_iload_n dX8_place_16 rfl ?_
            refine go_iconst (v := nI 2) dX8_place_17 (by decide) ?_
            refine go_icmp_le (tgt := 23) dX8_place_18 (by decide) (fun c_18 => ?_) (fun c_18 => ?_)
            · skip
              refine go_aload_n dX8_place_23 rfl ?_
              refine go_get dX8_place_24 fX8_10 (by omega) hS.1 rfl ?_
              refine go_get dX8_place_27 fX8_71 (by omega) g0 rfl ?_
              refine go_iload dX8_place_30 rfl ?_
              refine go_iald dX8_place_32 (by omega) g1 rfl (by omega) (by omega) ?_
              refine go_top (y := .int (-1)) (by rw [hf _ hcell, hq]; rfl) ?_
              refine go_istore (L' := [_, _, _, _, _, _, _, _]) dX8_place_33 (by decide) rfl ?_
              refine go_iload dX8_place_35 rfl ?_
              refine go_iconst (v := (-1)) dX8_place_37 (by decide) ?_
              refine go_icmp_ne (tgt := 44) dX8_place_38 (by decide) (fun c_38 => ?_) (fun c_38 => ?_)
              · exact absurd rfl c_38
              · skip
                refine go_bipush (v := (-9)) dX8_place_41 (by decide) ?_
                refine go_iret dX8_place_43 rfl ?_
                exact ⟨rfl, rfl, hS, Fr.rf⟩
            · exact absurd (nI_le (by omega) (by decide)) c_18
      | some v =>
        have hv9 := hw.1.1 _ hcell v hq
        have hpos := now_pos hw.1 hcell hq
        have hsh := sh_lt (v := v) hpos
        have e : placeS s.1 (nI i) (nI j) (nI w) = if w = 0 then nI v else if w = 1 then nI (shS s.1 v) else nI (tint (shS s.1 v) (nowD s.1).1) := by unfold placeS; rw [hrc, hx, toN_nI (by omega), toN_nI (by omega), toN_nI (by omega), hq]; rfl
        rw [e]
        refine Run.of (ini := false) (L := [_, _, _, _, _, _, _, _]) mX8_place (fun h => by cases h) rfl (Nat.le_of_ble_eq_true rfl) rfl ?_
        refine go_iload_n dX8_place_0 rfl ?_
        refine go_iload_n dX8_place_1 rfl ?_
        refine go_is dX8_place_2 mX8_cellOf iX8_67 (run_cellOf 6 (nI i) (nI j)) rfl rfl (Nat.le_of_ble_eq_true rfl) (Nat.zero_le _) (Nat.zero_le _) (fun v_2 h_2 n_2 q_2 => ?_)
        obtain ⟨rfl, rfl, rfl⟩ := q_2
        rw [hce]
        refine go_istore (L' := [_, _, _, _, _, _, _, _]) dX8_place_5 (by decide) rfl ?_
        refine go_iload dX8_place_7 rfl ?_
        refine go_if_lt (tgt := 21) dX8_place_9 (by decide) (fun c_9 => ?_) (fun c_9 => ?_)
        · exact absurd c_9 (nI_pos (by omega))
        · skip
          refine go_iload_n dX8_place_12 rfl ?_
          refine go_if_lt (tgt := 21) dX8_place_13 (by decide) (fun c_13 => ?_) (fun c_13 => ?_)
          · exact absurd c_13 (nI_pos (by omega))
          · skip
            refine go_iload_n dX8_place_16 rfl ?_
            refine go_iconst (v := nI 2) dX8_place_17 (by decide) ?_
            refine go_icmp_le (tgt := 23) dX8_place_18 (by decide) (fun c_18 => ?_) (fun c_18 => ?_)
            · skip
              refine go_aload_n dX8_place_23 rfl ?_
              refine go_get dX8_place_24 fX8_10 (by omega) hS.1 rfl ?_
              refine go_get dX8_place_27 fX8_71 (by omega) g0 rfl ?_
              refine go_iload dX8_place_30 rfl ?_
              refine go_iald dX8_place_32 (by omega) g1 rfl (by omega) (by omega) ?_
              refine go_top (y := .int (nI v)) (by rw [hf _ hcell, hq]; rfl) ?_
              refine go_istore (L' := [_, _, _, _, _, _, _, _]) dX8_place_33 (by decide) rfl ?_
              refine go_iload dX8_place_35 rfl ?_
              refine go_iconst (v := (-1)) dX8_place_37 (by decide) ?_
              refine go_icmp_ne (tgt := 44) dX8_place_38 (by decide) (fun c_38 => ?_) (fun c_38 => ?_)
              · skip
                refine go_iload_n dX8_place_44 rfl ?_
                refine go_if_ne (tgt := 51) dX8_place_45 (by decide) (fun c_45 => ?_) (fun c_45 => ?_)
                · skip
                  have w0 : ¬ w = 0 := fun z => c_45 (by rw [z]; rfl)
                  refine go_aload_n dX8_place_51 rfl ?_
                  refine go_get dX8_place_52 fX8_43 (by omega) hS.1 rfl ?_
                  refine go_iv dX8_place_55 mX6_ofNow iX8_90 (ofNowS hw hS) rfl rfl (by omega) k0 rfl (Nat.le_of_ble_eq_true rfl) (Nat.zero_le _) (Nat.zero_le _) (fun v_55 h_55 n_55 q_55 => ?_)
                  obtain ⟨rfl, rfl, hS1, hP1, hF1⟩ := q_55
                  obtain ⟨l1, cu1, le1, ta1, k1⟩ := hS1.2.2.2.2.2.h49
                  refine go_astore (L' := [_, _, _, _, _, _, _, _]) dX8_place_58 (by decide) rfl ?_
                  refine go_aload dX8_place_60 rfl ?_
                  refine go_aload_n dX8_place_62 rfl ?_
                  refine go_get dX8_place_63 fX8_43 (by omega) hS1.1 rfl ?_
                  refine go_iv dX8_place_66 mX6_rungs iX8_94 (rungsS hw hS1) rfl rfl (by omega) k1 rfl (Nat.le_of_ble_eq_true rfl) (Nat.zero_le _) (Nat.zero_le _) (fun v_66 h_66 n_66 q_66 => ?_)
                  obtain ⟨rfl, rfl, hS2, hL2, hF2⟩ := q_66
                  obtain ⟨FA, FW, l0, -⟩ := id hL2.1
                  have hP2 := hP1.fr hF2 (by omega)
                  obtain ⟨FP, p0, -⟩ := id hP2
                  refine go_iload dX8_place_69 rfl ?_
                  refine go_iv dX8_place_71 mX2_rankOf iX8_133 (run_rankOf 7 (by omega) (by omega) (fun i hi => by have := so_le hw.1.1 i hi; omega) (so_ok s.1.1).1 hL2.1) rfl rfl (by omega) l0 rfl (Nat.le_of_ble_eq_true rfl) (Nat.zero_le _) (Nat.zero_le _) (fun v_71 h_71 n_71 q_71 => ?_)
                  obtain ⟨⟨rk, rfl, hrk⟩, rfl, rfl⟩ := q_71
                  obtain ⟨hr1, hr2⟩ := rank_is hcell hq hrk
                  refine go_iv dX8_place_74 mX5_runOf iX8_136 (run_runOf 6 (by omega) (by omega) (fun x hx => by have := now_lt hx; omega) hP2) rfl rfl (by omega) p0 rfl (Nat.le_of_ble_eq_true rfl) (Nat.zero_le _) (Nat.zero_le _) (fun v_74 h_74 n_74 q_74 => ?_)
                  obtain ⟨rfl, rfl, rfl⟩ := q_74
                  refine go_top (y := .int (nI (shS s.1 v))) (by rw [sh_rank hr1, hr2]) ?_
                  refine go_istore (L' := [_, _, _, _, _, _, _, _]) dX8_place_77 (by decide) rfl ?_
                  refine go_iload_n dX8_place_79 rfl ?_
                  refine go_iconst (v := nI 1) dX8_place_80 (by decide) ?_
                  refine go_icmp_ne (tgt := 89) dX8_place_81 (by decide) (fun c_81 => ?_) (fun c_81 => ?_)
                  · skip
                    have w1 : ¬ w = 1 := fun z => c_81 (by rw [z])
                    refine go_iload dX8_place_89 rfl ?_
                    refine go_aload dX8_place_91 rfl ?_
                    refine go_get dX8_place_93 fX8_102 (by omega) p0 rfl ?_
                    refine go_is dX8_place_96 mX8_tintOf iX8_139 (run_tintOf 7 h6 hsh) rfl rfl (Nat.le_of_ble_eq_true rfl) (Nat.zero_le _) (Nat.zero_le _) (fun v_96 h_96 n_96 q_96 => ?_)
                    obtain ⟨rfl, rfl, rfl⟩ := q_96
                    refine go_iret dX8_place_99 rfl ?_
                    rw [if_neg w0]
                    first | (rw [if_pos w1]; exact ⟨rfl, rfl, hS2, (hF1.trans (hF2.wide (by omega) (by omega))).wide (by omega) (by omega)⟩) | (rw [if_neg w1]; exact ⟨rfl, rfl, hS2, (hF1.trans (hF2.wide (by omega) (by omega))).wide (by omega) (by omega)⟩)
                  · skip
                    have w1 : w = 1 := (nI_eq (b := 1) (by omega) (by omega)).mp (Decidable.not_not.mp c_81)
                    refine go_iload dX8_place_84 rfl ?_
                    refine go_goto (tgt := 99) dX8_place_86 (by decide) ?_
                    refine go_iret dX8_place_99 rfl ?_
                    rw [if_neg w0]
                    first | (rw [if_pos w1]; exact ⟨rfl, rfl, hS2, (hF1.trans (hF2.wide (by omega) (by omega))).wide (by omega) (by omega)⟩) | (rw [if_neg w1]; exact ⟨rfl, rfl, hS2, (hF1.trans (hF2.wide (by omega) (by omega))).wide (by omega) (by omega)⟩)
                · skip
                  have w0 : w = 0 := (nI_eq (b := 0) (by omega) (by omega)).mp (Decidable.not_not.mp c_45)
                  refine go_iload dX8_place_48 rfl ?_
                  refine go_iret dX8_place_50 rfl ?_
                  rw [if_pos w0]
                  exact ⟨rfl, rfl, hS, Fr.rf⟩
              · exact absurd (nI_ne_m1 (by omega)) c_38
            · exact absurd (nI_le (by omega) (by decide)) c_18
set_option maxRecDepth 100000 in
theorem c_sorted {h : gH} {s : SD} (hw : SW s) (hS : CS h s) (i x : Int32) : Run 8 yX8_sorted cX8_sorted 4 (some .int) [.ref 0, .int i, .int x] h 163 0 0 (fun v h' N' => v = some (.int (sortedS s.1 i x)) ∧ N' = 163 ∧ CS h' s ∧ Fr 0 147 h h') := by
  obtain ⟨l, cu, le, ta, k0⟩ := hS.2.2.2.2.2.h49
  have h24 := so_24 hw.1.2.1
  have h6 := now_6 hw.1
  by_cases hb : (0 ≤ i.toInt ∧ i.toInt < ((so s.1.1).1 : Int)) ∧ rI 0 2 x = true
  · obtain ⟨k, rfl, hk, hk2⟩ := eq_nI hb.1.1
    obtain ⟨w, -, hw2, rfl⟩ := rI_t hb.2
    have hkn : k < (so s.1.1).1 := by omega
    have e : sortedS s.1 (nI k) (nI w) = if w = 0 then nI ((so s.1.1).2.1 k) else if w = 1 then nI ((so s.1.1).2.2 k) else nI (shS s.1 ((so s.1.1).2.1 k)) := by unfold sortedS; rw [if_pos hb, toN_nI (by omega), toN_nI (by omega)]
    rw [e]
    refine Run.of (ini := false) (L := [_, _, _, _]) mX8_sorted (fun h => by cases h) rfl (Nat.le_of_ble_eq_true rfl) rfl ?_
    refine go_aload_n dX8_sorted_0 rfl ?_
    refine go_get dX8_sorted_1 fX8_43 (by omega) hS.1 rfl ?_
    refine go_iv dX8_sorted_4 mX6_rungs iX8_94 (rungsS hw hS) rfl rfl (by omega) k0 rfl (Nat.le_of_ble_eq_true rfl) (Nat.zero_le _) (Nat.zero_le _) (fun v_4 h_4 n_4 q_4 => ?_)
    obtain ⟨rfl, rfl, hS1, hL1, hF1⟩ := q_4
    obtain ⟨FA, FW, l0, -⟩ := id hL1.1
    refine go_astore_n (L' := [_, _, _, _]) dX8_sorted_7 rfl (by decide) rfl ?_
    refine go_iload_n dX8_sorted_8 rfl ?_
    refine go_if_lt (tgt := 29) dX8_sorted_9 (by decide) (fun c_9 => ?_) (fun c_9 => ?_)
    · exact absurd c_9 (nI_pos (by omega))
    · skip
      refine go_iload_n dX8_sorted_12 rfl ?_
      refine go_aload_n dX8_sorted_13 rfl ?_
      refine go_get dX8_sorted_14 fX8_142 (by omega) l0 rfl ?_
      refine go_icmp_ge (tgt := 29) dX8_sorted_17 (by decide) (fun c_17 => ?_) (fun c_17 => ?_)
      · exact absurd c_17 (nI_ge hkn (by omega))
      · skip
        refine go_iload_n dX8_sorted_20 rfl ?_
        refine go_if_lt (tgt := 29) dX8_sorted_21 (by decide) (fun c_21 => ?_) (fun c_21 => ?_)
        · exact absurd c_21 (nI_pos (by omega))
        · skip
          refine go_iload_n dX8_sorted_24 rfl ?_
          refine go_iconst (v := nI 2) dX8_sorted_25 (by decide) ?_
          refine go_icmp_le (tgt := 31) dX8_sorted_26 (by decide) (fun c_26 => ?_) (fun c_26 => ?_)
          · skip
            refine go_iload_n dX8_sorted_31 rfl ?_
            refine go_if_ne (tgt := 41) dX8_sorted_32 (by decide) (fun c_32 => ?_) (fun c_32 => ?_)
            · skip
              have w0 : ¬ w = 0 := fun z => c_32 (by rw [z]; rfl)
              refine go_iload_n dX8_sorted_41 rfl ?_
              refine go_iconst (v := nI 1) dX8_sorted_42 (by decide) ?_
              refine go_icmp_ne (tgt := 54) dX8_sorted_43 (by decide) (fun c_43 => ?_) (fun c_43 => ?_)
              · skip
                have w1 : ¬ w = 1 := fun z => c_43 (by rw [z])
                obtain ⟨l1, cu1, le1, ta1, k1⟩ := hS1.2.2.2.2.2.h49
                refine go_aload_n dX8_sorted_54 rfl ?_
                refine go_get dX8_sorted_55 fX8_43 (by omega) hS1.1 rfl ?_
                refine go_iv dX8_sorted_58 mX6_ofNow iX8_90 (ofNowS hw hS1) rfl rfl (by omega) k1 rfl (Nat.le_of_ble_eq_true rfl) (Nat.zero_le _) (Nat.zero_le _) (fun v_58 h_58 n_58 q_58 => ?_)
                obtain ⟨rfl, rfl, hS2, hP2, hF2⟩ := q_58
                obtain ⟨FP, p0, -⟩ := id hP2
                refine go_iload_n dX8_sorted_61 rfl ?_
                refine go_iv dX8_sorted_62 mX5_runOf iX8_136 (run_runOf 6 (by omega) (by omega) (fun x hx => by have := now_lt hx; omega) hP2) rfl rfl (by omega) p0 rfl (Nat.le_of_ble_eq_true rfl) (Nat.zero_le _) (Nat.zero_le _) (fun v_62 h_62 n_62 q_62 => ?_)
                obtain ⟨rfl, rfl, rfl⟩ := q_62
                refine go_iret dX8_sorted_65 rfl ?_
                rw [if_neg w0]
                first | (rw [if_pos w1]; exact ⟨rfl, rfl, hS1, hF1.wide (by omega) (by omega)⟩) | (rw [if_neg w1, sh_rank hkn]; exact ⟨rfl, rfl, hS2, ((hF1.wide (by omega) (by omega)).trans hF2).wide (by omega) (by omega)⟩)
              · skip
                have w1 : w = 1 := (nI_eq (b := 1) (by omega) (by omega)).mp (Decidable.not_not.mp c_43)
                refine go_aload_n dX8_sorted_46 rfl ?_
                refine go_iload_n dX8_sorted_47 rfl ?_
                refine go_iv dX8_sorted_48 mX2_weightAt iX8_145 (run_weightAt 7 (by omega) hkn hL1.1) rfl rfl (by omega) l0 rfl (Nat.le_of_ble_eq_true rfl) (Nat.zero_le _) (Nat.zero_le _) (fun v_48 h_48 n_48 q_48 => ?_)
                obtain ⟨rfl, rfl, rfl⟩ := q_48
                refine go_goto (tgt := 65) dX8_sorted_51 (by decide) ?_
                refine go_iret dX8_sorted_65 rfl ?_
                rw [if_neg w0]
                first | (rw [if_pos w1]; exact ⟨rfl, rfl, hS1, hF1.wide (by omega) (by omega)⟩) | (rw [if_neg w1, sh_rank hkn]; exact ⟨rfl, rfl, hS2, ((hF1.wide (by omega) (by omega)).trans hF2).wide (by omega) (by omega)⟩)
            · skip
              have w0 : w = 0 := (nI_eq (b := 0) (by omega) (by omega)).mp (Decidable.not_not.mp c_32)
              refine go_aload_n dX8_sorted_35 rfl ?_
              refine go_iload_n dX8_sorted_36 rfl ?_
              refine go_iv dX8_sorted_37 mX2_numberAt iX8_122 (run_numberAt 7 (by omega) hkn hL1.1) rfl rfl (by omega) l0 rfl (Nat.le_of_ble_eq_true rfl) (Nat.zero_le _) (Nat.zero_le _) (fun v_37 h_37 n_37 q_37 => ?_)
              obtain ⟨rfl, rfl, rfl⟩ := q_37
              refine go_iret dX8_sorted_40 rfl ?_
              rw [if_pos w0]
              exact ⟨rfl, rfl, hS1, hF1.wide (by omega) (by omega)⟩
          · exact absurd (nI_le (by omega) (by decide)) c_26
  · have e : sortedS s.1 i x = -1 := by unfold sortedS; rw [if_neg hb]
    rw [e]
    refine Run.of (ini := false) (L := [_, _, _, _]) mX8_sorted (fun h => by cases h) rfl (Nat.le_of_ble_eq_true rfl) rfl ?_
    refine go_aload_n dX8_sorted_0 rfl ?_
    refine go_get dX8_sorted_1 fX8_43 (by omega) hS.1 rfl ?_
    refine go_iv dX8_sorted_4 mX6_rungs iX8_94 (rungsS hw hS) rfl rfl (by omega) k0 rfl (Nat.le_of_ble_eq_true rfl) (Nat.zero_le _) (Nat.zero_le _) (fun v_4 h_4 n_4 q_4 => ?_)
    obtain ⟨rfl, rfl, hS1, hL1, hF1⟩ := q_4
    obtain ⟨FA, FW, l0, -⟩ := id hL1.1
    refine go_astore_n (L' := [_, _, _, _]) dX8_sorted_7 rfl (by decide) rfl ?_
    refine go_iload_n dX8_sorted_8 rfl ?_
    refine go_if_lt (tgt := 29) dX8_sorted_9 (by decide) (fun c_9 => ?_) (fun c_9 => ?_)
    · skip
      refine go_iconst (v := (-1)) dX8_sorted_29 (by decide) ?_
      refine go_iret dX8_sorted_30 rfl ?_
      exact ⟨rfl, rfl, hS1, hF1.wide (by omega) (by omega)⟩
    · skip
      rw [lt0] at c_9
      refine go_iload_n dX8_sorted_12 rfl ?_
      refine go_aload_n dX8_sorted_13 rfl ?_
      refine go_get dX8_sorted_14 fX8_142 (by omega) l0 rfl ?_
      refine go_icmp_ge (tgt := 29) dX8_sorted_17 (by decide) (fun c_17 => ?_) (fun c_17 => ?_)
      · skip
        refine go_iconst (v := (-1)) dX8_sorted_29 (by decide) ?_
        refine go_iret dX8_sorted_30 rfl ?_
        exact ⟨rfl, rfl, hS1, hF1.wide (by omega) (by omega)⟩
      · skip
        rw [geN (by omega)] at c_17
        refine go_iload_n dX8_sorted_20 rfl ?_
        refine go_if_lt (tgt := 29) dX8_sorted_21 (by decide) (fun c_21 => ?_) (fun c_21 => ?_)
        · skip
          refine go_iconst (v := (-1)) dX8_sorted_29 (by decide) ?_
          refine go_iret dX8_sorted_30 rfl ?_
          exact ⟨rfl, rfl, hS1, hF1.wide (by omega) (by omega)⟩
        · skip
          rw [lt0] at c_21
          refine go_iload_n dX8_sorted_24 rfl ?_
          refine go_iconst (v := nI 2) dX8_sorted_25 (by decide) ?_
          refine go_icmp_le (tgt := 31) dX8_sorted_26 (by decide) (fun c_26 => ?_) (fun c_26 => ?_)
          · rw [leN (by decide)] at c_26; exact absurd ⟨⟨by omega, by omega⟩, decide_eq_true ⟨by omega, by omega⟩⟩ hb
          · skip
            refine go_iconst (v := (-1)) dX8_sorted_29 (by decide) ?_
            refine go_iret dX8_sorted_30 rfl ?_
            exact ⟨rfl, rfl, hS1, hF1.wide (by omega) (by omega)⟩
