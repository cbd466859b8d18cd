/-! ===== setEnding, last: the reference's side ===== -/
def candL (S : Nat → Nat → Int64) (k j b : Nat) : Int64 := (lst S (k - 1) b).1 + S b j
theorem lst_fm {S : Nat → Nat → Int64} {k j : Nat} (hk : 2 ≤ k) : lst S k j = fm (candL S k j) (k - 1) (j - k) := by
  obtain ⟨i, rfl⟩ : ∃ i, k = i + 2 := ⟨k - 2, by omega⟩
  rfl
theorem candL_bd {n : Nat} {S : Nat → Nat → Int64} (hS : SB n S) {k j b : Nat} (hk : 2 ≤ k) (hk6 : k ≤ 6) (hb : k - 1 ≤ b) (hbj : b < j) (hj : j ≤ n) : candL S k j b < 9000000000000000000 := by
  have e1 := lst_bd hS (k := k - 1) (j := b) (by omega) (by omega) (by omega) (by omega)
  have e2 := e1.add (hS b j hbj hj) (by omega)
  refine e2.lt ?_
  have : (9000000000000000000 : Int64).toInt = 9000000000000000000 := by decide
  omega
def ML (n : Nat) (S : Nat → Nat → Int64) (LE : Nat → Int64) (EO : Nat → Int32) (k j : Nat) : Prop := ∀ k' j', 1 ≤ k' → k' < 7 → (k' < k ∨ (k' = k ∧ j' < j)) → k' ≤ j' → j' ≤ n → LE (25 * k' + j') = (lst S k' j').1 ∧ EO (25 * k' + j') = nI (lst S k' j').2
theorem ML.put {n : Nat} {S : Nat → Nat → Int64} {LE : Nat → Int64} {EO : Nat → Int32} {k j : Nat} {x : Int64} {y : Int32} (hn : n ≤ 24) (hj : j ≤ 24) (q : ML n S LE EO k j) : ML n S (vp_updL LE (25 * k + j) x) (upd EO (25 * k + j) y) k j := by
  intro k' a' h1 h2 h3 h4 h5
  rw [pk_uLn (by omega), pk_un (by omega)]
  exact q k' a' h1 h2 h3 h4 h5
theorem ML.next {n : Nat} {S : Nat → Nat → Int64} {LE : Nat → Int64} {EO : Nat → Int32} {k j : Nat} (q : ML n S LE EO k j) (h1 : LE (25 * k + j) = (lst S k j).1) (h2 : EO (25 * k + j) = nI (lst S k j).2) : ML n S LE EO k (j + 1) := by
  intro k' a' g1 g2 g3 g4 g5
  by_cases e : k' = k ∧ a' = j
  · rw [e.1, e.2]; exact ⟨h1, h2⟩
  · exact q k' a' g1 g2 (by omega) g4 g5
set_option maxRecDepth 100000 in
theorem ml_one {d k j b J : Nat} {h : gH} {c : CD} {s' u' : Nat} {r0 r1 r2 r3 r4 rn : Int32} {LE : Nat → Int64} {EO : Nat → Int32} {w5 w6 : Option Value} {Q : Option Value → gH → Nat → Prop} (hw : CW c) (hk : 2 ≤ k) (hk6 : k ≤ 6) (hb : k - 1 ≤ b) (hbj : b < j) (hjJ : j ≤ J) (hJ : J ≤ (so c.1).1) (h7 : h 147 = mS c s' u' r0 r1 r2 r3 r4 (nI (so c.1).1) rn) (hM : Ms h c) (hL : h 161 = jA 175 LE) (hE : h 162 = iA 175 EO) (hD : ML J (spr (so c.1).2.1 (so c.1).2.2) LE EO k j)
    (kt : candL (spr (so c.1).2.1 (so c.1).2.2) k j b < LE (25 * k + j) → ∀ (h' : gH) (w5 w6 : Option Value), h' 161 = jA 175 (vp_updL LE (25 * k + j) (candL (spr (so c.1).2.1 (so c.1).2.2) k j b)) → h' 162 = iA 175 (upd EO (25 * k + j) (nI b)) → (∀ x, x ≠ 161 → x ≠ 162 → h' x = h x) → Go none RX9 cX9_setEnding 7 none false (d + 1) 42 [some (.ref 147), some (.int (nI k)), some (.int (nI j)), some (.int (nI (25 * k + j))), some (.int (nI (b + 1))), w5, w6] [] h' 163 0 0 Q)
    (kf : ¬ candL (spr (so c.1).2.1 (so c.1).2.2) k j b < LE (25 * k + j) → ∀ (w5 w6 : Option Value), Go none RX9 cX9_setEnding 7 none false (d + 1) 42 [some (.ref 147), some (.int (nI k)), some (.int (nI j)), some (.int (nI (25 * k + j))), some (.int (nI (b + 1))), w5, w6] [] h 163 0 0 Q) :
    Go none RX9 cX9_setEnding 7 none false (d + 1) 42 [some (.ref 147), some (.int (nI k)), some (.int (nI j)), some (.int (nI (25 * k + j))), some (.int (nI b)), w5, w6] [] h 163 0 0 Q := by
  have h24 := so_24 hw.2.1
  have e := (hD (k - 1) b (by omega) (by omega) (Or.inl (by omega)) (by omega) (by omega)).1
  refine go_iload dX9_setEnding_42 rfl ?_
  refine go_iload_n dX9_setEnding_44 rfl ?_
  refine go_icmp_ge (tgt := 111) dX9_setEnding_45 (by decide) (fun c_45 => ?_) (fun c_45 => ?_)
  · exact absurd c_45 (nI_ge (by omega) (by omega))
  · skip
    refine go_iload_n dX9_setEnding_48 rfl ?_
    refine go_iconst (v := nI 1) dX9_setEnding_49 (by decide) ?_
    refine go_icmp_le (tgt := 111) dX9_setEnding_50 (by decide) (fun c_50 => ?_) (fun c_50 => ?_)
    · exact absurd ((nI_leI (by omega) (by omega)).mp c_50) (by omega)
    · skip
      refine go_aload_n dX9_setEnding_53 rfl ?_
      refine go_get dX9_setEnding_54 fX9_54 (by omega) h7 rfl ?_
      refine go_bipush (v := nI 25) dX9_setEnding_57 (by decide) ?_
      refine go_iload_n dX9_setEnding_59 rfl ?_
      refine go_iconst (v := nI 1) dX9_setEnding_60 (by decide) ?_
      refine go_isub dX9_setEnding_61 ?_
      refine go_imul dX9_setEnding_62 ?_
      refine go_iload dX9_setEnding_63 rfl ?_
      refine go_iadd dX9_setEnding_65 ?_
      refine go_top (y := .int (nI (25 * (k - 1) + b))) (by rw [nI_sub (by omega), pk_mul, nI_add]) ?_
      refine go_lald dX9_setEnding_66 (by omega) hL rfl (by omega) (by omega) ?_
      refine go_aload_n dX9_setEnding_67 rfl ?_
      refine go_iload dX9_setEnding_68 rfl ?_
      refine go_iload_n dX9_setEnding_70 rfl ?_
      refine go_iv dX9_setEnding_71 mX9_spreadOf iX9_152 (run_spreadOf d hw h7 hM hbj (by omega)) rfl rfl (by omega) h7 rfl (Nat.le_of_ble_eq_true rfl) (Nat.zero_le _) (Nat.zero_le _) (fun v_71 h_71 n_71 q_71 => ?_)
      obtain ⟨rfl, rfl, rfl⟩ := q_71
      refine go_ladd dX9_setEnding_74 ?_
      refine go_top (y := .long (candL (spr (so c.1).2.1 (so c.1).2.2) k j b)) (by rw [e]; rfl) ?_
      refine go_lstore (L' := [_, _, _, _, _, _, _]) dX9_setEnding_75 (by decide) rfl ?_
      refine go_lload dX9_setEnding_77 rfl ?_
      refine go_aload_n dX9_setEnding_79 rfl ?_
      refine go_get dX9_setEnding_80 fX9_54 (by omega) h7 rfl ?_
      refine go_iload_n dX9_setEnding_83 rfl ?_
      refine go_lald dX9_setEnding_84 (by omega) hL rfl (by omega) (by omega) ?_
      refine go_lcmp dX9_setEnding_85 ?_
      refine go_if_ge (tgt := 105) dX9_setEnding_86 (by decide) (fun c_86 => ?_) (fun c_86 => ?_)
      · skip
        have c1 := mt (lg_cmp_lt _ _).mpr (fun q => absurd c_86 (Int32.not_le.mpr q))
        refine go_inc (L' := [_, _, _, _, _, _, _]) dX9_setEnding_105 rfl (by decide) rfl ?_
        refine go_goto (tgt := 42) dX9_setEnding_108 (by decide) ?_
        first | exact kf c1 _ _ | exact kt c1 _ _ _ ((hset_ne (by omega)).trans hset_same) hset_same (fun x q1 q2 => by rw [hset_ne q2, hset_ne q1])
      · skip
        have c1 := (lg_cmp_lt _ _).mp (Int32.not_le.mp c_86)
        refine go_aload_n dX9_setEnding_89 rfl ?_
        refine go_get dX9_setEnding_90 fX9_54 (by omega) h7 rfl ?_
        refine go_iload_n dX9_setEnding_93 rfl ?_
        refine go_lload dX9_setEnding_94 rfl ?_
        refine go_last dX9_setEnding_96 (by omega) hL rfl (by omega) (by omega) ?_
        refine go_aload_n dX9_setEnding_97 rfl ?_
        refine go_get dX9_setEnding_98 fX9_57 (by omega) ((hset_ne (by omega)).trans h7) rfl ?_
        refine go_iload_n dX9_setEnding_101 rfl ?_
        refine go_iload dX9_setEnding_102 rfl ?_
        refine go_iast dX9_setEnding_104 (by omega) ((hset_ne (by omega)).trans hE) rfl (by omega) (by omega) ?_
        refine go_inc (L' := [_, _, _, _, _, _, _]) dX9_setEnding_105 rfl (by decide) rfl ?_
        refine go_goto (tgt := 42) dX9_setEnding_108 (by decide) ?_
        first | exact kf c1 _ _ | exact kt c1 _ _ _ ((hset_ne (by omega)).trans hset_same) hset_same (fun x q1 q2 => by rw [hset_ne q2, hset_ne q1])
set_option maxRecDepth 100000 in
theorem ml_loop {d k j J : Nat} {h0 : gH} {c : CD} {s' u' : Nat} {r0 r1 r2 r3 r4 rn : Int32} {Q : Option Value → gH → Nat → Prop} (hw : CW c) (hk : 2 ≤ k) (hk6 : k ≤ 6) (hkj : k ≤ j) (hjJ : j ≤ J) (hJ : J ≤ (so c.1).1) (h7 : h0 147 = mS c s' u' r0 r1 r2 r3 r4 (nI (so c.1).1) rn) (hM : Ms h0 c)
    (hq : ∀ (h : gH) (LE : Nat → Int64) (EO : Nat → Int32), h 161 = jA 175 LE → h 162 = iA 175 EO → ML J (spr (so c.1).2.1 (so c.1).2.2) LE EO k (j + 1) → (∀ x, x ≠ 161 → x ≠ 162 → h x = h0 x) → Q none h 163) :
    ∀ (m i : Nat) (h : gH) (LE : Nat → Int64) (EO : Nat → Int32) (w5 w6 : Option Value), k + i + m = j → h 161 = jA 175 LE → h 162 = iA 175 EO → ML J (spr (so c.1).2.1 (so c.1).2.2) LE EO k j → LE (25 * k + j) = (fm (candL (spr (so c.1).2.1 (so c.1).2.2) k j) (k - 1) i).1 → EO (25 * k + j) = nI (fm (candL (spr (so c.1).2.1 (so c.1).2.2) k j) (k - 1) i).2 → (∀ x, x ≠ 161 → x ≠ 162 → h x = h0 x) →
      Go none RX9 cX9_setEnding 7 none false (d + 1) 42 [some (.ref 147), some (.int (nI k)), some (.int (nI j)), some (.int (nI (25 * k + j))), some (.int (nI (k - 1 + i + 1))), w5, w6] [] h 163 0 0 Q := by
  have h24 := so_24 hw.2.1
  intro m
  induction m with
  | zero =>
    intro i h LE EO w5 w6 hm hL hE hD e1 e2 hk0
    refine go_iload dX9_setEnding_42 rfl ?_
    refine go_iload_n dX9_setEnding_44 rfl ?_
    refine go_icmp_ge (tgt := 111) dX9_setEnding_45 (by decide) (fun c_45 => ?_) (fun c_45 => ?_)
    · skip
      refine go_vret dX9_setEnding_111 rfl ?_
      refine hq h LE EO hL hE (hD.next ?_ ?_) hk0
      · rw [e1, lst_fm hk, show j - k = i by omega]
      · rw [e2, lst_fm hk, show j - k = i by omega]
    · exact absurd (nI_le (by omega) (by omega)) c_45
  | succ m ih =>
    intro i h LE EO w5 w6 hm hL hE hD e1 e2 hk0
    have h7' := (hk0 147 (by omega) (by omega)).trans h7
    have hM' : Ms h c := hM.ag (hk0 _ (by omega) (by omega)) (hk0 _ (by omega) (by omega))
    refine ml_one hw hk hk6 (by omega) (by omega) hjJ hJ h7' hM' hL hE hD (fun c1 h' w5 w6 a1 a2 a3 => ?_) (fun c1 w5 w6 => ?_)
    · refine ih (i + 1) h' _ _ w5 w6 (by omega) a1 a2 (hD.put (by omega) (by omega)) ?_ ?_ (fun x q1 q2 => (a3 x q1 q2).trans (hk0 x q1 q2))
      · rw [pk_uLs]
        unfold fm
        rw [e1] at c1
        rw [if_pos c1]
      · rw [pk_us]
        unfold fm
        rw [e1] at c1
        rw [if_pos c1]
    · refine ih (i + 1) h LE EO w5 w6 (by omega) hL hE hD ?_ ?_ hk0
      · unfold fm
        rw [e1] at c1
        rw [if_neg c1, e1]
      · unfold fm
        rw [e1] at c1
        rw [if_neg c1, e2]
set_option maxRecDepth 100000 in
theorem run_setEnding (d : Nat) {k j J : Nat} {h : gH} {c : CD} {s' u' : Nat} {r0 r1 r2 r3 r4 rn : Int32} {LE : Nat → Int64} {EO : Nat → Int32} (hw : CW c) (hk : 1 ≤ k) (hk6 : k ≤ 6) (hkj : k ≤ j) (hjJ : j ≤ J) (hJ : J ≤ (so c.1).1) (h7 : h 147 = mS c s' u' r0 r1 r2 r3 r4 (nI (so c.1).1) rn) (hM : Ms h c) (hL : h 161 = jA 175 LE) (hE : h 162 = iA 175 EO) (hD : ML J (spr (so c.1).2.1 (so c.1).2.2) LE EO k j) : Run (d + 1) yX9_setEnding cX9_setEnding 7 none [.ref 147, .int (nI k), .int (nI j)] h 163 0 0 (fun v h' N' => v = none ∧ N' = 163 ∧ (∃ LE EO, h' 161 = jA 175 LE ∧ h' 162 = iA 175 EO ∧ ML J (spr (so c.1).2.1 (so c.1).2.2) LE EO k (j + 1)) ∧ ∀ x, x ≠ 161 → x ≠ 162 → h' x = h x) := by
  have h24 := so_24 hw.2.1
  refine Run.of (ini := false) (L := [_, _, _, _, _, _, _]) mX9_setEnding (fun h => by cases h) rfl (Nat.le_of_ble_eq_true rfl) rfl ?_
  by_cases k1 : k = 1
  · subst k1
    refine go_bipush (v := nI 25) dX9_setEnding_0 (by decide) ?_
    refine go_iload_n dX9_setEnding_2 rfl ?_
    refine go_imul dX9_setEnding_3 ?_
    refine go_iload_n dX9_setEnding_4 rfl ?_
    refine go_iadd dX9_setEnding_5 ?_
    refine go_top (y := .int (nI (25 * 1 + j))) (by rw [pk_mul, nI_add]) ?_
    refine go_istore_n (L' := [_, _, _, _, _, _, _]) dX9_setEnding_6 rfl (by decide) rfl ?_
    refine go_aload_n dX9_setEnding_7 rfl ?_
    refine go_get dX9_setEnding_8 fX9_54 (by omega) h7 rfl ?_
    refine go_iload_n dX9_setEnding_11 rfl ?_
    refine go_iload_n dX9_setEnding_12 rfl ?_
    refine go_iconst (v := nI 1) dX9_setEnding_13 (by decide) ?_
    refine go_icmp_ne (tgt := 26) dX9_setEnding_14 (by decide) (fun c_14 => ?_) (fun c_14 => ?_)
    · exact absurd rfl c_14
    · skip
      refine go_aload_n dX9_setEnding_17 rfl ?_
      refine go_iconst (v := nI 0) dX9_setEnding_18 (by decide) ?_
      refine go_iload_n dX9_setEnding_19 rfl ?_
      refine go_iv dX9_setEnding_20 mX9_spreadOf iX9_152 (run_spreadOf d hw h7 hM (show 0 < j by omega) (by omega)) rfl rfl (by omega) h7 rfl (Nat.le_of_ble_eq_true rfl) (Nat.zero_le _) (Nat.zero_le _) (fun v_20 h_20 n_20 q_20 => ?_)
      obtain ⟨rfl, rfl, rfl⟩ := q_20
      refine go_goto (tgt := 29) dX9_setEnding_23 (by decide) ?_
      refine go_last dX9_setEnding_29 (by omega) hL rfl (by omega) (by omega) ?_
      refine go_aload_n dX9_setEnding_30 rfl ?_
      refine go_get dX9_setEnding_31 fX9_57 (by omega) ((hset_ne (by omega)).trans h7) rfl ?_
      refine go_iload_n dX9_setEnding_34 rfl ?_
      refine go_iconst (v := nI 0) dX9_setEnding_35 (by decide) ?_
      refine go_iast dX9_setEnding_36 (by omega) ((hset_ne (by omega)).trans hE) rfl (by omega) (by omega) ?_
      refine go_iload_n dX9_setEnding_37 rfl ?_
      refine go_iconst (v := nI 1) dX9_setEnding_38 (by decide) ?_
      refine go_isub dX9_setEnding_39 ?_
      refine go_top (y := .int (nI 0)) rfl ?_
      refine go_istore (L' := [_, _, _, _, _, _, _]) dX9_setEnding_40 (by decide) rfl ?_
      refine go_iload dX9_setEnding_42 rfl ?_
      refine go_iload_n dX9_setEnding_44 rfl ?_
      refine go_icmp_ge (tgt := 111) dX9_setEnding_45 (by decide) (fun c_45 => ?_) (fun c_45 => ?_)
      · exact absurd c_45 (nI_ge (by omega) (by omega))
      · skip
        refine go_iload_n dX9_setEnding_48 rfl ?_
        refine go_iconst (v := nI 1) dX9_setEnding_49 (by decide) ?_
        refine go_icmp_le (tgt := 111) dX9_setEnding_50 (by decide) (fun c_50 => ?_) (fun c_50 => ?_)
        · skip
          refine go_vret dX9_setEnding_111 rfl ?_
          refine ⟨rfl, rfl, ⟨_, _, (hset_ne (by omega)).trans hset_same, hset_same, ?_⟩, fun x q1 q2 => by rw [hset_ne q2, hset_ne q1]⟩
          refine (hD.put (by omega) (by omega)).next ?_ ?_
          · rw [pk_uLs]; rfl
          · rw [pk_us]; rfl
        · exact absurd (nI_le (Nat.le_refl _) (by omega)) c_50
  · have k2 : 2 ≤ k := by omega
    refine go_bipush (v := nI 25) dX9_setEnding_0 (by decide) ?_
    refine go_iload_n dX9_setEnding_2 rfl ?_
    refine go_imul dX9_setEnding_3 ?_
    refine go_iload_n dX9_setEnding_4 rfl ?_
    refine go_iadd dX9_setEnding_5 ?_
    refine go_top (y := .int (nI (25 * k + j))) (by rw [pk_mul, nI_add]) ?_
    refine go_istore_n (L' := [_, _, _, _, _, _, _]) dX9_setEnding_6 rfl (by decide) rfl ?_
    refine go_aload_n dX9_setEnding_7 rfl ?_
    refine go_get dX9_setEnding_8 fX9_54 (by omega) h7 rfl ?_
    refine go_iload_n dX9_setEnding_11 rfl ?_
    refine go_iload_n dX9_setEnding_12 rfl ?_
    refine go_iconst (v := nI 1) dX9_setEnding_13 (by decide) ?_
    refine go_icmp_ne (tgt := 26) dX9_setEnding_14 (by decide) (fun c_14 => ?_) (fun c_14 => ?_)
    · skip
      refine go_ldc2 dX9_setEnding_26 kX9_150 ?_
      refine go_last dX9_setEnding_29 (by omega) hL rfl (by omega) (by omega) ?_
      refine go_aload_n dX9_setEnding_30 rfl ?_
      refine go_get dX9_setEnding_31 fX9_57 (by omega) ((hset_ne (by omega)).trans h7) rfl ?_
      refine go_iload_n dX9_setEnding_34 rfl ?_
      refine go_iconst (v := nI 0) dX9_setEnding_35 (by decide) ?_
      refine go_iast dX9_setEnding_36 (by omega) ((hset_ne (by omega)).trans hE) rfl (by omega) (by omega) ?_
      generalize hh : hset (hset h 161 _) 162 _ = h1
      have k7 : h1 147 = mS c s' u' r0 r1 r2 r3 r4 (nI (so c.1).1) rn := by rw [← hh, hset_ne (by omega), hset_ne (by omega)]; exact h7
      have kk : ∀ x, x ≠ 161 → x ≠ 162 → h1 x = h x := fun x q1 q2 => by rw [← hh, hset_ne q2, hset_ne q1]
      have kL : h1 161 = jA 175 (vp_updL LE (25 * k + j) 9000000000000000000) := by rw [← hh, hset_ne (by omega)]; exact hset_same
      have kE : h1 162 = iA 175 (upd EO (25 * k + j) (nI 0)) := by rw [← hh]; exact hset_same
      have kM : Ms h1 c := hM.ag (kk _ (by omega) (by omega)) (kk _ (by omega) (by omega))
      have kD := hD.put (x := 9000000000000000000) (y := nI 0) (by omega) (by omega)
      refine go_iload_n dX9_setEnding_37 rfl ?_
      refine go_iconst (v := nI 1) dX9_setEnding_38 (by decide) ?_
      refine go_isub dX9_setEnding_39 ?_
      refine go_top (y := .int (nI (k - 1))) (by rw [nI_sub (by omega)]) ?_
      refine go_istore (L' := [_, _, _, _, _, _, _]) dX9_setEnding_40 (by decide) rfl ?_
      refine ml_one hw k2 hk6 (Nat.le_refl _) (by omega) hjJ hJ k7 kM kL kE kD (fun c1 h' w5 w6 a1 a2 a3 => ?_) (fun c1 w5 w6 => ?_)
      · refine ml_loop hw k2 hk6 hkj hjJ hJ k7 kM (fun h2 LE2 EO2 b1 b2 b3 b4 => ⟨rfl, rfl, ⟨LE2, EO2, b1, b2, b3⟩, fun x q1 q2 => (b4 x q1 q2).trans (kk x q1 q2)⟩) (j - k) 0 h' _ _ w5 w6 (by omega) a1 a2 (kD.put (by omega) (by omega)) ?_ ?_ a3
        · rw [pk_uLs]; rfl
        · rw [pk_us]; rfl
      · rw [pk_uLs] at c1
        exact absurd (candL_bd (so_SB hw) k2 hk6 (Nat.le_refl _) (by omega) (show j ≤ (so c.1).1 by omega)) c1
    · exact absurd ((nI_eq (by omega) (by omega)).mp (Decidable.not_not.mp c_14)) k1
set_option maxRecDepth 100000 in
theorem la_inner {d k K J : Nat} {h0 : gH} {c : CD} {s' u' : Nat} {r0 r1 r2 r3 r4 rn : Int32} {Q : Option Value → gH → Nat → Prop} (hw : CW c) (hk : 1 ≤ k) (hk6 : k ≤ 6) (hkJ : k ≤ J) (hJ : J ≤ (so c.1).1) (h7 : h0 147 = mS c s' u' r0 r1 r2 r3 r4 (nI (so c.1).1) rn) (hM : Ms h0 c)
    (hq : ∀ (h : gH) (LE : Nat → Int64) (EO : Nat → Int32) (w4 : Option Value), h 161 = jA 175 LE → h 162 = iA 175 EO → ML J (spr (so c.1).2.1 (so c.1).2.2) LE EO (k + 1) (k + 1) → (∀ x, x ≠ 161 → x ≠ 162 → h x = h0 x) → Go none RX9 cX9_last 5 (some .int) false (d + 2) 38 [some (.ref 147), some (.int (nI K)), some (.int (nI J)), some (.int (nI (k + 1))), w4] [] h 163 0 0 Q) :
    ∀ (m j : Nat) (h : gH) (LE : Nat → Int64) (EO : Nat → Int32), k ≤ j → j + m = J + 1 → h 161 = jA 175 LE → h 162 = iA 175 EO → ML J (spr (so c.1).2.1 (so c.1).2.2) LE EO k j → (∀ x, x ≠ 161 → x ≠ 162 → h x = h0 x) → Go none RX9 cX9_last 5 (some .int) false (d + 2) 46 [some (.ref 147), some (.int (nI K)), some (.int (nI J)), some (.int (nI k)), some (.int (nI j))] [] h 163 0 0 Q := by
  have h24 := so_24 hw.2.1
  intro m
  induction m with
  | zero =>
    intro j h LE EO hkj hm hL hE hD hk0
    refine go_iload dX9_last_46 rfl ?_
    refine go_iload_n dX9_last_48 rfl ?_
    refine go_icmp_gt (tgt := 65) dX9_last_49 (by decide) (fun c_49 => ?_) (fun c_49 => ?_)
    · skip
      refine go_inc (L' := [_, _, _, _, _]) dX9_last_65 rfl (by decide) rfl ?_
      refine go_goto (tgt := 38) dX9_last_68 (by decide) ?_
      exact hq h LE EO _ hL hE (fun k' a' g1 g2 g3 g4 g5 => hD k' a' g1 g2 (by omega) g4 g5) hk0
    · exact absurd (nI_lt (by omega) (by omega)) c_49
  | succ m ih =>
    intro j h LE EO hkj hm hL hE hD hk0
    have h7' := (hk0 147 (by omega) (by omega)).trans h7
    have hM' : Ms h c := hM.ag (hk0 _ (by omega) (by omega)) (hk0 _ (by omega) (by omega))
    refine go_iload dX9_last_46 rfl ?_
    refine go_iload_n dX9_last_48 rfl ?_
    refine go_icmp_gt (tgt := 65) dX9_last_49 (by decide) (fun c_49 => ?_) (fun c_49 => ?_)
    · exact absurd ((nI_ltI (by omega) (by omega)).mp c_49) (by omega)
    · skip
      refine go_aload_n dX9_last_52 rfl ?_
      refine go_iload_n dX9_last_53 rfl ?_
      refine go_iload dX9_last_54 rfl ?_
      refine go_iv dX9_last_56 mX9_setEnding iX9_200 (run_setEnding d hw hk hk6 hkj (by omega) hJ h7' hM' hL hE hD) rfl rfl (by omega) h7' rfl (Nat.le_of_ble_eq_true rfl) (Nat.zero_le _) (Nat.zero_le _) (fun v_56 h_56 n_56 q_56 => ?_)
      obtain ⟨rfl, rfl, ⟨LE', EO', a1, a2, a3⟩, a4⟩ := q_56
      refine go_inc (L' := [_, _, _, _, _]) dX9_last_59 rfl (by decide) rfl ?_
      refine go_goto (tgt := 46) dX9_last_62 (by decide) ?_
      exact ih (j + 1) _ LE' EO' (by omega) (by omega) a1 a2 a3 (fun x q1 q2 => (a4 x q1 q2).trans (hk0 x q1 q2))
set_option maxRecDepth 100000 in
theorem la_outer {d K J : Nat} {h0 : gH} {c : CD} {s' u' : Nat} {r0 r1 r2 r3 r4 rn : Int32} {Q : Option Value → gH → Nat → Prop} (hw : CW c) (hK6 : K ≤ 6) (hKJ : K ≤ J) (hJ : J ≤ (so c.1).1) (h7 : h0 147 = mS c s' u' r0 r1 r2 r3 r4 (nI (so c.1).1) rn) (hM : Ms h0 c)
    (hq : ∀ (h : gH) (LE : Nat → Int64) (EO : Nat → Int32) (w3 w4 : Option Value), h 161 = jA 175 LE → h 162 = iA 175 EO → ML J (spr (so c.1).2.1 (so c.1).2.2) LE EO (K + 1) (K + 1) → (∀ x, x ≠ 161 → x ≠ 162 → h x = h0 x) → Go none RX9 cX9_last 5 (some .int) false (d + 2) 71 [some (.ref 147), some (.int (nI K)), some (.int (nI J)), w3, w4] [] h 163 0 0 Q) :
    ∀ (m k : Nat) (h : gH) (LE : Nat → Int64) (EO : Nat → Int32) (w4 : Option Value), 1 ≤ k → k + m = K + 1 → h 161 = jA 175 LE → h 162 = iA 175 EO → ML J (spr (so c.1).2.1 (so c.1).2.2) LE EO k k → (∀ x, x ≠ 161 → x ≠ 162 → h x = h0 x) → Go none RX9 cX9_last 5 (some .int) false (d + 2) 38 [some (.ref 147), some (.int (nI K)), some (.int (nI J)), some (.int (nI k)), w4] [] h 163 0 0 Q := by
  have h24 := so_24 hw.2.1
  intro m
  induction m with
  | zero =>
    intro k h LE EO w4 hk hm hL hE hD hk0
    have e : k = K + 1 := by omega
    subst e
    refine go_iload_n dX9_last_38 rfl ?_
    refine go_iload_n dX9_last_39 rfl ?_
    refine go_icmp_gt (tgt := 71) dX9_last_40 (by decide) (fun c_40 => ?_) (fun c_40 => ?_)
    · skip
      exact hq h LE EO _ _ hL hE hD hk0
    · exact absurd (nI_lt (by omega) (by omega)) c_40
  | succ m ih =>
    intro k h LE EO w4 hk hm hL hE hD hk0
    have h7' := (hk0 147 (by omega) (by omega)).trans h7
    have hM' : Ms h c := hM.ag (hk0 _ (by omega) (by omega)) (hk0 _ (by omega) (by omega))
    refine go_iload_n dX9_last_38 rfl ?_
    refine go_iload_n dX9_last_39 rfl ?_
    refine go_icmp_gt (tgt := 71) dX9_last_40 (by decide) (fun c_40 => ?_) (fun c_40 => ?_)
    · exact absurd ((nI_ltI (by omega) (by omega)).mp c_40) (by omega)
    · skip
      refine go_iload_n dX9_last_43 rfl ?_
      refine go_istore (L' := [_, _, _, _, _]) dX9_last_44 (by decide) rfl ?_
      exact la_inner hw hk (by omega) (by omega) hJ h7' hM' (fun h2 LE2 EO2 w4' b1 b2 b3 b4 => ih (k + 1) h2 LE2 EO2 w4' (by omega) (by omega) b1 b2 b3 (fun x q1 q2 => (b4 x q1 q2).trans (hk0 x q1 q2))) (J + 1 - k) k h LE EO (Nat.le_refl _) (by omega) hL hE hD (fun x q1 q2 => rfl)
theorem la_tail {d k j v : Nat} {h : gH} {EO : Nat → Int32} {m a z e s r0 r1 r2 r3 r4 u sn rn : Int32} {w3 w4 : Option Value} {Q : Option Value → gH → Nat → Prop} (hk : k ≤ 6) (hj : j ≤ 24) (h7 : h 147 = mo m a z e s r0 r1 r2 r3 r4 u sn rn) (hE : h 162 = iA 175 EO) (hv : EO (25 * k + j) = nI v) (hq : Q (some (.int (nI v))) h 163) : Go none RX9 cX9_last 5 (some .int) false d 71 [some (.ref 147), some (.int (nI k)), some (.int (nI j)), w3, w4] [] h 163 0 0 Q := by
  refine go_aload_n dX9_last_71 rfl ?_
  refine go_get dX9_last_72 fX9_57 (by omega) h7 rfl ?_
  refine go_bipush (v := nI 25) dX9_last_75 (by decide) ?_
  refine go_iload_n dX9_last_77 rfl ?_
  refine go_imul dX9_last_78 ?_
  refine go_iload_n dX9_last_79 rfl ?_
  refine go_iadd dX9_last_80 ?_
  refine go_top (y := .int (nI (25 * k + j))) (by rw [pk_mul, nI_add]) ?_
  refine go_iald dX9_last_81 (by omega) hE rfl (by omega) (by omega) ?_
  refine go_iret dX9_last_82 rfl ?_
  rw [hv]
  exact hq
set_option maxRecDepth 100000 in
theorem m_last {h : gH} {s : SD} (hw : SW s) (hS : MS h s) (x y : Int32) : Run 8 yX9_last cX9_last 5 (some .int) [.ref 147, .int x, .int y] h 163 0 0 (fun v h' N' => v = some (.int (lastS s.1 x y)) ∧ N' = 163 ∧ MS h' s ∧ Fr 147 163 h h') := by
  obtain ⟨⟨r0, r1, r2, r3, r4, sn, rn, h7⟩, -⟩ := id hS
  have h24 := so_24 hw.1.2.1
  have e1 : (nI 1).toInt = 1 := by decide
  have en := nI_toInt (n := (so s.1.1).1) (by omega)
  refine Run.of (ini := false) (L := [_, _, _, _, _]) mX9_last (fun h => by cases h) rfl (Nat.le_of_ble_eq_true rfl) rfl ?_
  by_cases hb : rI 1 6 x = true ∧ 1 ≤ y.toInt ∧ y.toInt ≤ ((so s.1.1).1 : Int)
  · obtain ⟨k, hk1, hk6, rfl⟩ := rI_t hb.1
    obtain ⟨j, rfl, hj, hj2⟩ := eq_nI (x := y) (by omega)
    have e : lastS s.1 (nI k) (nI j) = lastI s.1 k j := by unfold lastS; rw [if_pos hb, toN_nI (by omega), toN_nI (by omega)]
    rw [e]
    refine go_aload_n dX9_last_0 rfl ?_
    refine go_iv dX9_last_1 mX9_setSorted iX9_160 (sortS hw.1 hS 7) rfl rfl (by omega) h7 rfl (Nat.le_of_ble_eq_true rfl) (Nat.zero_le _) (Nat.zero_le _) (fun v_1 h_1 n_1 q_1 => ?_)
    obtain ⟨rfl, rfl, hS1, hM1, ⟨q0, q1, q2, q3, q4, q5, k7⟩, hF1⟩ := q_1
    refine go_iload_n dX9_last_4 rfl ?_
    refine go_iconst (v := nI 1) dX9_last_5 (by decide) ?_
    refine go_bipush (v := nI 6) dX9_last_6 (by decide) ?_
    refine go_is dX9_last_8 mX9_in iX9_63 (run_in 7 (lo := 1) (hi := 6) (nI k) (by decide) (by decide)) rfl rfl (Nat.le_of_ble_eq_true rfl) (Nat.zero_le _) (Nat.zero_le _) (fun v_8 h_8 n_8 q_8 => ?_)
    obtain ⟨rfl, rfl, rfl⟩ := q_8
    refine go_if_eq (tgt := 26) dX9_last_11 (by decide) (fun c_11 => ?_) (fun c_11 => ?_)
    · exact absurd (bI_eq.mp c_11) (by rw [hb.1]; decide)
    · skip
      refine go_iload_n dX9_last_14 rfl ?_
      refine go_iconst (v := nI 1) dX9_last_15 (by decide) ?_
      refine go_aload_n dX9_last_16 rfl ?_
      refine go_get dX9_last_17 fX9_142 (by omega) k7 rfl ?_
      refine go_is dX9_last_20 mX9_in iX9_63 (run_inI 7 (nI j) (nI 1) (nI (so s.1.1).1)) rfl rfl (Nat.le_of_ble_eq_true rfl) (Nat.zero_le _) (Nat.zero_le _) (fun v_20 h_20 n_20 q_20 => ?_)
      obtain ⟨rfl, rfl, rfl⟩ := q_20
      refine go_if_ne (tgt := 28) dX9_last_23 (by decide) (fun c_23 => ?_) (fun c_23 => ?_)
      · skip
        refine go_iload_n dX9_last_28 rfl ?_
        refine go_iload_n dX9_last_29 rfl ?_
        refine go_icmp_ge (tgt := 36) dX9_last_30 (by decide) (fun c_30 => ?_) (fun c_30 => ?_)
        · skip
          have hkj : k ≤ j := (nI_leI (by omega) (by omega)).mp c_30
          obtain ⟨xa, xb, xc, xd, EO, xf, xg, LE, xy, x1, x2, x3, x4, x5, x6, x7, x8, x9⟩ := id hS1.2.2.2.2.2
          refine go_iconst (v := nI 1) dX9_last_36 (by decide) ?_
          refine go_istore_n (L' := [_, _, _, _, _]) dX9_last_37 rfl (by decide) rfl ?_
          refine la_outer (d := 6) hw.1 hk6 hkj (by omega) k7 hM1 (fun h2 LE2 EO2 w3 w4 b1 b2 b3 b4 => ?_) k 1 _ xy xg _ (by omega) (by omega) x8 x9 (fun k' a' g1 g2 g3 g4 g5 => absurd g3 (by omega)) (fun x q1 q2 => rfl)
          have l7 := (b4 147 (by omega) (by omega)).trans k7
          have hv := (b3 k j hk1 (by omega) (Or.inl (by omega)) hkj (Nat.le_refl _)).2
          refine la_tail hk6 (by omega) l7 b2 hv ⟨by rw [show lastI s.1 k j = nI (lst (spr (so s.1.1).2.1 (so s.1.1).2.2) k j).2 by unfold lastI; rw [if_pos hkj]], rfl, ?_, fun x hx => (b4 x (by omega) (by omega)).trans (hF1 x hx)⟩
          exact ⟨⟨q0, q1, q2, q3, q4, _, q5, l7⟩, hS1.2.1.ag (fun x q1 q2 => b4 x (by omega) (by omega)), hS1.2.2.1.ag (b4 _ (by omega) (by omega)), hS1.2.2.2.1.ag (b4 _ (by omega) (by omega)), hS1.2.2.2.2.1.ag (b4 _ (by omega) (by omega)), ⟨xa, xb, xc, xd, EO, xf, EO2, LE, LE2, (b4 _ (by omega) (by omega)).trans x1, (b4 _ (by omega) (by omega)).trans x2, (b4 _ (by omega) (by omega)).trans x3, (b4 _ (by omega) (by omega)).trans x4, (b4 _ (by omega) (by omega)).trans x5, (b4 _ (by omega) (by omega)).trans x6, (b4 _ (by omega) (by omega)).trans x7, b1, b2⟩⟩
        · skip
          have hkj : ¬ k ≤ j := mt (nI_leI (a := k) (b := j) (by omega) (by omega)).mpr c_30
          refine go_bipush (v := (-9)) dX9_last_33 (by decide) ?_
          refine go_iret dX9_last_35 rfl ?_
          rw [show lastI s.1 k j = -9 by unfold lastI; rw [if_neg hkj]]
          exact ⟨rfl, rfl, hS1, hF1⟩
      · exact absurd (bI_ne.mpr (decide_eq_true (by rw [e1, en]; omega))) c_23
  · have e : lastS s.1 x y = -1 := by unfold lastS; rw [if_neg hb]
    rw [e]
    refine go_aload_n dX9_last_0 rfl ?_
    refine go_iv dX9_last_1 mX9_setSorted iX9_160 (sortS hw.1 hS 7) rfl rfl (by omega) h7 rfl (Nat.le_of_ble_eq_true rfl) (Nat.zero_le _) (Nat.zero_le _) (fun v_1 h_1 n_1 q_1 => ?_)
    obtain ⟨rfl, rfl, hS1, hM1, ⟨q0, q1, q2, q3, q4, q5, k7⟩, hF1⟩ := q_1
    refine go_iload_n dX9_last_4 rfl ?_
    refine go_iconst (v := nI 1) dX9_last_5 (by decide) ?_
    refine go_bipush (v := nI 6) dX9_last_6 (by decide) ?_
    refine go_is dX9_last_8 mX9_in iX9_63 (run_in 7 (lo := 1) (hi := 6) x (by decide) (by decide)) rfl rfl (Nat.le_of_ble_eq_true rfl) (Nat.zero_le _) (Nat.zero_le _) (fun v_8 h_8 n_8 q_8 => ?_)
    obtain ⟨rfl, rfl, rfl⟩ := q_8
    refine go_if_eq (tgt := 26) dX9_last_11 (by decide) (fun c_11 => ?_) (fun c_11 => ?_)
    · skip
      refine go_iconst (v := (-1)) dX9_last_26 (by decide) ?_
      refine go_iret dX9_last_27 rfl ?_
      exact ⟨rfl, rfl, hS1, hF1⟩
    · skip
      have hx := bI_ne.mp c_11
      refine go_iload_n dX9_last_14 rfl ?_
      refine go_iconst (v := nI 1) dX9_last_15 (by decide) ?_
      refine go_aload_n dX9_last_16 rfl ?_
      refine go_get dX9_last_17 fX9_142 (by omega) k7 rfl ?_
      refine go_is dX9_last_20 mX9_in iX9_63 (run_inI 7 y (nI 1) (nI (so s.1.1).1)) rfl rfl (Nat.le_of_ble_eq_true rfl) (Nat.zero_le _) (Nat.zero_le _) (fun v_20 h_20 n_20 q_20 => ?_)
      obtain ⟨rfl, rfl, rfl⟩ := q_20
      refine go_if_ne (tgt := 28) dX9_last_23 (by decide) (fun c_23 => ?_) (fun c_23 => ?_)
      · exact absurd ⟨hx, by have := of_decide_eq_true (bI_ne.mp c_23); rw [e1, en] at this; exact this⟩ hb
      · skip
        refine go_iconst (v := (-1)) dX9_last_26 (by decide) ?_
        refine go_iret dX9_last_27 rfl ?_
        exact ⟨rfl, rfl, hS1, hF1⟩
