/-! ===== setFrom ===== -/
theorem nI_sub {a b : Nat} (h : b ≤ a) : nI a - nI b = nI (a - b) := by
  have := nI_add (a - b) b
  rw [Nat.sub_add_cancel h] at this
  rw [← this]
  simp
abbrev jA (z : Nat) (G : Nat → Int64) : gC := .inl (1, z, .inr (.inl G))
def candB (n : Nat) (S : Nat → Nat → Int64) (fee : Nat → Int64) (k a t : Nat) : Int64 := S a t + fee t + (bst n S fee (k - 1) t).1
theorem bst_fm {n : Nat} {S : Nat → Nat → Int64} {fee : Nat → Int64} {k a : Nat} (hk : 2 ≤ k) : bst n S fee k a = fm (candB n S fee k a) (a + 1) (n - k - a) := by
  obtain ⟨j, rfl⟩ : ∃ j, k = j + 2 := ⟨k - 2, by omega⟩
  rfl
theorem bst_bd {n : Nat} {S : Nat → Nat → Int64} {fee : Nat → Int64} (hS : SB n S) (hf : ∀ t, t < n → Bd (fee t) 10000000000000000) : ∀ {k a : Nat}, 1 ≤ k → k ≤ 6 → a + k ≤ n → Bd (bst n S fee k a).1 (k * 140000000000000000)
  | 0, _, h, _, _ => absurd h (by omega)
  | 1, a, _, _, h => (hS a n (by omega) (Nat.le_refl _)).mono (by omega)
  | k + 2, a, _, h6, h => by
    rw [bst_fm (by omega)]
    have h1 := fm_in (candB n S fee (k + 2) a) (a + 1) (n - (k + 2) - a)
    rw [fm_val]
    generalize (fm (candB n S fee (k + 2) a) (a + 1) (n - (k + 2) - a)).2 = t at h1 ⊢
    have ih := bst_bd hS hf (k := k + 1) (a := t) (by omega) (by omega) (by omega)
    have e1 := (hS a t (by omega) (by omega)).add (hf t (by omega)) (by omega)
    have e2 := e1.add ih (by omega)
    exact e2.mono (by omega)
theorem candB_bd {n : Nat} {S : Nat → Nat → Int64} {fee : Nat → Int64} (hS : SB n S) (hf : ∀ t, t < n → Bd (fee t) 10000000000000000) {k a t : Nat} (hk : 2 ≤ k) (hk6 : k ≤ 6) (hat : a < t) (ht : t + k ≤ n + 1) : candB n S fee k a t < 9000000000000000000 := by
  have ih := bst_bd hS hf (k := k - 1) (a := t) (by omega) (by omega) (by omega)
  have e1 := (hS a t (by omega) (by omega)).add (hf t (by omega)) (by omega)
  have e2 := e1.add ih (by omega)
  refine e2.lt ?_
  have : (9000000000000000000 : Int64).toInt = 9000000000000000000 := by decide
  omega
theorem feF_bd {c : CD} (hw : CW c) (free : Bool) (t : Nat) : Bd (feF c free t) 10000000000000000 := by
  have h0 : Bd (0 : Int64) 10000000000000000 := ⟨by rw [Int64.toInt_zero]; omega, by rw [Int64.toInt_zero]; omega⟩
  cases free with
  | true => exact h0
  | false =>
    show Bd (feeC c ((so c.1).2.1 t)) _
    unfold feeC
    split
    · exact h0
    · split
      · exact h0
      · have hc := hw.2.2.2.2.2
        rw [show (5354228880 : Int64) = lN 5354228880 from rfl, lN_mul]
        have e := toInt64_lN (n := c.2.2.2.2 * 5354228880) (by omega)
        exact ⟨by rw [e]; omega, by rw [e]; omega⟩
/-- which of the table's rows are as they shall be -/
def MD (n : Nat) (S : Nat → Nat → Int64) (fee : Nat → Int64) (LE : Nat → Int64) (EO : Nat → Int32) (k a : Nat) : Prop := ∀ k' a', 1 ≤ k' → k' < 7 → (k' < k ∨ (k' = k ∧ a' < a)) → a' + k' ≤ n → LE (25 * k' + a') = (bst n S fee k' a').1 ∧ EO (25 * k' + a') = nI (bst n S fee k' a').2
theorem MD.put {n : Nat} {S : Nat → Nat → Int64} {fee : Nat → Int64} {LE : Nat → Int64} {EO : Nat → Int32} {k a : Nat} {x : Int64} {y : Int32} (hn : n ≤ 24) (ha : a ≤ 24) (q : MD n S fee LE EO k a) : MD n S fee (vp_updL LE (25 * k + a) x) (upd EO (25 * k + a) y) k a := by
  intro k' a' h1 h2 h3 h4
  rw [pk_uLn (by omega), pk_un (by omega)]
  exact q k' a' h1 h2 h3 h4
theorem MD.next {n : Nat} {S : Nat → Nat → Int64} {fee : Nat → Int64} {LE : Nat → Int64} {EO : Nat → Int32} {k a : Nat} (q : MD n S fee LE EO k a) (h1 : LE (25 * k + a) = (bst n S fee k a).1) (h2 : EO (25 * k + a) = nI (bst n S fee k a).2) : MD n S fee LE EO k (a + 1) := by
  intro k' a' g1 g2 g3 g4
  by_cases e : k' = k ∧ a' = a
  · rw [e.1, e.2]; exact ⟨h1, h2⟩
  · exact q k' a' g1 g2 (by omega) g4
set_option maxRecDepth 100000 in
theorem mf_one {d k a t : Nat} {h : gH} {c : CD} {s' u' : Nat} {r0 r1 r2 r3 r4 rn : Int32} {free : Bool} {LE : Nat → Int64} {EO : Nat → Int32} {w6 w7 : Option Value} {Q : Option Value → gH → Nat → Prop} (hw : CW c) (hk : 2 ≤ k) (hk6 : k ≤ 6) (ha : a < t) (ht : t + k ≤ (so c.1).1 + 1) (h7 : h 147 = mS c s' u' r0 r1 r2 r3 r4 (nI (so c.1).1) rn) (h3 : M3 h c) (hM : Ms h c) (hL : h 158 = jA 175 LE) (hE : h 159 = iA 175 EO) (hD : MD (so c.1).1 (spr (so c.1).2.1 (so c.1).2.2) (feF c free) LE EO k a)
    (kt : candB (so c.1).1 (spr (so c.1).2.1 (so c.1).2.2) (feF c free) k a t < LE (25 * k + a) → ∀ (h' : gH) (w6 w7 : Option Value), h' 158 = jA 175 (vp_updL LE (25 * k + a) (candB (so c.1).1 (spr (so c.1).2.1 (so c.1).2.2) (feF c free) k a t)) → h' 159 = iA 175 (upd EO (25 * k + a) (nI t)) → (∀ x, x ≠ 158 → x ≠ 159 → h' x = h x) → Go none RX9 cX9_setFrom 8 none false (d + 2) 56 [some (.ref 147), some (.int (nI k)), some (.int (nI a)), some (.int (bI free)), some (.int (nI (25 * k + a))), some (.int (nI (t + 1))), w6, w7] [] h' 163 0 0 Q)
    (kf : ¬ candB (so c.1).1 (spr (so c.1).2.1 (so c.1).2.2) (feF c free) k a t < LE (25 * k + a) → ∀ (w6 w7 : Option Value), Go none RX9 cX9_setFrom 8 none false (d + 2) 56 [some (.ref 147), some (.int (nI k)), some (.int (nI a)), some (.int (bI free)), some (.int (nI (25 * k + a))), some (.int (nI (t + 1))), w6, w7] [] h 163 0 0 Q) :
    Go none RX9 cX9_setFrom 8 none false (d + 2) 56 [some (.ref 147), some (.int (nI k)), some (.int (nI a)), some (.int (bI free)), some (.int (nI (25 * k + a))), some (.int (nI t)), w6, w7] [] h 163 0 0 Q := by
  have h24 := so_24 hw.2.1
  have e := (hD (k - 1) t (by omega) (by omega) (Or.inl (by omega)) (by omega)).1
  refine go_iload dX9_setFrom_56 rfl ?_
  refine go_aload_n dX9_setFrom_58 rfl ?_
  refine go_get dX9_setFrom_59 fX9_142 (by omega) h7 rfl ?_
  refine go_iload_n dX9_setFrom_62 rfl ?_
  refine go_isub dX9_setFrom_63 ?_
  refine go_iconst (v := nI 1) dX9_setFrom_64 (by decide) ?_
  refine go_iadd dX9_setFrom_65 ?_
  refine go_top (y := .int (nI ((so c.1).1 - k + 1))) (by rw [nI_sub (by omega), nI_add]) ?_
  refine go_icmp_gt (tgt := 138) dX9_setFrom_66 (by decide) (fun c_66 => ?_) (fun c_66 => ?_)
  · exact absurd ((nI_ltI (by omega) (by omega)).mp c_66) (by omega)
  · skip
    refine go_aload_n dX9_setFrom_69 rfl ?_
    refine go_iload_n dX9_setFrom_70 rfl ?_
    refine go_iload dX9_setFrom_71 rfl ?_
    refine go_iv dX9_setFrom_73 mX9_spreadOf iX9_152 (run_spreadOf (d + 1) hw h7 hM ha (by omega)) rfl rfl (by omega) h7 rfl (Nat.le_of_ble_eq_true rfl) (Nat.zero_le _) (Nat.zero_le _) (fun v_73 h_73 n_73 q_73 => ?_)
    obtain ⟨rfl, rfl, rfl⟩ := q_73
    refine go_aload_n dX9_setFrom_76 rfl ?_
    refine go_iload dX9_setFrom_77 rfl ?_
    refine go_iload_n dX9_setFrom_79 rfl ?_
    refine go_iv dX9_setFrom_80 mX9_borderAt iX9_156 (run_borderAt d free hw h7 h3 hM (by omega)) rfl rfl (by omega) h7 rfl (Nat.le_of_ble_eq_true rfl) (Nat.zero_le _) (Nat.zero_le _) (fun v_80 h_80 n_80 q_80 => ?_)
    obtain ⟨rfl, rfl, rfl⟩ := q_80
    refine go_ladd dX9_setFrom_83 ?_
    refine go_aload_n dX9_setFrom_84 rfl ?_
    refine go_get dX9_setFrom_85 fX9_44 (by omega) h7 rfl ?_
    refine go_bipush (v := nI 25) dX9_setFrom_88 (by decide) ?_
    refine go_iload_n dX9_setFrom_90 rfl ?_
    refine go_iconst (v := nI 1) dX9_setFrom_91 (by decide) ?_
    refine go_isub dX9_setFrom_92 ?_
    refine go_imul dX9_setFrom_93 ?_
    refine go_iload dX9_setFrom_94 rfl ?_
    refine go_iadd dX9_setFrom_96 ?_
    refine go_top (y := .int (nI (25 * (k - 1) + t))) (by rw [nI_sub (by omega), pk_mul, nI_add]) ?_
    refine go_lald dX9_setFrom_97 (by omega) hL rfl (by omega) (by omega) ?_
    refine go_ladd dX9_setFrom_98 ?_
    refine go_top (y := .long (candB (so c.1).1 (spr (so c.1).2.1 (so c.1).2.2) (feF c free) k a t)) (by rw [e]; rfl) ?_
    refine go_lstore (L' := [_, _, _, _, _, _, _, _]) dX9_setFrom_99 (by decide) rfl ?_
    refine go_lload dX9_setFrom_101 rfl ?_
    refine go_aload_n dX9_setFrom_103 rfl ?_
    refine go_get dX9_setFrom_104 fX9_44 (by omega) h7 rfl ?_
    refine go_iload dX9_setFrom_107 rfl ?_
    refine go_lald dX9_setFrom_109 (by omega) hL rfl (by omega) (by omega) ?_
    refine go_lcmp dX9_setFrom_110 ?_
    refine go_if_ge (tgt := 132) dX9_setFrom_111 (by decide) (fun c_111 => ?_) (fun c_111 => ?_)
    · skip
      have c1 := mt (lg_cmp_lt _ _).mpr (fun q => absurd c_111 (Int32.not_le.mpr q))
      refine go_inc (L' := [_, _, _, _, _, _, _, _]) dX9_setFrom_132 rfl (by decide) rfl ?_
      refine go_goto (tgt := 56) dX9_setFrom_135 (by decide) ?_
      first | exact kf c1 _ _ | exact kt c1 _ _ _ ((hset_ne (by omega)).trans hset_same) hset_same (fun x q1 q2 => by rw [hset_ne q2, hset_ne q1])
    · skip
      have c1 := (lg_cmp_lt _ _).mp (Int32.not_le.mp c_111)
      refine go_aload_n dX9_setFrom_114 rfl ?_
      refine go_get dX9_setFrom_115 fX9_44 (by omega) h7 rfl ?_
      refine go_iload dX9_setFrom_118 rfl ?_
      refine go_lload dX9_setFrom_120 rfl ?_
      refine go_last dX9_setFrom_122 (by omega) hL rfl (by omega) (by omega) ?_
      refine go_aload_n dX9_setFrom_123 rfl ?_
      refine go_get dX9_setFrom_124 fX9_48 (by omega) ((hset_ne (by omega)).trans h7) rfl ?_
      refine go_iload dX9_setFrom_127 rfl ?_
      refine go_iload dX9_setFrom_129 rfl ?_
      refine go_iast dX9_setFrom_131 (by omega) ((hset_ne (by omega)).trans hE) rfl (by omega) (by omega) ?_
      refine go_inc (L' := [_, _, _, _, _, _, _, _]) dX9_setFrom_132 rfl (by decide) rfl ?_
      refine go_goto (tgt := 56) dX9_setFrom_135 (by decide) ?_
      first | exact kf c1 _ _ | exact kt c1 _ _ _ ((hset_ne (by omega)).trans hset_same) hset_same (fun x q1 q2 => by rw [hset_ne q2, hset_ne q1])
set_option maxRecDepth 100000 in
theorem mf_loop {d k a : Nat} {h0 : gH} {c : CD} {s' u' : Nat} {r0 r1 r2 r3 r4 rn : Int32} {free : Bool} {Q : Option Value → gH → Nat → Prop} (hw : CW c) (hk : 2 ≤ k) (hk6 : k ≤ 6) (hak : a + k ≤ (so c.1).1) (h7 : h0 147 = mS c s' u' r0 r1 r2 r3 r4 (nI (so c.1).1) rn) (h3 : M3 h0 c) (hM : Ms h0 c)
    (hq : ∀ (h : gH) (LE : Nat → Int64) (EO : Nat → Int32), h 158 = jA 175 LE → h 159 = iA 175 EO → MD (so c.1).1 (spr (so c.1).2.1 (so c.1).2.2) (feF c free) LE EO k (a + 1) → (∀ x, x ≠ 158 → x ≠ 159 → h x = h0 x) → Q none h 163) :
    ∀ (m j : Nat) (h : gH) (LE : Nat → Int64) (EO : Nat → Int32) (w6 w7 : Option Value), a + k + j + m = (so c.1).1 → h 158 = jA 175 LE → h 159 = iA 175 EO → MD (so c.1).1 (spr (so c.1).2.1 (so c.1).2.2) (feF c free) LE EO k a → LE (25 * k + a) = (fm (candB (so c.1).1 (spr (so c.1).2.1 (so c.1).2.2) (feF c free) k a) (a + 1) j).1 → EO (25 * k + a) = nI (fm (candB (so c.1).1 (spr (so c.1).2.1 (so c.1).2.2) (feF c free) k a) (a + 1) j).2 → (∀ x, x ≠ 158 → x ≠ 159 → h x = h0 x) →
      Go none RX9 cX9_setFrom 8 none false (d + 2) 56 [some (.ref 147), some (.int (nI k)), some (.int (nI a)), some (.int (bI free)), some (.int (nI (25 * k + a))), some (.int (nI (a + 1 + j + 1))), w6, w7] [] h 163 0 0 Q := by
  have h24 := so_24 hw.2.1
  intro m
  induction m with
  | zero =>
    intro j h LE EO w6 w7 hm hL hE hD e1 e2 hk0
    have h7' := (hk0 147 (by omega) (by omega)).trans h7
    refine go_iload dX9_setFrom_56 rfl ?_
    refine go_aload_n dX9_setFrom_58 rfl ?_
    refine go_get dX9_setFrom_59 fX9_142 (by omega) h7' rfl ?_
    refine go_iload_n dX9_setFrom_62 rfl ?_
    refine go_isub dX9_setFrom_63 ?_
    refine go_iconst (v := nI 1) dX9_setFrom_64 (by decide) ?_
    refine go_iadd dX9_setFrom_65 ?_
    refine go_top (y := .int (nI ((so c.1).1 - k + 1))) (by rw [nI_sub (by omega), nI_add]) ?_
    refine go_icmp_gt (tgt := 138) dX9_setFrom_66 (by decide) (fun c_66 => ?_) (fun c_66 => ?_)
    · skip
      refine go_vret dX9_setFrom_138 rfl ?_
      refine hq h LE EO hL hE (hD.next ?_ ?_) hk0
      · rw [e1, bst_fm hk, show (so c.1).1 - k - a = j by omega]
      · rw [e2, bst_fm hk, show (so c.1).1 - k - a = j by omega]
    · exact absurd (nI_lt (by omega) (by omega)) c_66
  | succ m ih =>
    intro j h LE EO w6 w7 hm hL hE hD e1 e2 hk0
    have h7' := (hk0 147 (by omega) (by omega)).trans h7
    have h3' : M3 h c := h3.ag (fun x q1 q2 => hk0 x (by omega) (by omega))
    have hM' : Ms h c := by obtain ⟨FS, FW, q1, q2, q3⟩ := hM; exact ⟨FS, FW, (hk0 _ (by omega) (by omega)).trans q1, (hk0 _ (by omega) (by omega)).trans q2, q3⟩
    refine mf_one hw hk hk6 (by omega) (by omega) h7' h3' hM' hL hE hD (fun c1 h' w6 w7 a1 a2 a3 => ?_) (fun c1 w6 w7 => ?_)
    · refine ih (j + 1) h' _ _ w6 w7 (by omega) a1 a2 (hD.put h24 (by omega)) ?_ ?_ (fun x q1 q2 => (a3 x q1 q2).trans (hk0 x q1 q2))
      · rw [pk_uLs]
        unfold fm
        rw [e1] at c1
        rw [if_pos c1]
      · rw [pk_us]
        unfold fm
        rw [e1] at c1
        rw [if_pos c1]
    · refine ih (j + 1) h LE EO w6 w7 (by omega) hL hE hD ?_ ?_ hk0
      · unfold fm
        rw [e1] at c1
        rw [if_neg c1, e1]
      · unfold fm
        rw [e1] at c1
        rw [if_neg c1, e2]
set_option maxRecDepth 100000 in
theorem run_setFrom (d : Nat) {k a : Nat} {h : gH} {c : CD} {s' u' : Nat} {r0 r1 r2 r3 r4 rn : Int32} (free : Bool) {LE : Nat → Int64} {EO : Nat → Int32} (hw : CW c) (hk : 1 ≤ k) (hk6 : k ≤ 6) (hak : a + k ≤ (so c.1).1) (h7 : h 147 = mS c s' u' r0 r1 r2 r3 r4 (nI (so c.1).1) rn) (h3 : M3 h c) (hM : Ms h c) (hL : h 158 = jA 175 LE) (hE : h 159 = iA 175 EO) (hD : MD (so c.1).1 (spr (so c.1).2.1 (so c.1).2.2) (feF c free) LE EO k a) : Run (d + 2) yX9_setFrom cX9_setFrom 8 none [.ref 147, .int (nI k), .int (nI a), .int (bI free)] h 163 0 0 (fun v h' N' => v = none ∧ N' = 163 ∧ (∃ LE EO, h' 158 = jA 175 LE ∧ h' 159 = iA 175 EO ∧ MD (so c.1).1 (spr (so c.1).2.1 (so c.1).2.2) (feF c free) LE EO k (a + 1)) ∧ ∀ x, x ≠ 158 → x ≠ 159 → h' x = h x) := by
  have h24 := so_24 hw.2.1
  refine Run.of (ini := false) (L := [_, _, _, _, _, _, _, _]) mX9_setFrom (fun h => by cases h) rfl (Nat.le_of_ble_eq_true rfl) rfl ?_
  refine go_bipush (v := nI 25) dX9_setFrom_0 (by decide) ?_
  refine go_iload_n dX9_setFrom_2 rfl ?_
  refine go_imul dX9_setFrom_3 ?_
  refine go_iload_n dX9_setFrom_4 rfl ?_
  refine go_iadd dX9_setFrom_5 ?_
  refine go_top (y := .int (nI (25 * k + a))) (by rw [pk_mul, nI_add]) ?_
  refine go_istore (L' := [_, _, _, _, _, _, _, _]) dX9_setFrom_6 (by decide) rfl ?_
  refine go_aload_n dX9_setFrom_8 rfl ?_
  refine go_get dX9_setFrom_9 fX9_44 (by omega) h7 rfl ?_
  refine go_iload dX9_setFrom_12 rfl ?_
  refine go_ldc2 dX9_setFrom_14 kX9_150 ?_
  refine go_last dX9_setFrom_17 (by omega) hL rfl (by omega) (by omega) ?_
  refine go_aload_n dX9_setFrom_18 rfl ?_
  refine go_get dX9_setFrom_19 fX9_48 (by omega) ((hset_ne (by omega)).trans h7) rfl ?_
  refine go_iload dX9_setFrom_22 rfl ?_
  refine go_aload_n dX9_setFrom_24 rfl ?_
  refine go_get dX9_setFrom_25 fX9_142 (by omega) ((hset_ne (by omega)).trans h7) rfl ?_
  refine go_iast dX9_setFrom_28 (by omega) ((hset_ne (by omega)).trans hE) rfl (by omega) (by omega) ?_
  generalize hh : hset (hset h 158 _) 159 _ = h1
  have k7 : h1 147 = mS c s' u' r0 r1 r2 r3 r4 (nI (so c.1).1) rn := by rw [← hh, hset_ne (by omega), hset_ne (by omega)]; exact h7
  have kk : ∀ x, x ≠ 158 → x ≠ 159 → h1 x = h x := fun x q1 q2 => by rw [← hh, hset_ne q2, hset_ne q1]
  have kL : h1 158 = jA 175 (vp_updL LE (25 * k + a) 9000000000000000000) := by rw [← hh, hset_ne (by omega)]; exact hset_same
  have kE : h1 159 = iA 175 (upd EO (25 * k + a) (nI (so c.1).1)) := by rw [← hh]; exact hset_same
  have k3 : M3 h1 c := h3.ag (fun x q1 q2 => kk x (by omega) (by omega))
  have kM : Ms h1 c := by obtain ⟨FS, FW, q1, q2, q3⟩ := hM; exact ⟨FS, FW, (kk _ (by omega) (by omega)).trans q1, (kk _ (by omega) (by omega)).trans q2, q3⟩
  have kD := hD.put (x := 9000000000000000000) (y := nI (so c.1).1) h24 (by omega)
  refine go_iload_n dX9_setFrom_29 rfl ?_
  refine go_iconst (v := nI 1) dX9_setFrom_30 (by decide) ?_
  refine go_icmp_ne (tgt := 51) dX9_setFrom_31 (by decide) (fun c_31 => ?_) (fun c_31 => ?_)
  · skip
    have k2 : 2 ≤ k := by have : k ≠ 1 := fun z => c_31 (by rw [z]); omega
    refine go_iload_n dX9_setFrom_51 rfl ?_
    refine go_iconst (v := nI 1) dX9_setFrom_52 (by decide) ?_
    refine go_iadd dX9_setFrom_53 ?_
    refine go_top (y := .int (nI (a + 1))) (by rw [nI_add]) ?_
    refine go_istore (L' := [_, _, _, _, _, _, _, _]) dX9_setFrom_54 (by decide) rfl ?_
    refine mf_one hw k2 hk6 (by omega) (by omega) k7 k3 kM kL kE kD (fun c1 h' w6 w7 a1 a2 a3 => ?_) (fun c1 w6 w7 => ?_)
    · refine mf_loop hw k2 hk6 hak k7 k3 kM (fun h2 LE2 EO2 b1 b2 b3 b4 => ⟨rfl, rfl, ⟨LE2, EO2, b1, b2, b3⟩, fun x q1 q2 => (b4 x q1 q2).trans (kk x q1 q2)⟩) ((so c.1).1 - k - a) 0 h' _ _ w6 w7 (by omega) a1 a2 (kD.put h24 (by omega)) ?_ ?_ a3
      · rw [pk_uLs]; rfl
      · rw [pk_us]; rfl
    · rw [pk_uLs] at c1
      exact absurd (candB_bd (so_SB hw) (fun t _ => feF_bd hw free t) k2 hk6 (by omega) (by omega)) c1
  · skip
    have k1 : k = 1 := (nI_eq (by omega) (by decide)).mp (Decidable.not_not.mp c_31)
    refine go_aload_n dX9_setFrom_34 rfl ?_
    refine go_get dX9_setFrom_35 fX9_44 (by omega) k7 rfl ?_
    refine go_iload dX9_setFrom_38 rfl ?_
    refine go_aload_n dX9_setFrom_40 rfl ?_
    refine go_iload_n dX9_setFrom_41 rfl ?_
    refine go_aload_n dX9_setFrom_42 rfl ?_
    refine go_get dX9_setFrom_43 fX9_142 (by omega) k7 rfl ?_
    refine go_iv dX9_setFrom_46 mX9_spreadOf iX9_152 (run_spreadOf (d + 1) hw k7 kM (show a < (so c.1).1 by omega) (Nat.le_refl _)) rfl rfl (by omega) k7 rfl (Nat.le_of_ble_eq_true rfl) (Nat.zero_le _) (Nat.zero_le _) (fun v_46 h_46 n_46 q_46 => ?_)
    obtain ⟨rfl, rfl, rfl⟩ := q_46
    refine go_last dX9_setFrom_49 (by omega) kL rfl (by omega) (by omega) ?_
    refine go_vret dX9_setFrom_50 rfl ?_
    refine ⟨rfl, rfl, ⟨_, _, hset_same, (hset_ne (by omega)).trans kE, ?_⟩, fun x q1 q2 => (hset_ne q1).trans (kk x q1 q2)⟩
    refine MD.next (fun k' a' g1 g2 g3 g4 => ?_) ?_ ?_
    · rw [pk_uLn (by omega)]; exact kD k' a' g1 g2 g3 g4
    · rw [pk_uLs, k1]; rfl
    · rw [pk_us, k1]; rfl
