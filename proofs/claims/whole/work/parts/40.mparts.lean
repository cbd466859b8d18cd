/-! ===== parts ===== -/
theorem Ms.ag {h h' : gH} {c : CD} (q : Ms h c) (f1 : h' 156 = h 156) (f2 : h' 157 = h 157) : Ms h' c := by
  obtain ⟨FS, FW, q1, q2, q3⟩ := q
  exact ⟨FS, FW, f1.trans q1, f2.trans q2, q3⟩
set_option maxRecDepth 100000 in
theorem pa_inner {d k K : Nat} {h0 : gH} {c : CD} {s' u' : Nat} {r0 r1 r2 r3 r4 rn : Int32} {free : Bool} {Q : Option Value → gH → Nat → Prop} (hw : CW c) (hk : 1 ≤ k) (hk6 : k ≤ 6) (hkn : k ≤ (so c.1).1) (h7 : h0 147 = mS c s' u' r0 r1 r2 r3 r4 (nI (so c.1).1) rn) (h3 : M3 h0 c) (hM : Ms h0 c)
    (hq : ∀ (h : gH) (LE : Nat → Int64) (EO : Nat → Int32) (w4 : Option Value), h 158 = jA 175 LE → h 159 = iA 175 EO → MD (so c.1).1 (spr (so c.1).2.1 (so c.1).2.2) (feF c free) LE EO (k + 1) 0 → (∀ x, x ≠ 158 → x ≠ 159 → h x = h0 x) → Go none RX9 cX9_parts 5 none false (d + 3) 26 [some (.ref 147), some (.int (nI K)), some (.int (bI free)), some (.int (nI (k + 1))), w4] [] h 163 0 0 Q) :
    ∀ (m a : Nat) (h : gH) (LE : Nat → Int64) (EO : Nat → Int32), a + k + m = (so c.1).1 + 1 → h 158 = jA 175 LE → h 159 = iA 175 EO → MD (so c.1).1 (spr (so c.1).2.1 (so c.1).2.2) (feF c free) LE EO k a → (∀ x, x ≠ 158 → x ≠ 159 → h x = h0 x) → Go none RX9 cX9_parts 5 none false (d + 3) 37 [some (.ref 147), some (.int (nI K)), some (.int (bI free)), some (.int (nI k)), some (.int (nI a))] [] h 163 0 0 Q := by
  have h24 := so_24 hw.2.1
  intro m
  induction m with
  | zero =>
    intro a h LE EO hm hL hE hD hk0
    have h7' := (hk0 147 (by omega) (by omega)).trans h7
    refine go_iload dX9_parts_37 rfl ?_
    refine go_aload_n dX9_parts_39 rfl ?_
    refine go_get dX9_parts_40 fX9_142 (by omega) h7' rfl ?_
    refine go_iload_n dX9_parts_43 rfl ?_
    refine go_isub dX9_parts_44 ?_
    refine go_top (y := .int (nI ((so c.1).1 - k))) (by rw [nI_sub (by omega)]) ?_
    refine go_icmp_gt (tgt := 62) dX9_parts_45 (by decide) (fun c_45 => ?_) (fun c_45 => ?_)
    · skip
      refine go_inc (L' := [_, _, _, _, _]) dX9_parts_62 rfl (by decide) rfl ?_
      refine go_goto (tgt := 26) dX9_parts_65 (by decide) ?_
      exact hq h LE EO _ hL hE (fun k' a' g1 g2 g3 g4 => hD k' a' g1 g2 (by omega) g4) hk0
    · exact absurd (nI_lt (by omega) (by omega)) c_45
  | succ m ih =>
    intro a h LE EO hm hL hE hD hk0
    have h7' := (hk0 147 (by omega) (by omega)).trans h7
    have h3' : M3 h c := h3.ag (fun x q1 q2 => hk0 x (by omega) (by omega))
    have hM' : Ms h c := hM.ag (hk0 _ (by omega) (by omega)) (hk0 _ (by omega) (by omega))
    refine go_iload dX9_parts_37 rfl ?_
    refine go_aload_n dX9_parts_39 rfl ?_
    refine go_get dX9_parts_40 fX9_142 (by omega) h7' rfl ?_
    refine go_iload_n dX9_parts_43 rfl ?_
    refine go_isub dX9_parts_44 ?_
    refine go_top (y := .int (nI ((so c.1).1 - k))) (by rw [nI_sub (by omega)]) ?_
    refine go_icmp_gt (tgt := 62) dX9_parts_45 (by decide) (fun c_45 => ?_) (fun c_45 => ?_)
    · exact absurd ((nI_ltI (by omega) (by omega)).mp c_45) (by omega)
    · skip
      refine go_aload_n dX9_parts_48 rfl ?_
      refine go_iload_n dX9_parts_49 rfl ?_
      refine go_iload dX9_parts_50 rfl ?_
      refine go_iload_n dX9_parts_52 rfl ?_
      refine go_iv dX9_parts_53 mX9_setFrom iX9_166 (run_setFrom d free hw hk hk6 (by omega) h7' h3' hM' hL hE hD) rfl rfl (by omega) h7' rfl (Nat.le_of_ble_eq_true rfl) (Nat.zero_le _) (Nat.zero_le _) (fun v_53 h_53 n_53 q_53 => ?_)
      obtain ⟨rfl, rfl, ⟨LE', EO', a1, a2, a3⟩, a4⟩ := q_53
      refine go_inc (L' := [_, _, _, _, _]) dX9_parts_56 rfl (by decide) rfl ?_
      refine go_goto (tgt := 37) dX9_parts_59 (by decide) ?_
      exact ih (a + 1) _ LE' EO' (by omega) a1 a2 a3 (fun x q1 q2 => (a4 x q1 q2).trans (hk0 x q1 q2))
set_option maxRecDepth 100000 in
theorem pa_outer {d r K : Nat} {h0 : gH} {c : CD} {s' u' : Nat} {r0 r1 r2 r3 r4 : Int32} {free : Bool} {Q : Option Value → gH → Nat → Prop} (hw : CW c) (hr6 : r ≤ 6) (hrn : r ≤ (so c.1).1) (h7 : h0 147 = mS c s' u' r0 r1 r2 r3 r4 (nI (so c.1).1) (nI r)) (h3 : M3 h0 c) (hM : Ms h0 c)
    (hq : ∀ (h : gH) (LE : Nat → Int64) (EO : Nat → Int32) (w3 w4 : Option Value), h 158 = jA 175 LE → h 159 = iA 175 EO → MD (so c.1).1 (spr (so c.1).2.1 (so c.1).2.2) (feF c free) LE EO (r + 1) 0 → (∀ x, x ≠ 158 → x ≠ 159 → h x = h0 x) → Go none RX9 cX9_parts 5 none false (d + 3) 68 [some (.ref 147), some (.int (nI K)), some (.int (bI free)), w3, w4] [] h 163 0 0 Q) :
    ∀ (m k : Nat) (h : gH) (LE : Nat → Int64) (EO : Nat → Int32) (w4 : Option Value), 1 ≤ k → k + m = r + 1 → h 158 = jA 175 LE → h 159 = iA 175 EO → MD (so c.1).1 (spr (so c.1).2.1 (so c.1).2.2) (feF c free) LE EO k 0 → (∀ x, x ≠ 158 → x ≠ 159 → h x = h0 x) → Go none RX9 cX9_parts 5 none false (d + 3) 26 [some (.ref 147), some (.int (nI K)), some (.int (bI free)), some (.int (nI k)), w4] [] h 163 0 0 Q := by
  have h24 := so_24 hw.2.1
  intro m
  induction m with
  | zero =>
    intro k h LE EO w4 hk hm hL hE hD hk0
    have h7' := (hk0 147 (by omega) (by omega)).trans h7
    have e : k = r + 1 := by omega
    subst e
    refine go_iload_n dX9_parts_26 rfl ?_
    refine go_aload_n dX9_parts_27 rfl ?_
    refine go_get dX9_parts_28 fX9_163 (by omega) h7' rfl ?_
    refine go_icmp_gt (tgt := 68) dX9_parts_31 (by decide) (fun c_31 => ?_) (fun c_31 => ?_)
    · skip
      exact hq h LE EO _ _ hL hE hD hk0
    · exact absurd (nI_lt (by omega) (by omega)) c_31
  | succ m ih =>
    intro k h LE EO w4 hk hm hL hE hD hk0
    have h7' := (hk0 147 (by omega) (by omega)).trans h7
    have h3' : M3 h c := h3.ag (fun x q1 q2 => hk0 x (by omega) (by omega))
    have hM' : Ms h c := hM.ag (hk0 _ (by omega) (by omega)) (hk0 _ (by omega) (by omega))
    refine go_iload_n dX9_parts_26 rfl ?_
    refine go_aload_n dX9_parts_27 rfl ?_
    refine go_get dX9_parts_28 fX9_163 (by omega) h7' rfl ?_
    refine go_icmp_gt (tgt := 68) dX9_parts_31 (by decide) (fun c_31 => ?_) (fun c_31 => ?_)
    · exact absurd ((nI_ltI (by omega) (by omega)).mp c_31) (by omega)
    · skip
      refine go_iconst (v := nI 0) dX9_parts_34 (by decide) ?_
      refine go_istore (L' := [_, _, _, _, _]) dX9_parts_35 (by decide) rfl ?_
      exact pa_inner hw hk (by omega) (by omega) h7' h3' hM' (fun h2 LE2 EO2 w4' b1 b2 b3 b4 => ih (k + 1) h2 LE2 EO2 w4' (by omega) (by omega) b1 b2 b3 (fun x q1 q2 => (b4 x q1 q2).trans (hk0 x q1 q2))) ((so c.1).1 + 1 - k) 0 h LE EO (by omega) hL hE hD (fun x q1 q2 => rfl)
set_option maxRecDepth 100000 in
theorem pa_begins {d r K : Nat} {h0 : gH} {c : CD} {s' u' : Nat} {r0 r1 r2 r3 r4 : Int32} {free : Bool} {LE : Nat → Int64} {EO : Nat → Int32} {Q : Option Value → gH → Nat → Prop} (hw : CW c) (hr6 : r ≤ 6) (hrn : r ≤ (so c.1).1) (h7 : h0 147 = mS c s' u' r0 r1 r2 r3 r4 (nI (so c.1).1) (nI r)) (hE : h0 159 = iA 175 EO) (hD : MD (so c.1).1 (spr (so c.1).2.1 (so c.1).2.2) (feF c free) LE EO (r + 1) 0)
    (hq : ∀ (h : gH) (FB : Nat → Int32), h 160 = iA 6 FB → (∀ i, i < r → FB i = nI (bg (so c.1).1 (spr (so c.1).2.1 (so c.1).2.2) (feF c free) r i)) → (∀ x, x ≠ 160 → h x = h0 x) → Q none h 163) :
    ∀ (m i : Nat) (h : gH) (FB : Nat → Int32), i + m = r → h 160 = iA 6 FB → (∀ j, j < i → FB j = nI (bg (so c.1).1 (spr (so c.1).2.1 (so c.1).2.2) (feF c free) r j)) → (∀ x, x ≠ 160 → h x = h0 x) → Go none RX9 cX9_parts 5 none false (d + 3) 73 [some (.ref 147), some (.int (nI K)), some (.int (bI free)), some (.int (nI (bg (so c.1).1 (spr (so c.1).2.1 (so c.1).2.2) (feF c free) r i))), some (.int (nI i))] [] h 163 0 0 Q := by
  have h24 := so_24 hw.2.1
  intro m
  induction m with
  | zero =>
    intro i h FB hm hB hF hk0
    have h7' := (hk0 147 (by omega)).trans h7
    have e : i = r := by omega
    subst e
    refine go_iload dX9_parts_73 rfl ?_
    refine go_aload_n dX9_parts_75 rfl ?_
    refine go_get dX9_parts_76 fX9_163 (by omega) h7' rfl ?_
    refine go_icmp_ge (tgt := 114) dX9_parts_79 (by decide) (fun c_79 => ?_) (fun c_79 => ?_)
    · skip
      refine go_vret dX9_parts_114 rfl ?_
      exact hq h FB hB hF hk0
    · exact absurd (nI_le (Nat.le_refl _) (by omega)) c_79
  | succ m ih =>
    intro i h FB hm hB hF hk0
    have h7' := (hk0 147 (by omega)).trans h7
    have hb := bg_in (n := (so c.1).1) (S := spr (so c.1).2.1 (so c.1).2.2) (fee := feF c free) hrn (i := i) (by omega)
    have e := (hD (r - i) (bg (so c.1).1 (spr (so c.1).2.1 (so c.1).2.2) (feF c free) r i) (by omega) (by omega) (Or.inl (by omega)) (by omega)).2
    refine go_iload dX9_parts_73 rfl ?_
    refine go_aload_n dX9_parts_75 rfl ?_
    refine go_get dX9_parts_76 fX9_163 (by omega) h7' rfl ?_
    refine go_icmp_ge (tgt := 114) dX9_parts_79 (by decide) (fun c_79 => ?_) (fun c_79 => ?_)
    · exact absurd c_79 (nI_ge (by omega) (by omega))
    · skip
      refine go_aload_n dX9_parts_82 rfl ?_
      refine go_get dX9_parts_83 fX9_51 (by omega) h7' rfl ?_
      refine go_iload dX9_parts_86 rfl ?_
      refine go_iload_n dX9_parts_88 rfl ?_
      refine go_iast dX9_parts_89 (by omega) hB rfl (by omega) (by omega) ?_
      refine go_aload_n dX9_parts_90 rfl ?_
      refine go_get dX9_parts_91 fX9_48 (by omega) ((hset_ne (by omega)).trans h7') rfl ?_
      refine go_bipush (v := nI 25) dX9_parts_94 (by decide) ?_
      refine go_aload_n dX9_parts_96 rfl ?_
      refine go_get dX9_parts_97 fX9_163 (by omega) ((hset_ne (by omega)).trans h7') rfl ?_
      refine go_iload dX9_parts_100 rfl ?_
      refine go_isub dX9_parts_102 ?_
      refine go_imul dX9_parts_103 ?_
      refine go_iload_n dX9_parts_104 rfl ?_
      refine go_iadd dX9_parts_105 ?_
      refine go_top (y := .int (nI (25 * (r - i) + bg (so c.1).1 (spr (so c.1).2.1 (so c.1).2.2) (feF c free) r i))) (by rw [nI_sub (by omega), pk_mul, nI_add]) ?_
      refine go_iald dX9_parts_106 (by omega) ((hset_ne (by omega)).trans ((hk0 _ (by omega)).trans hE)) rfl (by omega) (by omega) ?_
      refine go_top (y := .int (nI (bg (so c.1).1 (spr (so c.1).2.1 (so c.1).2.2) (feF c free) r (i + 1)))) (by rw [e]; rfl) ?_
      refine go_istore_n (L' := [_, _, _, _, _]) dX9_parts_107 rfl (by decide) rfl ?_
      refine go_inc (L' := [_, _, _, _, _]) dX9_parts_108 rfl (by decide) rfl ?_
      refine go_goto (tgt := 73) dX9_parts_111 (by decide) ?_
      refine ih (i + 1) _ _ (by omega) hset_same (fun j hj => ?_) (fun x q => (hset_ne q).trans (hk0 x q))
      by_cases q : j = i
      · subst q; rw [pk_us]
      · rw [pk_un q]; exact hF j (by omega)
/-- the reference's parting -/
def MP (h : gH) (q : PD) : Prop := ∃ FB : Nat → Int32, h 160 = iA 6 FB ∧ ∀ i, i < q.1 → FB i = nI (q.2.1 i)
set_option maxRecDepth 100000 in
theorem run_parts (d : Nat) {k : Nat} {h : gH} {c : CD} {s' u' : Nat} {r0 r1 r2 r3 r4 sn rn : Int32} (free : Bool) (hw : CW c) (hk : 1 ≤ k) (hk6 : k ≤ 6) (h7 : h 147 = mS c s' u' r0 r1 r2 r3 r4 sn rn) (h3 : M3 h c) (hX : MX h) : Run (d + 3) yX9_parts cX9_parts 5 none [.ref 147, .int (nI k), .int (bI free)] h 163 0 0 (fun v h' N' => v = none ∧ N' = 163 ∧ h' 147 = mS c s' u' r0 r1 r2 r3 r4 (nI (so c.1).1) (nI (parD c (feF c free) k).1) ∧ Ms h' c ∧ MP h' (parD c (feF c free) k) ∧ MX h' ∧ ∀ x, x ≠ 147 → (x < 156 ∨ 161 ≤ x) → h' x = h x) := by
  have h24 := so_24 hw.2.1
  have KK : ∀ (h1 : gH), h1 147 = mS c s' u' r0 r1 r2 r3 r4 (nI (so c.1).1) rn → Ms h1 c → (∀ x, x ≠ 147 → x ≠ 156 → x ≠ 157 → h1 x = h x) → ∀ w4 : Option Value, Go none RX9 cX9_parts 5 none false (d + 3) 26 [some (.ref 147), some (.int (nI k)), some (.int (bI free)), some (.int (nI 1)), w4] [] (hset h1 147 (mS c s' u' r0 r1 r2 r3 r4 (nI (so c.1).1) (nI (min k (so c.1).1)))) 163 0 0 (fun v h' N' => v = none ∧ N' = 163 ∧ h' 147 = mS c s' u' r0 r1 r2 r3 r4 (nI (so c.1).1) (nI (parD c (feF c free) k).1) ∧ Ms h' c ∧ MP h' (parD c (feF c free) k) ∧ MX h' ∧ ∀ x, x ≠ 147 → (x < 156 ∨ 161 ≤ x) → h' x = h x) := by
    intro h1 k7 kM kk w4
    obtain ⟨xa, xb, xc, xd, EO, xf, xg, LE, xy, x1, x2, -, -, x5, x6, x7, x8, x9⟩ := hX
    have ee : ∀ x, x ≠ 147 → hset h1 147 (mS c s' u' r0 r1 r2 r3 r4 (nI (so c.1).1) (nI (min k (so c.1).1))) x = h1 x := fun x hx => hset_ne hx
    have e2 : ∀ x, x ≠ 147 → x ≠ 156 → x ≠ 157 → hset h1 147 (mS c s' u' r0 r1 r2 r3 r4 (nI (so c.1).1) (nI (min k (so c.1).1))) x = h x := fun x q1 q2 q3 => (ee x q1).trans (kk x q1 q2 q3)
    refine pa_outer (r := min k (so c.1).1) hw (by omega) (Nat.min_le_right _ _) hset_same (h3.ag (fun x q1 q2 => e2 x (by omega) (by omega) (by omega))) (kM.ag (ee _ (by omega)) (ee _ (by omega))) (fun h2 LE2 EO2 w3 w4' b1 b2 b3 b4 => ?_) (min k (so c.1).1) 1 _ LE EO w4 (by omega) (by omega) ((e2 _ (by omega) (by omega) (by omega)).trans x5) ((e2 _ (by omega) (by omega) (by omega)).trans x6) (fun k' a' g1 g2 g3 g4 => absurd g3 (by omega)) (fun x q1 q2 => rfl)
    have l7 := (b4 147 (by omega) (by omega)).trans hset_same
    refine go_iconst (v := nI 0) dX9_parts_68 (by decide) ?_
    refine go_istore_n (L' := [_, _, _, _, _]) dX9_parts_69 rfl (by decide) rfl ?_
    refine go_iconst (v := nI 0) dX9_parts_70 (by decide) ?_
    refine go_istore (L' := [_, _, _, _, _]) dX9_parts_71 (by decide) rfl ?_
    refine pa_begins hw (by omega) (Nat.min_le_right _ _) l7 b2 b3 (fun h3' FB d1 d2 d3 => ?_) (min k (so c.1).1) 0 h2 xf (by omega) ((b4 _ (by omega) (by omega)).trans ((e2 _ (by omega) (by omega) (by omega)).trans x7)) (fun j hj => absurd hj (by omega)) (fun x q => rfl)
    have gg : ∀ x, x ≠ 147 → x ≠ 158 → x ≠ 159 → x ≠ 160 → h3' x = h1 x := fun x q1 q2 q3 q4 => (d3 x q4).trans ((b4 x q2 q3).trans (ee x q1))
    have hMs : Ms h3' c := kM.ag (gg _ (by omega) (by omega) (by omega) (by omega)) (gg _ (by omega) (by omega) (by omega) (by omega))
    have g3 : ∀ x, x ≠ 147 → (x < 156 ∨ 161 ≤ x) → h3' x = h x := fun x q1 q2 => (gg x q1 (by omega) (by omega) (by omega)).trans (kk x q1 (by omega) (by omega))
    obtain ⟨FS, FW, m1, m2, -⟩ := id hMs
    exact ⟨rfl, rfl, (d3 147 (by omega)).trans l7, hMs, ⟨FB, d1, d2⟩, ⟨xa, xb, FS, FW, EO2, FB, xg, LE2, xy, (g3 _ (by omega) (by omega)).trans x1, (g3 _ (by omega) (by omega)).trans x2, m1, m2, (d3 _ (by omega)).trans b1, (d3 _ (by omega)).trans b2, d1, (g3 _ (by omega) (by omega)).trans x8, (g3 _ (by omega) (by omega)).trans x9⟩, g3⟩
  refine Run.of (ini := false) (L := [_, _, _, _, _]) mX9_parts (fun h => by cases h) rfl (Nat.le_of_ble_eq_true rfl) rfl ?_
  refine go_aload_n dX9_parts_0 rfl ?_
  refine go_iv dX9_parts_1 mX9_setSorted iX9_160 (run_setSorted (d + 2) hw h7 h3 hX) rfl rfl (by omega) h7 rfl (Nat.le_of_ble_eq_true rfl) (Nat.zero_le _) (Nat.zero_le _) (fun v_1 h_1 n_1 q_1 => ?_)
  obtain ⟨rfl, rfl, k7, kM, kk⟩ := q_1
  refine go_aload_n dX9_parts_4 rfl ?_
  refine go_iload_n dX9_parts_5 rfl ?_
  refine go_aload_n dX9_parts_6 rfl ?_
  refine go_get dX9_parts_7 fX9_142 (by omega) k7 rfl ?_
  refine go_icmp_ge (tgt := 17) dX9_parts_10 (by decide) (fun c_10 => ?_) (fun c_10 => ?_)
  · skip
    have hr : min k (so c.1).1 = (so c.1).1 := by have := (nI_leI (by omega) (by omega)).mp c_10; omega
    refine go_aload_n dX9_parts_17 rfl ?_
    refine go_get dX9_parts_18 fX9_142 (by omega) k7 rfl ?_
    refine go_top (y := .int (nI (min k (so c.1).1))) (by rw [hr]) ?_
    refine go_put (fs' := [_, _, _, _, _, _, _, _, _, _, _, _, _, _, _, _, _, _, _, _, _, _, _, _, _, _, _, _]) dX9_parts_21 fX9_163 (by omega) k7 (Nat.le_of_ble_eq_true rfl) (Or.inl rfl) ⟨_, _, _, rfl, Or.inl rfl⟩ rfl ?_
    refine go_iconst (v := nI 1) dX9_parts_24 (by decide) ?_
    refine go_istore_n (L' := [_, _, _, _, _]) dX9_parts_25 rfl (by decide) rfl ?_
    exact KK h_1 k7 kM kk _
  · skip
    have hr : min k (so c.1).1 = k := by have := mt (nI_leI (a := (so c.1).1) (b := k) (by omega) (by omega)).mpr c_10; omega
    refine go_iload_n dX9_parts_13 rfl ?_
    refine go_goto (tgt := 21) dX9_parts_14 (by decide) ?_
    refine go_top (y := .int (nI (min k (so c.1).1))) (by rw [hr]) ?_
    refine go_put (fs' := [_, _, _, _, _, _, _, _, _, _, _, _, _, _, _, _, _, _, _, _, _, _, _, _, _, _, _, _]) dX9_parts_21 fX9_163 (by omega) k7 (Nat.le_of_ble_eq_true rfl) (Or.inl rfl) ⟨_, _, _, rfl, Or.inl rfl⟩ rfl ?_
    refine go_iconst (v := nI 1) dX9_parts_24 (by decide) ?_
    refine go_istore_n (L' := [_, _, _, _, _]) dX9_parts_25 rfl (by decide) rfl ?_
    exact KK h_1 k7 kM kk _
theorem run_partsNow (d : Nat) {h : gH} {c : CD} {s' u' : Nat} {r0 r1 r2 r3 r4 sn rn : Int32} (hw : CW c) (h7 : h 147 = mS c s' u' r0 r1 r2 r3 r4 sn rn) (h3 : M3 h c) (hX : MX h) : Run (d + 4) yX9_partsNow cX9_partsNow 1 none [.ref 147] h 163 0 0 (fun v h' N' => v = none ∧ N' = 163 ∧ h' 147 = mS c s' u' r0 r1 r2 r3 r4 (nI (so c.1).1) (nI (nowD c).1) ∧ Ms h' c ∧ MP h' (nowD c) ∧ MX h' ∧ ∀ x, x ≠ 147 → (x < 156 ∨ 161 ≤ x) → h' x = h x) := by
  refine Run.of (ini := false) (L := [_]) mX9_partsNow (fun h => by cases h) rfl (Nat.le_of_ble_eq_true rfl) rfl ?_
  refine go_aload_n dX9_partsNow_0 rfl ?_
  refine go_aload_n dX9_partsNow_1 rfl ?_
  refine go_get dX9_partsNow_2 fX9_7 (by omega) h7 rfl ?_
  refine go_iconst (v := nI 0) dX9_partsNow_5 (by decide) ?_
  refine go_iv dX9_partsNow_6 mX9_parts iX9_170 (run_parts d false hw hw.2.2.2.2.1.1 hw.2.2.2.2.1.2 h7 h3 hX) rfl rfl (by omega) h7 rfl (Nat.le_of_ble_eq_true rfl) (Nat.zero_le _) (Nat.zero_le _) (fun v_6 h_6 n_6 q_6 => ?_)
  obtain ⟨rfl, rfl, b⟩ := q_6
  refine go_vret dX9_partsNow_9 rfl ?_
  exact ⟨rfl, rfl, b⟩
