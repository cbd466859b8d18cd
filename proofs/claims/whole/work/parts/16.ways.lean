/-! ===== partings from behind ===== -/
/-- the least of x a .. x (a + m), and where it stands first -/
def fm (x : Nat → Int64) (a : Nat) : Nat → Int64 × Nat
  | 0 => (x a, a)
  | m + 1 => if x (a + m + 1) < (fm x a m).1 then (x (a + m + 1), a + m + 1) else fm x a m
theorem fm_in (x : Nat → Int64) (a : Nat) : ∀ m, a ≤ (fm x a m).2 ∧ (fm x a m).2 ≤ a + m
  | 0 => ⟨Nat.le_refl _, Nat.le_refl _⟩
  | m + 1 => by
    have := fm_in x a m
    unfold fm
    split
    · exact ⟨by omega, by show a + m + 1 ≤ _; omega⟩
    · omega
theorem fm_val (x : Nat → Int64) (a : Nat) : ∀ m, (fm x a m).1 = x (fm x a m).2
  | 0 => rfl
  | m + 1 => by
    have := fm_val x a m
    unfold fm
    split
    · rfl
    · exact this
theorem fm_cong {x y : Nat → Int64} {a : Nat} : ∀ {m}, (∀ t, a ≤ t → t ≤ a + m → x t = y t) → fm x a m = fm y a m
  | 0, h => by simp only [fm]; rw [h a (by omega) (by omega)]
  | m + 1, h => by
    have ih := fm_cong (x := x) (y := y) (a := a) (m := m) (fun t h1 h2 => h t h1 (by omega))
    simp only [fm, ih]
    rw [h (a + m + 1) (by omega) (by omega)]
/-- the best parting in k of all from a on: its spread with the costs, and where its second run begins -/
def bst (n : Nat) (S : Nat → Nat → Int64) (fee : Nat → Int64) : Nat → Nat → Int64 × Nat
  | 0, _ => (0, 0)
  | 1, a => (S a n, n)
  | k + 2, a => fm (fun t => S a t + fee t + (bst n S fee (k + 1) t).1) (a + 1) (n - (k + 2) - a)
theorem bst_in {n : Nat} {S : Nat → Nat → Int64} {fee : Nat → Int64} : ∀ {k a : Nat}, 1 ≤ k → a + k ≤ n → a < (bst n S fee k a).2 ∧ (bst n S fee k a).2 + (k - 1) ≤ n
  | 0, a, h, _ => absurd h (by omega)
  | 1, a, _, h => by show a < n ∧ n + 0 ≤ n; omega
  | k + 2, a, _, h => by
    have := fm_in (fun t => S a t + fee t + (bst n S fee (k + 1) t).1) (a + 1) (n - (k + 2) - a)
    unfold bst
    omega
/-- where the runs begin -/
def bg (n : Nat) (S : Nat → Nat → Int64) (fee : Nat → Int64) (r : Nat) : Nat → Nat
  | 0 => 0
  | i + 1 => (bst n S fee (r - i) (bg n S fee r i)).2
def tot (n : Nat) (S : Nat → Nat → Int64) (fee : Nat → Int64) (r : Nat) : Nat → Int64
  | 0 => 0
  | i + 1 => tot n S fee r i + S (bg n S fee r i) (bg n S fee r (i + 1))
theorem bg_in {n r : Nat} {S : Nat → Nat → Int64} {fee : Nat → Int64} (hr : r ≤ n) : ∀ {i : Nat}, i ≤ r → bg n S fee r i + (r - i) ≤ n ∧ i ≤ bg n S fee r i
  | 0, _ => ⟨by show 0 + _ ≤ _; omega, Nat.zero_le _⟩
  | i + 1, h => by
    have ih := bg_in hr (S := S) (fee := fee) (i := i) (by omega)
    have := bst_in (n := n) (S := S) (fee := fee) (k := r - i) (a := bg n S fee r i) (by omega) (by omega)
    show (bst n S fee (r - i) (bg n S fee r i)).2 + _ ≤ _ ∧ _ ≤ (bst n S fee (r - i) (bg n S fee r i)).2
    omega
theorem bg_end {n r : Nat} {S : Nat → Nat → Int64} {fee : Nat → Int64} (hr : r ≤ n) (h0 : 0 < r) : bg n S fee r r = n := by
  obtain ⟨q, rfl⟩ : ∃ q, r = q + 1 := ⟨r - 1, by omega⟩
  show (bst n S fee (q + 1 - q) _).2 = n
  rw [show q + 1 - q = 1 by omega]
  rfl
theorem bg_lt {n r : Nat} {S : Nat → Nat → Int64} {fee : Nat → Int64} (hr : r ≤ n) {i : Nat} (h : i < r) : bg n S fee r i < bg n S fee r (i + 1) := by
  have ih := bg_in hr (S := S) (fee := fee) (i := i) (by omega)
  exact (bst_in (n := n) (S := S) (fee := fee) (k := r - i) (a := bg n S fee r i) (by omega) (by omega)).1
/-! ===== Ways: cell w; best w + 1, rows w + 2 .. w + 8; second w + 9, rows w + 10 .. w + 16; fees w + 17 ===== -/
def Wy (h : gH) (w : Nat) (B : Nat → Nat → Int64) (E : Nat → Nat → Int32) (Fe : Nat → Int64) : Prop := ∃ R1 R2 : Nat → Option Nat, h w = .inr (7, [.ref (w + 1), .ref (w + 9), .ref (w + 17)]) ∧ h (w + 1) = .inl (6, 7, .inr (.inr (.inr (.inr R1)))) ∧ (∀ i, i < 7 → R1 i = some (w + 2 + i)) ∧ h (w + 9) = .inl (5, 7, .inr (.inr (.inr (.inr R2)))) ∧ (∀ i, i < 7 → R2 i = some (w + 10 + i)) ∧ (∀ i, i < 7 → h (w + 2 + i) = .inl (1, 25, .inr (.inl (B i)))) ∧ (∀ i, i < 7 → h (w + 10 + i) = .inl (0, 25, .inl (E i))) ∧ h (w + 17) = .inl (1, 25, .inr (.inl Fe))
theorem Wy.fr {h h' : gH} {lo hi w : Nat} {B : Nat → Nat → Int64} {E : Nat → Nat → Int32} {Fe : Nat → Int64} (q : Wy h w B E Fe) (f : Fr lo hi h h') (hx : w + 18 ≤ lo ∨ hi ≤ w) : Wy h' w B E Fe := by
  obtain ⟨R1, R2, h0, h1, h2, h3, h4, h5, h6, h7⟩ := q
  exact ⟨R1, R2, (f _ (by omega)).trans h0, (f _ (by omega)).trans h1, h2, (f _ (by omega)).trans h3, h4, fun i hi => (f _ (by omega)).trans (h5 i hi), fun i hi => (f _ (by omega)).trans (h6 i hi), (f _ (by omega)).trans h7⟩
def u2L (B : Nat → Nat → Int64) (k a : Nat) (x : Int64) : Nat → Nat → Int64 := fun i => if i = k then vp_updL (B i) a x else B i
def u2I (B : Nat → Nat → Int32) (k a : Nat) (x : Int32) : Nat → Nat → Int32 := fun i => if i = k then upd (B i) a x else B i
theorem u2L_s (B : Nat → Nat → Int64) (k a : Nat) (x : Int64) : u2L B k a x k a = x := by simp [u2L, vp_updL]
theorem u2L_n {B : Nat → Nat → Int64} {k a i j : Nat} {x : Int64} (h : i ≠ k ∨ j ≠ a) : u2L B k a x i j = B i j := by
  by_cases e : i = k
  · have : j ≠ a := by omega
    simp [u2L, vp_updL, e, this]
  · simp [u2L, e]
theorem u2I_s (B : Nat → Nat → Int32) (k a : Nat) (x : Int32) : u2I B k a x k a = x := by simp [u2I, upd]
theorem u2I_n {B : Nat → Nat → Int32} {k a i j : Nat} {x : Int32} (h : i ≠ k ∨ j ≠ a) : u2I B k a x i j = B i j := by
  by_cases e : i = k
  · have : j ≠ a := by omega
    simp [u2I, upd, e, this]
  · simp [u2I, e]
theorem Wy.putB {h : gH} {w k a : Nat} {B : Nat → Nat → Int64} {E : Nat → Nat → Int32} {Fe : Nat → Int64} {x : Int64} (q : Wy h w B E Fe) (hk : k < 7) : Wy (hset h (w + 2 + k) (.inl (1, 25, .inr (.inl (vp_updL (B k) a x))))) w (u2L B k a x) E Fe := by
  obtain ⟨R1, R2, h0, h1, h2, h3, h4, h5, h6, h7⟩ := q
  refine ⟨R1, R2, (hset_ne (by omega)).trans h0, (hset_ne (by omega)).trans h1, h2, (hset_ne (by omega)).trans h3, h4, fun i hi => ?_, fun i hi => (hset_ne (by omega)).trans (h6 i hi), (hset_ne (by omega)).trans h7⟩
  by_cases e : i = k
  · subst e
    rw [hset_same]
    simp [u2L]
  · rw [hset_ne (by omega), h5 i hi]
    simp [u2L, e]
theorem Wy.putE {h : gH} {w k a : Nat} {B : Nat → Nat → Int64} {E : Nat → Nat → Int32} {Fe : Nat → Int64} {x : Int32} (q : Wy h w B E Fe) (hk : k < 7) : Wy (hset h (w + 10 + k) (.inl (0, 25, .inl (upd (E k) a x)))) w B (u2I E k a x) Fe := by
  obtain ⟨R1, R2, h0, h1, h2, h3, h4, h5, h6, h7⟩ := q
  refine ⟨R1, R2, (hset_ne (by omega)).trans h0, (hset_ne (by omega)).trans h1, h2, (hset_ne (by omega)).trans h3, h4, fun i hi => (hset_ne (by omega)).trans (h5 i hi), fun i hi => ?_, (hset_ne (by omega)).trans h7⟩
  by_cases e : i = k
  · subst e
    rw [hset_same]
    simp [u2I]
  · rw [hset_ne (by omega), h6 i hi]
    simp [u2I, e]
section WaysC
variable {d N n w k a : Nat} {h : gH} {A W : Nat → Nat} {B : Nat → Nat → Int64} {E : Nat → Nat → Int32} {Fe : Nat → Int64}
/-- what is compared -/
def cand (S : Nat → Nat → Int64) (Fe : Nat → Int64) (b : Nat → Int64) (a : Nat) : Nat → Int64 := fun t => S a t + Fe t + b t
set_option maxRecDepth 100000 in
theorem choose_one {least : Int64} {chosen t : Nat} {w8 w9 : Option Value} {Q : Option Value → gH → Nat → Prop} (hN : w + 18 ≤ N) (hw : 79 ≤ w) (hk : 2 ≤ k) (hk6 : k ≤ 6) (ht : a < t) (htn : t + k ≤ n + 1) (hn : n ≤ 24) (hL : Ld h n A W) (hY : Wy h w B E Fe)
    (hyes : cand (spr A W) Fe (B (k - 1)) a t < least → ∀ w8 w9, Go none RX7 cX7_choose 10 none false d 15 [some (.ref w), some (.ref 50), some (.int (nI k)), some (.int (nI a)), some (.long (cand (spr A W) Fe (B (k - 1)) a t)), none, some (.int (nI t)), some (.int (nI (t + 1))), w8, w9] [] h N 0 0 Q)
    (hno : ¬ cand (spr A W) Fe (B (k - 1)) a t < least → ∀ w8 w9, Go none RX7 cX7_choose 10 none false d 15 [some (.ref w), some (.ref 50), some (.int (nI k)), some (.int (nI a)), some (.long least), none, some (.int (nI chosen)), some (.int (nI (t + 1))), w8, w9] [] h N 0 0 Q) :
    Go none RX7 cX7_choose 10 none false d 15 [some (.ref w), some (.ref 50), some (.int (nI k)), some (.int (nI a)), some (.long least), none, some (.int (nI chosen)), some (.int (nI t)), w8, w9] [] h N 0 0 Q := by
  obtain ⟨R1, R2, y0, y1, y2, y3, y4, y5, y6, y7⟩ := id hY
  obtain ⟨⟨FA, FW, l0, l1, l2, l3, l4, l5⟩, R, r0, r1, r2⟩ := id hL
  obtain ⟨F, f0, f1⟩ := r2 a (by omega)
  refine go_iload dX7_choose_15 rfl ?_
  refine go_iload_n dX7_choose_17 rfl ?_
  refine go_iadd dX7_choose_18 ?_
  refine go_top (y := .int (nI (t + k))) (by rw [nI_add]) ?_
  refine go_iconst (v := nI 1) dX7_choose_19 (by decide) ?_
  refine go_isub dX7_choose_20 ?_
  refine go_top (y := .int (nI (t + k - 1))) (by rw [pk_sub (by omega)]) ?_
  refine go_aload_n dX7_choose_21 rfl ?_
  refine go_get dX7_choose_22 fX7_25 (by omega) l0 rfl ?_
  refine go_icmp_gt (tgt := 81) dX7_choose_25 (by decide) (fun c_25 => ?_) (fun c_25 => ?_)
  · exact absurd ((nI_ltI (by omega) (by omega)).mp c_25) (by omega)
  · skip
    refine go_aload_n dX7_choose_28 rfl ?_
    refine go_get dX7_choose_29 fX7_31 (by omega) l0 rfl ?_
    refine go_iload_n dX7_choose_32 rfl ?_
    refine go_aald dX7_choose_33 (by omega) r0 (by decide) (by decide) rfl (by omega) (by omega) (r1 a (by omega)) ?_
    refine go_iload dX7_choose_34 rfl ?_
    refine go_lald dX7_choose_36 (by omega) f0 rfl (by omega) (by omega) ?_
    refine go_top (y := .long (spr A W a t)) (by rw [f1 t (by omega) ht (by omega)]) ?_
    refine go_aload_n dX7_choose_37 rfl ?_
    refine go_get dX7_choose_38 fX7_21 (by omega) y0 rfl ?_
    refine go_iload dX7_choose_41 rfl ?_
    refine go_lald dX7_choose_43 (by omega) y7 rfl (by omega) (by omega) ?_
    refine go_ladd dX7_choose_44 ?_
    refine go_aload_n dX7_choose_45 rfl ?_
    refine go_get dX7_choose_46 fX7_11 (by omega) y0 rfl ?_
    refine go_iload_n dX7_choose_49 rfl ?_
    refine go_iconst (v := nI 1) dX7_choose_50 (by decide) ?_
    refine go_isub dX7_choose_51 ?_
    refine go_top (y := .int (nI (k - 1))) (by rw [pk_sub (by omega)]) ?_
    refine go_aald dX7_choose_52 (by omega) y1 (by decide) (by decide) rfl (by omega) (by omega) (y2 (k - 1) (by omega)) ?_
    refine go_iload dX7_choose_53 rfl ?_
    refine go_lald dX7_choose_55 (by omega) (y5 (k - 1) (by omega)) rfl (by omega) (by omega) ?_
    refine go_ladd dX7_choose_56 ?_
    refine go_top (y := .long (cand (spr A W) Fe (B (k - 1)) a t)) rfl ?_
    refine go_lstore (L' := [_, _, _, _, _, _, _, _, _, _]) dX7_choose_57 (by decide) rfl ?_
    refine go_lload dX7_choose_59 rfl ?_
    refine go_lload dX7_choose_61 rfl ?_
    refine go_lcmp dX7_choose_63 ?_
    refine go_if_ge (tgt := 75) dX7_choose_64 (by decide) (fun c_64 => ?_) (fun c_64 => ?_)
    · skip
      have c1 := mt (lg_cmp_lt _ _).mpr (fun q => absurd c_64 (Int32.not_le.mpr q))
      refine go_inc (L' := [_, _, _, _, _, _, _, _, _, _]) dX7_choose_75 rfl (by decide) rfl ?_
      refine go_goto (tgt := 15) dX7_choose_78 (by decide) ?_
      first | exact hyes c1 _ _ | exact hno c1 _ _
    · skip
      have c1 := (lg_cmp_lt _ _).mp (Int32.not_le.mp c_64)
      refine go_lload dX7_choose_67 rfl ?_
      refine go_lstore (L' := [_, _, _, _, _, _, _, _, _, _]) dX7_choose_69 (by decide) rfl ?_
      refine go_iload dX7_choose_71 rfl ?_
      refine go_istore (L' := [_, _, _, _, _, _, _, _, _, _]) dX7_choose_73 (by decide) rfl ?_
      refine go_inc (L' := [_, _, _, _, _, _, _, _, _, _]) dX7_choose_75 rfl (by decide) rfl ?_
      refine go_goto (tgt := 15) dX7_choose_78 (by decide) ?_
      first | exact hyes c1 _ _ | exact hno c1 _ _
set_option maxRecDepth 100000 in
theorem choose_end {least : Int64} {chosen t : Nat} {w8 w9 : Option Value} (hN : w + 18 ≤ N) (hw : 79 ≤ w) (hk : 2 ≤ k) (hk6 : k ≤ 6) (ha : a < 25) (ht : t + k = n + 2) (hn : n ≤ 24) (hL : Ld h n A W) (hY : Wy h w B E Fe) :
    Go none RX7 cX7_choose 10 none false d 15 [some (.ref w), some (.ref 50), some (.int (nI k)), some (.int (nI a)), some (.long least), none, some (.int (nI chosen)), some (.int (nI t)), w8, w9] [] h N 0 0 (fun v h' N' => v = none ∧ N' = N ∧ Wy h' w (u2L B k a least) (u2I E k a (nI chosen)) Fe ∧ Fr (w + 2) (w + 17) h h') := by
  obtain ⟨R1, R2, y0, y1, y2, y3, y4, y5, y6, y7⟩ := id hY
  obtain ⟨⟨FA, FW, l0, l1, l2, l3, l4, l5⟩, R, r0, r1, r2⟩ := id hL
  refine go_iload dX7_choose_15 rfl ?_
  refine go_iload_n dX7_choose_17 rfl ?_
  refine go_iadd dX7_choose_18 ?_
  refine go_top (y := .int (nI (t + k))) (by rw [nI_add]) ?_
  refine go_iconst (v := nI 1) dX7_choose_19 (by decide) ?_
  refine go_isub dX7_choose_20 ?_
  refine go_top (y := .int (nI (t + k - 1))) (by rw [pk_sub (by omega)]) ?_
  refine go_aload_n dX7_choose_21 rfl ?_
  refine go_get dX7_choose_22 fX7_25 (by omega) l0 rfl ?_
  refine go_icmp_gt (tgt := 81) dX7_choose_25 (by decide) (fun c_25 => ?_) (fun c_25 => ?_)
  · skip
    refine go_aload_n dX7_choose_81 rfl ?_
    refine go_get dX7_choose_82 fX7_11 (by omega) y0 rfl ?_
    refine go_iload_n dX7_choose_85 rfl ?_
    refine go_aald dX7_choose_86 (by omega) y1 (by decide) (by decide) rfl (by omega) (by omega) (y2 k (by omega)) ?_
    refine go_iload_n dX7_choose_87 rfl ?_
    refine go_lload dX7_choose_88 rfl ?_
    refine go_last dX7_choose_90 (by omega) (y5 k (by omega)) rfl (by omega) (by omega) ?_
    refine go_aload_n dX7_choose_91 rfl ?_
    refine go_get dX7_choose_92 fX7_18 (by omega) ((hset_ne (by omega)).trans y0) rfl ?_
    refine go_iload_n dX7_choose_95 rfl ?_
    refine go_aald dX7_choose_96 (by omega) ((hset_ne (by omega)).trans y3) (by decide) (by decide) rfl (by omega) (by omega) (y4 k (by omega)) ?_
    refine go_iload_n dX7_choose_97 rfl ?_
    refine go_iload dX7_choose_98 rfl ?_
    refine go_iast dX7_choose_100 (by omega) ((hset_ne (by omega)).trans (y6 k (by omega))) rfl (by omega) (by omega) ?_
    refine go_vret dX7_choose_101 rfl ?_
    exact ⟨rfl, rfl, (hY.putB (by omega)).putE (by omega), (Fr.rf.set (by omega) (by omega)).set (by omega) (by omega)⟩
  · exact absurd (nI_lt (by omega) (by omega)) c_25
theorem choose_loop (hN : w + 18 ≤ N) (hw : 79 ≤ w) (hk : 2 ≤ k) (hk6 : k ≤ 6) (hak : a + k ≤ n) (hn : n ≤ 24) (hL : Ld h n A W) (hY : Wy h w B E Fe) : ∀ (m j : Nat) (w8 w9 : Option Value), a + k + j + m = n →
    Go none RX7 cX7_choose 10 none false d 15 [some (.ref w), some (.ref 50), some (.int (nI k)), some (.int (nI a)), some (.long (fm (cand (spr A W) Fe (B (k - 1)) a) (a + 1) j).1), none, some (.int (nI (fm (cand (spr A W) Fe (B (k - 1)) a) (a + 1) j).2)), some (.int (nI (a + 1 + j + 1))), w8, w9] [] h N 0 0 (fun v h' N' => v = none ∧ N' = N ∧ Wy h' w (u2L B k a (fm (cand (spr A W) Fe (B (k - 1)) a) (a + 1) (n - k - a)).1) (u2I E k a (nI (fm (cand (spr A W) Fe (B (k - 1)) a) (a + 1) (n - k - a)).2)) Fe ∧ Fr (w + 2) (w + 17) h h') := by
  intro m
  induction m with
  | zero =>
    intro j w8 w9 hj
    have e : n - k - a = j := by omega
    rw [e]
    exact choose_end hN hw hk hk6 (by omega) (by omega) hn hL hY
  | succ m ih =>
    intro j w8 w9 hj
    refine choose_one hN hw hk hk6 (by omega) (by omega) hn hL hY (fun q w8 w9 => ?_) (fun q w8 w9 => ?_)
    · have e : fm (cand (spr A W) Fe (B (k - 1)) a) (a + 1) (j + 1) = (cand (spr A W) Fe (B (k - 1)) a (a + 1 + j + 1), a + 1 + j + 1) := by rw [fm, if_pos q]
      have := ih (j + 1) w8 w9 (by omega)
      rw [e] at this
      exact this
    · have e : fm (cand (spr A W) Fe (B (k - 1)) a) (a + 1) (j + 1) = fm (cand (spr A W) Fe (B (k - 1)) a) (a + 1) j := by rw [fm, if_neg q]
      have := ih (j + 1) w8 w9 (by omega)
      rw [e] at this
      exact this
theorem long_max {x : Int64} (h : ¬ x < 9223372036854775807) : x = 9223372036854775807 := by
  have h1 := Int64.toInt_lt x
  have h2 : ¬ x.toInt < (9223372036854775807 : Int64).toInt := fun q => h (Int64.lt_iff_toInt_lt.mpr q)
  have h3 : (9223372036854775807 : Int64).toInt = 9223372036854775807 := by decide
  apply Int64.toInt_inj.mp
  omega
theorem run_choose (d : Nat) (hN : w + 18 ≤ N) (hw : 79 ≤ w) (hk : 2 ≤ k) (hk6 : k ≤ 6) (hak : a + k ≤ n) (hn : n ≤ 24) (hL : Ld h n A W) (hY : Wy h w B E Fe) : Run d yX7_choose cX7_choose 10 none [.ref w, .ref 50, .int (nI k), .int (nI a)] h N 0 0 (fun v h' N' => v = none ∧ N' = N ∧ Wy h' w (u2L B k a (fm (cand (spr A W) Fe (B (k - 1)) a) (a + 1) (n - k - a)).1) (u2I E k a (nI (fm (cand (spr A W) Fe (B (k - 1)) a) (a + 1) (n - k - a)).2)) Fe ∧ Fr (w + 2) (w + 17) h h') := by
  refine Run.of (ini := false) (L := [_, _, _, _, _, _, _, _, _, _]) mX7_choose (fun h => by cases h) rfl (Nat.le_of_ble_eq_true rfl) rfl ?_
  refine go_ldc2 dX7_choose_0 kX7_40 ?_
  refine go_lstore (L' := [_, _, _, _, _, _, _, _, _, _]) dX7_choose_3 (by decide) rfl ?_
  refine go_iload_n dX7_choose_5 rfl ?_
  refine go_iconst (v := nI 1) dX7_choose_6 (by decide) ?_
  refine go_iadd dX7_choose_7 ?_
  refine go_top (y := .int (nI (a + 1))) (by rw [nI_add]) ?_
  refine go_istore (L' := [_, _, _, _, _, _, _, _, _, _]) dX7_choose_8 (by decide) rfl ?_
  refine go_iload_n dX7_choose_10 rfl ?_
  refine go_iconst (v := nI 1) dX7_choose_11 (by decide) ?_
  refine go_iadd dX7_choose_12 ?_
  refine go_top (y := .int (nI (a + 1))) (by rw [nI_add]) ?_
  refine go_istore (L' := [_, _, _, _, _, _, _, _, _, _]) dX7_choose_13 (by decide) rfl ?_
  refine choose_one (t := a + 1) (chosen := a + 1) hN hw hk hk6 (by omega) (by omega) hn hL hY (fun q w8 w9 => ?_) (fun q w8 w9 => ?_)
  · exact choose_loop hN hw hk hk6 hak hn hL hY (n - k - a) 0 w8 w9 (by omega)
  · have e := long_max q
    have := choose_loop (d := d) hN hw hk hk6 hak hn hL hY (n - k - a) 0 w8 w9 (by omega)
    rw [show (fm (cand (spr A W) Fe (B (k - 1)) a) (a + 1) 0) = (9223372036854775807, a + 1) by rw [fm, e]] at this
    exact this
/-- which of the table's cells are as they shall be: all of fewer runs, of k runs those ahead of a -/
def WD (n : Nat) (S : Nat → Nat → Int64) (B : Nat → Nat → Int64) (E : Nat → Nat → Int32) (Fe : Nat → Int64) (k a : Nat) : Prop := ∀ k' a', 1 ≤ k' → k' < 7 → (k' < k ∨ (k' = k ∧ a' < a)) → a' + k' ≤ n → B k' a' = (bst n S Fe k' a').1 ∧ E k' a' = nI (bst n S Fe k' a').2
theorem WD.step {S : Nat → Nat → Int64} (hk : 2 ≤ k) (hak : a + k ≤ n) (q : WD n S B E Fe k a) : WD n S (u2L B k a (fm (cand S Fe (B (k - 1)) a) (a + 1) (n - k - a)).1) (u2I E k a (nI (fm (cand S Fe (B (k - 1)) a) (a + 1) (n - k - a)).2)) Fe k (a + 1) := by
  intro k' a' h1 h7 h2 h3
  by_cases e : k' = k ∧ a' = a
  · obtain ⟨rfl, rfl⟩ := e
    rw [u2L_s, u2I_s]
    obtain ⟨j, rfl⟩ : ∃ j, k' = j + 2 := ⟨k' - 2, by omega⟩
    have hc : fm (cand S Fe (B (j + 2 - 1)) a') (a' + 1) (n - (j + 2) - a') = bst n S Fe (j + 2) a' := by
      rw [bst]
      apply fm_cong
      intro t ht1 ht2
      unfold cand
      rw [show j + 2 - 1 = j + 1 by omega, (q (j + 1) t (by omega) (by omega) (by omega) (by omega)).1]
    rw [hc]
    exact ⟨rfl, rfl⟩
  · have hne : k' ≠ k ∨ a' ≠ a := by
      by_cases q2 : k' = k
      · exact Or.inr (fun q3 => e ⟨q2, q3⟩)
      · exact Or.inl q2
    rw [u2L_n hne, u2I_n hne]
    exact q k' a' h1 h7 (by omega) h3
end WaysC
section WaysB
variable {d N n w K : Nat} {A W : Nat → Nat} {Fe : Nat → Int64}
set_option maxRecDepth 100000 in
theorem wb_inner {k : Nat} (hN : w + 18 ≤ N) (hw : 79 ≤ w) (hk : 2 ≤ k) (hk6 : k ≤ 6) (hn : n ≤ 24) {Q : Option Value → gH → Nat → Prop} {h0 : gH}
    (hq : ∀ (h : gH) (B : Nat → Nat → Int64) (E : Nat → Nat → Int32) (w5 : Option Value), Ld h n A W → Wy h w B E Fe → WD n (spr A W) B E Fe (k + 1) 0 → Fr (w + 2) (w + 17) h0 h → Go none RX7 cX7_build 6 none false (d + 1) 51 [some (.ref w), some (.ref 50), some (.int (nI K)), some (.int (nI n)), some (.int (nI (k + 1))), w5] [] h N 0 0 Q) :
    ∀ (m a : Nat) (h : gH) (B : Nat → Nat → Int64) (E : Nat → Nat → Int32), (a + k + m = n + 1 ∨ (m = 0 ∧ n < a + k ∧ a = 0)) → Ld h n A W → Wy h w B E Fe → WD n (spr A W) B E Fe k a → Fr (w + 2) (w + 17) h0 h → Go none RX7 cX7_build 6 none false (d + 1) 67 [some (.ref w), some (.ref 50), some (.int (nI K)), some (.int (nI n)), some (.int (nI k)), some (.int (nI a))] [] h N 0 0 Q := by
  intro m
  induction m with
  | zero =>
    intro a h B E hm hL hY hD hF
    refine go_iload dX7_build_67 rfl ?_
    refine go_iload dX7_build_69 rfl ?_
    refine go_iadd dX7_build_71 ?_
    refine go_top (y := .int (nI (a + k))) (by rw [nI_add]) ?_
    refine go_iload_n dX7_build_72 rfl ?_
    refine go_icmp_gt (tgt := 91) dX7_build_73 (by decide) (fun c_73 => ?_) (fun c_73 => ?_)
    · skip
      refine go_inc (L' := [_, _, _, _, _, _]) dX7_build_91 rfl (by decide) rfl ?_
      refine go_goto (tgt := 51) dX7_build_94 (by decide) ?_
      exact hq h B E _ hL hY (fun k' a' h1 h7 h2 h3 => hD k' a' h1 h7 (by omega) h3) hF
    · exact absurd (nI_lt (by omega) (by omega)) c_73
  | succ m ih =>
    intro a h B E hm hL hY hD hF
    obtain ⟨R1, R2, y0, -⟩ := id hY
    refine go_iload dX7_build_67 rfl ?_
    refine go_iload dX7_build_69 rfl ?_
    refine go_iadd dX7_build_71 ?_
    refine go_top (y := .int (nI (a + k))) (by rw [nI_add]) ?_
    refine go_iload_n dX7_build_72 rfl ?_
    refine go_icmp_gt (tgt := 91) dX7_build_73 (by decide) (fun c_73 => ?_) (fun c_73 => ?_)
    · exact absurd ((nI_ltI (by omega) (by omega)).mp c_73) (by omega)
    · skip
      refine go_aload_n dX7_build_76 rfl ?_
      refine go_aload_n dX7_build_77 rfl ?_
      refine go_iload dX7_build_78 rfl ?_
      refine go_iload dX7_build_80 rfl ?_
      refine go_iv dX7_build_82 mX7_choose iX7_34 (run_choose d hN hw hk hk6 (by omega) hn hL hY) rfl rfl (by omega) y0 rfl (Nat.le_of_ble_eq_true rfl) (Nat.zero_le _) (Nat.zero_le _) (fun v_82 h_82 n_82 q_82 => ?_)
      obtain ⟨rfl, rfl, hY1, hF1⟩ := q_82
      refine go_inc (L' := [_, _, _, _, _, _]) dX7_build_85 rfl (by decide) rfl ?_
      refine go_goto (tgt := 67) dX7_build_88 (by decide) ?_
      exact ih (a + 1) _ _ _ (by omega) (hL.fr hF1 (by omega)) hY1 (hD.step hk (by omega)) (hF.trans hF1)
set_option maxRecDepth 100000 in
theorem wb_outer (hN : w + 18 ≤ N) (hw : 79 ≤ w) (hK : K ≤ 6) (hn : n ≤ 24) {h0 : gH} : ∀ (m k : Nat) (h : gH) (B : Nat → Nat → Int64) (E : Nat → Nat → Int32) (w5 : Option Value), 2 ≤ k → (k + m = K + 1 ∨ (m = 0 ∧ K < k ∧ k = 2)) → Ld h n A W → Wy h w B E Fe → WD n (spr A W) B E Fe k 0 → Fr (w + 2) (w + 17) h0 h → Go none RX7 cX7_build 6 none false (d + 1) 51 [some (.ref w), some (.ref 50), some (.int (nI K)), some (.int (nI n)), some (.int (nI k)), w5] [] h N 0 0 (fun v h' N' => v = none ∧ N' = N ∧ (∃ B E, Wy h' w B E Fe ∧ WD n (spr A W) B E Fe (K + 1) 0) ∧ Fr (w + 2) (w + 17) h0 h') := by
  intro m
  induction m with
  | zero =>
    intro k h B E w5 hk2 hm hL hY hD hF
    refine go_iload dX7_build_51 rfl ?_
    refine go_iload_n dX7_build_53 rfl ?_
    refine go_icmp_gt (tgt := 97) dX7_build_54 (by decide) (fun c_54 => ?_) (fun c_54 => ?_)
    · skip
      refine go_vret dX7_build_97 rfl ?_
      exact ⟨rfl, rfl, ⟨B, E, hY, fun k' a' h1 h7 h2 h3 => hD k' a' h1 h7 (by omega) h3⟩, hF⟩
    · exact absurd (nI_lt (by omega) (by omega)) c_54
  | succ m ih =>
    intro k h B E w5 hk2 hm hL hY hD hF
    refine go_iload dX7_build_51 rfl ?_
    refine go_iload_n dX7_build_53 rfl ?_
    refine go_icmp_gt (tgt := 97) dX7_build_54 (by decide) (fun c_54 => ?_) (fun c_54 => ?_)
    · exact absurd ((nI_ltI (by omega) (by omega)).mp c_54) (by omega)
    · skip
      refine go_iload dX7_build_57 rfl ?_
      refine go_bipush (v := nI 6) dX7_build_59 (by decide) ?_
      refine go_icmp_gt (tgt := 97) dX7_build_61 (by decide) (fun c_61 => ?_) (fun c_61 => ?_)
      · exact absurd ((nI_ltI (by omega) (by omega)).mp c_61) (by omega)
      · skip
        refine go_iconst (v := nI 0) dX7_build_64 (by decide) ?_
        refine go_istore (L' := [_, _, _, _, _, _]) dX7_build_65 (by decide) rfl ?_
        exact wb_inner hN hw hk2 (by omega) hn (fun h1 B1 E1 w6 q1 q2 q3 q4 => ih (k + 1) h1 B1 E1 w6 (by omega) (by omega) q1 q2 q3 q4) (n + 1 - k) 0 h B E (by omega) hL hY hD hF
set_option maxRecDepth 100000 in
theorem wb_first (hN : w + 18 ≤ N) (hw : 79 ≤ w) (hK1 : 1 ≤ K) (hK : K ≤ 6) (hn : n ≤ 24) {h0 : gH} : ∀ (m a : Nat) (h : gH) (B : Nat → Nat → Int64) (E : Nat → Nat → Int32), a + m = n → Ld h n A W → Wy h w B E Fe → WD n (spr A W) B E Fe 1 a → Fr (w + 2) (w + 17) h0 h → Go none RX7 cX7_build 6 none false (d + 1) 8 [some (.ref w), some (.ref 50), some (.int (nI K)), some (.int (nI n)), some (.int (nI a)), none] [] h N 0 0 (fun v h' N' => v = none ∧ N' = N ∧ (∃ B E, Wy h' w B E Fe ∧ WD n (spr A W) B E Fe (K + 1) 0) ∧ Fr (w + 2) (w + 17) h0 h') := by
  intro m
  induction m with
  | zero =>
    intro a h B E hm hL hY hD hF
    refine go_iload dX7_build_8 rfl ?_
    refine go_iload_n dX7_build_10 rfl ?_
    refine go_icmp_ge (tgt := 48) dX7_build_11 (by decide) (fun c_11 => ?_) (fun c_11 => ?_)
    · skip
      refine go_iconst (v := nI 2) dX7_build_48 (by decide) ?_
      refine go_istore (L' := [_, _, _, _, _, _]) dX7_build_49 (by decide) rfl ?_
      exact wb_outer hN hw hK hn (K - 1) 2 h B E none (by omega) (by omega) hL hY (fun k' a' h1 h7 h2 h3 => hD k' a' h1 h7 (by omega) h3) hF
    · exact absurd (nI_le (by omega) (by omega)) c_11
  | succ m ih =>
    intro a h B E hm hL hY hD hF
    obtain ⟨R1, R2, y0, y1, y2, y3, y4, y5, y6, y7⟩ := id hY
    obtain ⟨⟨FA, FW, l0, l1, l2, l3, l4, l5⟩, R, r0, r1, r2⟩ := id hL
    obtain ⟨F, f0, f1⟩ := r2 a (by omega)
    refine go_iload dX7_build_8 rfl ?_
    refine go_iload_n dX7_build_10 rfl ?_
    refine go_icmp_ge (tgt := 48) dX7_build_11 (by decide) (fun c_11 => ?_) (fun c_11 => ?_)
    · exact absurd c_11 (nI_ge (by omega) (by omega))
    · skip
      refine go_aload_n dX7_build_14 rfl ?_
      refine go_get dX7_build_15 fX7_11 (by omega) y0 rfl ?_
      refine go_iconst (v := nI 1) dX7_build_18 (by decide) ?_
      refine go_aald dX7_build_19 (by omega) y1 (by decide) (by decide) rfl (by omega) (by omega) (y2 1 (by omega)) ?_
      refine go_iload dX7_build_20 rfl ?_
      refine go_aload_n dX7_build_22 rfl ?_
      refine go_get dX7_build_23 fX7_31 (by omega) l0 rfl ?_
      refine go_iload dX7_build_26 rfl ?_
      refine go_aald dX7_build_28 (by omega) r0 (by decide) (by decide) rfl (by omega) (by omega) (r1 a (by omega)) ?_
      refine go_iload_n dX7_build_29 rfl ?_
      refine go_lald dX7_build_30 (by omega) f0 rfl (by omega) (by omega) ?_
      refine go_top (y := .long (spr A W a n)) (by rw [f1 n (by omega) (by omega) (by omega)]) ?_
      refine go_last dX7_build_31 (by omega) (y5 1 (by omega)) rfl (by omega) (by omega) ?_
      refine go_aload_n dX7_build_32 rfl ?_
      refine go_get dX7_build_33 fX7_18 (by omega) ((hset_ne (by omega)).trans y0) rfl ?_
      refine go_iconst (v := nI 1) dX7_build_36 (by decide) ?_
      refine go_aald dX7_build_37 (by omega) ((hset_ne (by omega)).trans y3) (by decide) (by decide) rfl (by omega) (by omega) (y4 1 (by omega)) ?_
      refine go_iload dX7_build_38 rfl ?_
      refine go_iload_n dX7_build_40 rfl ?_
      refine go_iast dX7_build_41 (by omega) ((hset_ne (by omega)).trans (y6 1 (by omega))) rfl (by omega) (by omega) ?_
      refine go_inc (L' := [_, _, _, _, _, _]) dX7_build_42 rfl (by decide) rfl ?_
      refine go_goto (tgt := 8) dX7_build_45 (by decide) ?_
      have fr : Fr (w + 2) (w + 17) h (hset (hset h (w + 2 + 1) (.inl (1, 25, .inr (.inl (vp_updL (B 1) a (spr A W a n)))))) (w + 10 + 1) (.inl (0, 25, .inl (upd (E 1) a (nI n))))) := (Fr.rf.set (by omega) (by omega)).set (by omega) (by omega)
      refine ih (a + 1) _ _ _ (by omega) (hL.fr fr (by omega)) ((hY.putB (by omega)).putE (by omega)) ?_ (hF.trans fr)
      intro k' a' h1 h7 h2 h3
      by_cases e : k' = 1 ∧ a' = a
      · obtain ⟨rfl, rfl⟩ := e
        rw [u2L_s, u2I_s]
        exact ⟨rfl, rfl⟩
      · have hne : k' ≠ 1 ∨ a' ≠ a := by omega
        rw [u2L_n hne, u2I_n hne]
        exact hD k' a' h1 h7 (by omega) h3
theorem run_wbuild (d : Nat) {h : gH} {B : Nat → Nat → Int64} {E : Nat → Nat → Int32} (hN : w + 18 ≤ N) (hw : 79 ≤ w) (hK1 : 1 ≤ K) (hK : K ≤ 6) (hL : Ld h n A W) (hY : Wy h w B E Fe) : Run (d + 1) yX7_build cX7_build 6 none [.ref w, .ref 50, .int (nI K)] h N 0 0 (fun v h' N' => v = none ∧ N' = N ∧ (∃ B E, Wy h' w B E Fe ∧ WD n (spr A W) B E Fe (K + 1) 0) ∧ Fr (w + 2) (w + 17) h h') := by
  obtain ⟨⟨FA, FW, l0, l1, l2, l3, l4, l5⟩, -⟩ := id hL
  refine Run.of (ini := false) (L := [_, _, _, _, _, _]) mX7_build (fun h => by cases h) rfl (Nat.le_of_ble_eq_true rfl) rfl ?_
  refine go_aload_n dX7_build_0 rfl ?_
  refine go_get dX7_build_1 fX7_25 (by omega) l0 rfl ?_
  refine go_istore_n (L' := [_, _, _, _, _, _]) dX7_build_4 rfl (by decide) rfl ?_
  refine go_iconst (v := nI 0) dX7_build_5 (by decide) ?_
  refine go_istore (L' := [_, _, _, _, _, _]) dX7_build_6 (by decide) rfl ?_
  exact wb_first hN hw hK1 hK (by omega) n 0 h B E (by omega) hL hY (fun k' a' h1 h7 h2 h3 => absurd h2 (by omega)) Fr.rf
set_option maxRecDepth 100000 in
theorem fo_loop {p K r : Nat} {B : Nat → Nat → Int64} {E : Nat → Nat → Int32} {h0 : gH} (hw : 79 ≤ w) (hp : w + 18 ≤ p) (hN : p + 2 ≤ N) (hrK : r ≤ K) (hK : K ≤ 6) (hr : r ≤ n) (hn : n ≤ 24) (hD : WD n (spr A W) B E Fe (K + 1) 0) : ∀ (m i : Nat) (h : gH) (F : Nat → Int32) (w7 : Option Value), i + m = r → Ld h n A W → Wy h w B E Fe → h p = .inr (5, [.ref (p + 1), .int (nI r), .long (tot n (spr A W) Fe r i)]) → h (p + 1) = .inl (0, 6, .inl F) → (∀ x, x < i → F x = nI (bg n (spr A W) Fe r x)) → Fr p (p + 2) h0 h → Go none RX7 cX7_follow 8 none false (d + 1) 27 [some (.ref w), some (.ref 50), some (.int (nI K)), some (.ref p), some (.int (nI r)), some (.int (nI (bg n (spr A W) Fe r i))), some (.int (nI i)), w7] [] h N 0 0 (fun v h' N' => v = none ∧ N' = N ∧ Pg h' p (r, bg n (spr A W) Fe r, tot n (spr A W) Fe r r) ∧ Fr p (p + 2) h0 h') := by
  intro m
  induction m with
  | zero =>
    intro i h F w7 hm hL hY q0 q1 hF hfr
    have e : i = r := by omega
    subst e
    refine go_iload dX7_follow_27 rfl ?_
    refine go_iload dX7_follow_29 rfl ?_
    refine go_icmp_ge (tgt := 103) dX7_follow_31 (by decide) (fun c_31 => ?_) (fun c_31 => ?_)
    · skip
      refine go_vret dX7_follow_103 rfl ?_
      exact ⟨rfl, rfl, ⟨F, q0, q1, by show i ≤ 6; omega, hF⟩, hfr⟩
    · exact absurd (nI_le (Nat.le_refl _) (by omega)) c_31
  | succ m ih =>
    intro i h F w7 hm hL hY q0 q1 hF hfr
    obtain ⟨R1, R2, y0, y1, y2, y3, y4, y5, y6, y7⟩ := id hY
    obtain ⟨⟨FA, FW, l0, l1, l2, l3, l4, l5⟩, R, r0, r1, r2⟩ := id hL
    have hb := bg_in (n := n) (S := spr A W) (fee := Fe) hr (i := i) (by omega)
    have hb2 := bg_lt (n := n) (S := spr A W) (fee := Fe) hr (i := i) (by omega)
    have hb3 := bg_in (n := n) (S := spr A W) (fee := Fe) hr (i := i + 1) (by omega)
    have hE := (hD (r - i) (bg n (spr A W) Fe r i) (by omega) (by omega) (by omega) (by omega)).2
    obtain ⟨FS, f0, f1⟩ := r2 (bg n (spr A W) Fe r i) (by omega)
    refine go_iload dX7_follow_27 rfl ?_
    refine go_iload dX7_follow_29 rfl ?_
    refine go_icmp_ge (tgt := 103) dX7_follow_31 (by decide) (fun c_31 => ?_) (fun c_31 => ?_)
    · exact absurd c_31 (nI_ge (by omega) (by omega))
    · skip
      refine go_iload dX7_follow_34 rfl ?_
      refine go_bipush (v := nI 6) dX7_follow_36 (by decide) ?_
      refine go_icmp_ge (tgt := 103) dX7_follow_38 (by decide) (fun c_38 => ?_) (fun c_38 => ?_)
      · exact absurd c_38 (nI_ge (by omega) (by omega))
      · skip
        refine go_iload dX7_follow_41 rfl ?_
        refine go_aload_n dX7_follow_43 rfl ?_
        refine go_get dX7_follow_44 fX7_25 (by omega) l0 rfl ?_
        refine go_icmp_ge (tgt := 103) dX7_follow_47 (by decide) (fun c_47 => ?_) (fun c_47 => ?_)
        · exact absurd c_47 (nI_ge (by omega) (by omega))
        · skip
          refine go_aload_n dX7_follow_50 rfl ?_
          refine go_get dX7_follow_51 fX7_18 (by omega) y0 rfl ?_
          refine go_iload dX7_follow_54 rfl ?_
          refine go_iload dX7_follow_56 rfl ?_
          refine go_isub dX7_follow_58 ?_
          refine go_top (y := .int (nI (r - i))) (by rw [pk_sub (by omega)]) ?_
          refine go_aald dX7_follow_59 (by omega) y3 (by decide) (by decide) rfl (by omega) (by omega) (y4 (r - i) (by omega)) ?_
          refine go_iload dX7_follow_60 rfl ?_
          refine go_iald dX7_follow_62 (by omega) (y6 (r - i) (by omega)) rfl (by omega) (by omega) ?_
          refine go_top (y := .int (nI (bg n (spr A W) Fe r (i + 1)))) (by rw [hE]; rfl) ?_
          refine go_istore (L' := [_, _, _, _, _, _, _, _]) dX7_follow_63 (by decide) rfl ?_
          refine go_aload_n dX7_follow_65 rfl ?_
          refine go_get dX7_follow_66 fX7_57 (by omega) q0 rfl ?_
          refine go_iload dX7_follow_69 rfl ?_
          refine go_iload dX7_follow_71 rfl ?_
          refine go_iast dX7_follow_73 (by omega) q1 rfl (by omega) (by omega) ?_
          refine go_aload_n dX7_follow_74 rfl ?_
          refine go_dup dX7_follow_75 rfl ?_
          refine go_get dX7_follow_76 fX7_53 (by omega) ((hset_ne (by omega)).trans q0) rfl ?_
          refine go_aload_n dX7_follow_79 rfl ?_
          refine go_get dX7_follow_80 fX7_31 (by omega) ((hset_ne (by omega)).trans l0) rfl ?_
          refine go_iload dX7_follow_83 rfl ?_
          refine go_aald dX7_follow_85 (by omega) ((hset_ne (by omega)).trans r0) (by decide) (by decide) rfl (by omega) (by omega) (r1 _ (by omega)) ?_
          refine go_iload dX7_follow_86 rfl ?_
          refine go_lald dX7_follow_88 (by omega) ((hset_ne (by omega)).trans f0) rfl (by omega) (by omega) ?_
          refine go_top (y := .long (spr A W (bg n (spr A W) Fe r i) (bg n (spr A W) Fe r (i + 1)))) (by rw [f1 _ (by omega) hb2 (by omega)]) ?_
          refine go_ladd dX7_follow_89 ?_
          refine go_put (fs' := [_, _, _]) dX7_follow_90 fX7_53 (by omega) ((hset_ne (by omega)).trans q0) (Nat.le_of_ble_eq_true rfl) rfl ⟨_, _, _, rfl, Or.inl rfl⟩ rfl ?_
          refine go_iload dX7_follow_93 rfl ?_
          refine go_istore (L' := [_, _, _, _, _, _, _, _]) dX7_follow_95 (by decide) rfl ?_
          refine go_inc (L' := [_, _, _, _, _, _, _, _]) dX7_follow_97 rfl (by decide) rfl ?_
          refine go_goto (tgt := 27) dX7_follow_100 (by decide) ?_
          have fr : Fr p (p + 2) h (hset (hset h (p + 1) (.inl (0, 6, .inl (upd F i (nI (bg n (spr A W) Fe r i)))))) p (.inr (5, [.ref (p + 1), .int (nI r), .long (tot n (spr A W) Fe r i + spr A W (bg n (spr A W) Fe r i) (bg n (spr A W) Fe r (i + 1)))]))) := (Fr.rf.set (by omega) (by omega)).set (by omega) (by omega)
          refine ih (i + 1) _ _ _ (by omega) (hL.fr fr (by omega)) (hY.fr fr (by omega)) hset_same ((hset_ne (by omega)).trans hset_same) (fun x hx => ?_) (hfr.trans fr)
          by_cases e : x = i
          · subst e; rw [pk_us]
          · rw [pk_un e]; exact hF x (by omega)
theorem run_follow (d : Nat) {p : Nat} {B : Nat → Nat → Int64} {E : Nat → Nat → Int32} {h : gH} {pd : PD} (hw : 79 ≤ w) (hp : w + 18 ≤ p) (hN : p + 2 ≤ N) (hK : K ≤ 6) (hD : WD n (spr A W) B E Fe (K + 1) 0) (hL : Ld h n A W) (hY : Wy h w B E Fe) (hP : Pg h p pd) : Run (d + 1) yX7_follow cX7_follow 8 none [.ref w, .ref 50, .int (nI K), .ref p] h N 0 0 (fun v h' N' => v = none ∧ N' = N ∧ Pg h' p (min K n, bg n (spr A W) Fe (min K n), tot n (spr A W) Fe (min K n) (min K n)) ∧ Fr p (p + 2) h h') := by
  obtain ⟨⟨FA, FW, l0, l1, l2, l3, l4, l5⟩, -⟩ := id hL
  obtain ⟨F, q0, q1, q2, q3⟩ := id hP
  refine Run.of (ini := false) (L := [_, _, _, _, _, _, _, _]) mX7_follow (fun h => by cases h) rfl (Nat.le_of_ble_eq_true rfl) rfl ?_
  refine go_iload_n dX7_follow_0 rfl ?_
  refine go_aload_n dX7_follow_1 rfl ?_
  refine go_get dX7_follow_2 fX7_25 (by omega) l0 rfl ?_
  refine go_min dX7_follow_5 iX7_42 (Nat.le_of_ble_eq_true rfl) ?_
  refine go_top (y := .int (nI (min K n))) ?_ ?_
  · by_cases e : n < K
    · rw [if_pos (nI_lt e (by omega)), show min K n = n by omega]
    · rw [if_neg (nI_nlt (by omega) (by omega)), show min K n = K by omega]
  refine go_istore (L' := [_, _, _, _, _, _, _, _]) dX7_follow_8 (by decide) rfl ?_
  refine go_aload_n dX7_follow_10 rfl ?_
  refine go_iload dX7_follow_11 rfl ?_
  refine go_put (fs' := [_, _, _]) dX7_follow_13 fX7_48 (by omega) q0 (Nat.le_of_ble_eq_true rfl) (Or.inl rfl) ⟨_, _, _, rfl, Or.inl rfl⟩ rfl ?_
  refine go_aload_n dX7_follow_16 rfl ?_
  refine go_lconst (v := lN 0) dX7_follow_17 rfl ?_
  refine go_put (fs' := [_, _, _]) dX7_follow_18 fX7_53 (by omega) hset_same (Nat.le_of_ble_eq_true rfl) rfl ⟨_, _, _, rfl, Or.inl rfl⟩ rfl ?_
  refine go_iconst (v := nI 0) dX7_follow_21 (by decide) ?_
  refine go_istore (L' := [_, _, _, _, _, _, _, _]) dX7_follow_22 (by decide) rfl ?_
  refine go_iconst (v := nI 0) dX7_follow_24 (by decide) ?_
  refine go_istore (L' := [_, _, _, _, _, _, _, _]) dX7_follow_25 (by decide) rfl ?_
  rw [hset_hset]
  have fr : ∀ y, Fr p (p + 2) h (hset h p y) := fun y => Fr.rf.set (by omega) (by omega)
  exact fo_loop (d := d) (r := min K n) hw hp hN (by omega) hK (by omega) l3 hD (min K n) 0 _ F none (by omega) (hL.fr (fr _) (by omega)) (hY.fr (fr _) (by omega)) hset_same ((hset_ne (by omega)).trans q1) (fun x hx => absurd hx (by omega)) (fr _)
set_option maxRecDepth 100000 in
theorem run_ways (d : Nat) {w : Nat} {h : gH} (h0 : h w = .inr (7, [.null, .null, .null])) : Run (d + 1) yX7_init cX7_init 1 none [.ref w] h (w + 1) 17 389 (fun v h' N' => v = none ∧ N' = w + 18 ∧ Wy h' w (fun _ _ => 0) (fun _ _ => 0) (fun _ => 0) ∧ Fr w (w + 18) h h') := by
  refine Run.of (ini := true) (L := [_]) mX7_init (fun h => rfl) rfl (Nat.le_of_ble_eq_true rfl) rfl ?_
  refine go_aload_n dX7_init_0 rfl ?_
  refine go_obj dX7_init_1 oX7 (Nat.le_of_ble_eq_true rfl) ?_
  refine go_aload_n dX7_init_4 rfl ?_
  refine go_bipush (v := nI 7) dX7_init_5 (by decide) ?_
  refine go_bipush (v := nI 25) dX7_init_7 (by decide) ?_
  refine go_mna (n := 7) (w := 25) (kd := 6) (ki := 1) (ty := .long) dX7_init_9 nX7_9 ac_long (Or.inr ⟨rfl, rfl, rfl, rfl⟩) rfl rfl (by omega) (by omega) (by decide) (by decide) ?_
  have hg : ∀ (h : gH) (z : gC) (M kd j : Nat), (j < M ∨ M + 8 ≤ j) → hgrid h M 7 kd z j = h j := fun h z M kd j hj => by unfold hgrid; rw [if_neg (by omega), if_neg (by omega)]
  have hg1 : ∀ (h : gH) (z : gC) (M kd i : Nat), i < 7 → hgrid h M 7 kd z (M + 1 + i) = z := fun h z M kd i hi => by unfold hgrid; rw [if_neg (by omega), if_pos (by omega)]
  have hg0 : ∀ (h : gH) (z : gC) (M kd : Nat), hgrid h M 7 kd z M = .inl (kd, 7, .inr (.inr (.inr (.inr (fun i => if i < 7 then some (M + 1 + i) else none))))) := fun h z M kd => by unfold hgrid; rw [if_pos rfl]
  refine go_put (fs' := [_, _, _]) dX7_init_13 fX7_11 (by omega) ((hg _ _ _ _ _ (by omega)).trans h0) (Nat.le_of_ble_eq_true rfl) rfl ⟨_, _, _, rfl, Or.inr ⟨rfl, rfl, rfl⟩⟩ rfl ?_
  refine go_aload_n dX7_init_16 rfl ?_
  refine go_bipush (v := nI 7) dX7_init_17 (by decide) ?_
  refine go_bipush (v := nI 25) dX7_init_19 (by decide) ?_
  refine go_mna (n := 7) (w := 25) (kd := 5) (ki := 0) (ty := .int) dX7_init_21 nX7_16 ac_int (Or.inl ⟨rfl, rfl, rfl, rfl⟩) rfl rfl (by omega) (by omega) (by decide) (by decide) ?_
  refine go_put (fs' := [_, _, _]) dX7_init_25 fX7_18 (by omega) ((hg _ _ _ _ _ (by omega)).trans hset_same) (Nat.le_of_ble_eq_true rfl) rfl ⟨_, _, _, rfl, Or.inr ⟨rfl, rfl, rfl⟩⟩ rfl ?_
  refine go_aload_n dX7_init_28 rfl ?_
  refine go_bipush (v := nI 25) dX7_init_29 (by decide) ?_
  refine go_newJ (n := 25) dX7_init_31 rfl (by omega) (by decide) (by decide) ?_
  refine go_put (fs' := [_, _, _]) dX7_init_33 fX7_21 (by omega) ((hset_ne (by omega)).trans hset_same) (Nat.le_of_ble_eq_true rfl) rfl ⟨_, _, _, rfl, Or.inr ⟨rfl, rfl, rfl⟩⟩ rfl ?_
  refine go_vret dX7_init_36 rfl ?_
  refine ⟨rfl, rfl, ⟨fun i => if i < 7 then some (w + 1 + 1 + i) else none, fun i => if i < 7 then some (w + 1 + 1 + 7 + 1 + i) else none, hset_same, ?_, fun i hi => ?_, ?_, fun i hi => ?_, fun i hi => ?_, fun i hi => ?_, ?_⟩, fun x hx => ?_⟩
  · rw [hset_ne (by omega), hset_ne (by omega), hset_ne (by omega), hg _ _ _ _ _ (by omega), hset_ne (by omega), hg0]
  · show (if i < 7 then some (w + 1 + 1 + i) else none) = _; rw [if_pos hi]
  · rw [hset_ne (by omega), hset_ne (by omega), hset_ne (by omega), show w + 9 = w + 1 + 1 + 7 by omega, hg0]
  · show (if i < 7 then some (w + 1 + 1 + 7 + 1 + i) else none) = _; rw [if_pos hi, show w + 1 + 1 + 7 + 1 + i = w + 10 + i by omega]
  · rw [hset_ne (by omega), hset_ne (by omega), hset_ne (by omega), hg _ _ _ _ _ (by omega), hset_ne (by omega), show w + 2 + i = w + 1 + 1 + i by omega, hg1 _ _ _ _ _ hi]
  · rw [hset_ne (by omega), hset_ne (by omega), hset_ne (by omega), show w + 10 + i = w + 1 + 1 + 7 + 1 + i by omega, hg1 _ _ _ _ _ hi]
  · rw [hset_ne (by omega), show w + 17 = w + 1 + 1 + 7 + 1 + 7 by omega, hset_same]
  · rw [hset_ne (by omega), hset_ne (by omega), hset_ne (by omega), hg _ _ _ _ _ (by omega), hset_ne (by omega), hg _ _ _ _ _ (by omega)]
end WaysB
