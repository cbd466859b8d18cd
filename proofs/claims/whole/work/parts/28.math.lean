/-! ===== spreads as numbers ===== -/
theorem super_id (w1 w2 s1 s2 P1 P2 P : Int) (L : Int) (h1 : w1 * P1 = L) (h2 : w2 * P2 = L) (h3 : (w1 + w2) * P = L) : w1 * w2 * (w1 + w2) * (s1 * s1 * P1 + s2 * s2 * P2 - (s1 + s2) * (s1 + s2) * P) = L * ((s1 * w2 - s2 * w1) * (s1 * w2 - s2 * w1)) := by
  have e1 : w1 * w2 * (w1 + w2) * (s1 * s1 * P1 + s2 * s2 * P2 - (s1 + s2) * (s1 + s2) * P) = (w1 * P1) * (w2 * (w1 + w2) * (s1 * s1)) + (w2 * P2) * (w1 * (w1 + w2) * (s2 * s2)) - ((w1 + w2) * P) * (w1 * w2 * ((s1 + s2) * (s1 + s2))) := by grind
  rw [e1, h1, h2, h3]
  grind
theorem sq_nn (x : Int) : 0 ≤ x * x := by
  rcases Int.le_total 0 x with h | h
  · exact Int.mul_nonneg h h
  · exact Int.mul_nonneg_of_nonpos_of_nonpos h h
theorem super_le {w1 w2 s1 s2 P1 P2 P L : Int} (hw1 : 0 < w1) (hw2 : 0 < w2) (hL : 0 ≤ L) (h1 : w1 * P1 = L) (h2 : w2 * P2 = L) (h3 : (w1 + w2) * P = L) : (s1 + s2) * (s1 + s2) * P ≤ s1 * s1 * P1 + s2 * s2 * P2 := by
  have e := super_id w1 w2 s1 s2 P1 P2 P L h1 h2 h3
  have hn : 0 ≤ L * ((s1 * w2 - s2 * w1) * (s1 * w2 - s2 * w1)) := Int.mul_nonneg hL (sq_nn _)
  rw [← e] at hn
  have hp : 0 < w1 * w2 * (w1 + w2) := Int.mul_pos (Int.mul_pos hw1 hw2) (by omega)
  have : 0 ≤ s1 * s1 * P1 + s2 * s2 * P2 - (s1 + s2) * (s1 + s2) * P := by
    rcases Int.lt_or_le (s1 * s1 * P1 + s2 * s2 * P2 - (s1 + s2) * (s1 + s2) * P) 0 with z | z
    · have := Int.mul_neg_of_pos_of_neg hp z
      omega
    · exact z
  omega
theorem top_le {w s q P L : Int} (hP : 0 ≤ P) (h1 : w * P = L) (hL : 0 ≤ L) (hq : q ≤ 999 * s) : 4 * (q * L - s * s * P) ≤ 998001 * (w * L) := by
  have h2 : q * L ≤ 999 * s * L := Int.mul_le_mul_of_nonneg_right hq hL
  have h3 : 998001 * (w * L) - 4 * (999 * s * L - s * s * P) = ((999 * w - 2 * s) * (999 * w - 2 * s)) * P := by rw [← h1]; grind
  have h4 : 0 ≤ ((999 * w - 2 * s) * (999 * w - 2 * s)) * P := Int.mul_nonneg (sq_nn _) hP
  omega
/-- the numbers that are sorted, and their weights -/
def AW (n : Nat) (A W : Nat → Nat) : Prop := (∀ i, i < n → A i ≤ 999) ∧ (∀ i, i < n → 0 < W i) ∧ sm W 0 n ≤ 24
theorem so_AW {c : CD} (hw : CW c) : AW (so c.1).1 (so c.1).2.1 (so c.1).2.2 := ⟨so_le hw.1, so_pos c.1, so_tot hw.2.1⟩
theorem pd_div {w : Nat} (h1 : 1 ≤ w) (h2 : w ≤ 24) : (w : Int) * ((5354228880 / w : Nat) : Int) = 5354228880 := by
  have := parts_div w (by omega) (by omega)
  rw [← Int.natCast_mul, this]
  rfl
theorem spr_super {n : Nat} {A W : Nat → Nat} (H : AW n A W) {a b c : Nat} (hab : a < b) (hbc : b < c) (hc : c ≤ n) : (spr A W a b).toInt + (spr A W b c).toInt ≤ (spr A W a c).toInt := by
  obtain ⟨-, -, e1, w1, w1'⟩ := spr_int hab (Nat.le_of_lt (Nat.lt_of_lt_of_le hbc hc)) H.1 H.2.1 H.2.2
  obtain ⟨-, -, e2, w2, w2'⟩ := spr_int hbc hc H.1 H.2.1 H.2.2
  obtain ⟨-, -, e3, w3, w3'⟩ := spr_int (Nat.lt_trans hab hbc) hc H.1 H.2.1 H.2.2
  have sp : ∀ f : Nat → Nat, sm f a (c - a) = sm f a (b - a) + sm f b (c - b) := by
    intro f
    have := sm_split f a (b - a) (c - b)
    rw [show b - a + (c - b) = c - a by omega, show a + (b - a) = b by omega] at this
    exact this
  have p1 := pd_div w1 w1'
  have p2 := pd_div w2 w2'
  have p3 := pd_div w3 w3'
  rw [e1, e2, e3]
  rw [sp W] at p3 ⊢
  rw [sp (fun i => W i * A i), sp (fun i => W i * A i * A i)]
  have key := super_le (w1 := (sm W a (b - a) : Int)) (w2 := (sm W b (c - b) : Int)) (s1 := (sm (fun i => W i * A i) a (b - a) : Int)) (s2 := (sm (fun i => W i * A i) b (c - b) : Int)) (L := 5354228880) (by omega) (by omega) (by omega) p1 p2 (by rw [← Int.natCast_add]; exact p3)
  simp only [Int.natCast_mul, Int.natCast_add]
  omega
theorem spr_one {n : Nat} {A W : Nat → Nat} (H : AW n A W) {a : Nat} (ha : a < n) : (spr A W a (a + 1)).toInt = 0 := by
  obtain ⟨-, -, e1, w1, w1'⟩ := spr_int (a := a) (b := a + 1) (by omega) ha H.1 H.2.1 H.2.2
  have e : a + 1 - a = 1 := by omega
  rw [e] at e1 w1 w1'
  have p1 := pd_div w1 w1'
  rw [e1]
  simp only [sm, Nat.zero_add, Nat.add_zero] at p1 ⊢
  simp only [Int.natCast_mul]
  generalize ((5354228880 / W a : Nat) : Int) = P at p1 ⊢
  have : (W a : Int) * (A a : Int) * (A a : Int) * ((5354228880 : Nat) : Int) - (W a : Int) * (A a : Int) * ((W a : Int) * (A a : Int)) * P = (W a : Int) * (A a : Int) * (A a : Int) * (5354228880 - (W a : Int) * P) := by grind
  rw [this, p1]
  simp
theorem spr_nn {n : Nat} {A W : Nat → Nat} (H : AW n A W) {a : Nat} : ∀ {b : Nat}, a < b → b ≤ n → 0 ≤ (spr A W a b).toInt
  | 0, h, _ => absurd h (by omega)
  | b + 1, h, hb => by
    by_cases e : a = b
    · subst e; rw [spr_one H hb]; exact Int.le_refl _
    · have h1 := spr_nn H (a := a) (b := b) (by omega) (by omega)
      have h2 := spr_one H (a := b) hb
      have h3 := spr_super H (a := a) (b := b) (c := b + 1) (by omega) (by omega) hb
      omega
theorem spr_le {n : Nat} {A W : Nat → Nat} (H : AW n A W) {a b : Nat} (hab : a < b) (hb : b ≤ n) : (spr A W a b).toInt ≤ 32061154660081280 := by
  obtain ⟨-, -, e1, w1, w1'⟩ := spr_int hab hb H.1 H.2.1 H.2.2
  have p1 := pd_div w1 w1'
  have hq : sm (fun i => W i * A i * A i) a (b - a) ≤ sm (fun i => W i * A i) a (b - a) * 999 := sm_mul_le (fun i h1 h2 => Nat.mul_le_mul_left _ (H.1 i (by omega)))
  have key := top_le (w := (sm W a (b - a) : Int)) (s := (sm (fun i => W i * A i) a (b - a) : Int)) (q := (sm (fun i => W i * A i * A i) a (b - a) : Int)) (L := 5354228880) (Int.natCast_nonneg _) p1 (by omega) (by omega)
  rw [e1]
  simp only [Int.natCast_mul]
  omega
theorem fm_le (x : Nat → Int64) (a : Nat) : ∀ m t, a ≤ t → t ≤ a + m → (fm x a m).1.toInt ≤ (x t).toInt
  | 0, t, h1, h2 => by rw [show t = a by omega]; exact Int.le_refl _
  | m + 1, t, h1, h2 => by
    unfold fm
    split
    · rename_i z
      rw [Int64.lt_iff_toInt_lt] at z
      by_cases e : t = a + m + 1
      · subst e; exact Int.le_refl _
      · have := fm_le x a m t h1 (by omega)
        show (x (a + m + 1)).toInt ≤ _
        omega
    · rename_i z
      rw [Int64.lt_iff_toInt_lt] at z
      by_cases e : t = a + m + 1
      · subst e; omega
      · exact fm_le x a m t h1 (by omega)
/-- spreads as they are: small, none negative, the parts together no more than the whole -/
def SP (n : Nat) (S : Nat → Nat → Int64) : Prop := (∀ a b, a < b → b ≤ n → 0 ≤ (S a b).toInt ∧ (S a b).toInt ≤ 32061154660081280) ∧ ∀ a b c, a < b → b < c → c ≤ n → (S a b).toInt + (S b c).toInt ≤ (S a c).toInt
theorem so_SP {c : CD} (hw : CW c) : SP (so c.1).1 (spr (so c.1).2.1 (so c.1).2.2) := ⟨fun _ _ h1 h2 => ⟨spr_nn (so_AW hw) h1 h2, spr_le (so_AW hw) h1 h2⟩, fun _ _ _ h1 h2 h3 => spr_super (so_AW hw) h1 h2 h3⟩
theorem add0 {x : Int64} : x + 0 = x := by simp
theorem bst_nn {n : Nat} {S : Nat → Nat → Int64} (H : SP n S) : ∀ {k a : Nat}, 1 ≤ k → a + k ≤ n → 0 ≤ (bst n S (fun _ => 0) k a).1.toInt ∧ (bst n S (fun _ => 0) k a).1.toInt ≤ (S a n).toInt
  | 0, _, h, _ => absurd h (by omega)
  | 1, a, _, h => ⟨(H.1 a n (by omega) (Nat.le_refl _)).1, Int.le_refl _⟩
  | k + 2, a, _, h => by
    have h1 := fm_in (fun t => S a t + 0 + (bst n S (fun _ => 0) (k + 1) t).1) (a + 1) (n - (k + 2) - a)
    have h2 := fm_val (fun t => S a t + 0 + (bst n S (fun _ => 0) (k + 1) t).1) (a + 1) (n - (k + 2) - a)
    rw [bst]
    generalize (fm (fun t => S a t + 0 + (bst n S (fun _ => 0) (k + 1) t).1) (a + 1) (n - (k + 2) - a)) = z at h1 h2 ⊢
    rw [h2]
    have ih := bst_nn H (k := k + 1) (a := z.2) (by omega) (by omega)
    have hs := H.1 a z.2 (by omega) (by omega)
    have ht := H.1 z.2 n (by omega) (Nat.le_refl _)
    have hu := H.2 a z.2 n (by omega) (by omega) (Nat.le_refl _)
    show 0 ≤ (S a z.2 + 0 + (bst n S (fun _ => 0) (k + 1) z.2).1).toInt ∧ (S a z.2 + 0 + (bst n S (fun _ => 0) (k + 1) z.2).1).toInt ≤ _
    rw [add0, toInt64_add (by omega) (by omega)]
    omega
/-- what one candidate comes to -/
theorem bst_cand {n : Nat} {S : Nat → Nat → Int64} (H : SP n S) {k a t : Nat} (hk : 1 ≤ k) (hat : a < t) (ht : t + k ≤ n) : (S a t + 0 + (bst n S (fun _ => 0) k t).1).toInt = (S a t).toInt + (bst n S (fun _ => 0) k t).1.toInt := by
  have ih := bst_nn H (k := k) (a := t) hk ht
  have hs := H.1 a t (by omega) (by omega)
  have hu := H.1 t n (by omega) (Nat.le_refl _)
  rw [add0, toInt64_add (by omega) (by omega)]
theorem bst_le {n : Nat} {S : Nat → Nat → Int64} (H : SP n S) {k a t : Nat} (hk : 1 ≤ k) (hat : a < t) (ht : t + k ≤ n) : (bst n S (fun _ => 0) (k + 1) a).1.toInt ≤ (S a t).toInt + (bst n S (fun _ => 0) k t).1.toInt := by
  obtain ⟨j, rfl⟩ : ∃ j, k = j + 1 := ⟨k - 1, by omega⟩
  rw [← bst_cand H hk hat ht]
  show (bst n S (fun _ => 0) (j + 2) a).1.toInt ≤ _
  rw [bst]
  exact fm_le (fun t => S a t + 0 + (bst n S (fun _ => 0) (j + 1) t).1) (a + 1) (n - (j + 2) - a) t (by omega) (by omega)
theorem bst_eq {n : Nat} {S : Nat → Nat → Int64} (H : SP n S) {k a : Nat} (hk : 1 ≤ k) (h : a + (k + 1) ≤ n) : (bst n S (fun _ => 0) (k + 1) a).1.toInt = (S a (bst n S (fun _ => 0) (k + 1) a).2).toInt + (bst n S (fun _ => 0) k (bst n S (fun _ => 0) (k + 1) a).2).1.toInt := by
  have hb := bst_in (n := n) (S := S) (fee := fun _ => 0) (k := k + 1) (a := a) (by omega) h
  rw [← bst_cand H hk hb.1 (by omega)]
  obtain ⟨j, rfl⟩ : ∃ j, k = j + 1 := ⟨k - 1, by omega⟩
  show (bst n S (fun _ => 0) (j + 2) a).1.toInt = _
  rw [bst]
  exact congrArg Int64.toInt (fm_val (fun t => S a t + 0 + (bst n S (fun _ => 0) (j + 1) t).1) (a + 1) (n - (j + 2) - a))
/-- one run more never comes to more -/
theorem bst_mono {n : Nat} {S : Nat → Nat → Int64} (H : SP n S) : ∀ {k a : Nat}, 1 ≤ k → a + (k + 1) ≤ n → (bst n S (fun _ => 0) (k + 1) a).1.toInt ≤ (bst n S (fun _ => 0) k a).1.toInt
  | 0, _, h, _ => absurd h (by omega)
  | 1, a, _, h => by
    have h1 := bst_le H (k := 1) (a := a) (t := a + 1) (by omega) (by omega) (by omega)
    have h2 := H.2 a (a + 1) n (by omega) (by omega) (Nat.le_refl _)
    show _ ≤ (S a n).toInt
    have : (bst n S (fun _ => 0) 1 (a + 1)).1 = S (a + 1) n := rfl
    rw [this] at h1
    omega
  | k + 2, a, _, h => by
    have hb := bst_in (n := n) (S := S) (fee := fun _ => 0) (k := k + 2) (a := a) (by omega) (by omega)
    have e := bst_eq H (k := k + 1) (a := a) (by omega) (by omega)
    rw [e]
    generalize (bst n S (fun _ => 0) (k + 1 + 1) a).2 = t at hb ⊢
    by_cases q : t + (k + 2) ≤ n
    · have h1 := bst_le H (k := k + 2) (a := a) (t := t) (by omega) hb.1 q
      have h2 : (bst n S (fun _ => 0) (k + 2) t).1.toInt ≤ (bst n S (fun _ => 0) (k + 1) t).1.toInt := bst_mono H (k := k + 1) (a := t) (by omega) (by omega)
      omega
    · have h1 := bst_le H (k := k + 2) (a := a) (t := a + 1) (by omega) (by omega) (by omega)
      have h2 : (bst n S (fun _ => 0) (k + 2) (a + 1)).1.toInt ≤ _ := bst_le H (k := k + 1) (a := a + 1) (t := t) (by omega) (by omega) (by omega)
      have h3 := H.2 a (a + 1) t (by omega) (by omega) (by omega)
      omega
theorem tot_nn {n r : Nat} {S : Nat → Nat → Int64} {fee : Nat → Int64} (H : SP n S) (hr : r ≤ n) : ∀ {i : Nat}, i + 1 ≤ r → 0 ≤ (tot n S fee r (i + 1)).toInt ∧ (tot n S fee r (i + 1)).toInt ≤ (S 0 (bg n S fee r (i + 1))).toInt
  | 0, h => by
    have h1 := bg_lt (n := n) (S := S) (fee := fee) hr (i := 0) (by omega)
    have h2 := bg_in (n := n) (S := S) (fee := fee) hr (i := 1) (by omega)
    rw [tot, tot]
    have e : (0 : Int64) + S (bg n S fee r 0) (bg n S fee r (0 + 1)) = S 0 (bg n S fee r 1) := by rw [show bg n S fee r 0 = 0 from rfl]; simp
    rw [e]
    have := H.1 0 (bg n S fee r 1) h1 (by omega)
    exact ⟨this.1, Int.le_refl _⟩
  | i + 1, h => by
    have ih := tot_nn H hr (S := S) (fee := fee) (i := i) (by omega)
    have h0 := bg_in (n := n) (S := S) (fee := fee) hr (i := i + 1) (by omega)
    have h1 := bg_lt (n := n) (S := S) (fee := fee) hr (i := i + 1) (by omega)
    have h2 := bg_in (n := n) (S := S) (fee := fee) hr (i := i + 1 + 1) (by omega)
    have s1 := H.1 0 (bg n S fee r (i + 1)) (by omega) (by omega)
    have s2 := H.1 _ _ h1 (by omega)
    have s3 := H.2 0 _ _ (by omega) h1 (by omega)
    rw [tot, toInt64_add (by omega) (by omega)]
    omega
/-- the spread of a parting without costs is the least -/
theorem tot_bst {n r : Nat} {S : Nat → Nat → Int64} (H : SP n S) (hr : r ≤ n) : ∀ {i : Nat}, i < r → (tot n S (fun _ => 0) r i).toInt + (bst n S (fun _ => 0) (r - i) (bg n S (fun _ => 0) r i)).1.toInt = (bst n S (fun _ => 0) r 0).1.toInt
  | 0, h => by
    rw [tot]
    show (0 : Int64).toInt + (bst n S (fun _ => 0) (r - 0) 0).1.toInt = _
    rw [Nat.sub_zero, Int64.toInt_zero]
    omega
  | i + 1, h => by
    have ih := tot_bst H hr (i := i) (by omega)
    have h0 := bg_in (n := n) (S := S) (fee := fun _ => 0) hr (i := i) (by omega)
    have e := bst_eq H (k := r - i - 1) (a := bg n S (fun _ => 0) r i) (by omega) (by omega)
    rw [show r - i - 1 + 1 = r - i by omega] at e
    have hbg : (bst n S (fun _ => 0) (r - i) (bg n S (fun _ => 0) r i)).2 = bg n S (fun _ => 0) r (i + 1) := rfl
    rw [hbg] at e
    have ht := tot_nn H hr (S := S) (fee := fun _ => 0) (i := i) (by omega)
    rw [show r - (i + 1) = r - i - 1 by omega]
    have h1 := bg_lt (n := n) (S := S) (fee := fun _ => 0) hr (i := i) (by omega)
    have h2 := bg_in (n := n) (S := S) (fee := fun _ => 0) hr (i := i + 1) (by omega)
    have s2 := H.1 _ _ h1 (by omega)
    have s1 : 0 ≤ (tot n S (fun _ => 0) r i).toInt ∧ (tot n S (fun _ => 0) r i).toInt ≤ 32061154660081280 := by
      cases i with
      | zero => rw [tot, Int64.toInt_zero]; omega
      | succ i =>
        have := tot_nn H hr (S := S) (fee := fun _ => 0) (i := i) (by omega)
        have h0 := bg_in (n := n) (S := S) (fee := fun _ => 0) hr (i := i + 1) (by omega)
        have := H.1 0 (bg n S (fun _ => 0) r (i + 1)) (by omega) (by omega)
        omega
    rw [tot, toInt64_add (by omega) (by omega)]
    omega
theorem tot_is {n r : Nat} {S : Nat → Nat → Int64} (H : SP n S) (hr : r ≤ n) (h0 : 0 < r) : (tot n S (fun _ => 0) r r).toInt = (bst n S (fun _ => 0) r 0).1.toInt := by
  obtain ⟨i, rfl⟩ : ∃ i, r = i + 1 := ⟨r - 1, by omega⟩
  have e := tot_bst H hr (i := i) (by omega)
  rw [show i + 1 - i = 1 by omega] at e
  have ht := tot_nn H hr (S := S) (fee := fun _ => 0) (i := i) (by omega)
  have hb := bg_end (n := n) (S := S) (fee := fun _ => 0) hr (by omega)
  have h1 := bg_lt (n := n) (S := S) (fee := fun _ => 0) hr (i := i) (by omega)
  have s2 := H.1 _ _ h1 (by omega)
  have s1 : 0 ≤ (tot n S (fun _ => 0) (i + 1) i).toInt ∧ (tot n S (fun _ => 0) (i + 1) i).toInt ≤ 32061154660081280 := by
    cases i with
    | zero => rw [tot, Int64.toInt_zero]; omega
    | succ i =>
      have := tot_nn H hr (S := S) (fee := fun _ => 0) (i := i) (by omega)
      have h0 := bg_in (n := n) (S := S) (fee := fun _ => 0) hr (i := i + 1) (by omega)
      have := H.1 0 (bg n S (fun _ => 0) (i + 1 + 1) (i + 1)) (by omega) (by omega)
      omega
  rw [tot, toInt64_add (by omega) (by omega), hb]
  exact e
theorem lN_of {x : Int64} (h : 0 ≤ x.toInt) : x = lN x.toInt.toNat := by
  apply Int64.toInt_inj.mp
  have := Int64.toInt_lt x
  rw [toInt64_lN (by omega)]
  omega
theorem par_sp {c : CD} {fee : Nat → Int64} {k : Nat} (hw : CW c) : (parD c fee k).2.2 = lN (spN (parD c fee k)) ∧ spN (parD c fee k) ≤ 32061154660081280 := by
  have H := so_SP hw
  have key : 0 ≤ (parD c fee k).2.2.toInt ∧ (parD c fee k).2.2.toInt ≤ 32061154660081280 := by
    show 0 ≤ (tot (so c.1).1 _ fee (min k (so c.1).1) (min k (so c.1).1)).toInt ∧ (tot (so c.1).1 _ fee (min k (so c.1).1) (min k (so c.1).1)).toInt ≤ _
    have hr : min k (so c.1).1 ≤ (so c.1).1 := Nat.min_le_right _ _
    generalize min k (so c.1).1 = r at hr ⊢
    cases r with
    | zero => rw [tot, Int64.toInt_zero]; omega
    | succ r =>
      have h1 := tot_nn H hr (fee := fee) (i := r) (by omega)
      have h0 := bg_in (n := (so c.1).1) (S := spr (so c.1).2.1 (so c.1).2.2) (fee := fee) hr (i := r + 1) (by omega)
      have := H.1 0 (bg (so c.1).1 (spr (so c.1).2.1 (so c.1).2.2) fee (r + 1) (r + 1)) (by omega) (by omega)
      omega
  exact ⟨lN_of key.1, by unfold spN; omega⟩
theorem least_mono {c : CD} {k : Nat} (hw : CW c) (hk : 1 ≤ k) : spN (leastD c (k + 1)) ≤ spN (leastD c k) := by
  have H := so_SP hw
  unfold spN
  show (tot (so c.1).1 _ (fun _ => 0) (min (k + 1) (so c.1).1) (min (k + 1) (so c.1).1)).toInt.toNat ≤ (tot (so c.1).1 _ (fun _ => 0) (min k (so c.1).1) (min k (so c.1).1)).toInt.toNat
  by_cases q : (so c.1).1 ≤ k
  · rw [show min (k + 1) (so c.1).1 = (so c.1).1 by omega, show min k (so c.1).1 = (so c.1).1 by omega]
    exact Nat.le_refl _
  · rw [show min (k + 1) (so c.1).1 = k + 1 by omega, show min k (so c.1).1 = k by omega, tot_is H (by omega) (by omega), tot_is H (by omega) (by omega)]
    have := bst_mono H (k := k) (a := 0) hk (by omega)
    omega
