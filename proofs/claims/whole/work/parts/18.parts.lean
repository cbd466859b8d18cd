/-! ===== SORTED of a chart, once for all ===== -/
theorem srt_ex (f : Nat → Option Nat) : ∀ k, ∃ q : Nat × (Nat → Nat) × (Nat → Nat), Srt q.1 q.2.1 q.2.2 (cF f k)
  | 0 => ⟨(0, fun _ => 0, fun _ => 0), Srt.zero⟩
  | k + 1 => by
    obtain ⟨⟨n, A, W⟩, hS⟩ := srt_ex f k
    have hS : Srt n A W (cF f k) := hS
    cases hq : f k with
    | none => rw [cF_none hq]; exact ⟨(n, A, W), hS⟩
    | some v =>
      rw [cF_some hq]
      by_cases e : ∃ i, i < n ∧ A i = v
      · obtain ⟨i, hi, q⟩ := e
        exact ⟨(n, A, _), hS.hit hi q⟩
      · have hno : ∀ i, i < n → A i ≠ v := fun i hi q => e ⟨i, hi, q⟩
        have hr : ∃ r, Rk n A v r := by
          have key : ∀ m, m ≤ n → ∃ r, r ≤ m ∧ (∀ i, i < r → A i < v) ∧ ∀ i, r ≤ i → i < m → v ≤ A i := by
            intro m
            induction m with
            | zero => exact fun _ => ⟨0, Nat.le_refl _, fun i h => absurd h (by omega), fun i _ h => absurd h (by omega)⟩
            | succ m ih =>
              intro hm
              obtain ⟨r, h1, h2, h3⟩ := ih (by omega)
              by_cases q : A m < v
              · refine ⟨m + 1, Nat.le_refl _, fun i hi => ?_, fun i h4 h5 => absurd h5 (by omega)⟩
                rcases Nat.lt_or_ge i m with z | z
                · have := hS.1 i m z (by omega); omega
                · rw [show i = m by omega]; exact q
              · refine ⟨r, by omega, h2, fun i h4 h5 => ?_⟩
                rcases Nat.lt_or_ge i m with z | z
                · exact h3 i h4 z
                · rw [show i = m by omega]; omega
          exact key n (Nat.le_refl _)
        obtain ⟨r, hr⟩ := hr
        exact ⟨(n + 1, _, _), hS.new hr hno⟩
noncomputable def so (f : Nat → Option Nat) : Nat × (Nat → Nat) × (Nat → Nat) := Classical.choose (srt_ex f 100)
theorem so_ok (f : Nat → Option Nat) : Srt (so f).1 (so f).2.1 (so f).2.2 (cF f 100) := Classical.choose_spec (srt_ex f 100)
/-- what a chart keeps to -/
def CW (c : CD) : Prop := (∀ x, x < 100 → ∀ v, c.1 x = some v → v ≤ 999) ∧ cP c.1 100 ≤ 24 ∧ (∀ n, c.2.2.1 = some n → n ≤ 5) ∧ (∀ x, x < 5 → c.2.1 x ≤ 999) ∧ (1 ≤ c.2.2.2.1 ∧ c.2.2.2.1 ≤ 6) ∧ c.2.2.2.2 ≤ 999
theorem so_le {f : Nat → Option Nat} (hw : ∀ x, x < 100 → ∀ v, f x = some v → v ≤ 999) : ∀ i, i < (so f).1 → (so f).2.1 i ≤ 999 := (so_ok f).le (fun v hv => by obtain ⟨x, h1, h2⟩ := cF_pos hv; exact hw x h1 v h2)
theorem so_tot {f : Nat → Option Nat} (hp : cP f 100 ≤ 24) : sm (so f).2.2 0 (so f).1 ≤ 24 := Nat.le_trans (so_ok f).total hp
theorem so_pos (f : Nat → Option Nat) : ∀ i, i < (so f).1 → 0 < (so f).2.2 i := fun i hi => by have := (so_ok f).2.1 i hi; omega
theorem sm_ge {f : Nat → Nat} {a : Nat} : ∀ {m}, (∀ i, a ≤ i → i < a + m → 0 < f i) → m ≤ sm f a m
  | 0, _ => Nat.le_refl _
  | m + 1, h => by
    have := sm_ge (m := m) (fun i h1 h2 => h i h1 (by omega))
    have := h (a + m) (by omega) (by omega)
    rw [sm]
    omega
theorem so_24 {f : Nat → Option Nat} (hp : cP f 100 ≤ 24) : (so f).1 ≤ 24 := by
  have h1 := so_tot hp
  have h2 := sm_ge (f := (so f).2.2) (a := 0) (m := (so f).1) (fun i _ hi => so_pos f i (by omega))
  omega
/-! bounds of the spreads -/
theorem sm_mul_le {f g : Nat → Nat} {a c : Nat} : ∀ {m}, (∀ i, a ≤ i → i < a + m → g i ≤ f i * c) → sm g a m ≤ sm f a m * c
  | 0, _ => by simp [sm]
  | m + 1, h => by
    have h1 := sm_mul_le (m := m) (fun i h1 h2 => h i h1 (by omega))
    have h2 := h (a + m) (by omega) (by omega)
    rw [sm, sm, Nat.add_mul]
    omega
theorem toInt64_lN {n : Nat} (h : n < 2 ^ 63) : (lN n).toInt = (n : Int) := pk_lT h
theorem toInt64_sub {x y : Int64} (h1 : -9223372036854775808 ≤ x.toInt - y.toInt) (h2 : x.toInt - y.toInt < 9223372036854775808) : (x - y).toInt = x.toInt - y.toInt := by
  rw [Int64.toInt_sub, Int.bmod_eq_of_le (by simpa using h1) (by simpa using h2)]
theorem part_sq : ∀ w, w < 25 → 0 < w → w * 999 * (w * 999) * (5354228880 / w) ≤ 130000000000000000 := by decide
/-- the spread as an exact number: upper part less lower part, both small -/
theorem spr_int {A W : Nat → Nat} {a b n : Nat} (hab : a < b) (hb : b ≤ n) (hA : ∀ i, i < n → A i ≤ 999) (hW : ∀ i, i < n → 0 < W i) (ht : sm W 0 n ≤ 24) : sm (fun i => W i * A i * A i) a (b - a) * 5354228880 ≤ 130000000000000000 ∧ sm (fun i => W i * A i) a (b - a) * sm (fun i => W i * A i) a (b - a) * (5354228880 / sm W a (b - a)) ≤ 130000000000000000 ∧ (spr A W a b).toInt = (sm (fun i => W i * A i * A i) a (b - a) * 5354228880 : Nat) - ((sm (fun i => W i * A i) a (b - a) * sm (fun i => W i * A i) a (b - a) * (5354228880 / sm W a (b - a)) : Nat) : Int) ∧ 1 ≤ sm W a (b - a) ∧ sm W a (b - a) ≤ 24 := by
  have hw1 : 1 ≤ sm W a (b - a) := by
    have := sm_ge (f := W) (a := a) (m := b - a) (fun i _ hi => hW i (by omega))
    omega
  have hw2 : sm W a (b - a) ≤ 24 := by
    have h1 := sm_split W 0 a (b - a)
    have h2 := sm_mono W 0 (m := a + (b - a)) (m' := n) (by omega)
    rw [Nat.zero_add] at h1
    omega
  have h2 : sm (fun i => W i * A i * A i) a (b - a) ≤ sm W a (b - a) * 998001 := by
    apply sm_mul_le
    intro i h1 h2
    have hi := hA i (by omega)
    have : A i * A i ≤ 999 * 999 := Nat.mul_le_mul hi hi
    rw [Nat.mul_assoc]
    exact Nat.mul_le_mul_left _ this
  have h1 : sm (fun i => W i * A i) a (b - a) ≤ sm W a (b - a) * 999 := by
    apply sm_mul_le
    intro i h1 h2
    exact Nat.mul_le_mul_left _ (hA i (by omega))
  have hq := part_sq (sm W a (b - a)) (by omega) (by omega)
  have h3 : sm (fun i => W i * A i) a (b - a) * sm (fun i => W i * A i) a (b - a) * (5354228880 / sm W a (b - a)) ≤ 130000000000000000 := Nat.le_trans (Nat.mul_le_mul_right _ (Nat.mul_le_mul h1 h1)) hq
  have h4 : sm (fun i => W i * A i * A i) a (b - a) * 5354228880 ≤ 130000000000000000 := by
    have : sm (fun i => W i * A i * A i) a (b - a) ≤ 24 * 998001 := Nat.le_trans h2 (Nat.mul_le_mul_right _ hw2)
    omega
  refine ⟨h4, h3, ?_, hw1, hw2⟩
  unfold spr
  rw [show (5354228880 : Int64) = lN 5354228880 from rfl, lN_mul, lN_mul, lN_mul]
  have e1 := toInt64_lN (n := sm (fun i => W i * A i * A i) a (b - a) * 5354228880) (by omega)
  have e2 := toInt64_lN (n := sm (fun i => W i * A i) a (b - a) * sm (fun i => W i * A i) a (b - a) * (5354228880 / sm W a (b - a))) (by omega)
  rw [toInt64_sub (by rw [e1, e2]; omega) (by rw [e1, e2]; omega), e1, e2]
theorem spr_SB {A W : Nat → Nat} {n : Nat} (hA : ∀ i, i < n → A i ≤ 999) (hW : ∀ i, i < n → 0 < W i) (ht : sm W 0 n ≤ 24) : SB n (spr A W) := by
  intro a b hab hb
  obtain ⟨h1, h2, h3, -⟩ := spr_int hab hb hA hW ht
  exact ⟨by rw [h3]; omega, by rw [h3]; omega⟩
theorem so_SB {c : CD} (hw : CW c) : SB (so c.1).1 (spr (so c.1).2.1 (so c.1).2.2) := spr_SB (so_le hw.1) (so_pos c.1) (so_tot hw.2.1)
/-! what depends on the first n alone -/
theorem spr_cong {A W A' W' : Nat → Nat} {n a b : Nat} (h : ∀ i, i < n → A i = A' i ∧ W i = W' i) (hb : b ≤ n) (hab : a < b) : spr A W a b = spr A' W' a b := by
  have e1 : sm W a (b - a) = sm W' a (b - a) := sm_cong (fun i _ hi => (h i (by omega)).2)
  have e2 : sm (fun i => W i * A i) a (b - a) = sm (fun i => W' i * A' i) a (b - a) := sm_cong (fun i _ hi => by rw [(h i (by omega)).1, (h i (by omega)).2])
  have e3 : sm (fun i => W i * A i * A i) a (b - a) = sm (fun i => W' i * A' i * A' i) a (b - a) := sm_cong (fun i _ hi => by rw [(h i (by omega)).1, (h i (by omega)).2])
  unfold spr
  rw [e1, e2, e3]
theorem bst_cong {n : Nat} {S S' : Nat → Nat → Int64} {fee fee' : Nat → Int64} (hS : ∀ a b, a < b → b ≤ n → S a b = S' a b) (hf : ∀ t, t < n → fee t = fee' t) : ∀ {k a : Nat}, 1 ≤ k → a + k ≤ n → bst n S fee k a = bst n S' fee' k a
  | 0, a, h, _ => absurd h (by omega)
  | 1, a, _, h => by
    show (S a n, n) = (S' a n, n)
    rw [hS a n (by omega) (Nat.le_refl _)]
  | k + 2, a, _, h => by
    rw [bst, bst]
    apply fm_cong
    intro t h1 h2
    rw [hS a t (by omega) (by omega), hf t (by omega), bst_cong hS hf (k := k + 1) (a := t) (by omega) (by omega)]
theorem bg_cong {n r : Nat} {S S' : Nat → Nat → Int64} {fee fee' : Nat → Int64} (hS : ∀ a b, a < b → b ≤ n → S a b = S' a b) (hf : ∀ t, t < n → fee t = fee' t) (hr : r ≤ n) : ∀ {i : Nat}, i ≤ r → bg n S fee r i = bg n S' fee' r i
  | 0, _ => rfl
  | i + 1, h => by
    have ih := bg_cong hS hf hr (i := i) (by omega)
    have hb := bg_in (n := n) (S := S) (fee := fee) hr (i := i) (by omega)
    rw [bg, bg, ← ih, bst_cong hS hf (by omega) (by omega)]
theorem tot_cong {n r : Nat} {S S' : Nat → Nat → Int64} {fee fee' : Nat → Int64} (hS : ∀ a b, a < b → b ≤ n → S a b = S' a b) (hf : ∀ t, t < n → fee t = fee' t) (hr : r ≤ n) : ∀ {i : Nat}, i ≤ r → tot n S fee r i = tot n S' fee' r i
  | 0, _ => rfl
  | i + 1, h => by
    have hb := bg_in (n := n) (S := S) (fee := fee) hr (i := i + 1) (by omega)
    have hl := bg_lt (n := n) (S := S) (fee := fee) hr (i := i) (by omega)
    rw [tot, tot, tot_cong hS hf hr (by omega), hS _ _ hl (by omega), bg_cong hS hf hr (i := i) (by omega), bg_cong hS hf hr (i := i + 1) (by omega)]
theorem Pg.cong {h : gH} {p r : Nat} {B B' : Nat → Nat} {s s' : Int64} (q : Pg h p (r, B, s)) (hB : ∀ x, x < r → B x = B' x) (hs : s = s') : Pg h p (r, B', s') := by
  obtain ⟨F, h0, h1, h2, h3⟩ := q
  subst hs
  exact ⟨F, h0, h1, h2, fun x hx => by rw [h3 x hx]; exact congrArg nI (hB x hx)⟩
theorem Ld.canon {h : gH} {n : Nat} {A W : Nat → Nat} {f : Nat → Option Nat} (q : Ld h n A W) (hS : Srt n A W (cF f 100)) : Ld h (so f).1 (so f).2.1 (so f).2.2 := by
  obtain ⟨e, he⟩ := hS.same (so_ok f)
  obtain ⟨⟨FA, FW, h0, h1, h2, h3, h4, h5⟩, R, r0, r1, r2⟩ := q
  rw [← e]
  refine ⟨⟨FA, FW, h0, h1, h2, h3, fun i hi => by rw [h4 i hi, (he i hi).1], fun i hi => by rw [h5 i hi, (he i hi).2]⟩, R, r0, r1, fun i hi => ?_⟩
  obtain ⟨F, f0, f1⟩ := r2 i hi
  exact ⟨F, f0, fun j q1 q2 q3 => by rw [f1 j q1 q2 q3, spr_cong he q3 q2]⟩
/-! NOW and LEAST of a chart -/
noncomputable def feeN (c : CD) : Nat → Int64 := fun t => feeC c ((so c.1).2.1 t)
noncomputable def parD (c : CD) (fee : Nat → Int64) (k : Nat) : PD := (min k (so c.1).1, bg (so c.1).1 (spr (so c.1).2.1 (so c.1).2.2) fee (min k (so c.1).1), tot (so c.1).1 (spr (so c.1).2.1 (so c.1).2.2) fee (min k (so c.1).1) (min k (so c.1).1))
noncomputable def nowD (c : CD) : PD := parD c (feeN c) c.2.2.2.1
noncomputable def leastD (c : CD) (k : Nat) : PD := parD c (fun _ => 0) k
/-! ===== Partings: cell 49 ===== -/
def Pa (h : gH) (c : CD) (l cu le ta : Bool) : Prop :=
  h 49 = .inr (6, [.ref 1, .ref 50, .ref 79, .ref 97, .ref 115, .ref 132, .ref 134, .int (bI l), .int (bI cu), .int (bI le), .int (bI ta)]) ∧
  Ls h ∧ (l = true → Ld h (so c.1).1 (so c.1).2.1 (so c.1).2.2) ∧
  (∃ B E Fe, Wy h 79 B E Fe) ∧ (∃ B E, Wy h 97 B E (fun _ => 0)) ∧
  (∃ B E, Lt h B E ∧ (ta = true → TD (so c.1).1 (spr (so c.1).2.1 (so c.1).2.2) B E 7 1)) ∧
  (∃ q, Pg h 132 q ∧ (cu = true → q = nowD c)) ∧
  (∃ R : Nat → Option Nat, h 134 = .inl (4, 6, .inr (.inr (.inr (.inr R)))) ∧ (∀ i, i < 6 → R i = some (135 + 2 * i))) ∧
  (∀ i, i < 6 → ∃ q, Pg h (135 + 2 * i) q ∧ (le = true → q = leastD c (i + 1)))
theorem Pa.fr {h h' : gH} {c : CD} {l cu le ta : Bool} {lo hi : Nat} (q : Pa h c l cu le ta) (f : Fr lo hi h h') (hx : 147 ≤ lo ∨ hi ≤ 49) : Pa h' c l cu le ta := by
  obtain ⟨h0, h1, h2, ⟨B1, E1, Fe, h3⟩, ⟨B2, E2, h4⟩, ⟨B3, E3, h5, h5'⟩, ⟨p, h6, h6'⟩, ⟨R, h7, h7'⟩, h8⟩ := q
  refine ⟨(f _ (by omega)).trans h0, h1.fr f (by omega), fun z => (h2 z).fr f (by omega), ⟨B1, E1, Fe, h3.fr f (by omega)⟩, ⟨B2, E2, h4.fr f (by omega)⟩, ⟨B3, E3, h5.fr f (by omega), h5'⟩, ⟨p, h6.fr f (by omega), h6'⟩, ⟨R, (f _ (by omega)).trans h7, h7'⟩, fun i hi => ?_⟩
  obtain ⟨q, h9, h10⟩ := h8 i hi
  exact ⟨q, h9.fr f (by omega), h10⟩
