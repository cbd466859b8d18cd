/-! ===== the reference's side: its cells, and what they stand for ===== -/
/-- sums over the places that have a number -/
def gsum (f : Nat → Option Nat) (g : Nat → Nat) : Nat → Nat
  | 0 => 0
  | k + 1 => gsum f g k + (match f k with | none => 0 | some v => g v)
theorem gsum_cP (f : Nat → Option Nat) : ∀ k, gsum f (fun _ => 1) k = cP f k
  | 0 => rfl
  | k + 1 => by
    rw [gsum, cP, gsum_cP f k]
    cases f k <;> rfl
theorem gsum_sP (f : Nat → Option Nat) : ∀ k, gsum f (fun v => v) k = sP f k
  | 0 => rfl
  | k + 1 => by
    rw [gsum, sP, gsum_sP f k]
    cases f k <;> rfl
theorem gsum_cF (f : Nat → Option Nat) (v : Nat) : ∀ k, gsum f (fun x => if x = v then 1 else 0) k = cF f k v
  | 0 => rfl
  | k + 1 => by
    rw [gsum, cF, gsum_cF f v k]
    cases f k with
    | none => simp
    | some x => simp
theorem gsum_cong {f f' : Nat → Option Nat} {g : Nat → Nat} : ∀ {k}, (∀ x, x < k → f x = f' x) → gsum f g k = gsum f' g k
  | 0, _ => rfl
  | k + 1, h => by rw [gsum, gsum, gsum_cong (fun x hx => h x (by omega)), h k (by omega)]
theorem gsum_set {f : Nat → Option Nat} {g : Nat → Nat} {x v : Nat} (hv : f x = some v) : ∀ {k}, x < k → gsum f g k = gsum (setF f x none) g k + g v
  | 0, h => absurd h (by omega)
  | k + 1, h => by
    by_cases e : x = k
    · subst e
      rw [gsum, gsum, hv]
      have h1 : setF f x none x = none := by simp [setF]
      rw [h1, gsum_cong (f := setF f x none) (f' := f) (fun y hy => by simp only [setF]; rw [if_neg (by omega)])]
      simp
    · rw [gsum, gsum, gsum_set hv (k := k) (by omega)]
      have h1 : setF f x none k = f k := by simp only [setF]; rw [if_neg (by omega)]
      rw [h1]
      omega
theorem gsum_0 {f : Nat → Option Nat} {g : Nat → Nat} : ∀ {k}, (∀ x, x < k → f x = none) → gsum f g k = 0
  | 0, _ => rfl
  | k + 1, h => by rw [gsum, gsum_0 (fun x hx => h x (by omega)), h k (by omega)]; rfl
/-- the places that have a number, one by one: w says where, v what -/
def EN (f : Nat → Option Nat) (n : Nat) (w v : Nat → Nat) : Prop := (∀ i, i < n → w i < 100 ∧ f (w i) = some (v i)) ∧ (∀ i j, i < n → j < n → w i = w j → i = j) ∧ ∀ x, x < 100 → f x ≠ none → ∃ i, i < n ∧ w i = x
theorem EN.sum {g : Nat → Nat} {w v : Nat → Nat} : ∀ {n : Nat} {f : Nat → Option Nat}, EN f n w v → gsum f g 100 = sm (fun i => g (v i)) 0 n
  | 0, f, h => by
    rw [sm]
    apply gsum_0
    intro x hx
    cases hq : f x with
    | none => rfl
    | some y =>
      obtain ⟨i, hi, -⟩ := h.2.2 x hx (by rw [hq]; simp)
      omega
  | n + 1, f, h => by
    have h1 := h.1 n (by omega)
    have ih : EN (setF f (w n) none) n w v := by
      refine ⟨fun i hi => ⟨(h.1 i (by omega)).1, ?_⟩, fun i j hi hj => h.2.1 i j (by omega) (by omega), fun x hx hf => ?_⟩
      · simp only [setF]
        rw [if_neg (fun q => by have := h.2.1 i n (by omega) (by omega) q; omega)]
        exact (h.1 i (by omega)).2
      · simp only [setF] at hf
        by_cases e : x = w n
        · rw [if_pos e] at hf; exact absurd rfl hf
        · rw [if_neg e] at hf
          obtain ⟨i, hi, q⟩ := h.2.2 x hx hf
          refine ⟨i, ?_, q⟩
          rcases Nat.lt_or_ge i n with z | z
          · exact z
          · exact absurd (by rw [← q, show i = n by omega]) e
    rw [gsum_set h1.2 h1.1, ih.sum, sm, Nat.zero_add]
theorem EN.cnt {n : Nat} {f : Nat → Option Nat} {w v : Nat → Nat} (h : EN f n w v) : cP f 100 = n := by
  rw [← gsum_cP, h.sum (g := fun _ => 1)]
  have : ∀ m, sm (fun _ => 1) 0 m = m := fun m => by
    induction m with
    | zero => rfl
    | succ m ih => rw [sm, ih]
  exact this n
/-- a new place -/
theorem EN.new {n x y : Nat} {f : Nat → Option Nat} {w v : Nat → Nat} (h : EN f n w v) (hx : x < 100) (hf : f x = none) : EN (setF f x (some y)) (n + 1) (fun i => if i = n then x else w i) (fun i => if i = n then y else v i) := by
  have hne : ∀ i, i < n → w i ≠ x := fun i hi q => by have := (h.1 i hi).2; rw [q, hf] at this; cases this
  refine ⟨fun i hi => ?_, fun i j hi hj q => ?_, fun z hz hs => ?_⟩
  · by_cases e : i = n
    · subst e; simp [setF, hx]
    · simp only [if_neg e, setF]
      rw [if_neg (hne i (by omega))]
      exact h.1 i (by omega)
  · by_cases e : i = n
    · by_cases e2 : j = n
      · omega
      · simp only [if_pos e, if_neg e2] at q
        exact absurd q.symm (hne j (by omega))
    · by_cases e2 : j = n
      · simp only [if_neg e, if_pos e2] at q
        exact absurd q (hne i (by omega))
      · simp only [if_neg e, if_neg e2] at q
        exact h.2.1 i j (by omega) (by omega) q
  · by_cases e : z = x
    · exact ⟨n, by omega, by simp [e]⟩
    · simp only [setF, if_neg e] at hs
      obtain ⟨i, hi, q⟩ := h.2.2 z hz hs
      exact ⟨i, by omega, by simp only; rw [if_neg (by omega)]; exact q⟩
/-- another number at a place -/
theorem EN.put {n p y : Nat} {f : Nat → Option Nat} {w v : Nat → Nat} (h : EN f n w v) (hp : p < n) : EN (setF f (w p) (some y)) n w (fun i => if i = p then y else v i) := by
  refine ⟨fun i hi => ⟨(h.1 i hi).1, ?_⟩, h.2.1, fun z hz hs => ?_⟩
  · by_cases e : i = p
    · subst e; simp [setF]
    · simp only [if_neg e, setF]
      rw [if_neg (fun q => e (h.2.1 i p hi hp q))]
      exact (h.1 i hi).2
  · by_cases e : z = w p
    · exact ⟨p, hp, e.symm⟩
    · simp only [setF, if_neg e] at hs
      exact h.2.2 z hz hs
/-- a place is dropped, the last one takes its row -/
theorem EN.drop {n p : Nat} {f : Nat → Option Nat} {w v : Nat → Nat} (h : EN f (n + 1) w v) (hp : p < n + 1) : EN (setF f (w p) none) n (fun i => if i = p then w n else w i) (fun i => if i = p then v n else v i) := by
  refine ⟨fun i hi => ?_, fun i j hi hj q => ?_, fun z hz hs => ?_⟩
  · by_cases e : i = p
    · simp only [if_pos e, setF]
      refine ⟨(h.1 n (by omega)).1, ?_⟩
      rw [if_neg (fun q => by have := h.2.1 n p (by omega) hp q; omega)]
      exact (h.1 n (by omega)).2
    · simp only [if_neg e, setF]
      refine ⟨(h.1 i (by omega)).1, ?_⟩
      rw [if_neg (fun q => e (h.2.1 i p (by omega) hp q))]
      exact (h.1 i (by omega)).2
  · by_cases e : i = p
    · by_cases e2 : j = p
      · omega
      · simp only [if_pos e, if_neg e2] at q
        have := h.2.1 n j (by omega) (by omega) q; omega
    · by_cases e2 : j = p
      · simp only [if_neg e, if_pos e2] at q
        have := h.2.1 i n (by omega) (by omega) q; omega
      · simp only [if_neg e, if_neg e2] at q
        exact h.2.1 i j (by omega) (by omega) q
  · by_cases e : z = w p
    · simp only [setF, if_pos e] at hs; exact absurd rfl hs
    · simp only [setF, if_neg e] at hs
      obtain ⟨i, hi, q⟩ := h.2.2 z hz hs
      by_cases e3 : i = n
      · subst e3
        have hpn : p ≠ i := fun q2 => e (by rw [q2, q])
        exact ⟨p, by omega, by simp [q]⟩
      · refine ⟨i, by omega, ?_⟩
        simp only
        rw [if_neg (fun q2 => e (by rw [← q2, q]))]
        exact q
/-- olds as the reference tells them -/
def dI : Option Nat → Int32
  | none => 0
  | some o => nI (o + 1)
/-- three arrays stand for a chart -/
def MA (F4 F5 F6 : Nat → Int32) (c : CD) : Prop := (∃ w v, EN c.1 (cP c.1 100) w v ∧ ∀ i, i < cP c.1 100 → F4 i = nI (w i) ∧ F5 i = nI (v i)) ∧ ∀ i, i < oK c.2.2.1 → F6 i = nI (c.2.1 i)
/-- a note stands for a chart -/
def NA (G : Nat → Int32) (at' : Nat) (c : CD) : Prop := G at' = nI (cP c.1 100) ∧ G (at' + 1) = nI c.2.2.2.1 ∧ G (at' + 2) = nI c.2.2.2.2 ∧ G (at' + 3) = dI c.2.2.1 ∧ MA (fun i => G (at' + 9 + i)) (fun i => G (at' + 33 + i)) (fun i => G (at' + 4 + i)) c
/-- the reference's object -/
abbrev mo (m a k d s r0 r1 r2 r3 r4 u sn rn : Int32) : gC := .inr (9, [.int m, .int a, .int k, .int d, .ref 148, .ref 149, .ref 150, .ref 151, .int s, .int r0, .int r1, .int r2, .int r3, .int r4, .ref 152, .ref 153, .ref 154, .int u, .ref 155, .int sn, .ref 156, .ref 157, .ref 158, .ref 159, .int rn, .ref 160, .ref 161, .ref 162])
abbrev mS (c : CD) (s u : Nat) (r0 r1 r2 r3 r4 sn rn : Int32) : gC := mo (nI (cP c.1 100)) (nI c.2.2.2.1) (nI c.2.2.2.2) (dI c.2.2.1) (nI s) r0 r1 r2 r3 r4 (nI u) sn rn
/-- its arrays that keep the chart -/
def M3 (h : gH) (c : CD) : Prop := ∃ F4 F5 F6 : Nat → Int32, h 148 = .inl (0, 24, .inl F4) ∧ h 149 = .inl (0, 24, .inl F5) ∧ h 150 = .inl (0, 5, .inl F6) ∧ MA F4 F5 F6 c
def MT (h : gH) (t : Nat × (Nat → Nat)) : Prop := ∃ T : Nat → Int32, h 151 = .inl (0, 150, .inl T) ∧ ∀ i, i < t.1 → T i = nI (t.2 i)
def MU (h : gH) (u : Nat × (Nat → CD)) : Prop := ∃ G : Nat → Int32, h 154 = .inl (0, 570, .inl G) ∧ ∀ i, i < u.1 → NA G (57 * i) (u.2 i)
def MI (h : gH) (u : (Nat → CD) × (Nat → Bool)) : Prop := ∃ G : Nat → Int32, h 155 = .inl (0, 116, .inl G) ∧ ∀ i, i < 2 → G (58 * i) = bI (u.2 i) ∧ (u.2 i = true → NA G (58 * i + 1) (u.1 i))
/-- its arrays that it only works with -/
def MX (h : gH) : Prop := ∃ (a b c d e f g : Nat → Int32) (x y : Nat → Int64), h 152 = .inl (0, 24, .inl a) ∧ h 153 = .inl (0, 24, .inl b) ∧ h 156 = .inl (0, 24, .inl c) ∧ h 157 = .inl (0, 24, .inl d) ∧ h 158 = .inl (1, 175, .inr (.inl x)) ∧ h 159 = .inl (0, 175, .inl e) ∧ h 160 = .inl (0, 6, .inl f) ∧ h 161 = .inl (1, 175, .inr (.inl y)) ∧ h 162 = .inl (0, 175, .inl g)
def MS (h : gH) (s : SD) : Prop := (∃ r0 r1 r2 r3 r4 sn rn, h 147 = mS s.1 s.2.2.2.1 s.2.1.1 r0 r1 r2 r3 r4 sn rn) ∧ M3 h s.1 ∧ MT h s.2.2.2 ∧ MU h s.2.1 ∧ MI h s.2.2.1 ∧ MX h
theorem M3.fr {h h' : gH} {c : CD} {lo hi : Nat} (q : M3 h c) (f : Fr lo hi h h') (hx : 151 ≤ lo ∨ hi ≤ 148) : M3 h' c := by
  obtain ⟨F4, F5, F6, h1, h2, h3, h4⟩ := q
  exact ⟨F4, F5, F6, (f _ (by omega)).trans h1, (f _ (by omega)).trans h2, (f _ (by omega)).trans h3, h4⟩
theorem MT.fr {h h' : gH} {t : Nat × (Nat → Nat)} {lo hi : Nat} (q : MT h t) (f : Fr lo hi h h') (hx : 152 ≤ lo ∨ hi ≤ 151) : MT h' t := by
  obtain ⟨T, h1, h2⟩ := q
  exact ⟨T, (f _ (by omega)).trans h1, h2⟩
theorem MU.fr {h h' : gH} {u : Nat × (Nat → CD)} {lo hi : Nat} (q : MU h u) (f : Fr lo hi h h') (hx : 155 ≤ lo ∨ hi ≤ 154) : MU h' u := by
  obtain ⟨T, h1, h2⟩ := q
  exact ⟨T, (f _ (by omega)).trans h1, h2⟩
theorem MI.fr {h h' : gH} {u : (Nat → CD) × (Nat → Bool)} {lo hi : Nat} (q : MI h u) (f : Fr lo hi h h') (hx : 156 ≤ lo ∨ hi ≤ 155) : MI h' u := by
  obtain ⟨T, h1, h2⟩ := q
  exact ⟨T, (f _ (by omega)).trans h1, h2⟩
theorem MX.fr {h h' : gH} {lo hi : Nat} (q : MX h) (f : Fr lo hi h h') (hx : 163 ≤ lo ∨ hi ≤ 152 ∨ (154 ≤ lo ∧ hi ≤ 156)) : MX h' := by
  obtain ⟨a, b, c, d, e, f', g, x, y, h1, h2, h3, h4, h5, h6, h7, h8, h9⟩ := q
  exact ⟨a, b, c, d, e, f', g, x, y, (f _ (by omega)).trans h1, (f _ (by omega)).trans h2, (f _ (by omega)).trans h3, (f _ (by omega)).trans h4, (f _ (by omega)).trans h5, (f _ (by omega)).trans h6, (f _ (by omega)).trans h7, (f _ (by omega)).trans h8, (f _ (by omega)).trans h9⟩
theorem MS.fr {h h' : gH} {s : SD} {lo hi : Nat} (q : MS h s) (f : Fr lo hi h h') (hx : hi ≤ 147) : MS h' s := by
  obtain ⟨⟨r0, r1, r2, r3, r4, sn, rn, h0⟩, h1, h2, h3, h4, h5⟩ := q
  exact ⟨⟨r0, r1, r2, r3, r4, sn, rn, (f _ (by omega)).trans h0⟩, h1.fr f (by omega), h2.fr f (by omega), h3.fr f (by omega), h4.fr f (by omega), h5.fr f (by omega)⟩
/-! in, isWhere, placeAt -/
theorem run_inI (d : Nat) {N : Nat} {h : gH} (x lo hi : Int32) : Run d yX9_in cX9_in 3 (some .boolean) [.int x, .int lo, .int hi] h N 0 0 (fun v h' N' => v = some (.int (bI (decide (lo.toInt ≤ x.toInt ∧ x.toInt ≤ hi.toInt)))) ∧ h' = h ∧ N' = N) := by
  refine Run.of (ini := false) (L := [_, _, _]) mX9_in (fun h => by cases h) rfl (Nat.le_of_ble_eq_true rfl) rfl ?_
  refine go_iload_n dX9_in_0 rfl ?_
  refine go_iload_n dX9_in_1 rfl ?_
  refine go_icmp_lt (tgt := 14) dX9_in_2 (by decide) (fun c_2 => ?_) (fun c_2 => ?_)
  · skip
    rw [Int32.lt_iff_toInt_lt] at c_2
    refine go_iconst (v := nI 0) dX9_in_14 (by decide) ?_
    refine go_zret dX9_in_15 rfl (by first | exact Or.inl rfl | exact Or.inr rfl) ?_
    first | exact ⟨by rw [decide_eq_true (by omega)]; rfl, rfl, rfl⟩ | exact ⟨by rw [decide_eq_false (by omega)]; rfl, rfl, rfl⟩
  · skip
    rw [Int32.lt_iff_toInt_lt] at c_2
    refine go_iload_n dX9_in_5 rfl ?_
    refine go_iload_n dX9_in_6 rfl ?_
    refine go_icmp_gt (tgt := 14) dX9_in_7 (by decide) (fun c_7 => ?_) (fun c_7 => ?_)
    · skip
      rw [Int32.lt_iff_toInt_lt] at c_7
      refine go_iconst (v := nI 0) dX9_in_14 (by decide) ?_
      refine go_zret dX9_in_15 rfl (by first | exact Or.inl rfl | exact Or.inr rfl) ?_
      first | exact ⟨by rw [decide_eq_true (by omega)]; rfl, rfl, rfl⟩ | exact ⟨by rw [decide_eq_false (by omega)]; rfl, rfl, rfl⟩
    · skip
      rw [Int32.lt_iff_toInt_lt] at c_7
      refine go_iconst (v := nI 1) dX9_in_10 (by decide) ?_
      refine go_goto (tgt := 15) dX9_in_11 (by decide) ?_
      refine go_zret dX9_in_15 rfl (by first | exact Or.inl rfl | exact Or.inr rfl) ?_
      first | exact ⟨by rw [decide_eq_true (by omega)]; rfl, rfl, rfl⟩ | exact ⟨by rw [decide_eq_false (by omega)]; rfl, rfl, rfl⟩
theorem run_in (d : Nat) {N lo hi : Nat} {h : gH} (x : Int32) (h1 : lo < 2 ^ 31) (h2 : hi < 2 ^ 31) : Run d yX9_in cX9_in 3 (some .boolean) [.int x, .int (nI lo), .int (nI hi)] h N 0 0 (fun v h' N' => v = some (.int (bI (rI lo hi x))) ∧ h' = h ∧ N' = N) := by
  refine (run_inI d x (nI lo) (nI hi)).mono ?_
  rintro v h' N' ⟨e, a, b⟩
  refine ⟨?_, a, b⟩
  rw [e, nI_toInt h1, nI_toInt h2]
  rfl
theorem run_isWhere (d : Nat) {N : Nat} {h : gH} (x y : Int32) : Run (d + 1) yX9_isWhere cX9_isWhere 2 (some .boolean) [.int x, .int y] h N 0 0 (fun v h' N' => v = some (.int (bI (rI 0 9 x && rI 0 9 y))) ∧ h' = h ∧ N' = N) := by
  refine Run.of (ini := false) (L := [_, _]) mX9_isWhere (fun h => by cases h) rfl (Nat.le_of_ble_eq_true rfl) rfl ?_
  refine go_iload_n dX9_isWhere_0 rfl ?_
  refine go_iconst (v := nI 0) dX9_isWhere_1 (by decide) ?_
  refine go_bipush (v := nI 9) dX9_isWhere_2 (by decide) ?_
  refine go_is dX9_isWhere_4 mX9_in iX9_63 (run_in d (lo := 0) (hi := 9) x (by decide) (by decide)) rfl rfl (Nat.le_of_ble_eq_true rfl) (Nat.zero_le _) (Nat.zero_le _) (fun v_4 h_4 n_4 q_4 => ?_)
  obtain ⟨rfl, rfl, rfl⟩ := q_4
  refine go_if_eq (tgt := 24) dX9_isWhere_7 (by decide) (fun c_7 => ?_) (fun c_7 => ?_)
  · skip
    rw [bI_eq] at c_7
    refine go_iconst (v := nI 0) dX9_isWhere_24 (by decide) ?_
    refine go_zret dX9_isWhere_25 rfl (by first | exact Or.inl rfl | exact Or.inr rfl) ?_
    first | exact ⟨by rw [c_7, c_17]; rfl, rfl, rfl⟩ | exact ⟨by rw [c_7]; rfl, rfl, rfl⟩
  · skip
    rw [bI_ne] at c_7
    refine go_iload_n dX9_isWhere_10 rfl ?_
    refine go_iconst (v := nI 0) dX9_isWhere_11 (by decide) ?_
    refine go_bipush (v := nI 9) dX9_isWhere_12 (by decide) ?_
    refine go_is dX9_isWhere_14 mX9_in iX9_63 (run_in d (lo := 0) (hi := 9) y (by decide) (by decide)) rfl rfl (Nat.le_of_ble_eq_true rfl) (Nat.zero_le _) (Nat.zero_le _) (fun v_14 h_14 n_14 q_14 => ?_)
    obtain ⟨rfl, rfl, rfl⟩ := q_14
    refine go_if_eq (tgt := 24) dX9_isWhere_17 (by decide) (fun c_17 => ?_) (fun c_17 => ?_)
    · skip
      rw [bI_eq] at c_17
      refine go_iconst (v := nI 0) dX9_isWhere_24 (by decide) ?_
      refine go_zret dX9_isWhere_25 rfl (by first | exact Or.inl rfl | exact Or.inr rfl) ?_
      first | exact ⟨by rw [c_7, c_17]; rfl, rfl, rfl⟩ | exact ⟨by rw [c_7]; rfl, rfl, rfl⟩
    · skip
      rw [bI_ne] at c_17
      refine go_iconst (v := nI 1) dX9_isWhere_20 (by decide) ?_
      refine go_goto (tgt := 25) dX9_isWhere_21 (by decide) ?_
      refine go_zret dX9_isWhere_25 rfl (by first | exact Or.inl rfl | exact Or.inr rfl) ?_
      first | exact ⟨by rw [c_7, c_17]; rfl, rfl, rfl⟩ | exact ⟨by rw [c_7]; rfl, rfl, rfl⟩
set_option maxRecDepth 100000 in
theorem placeAt_loop {d n x : Nat} {h : gH} {w v : Nat → Nat} {f : Nat → Option Nat} {F : Nat → Int32} {a k e s r0 r1 r2 r3 r4 u sn rn : Int32} (h0 : h 147 = mo (nI n) a k e s r0 r1 r2 r3 r4 u sn rn) (h4 : h 148 = .inl (0, 24, .inl F)) (hn : n ≤ 24) (hE : EN f n w v) (hF : ∀ i, i < n → F i = nI (w i)) (hx : x < 100) : ∀ (m i : Nat) (p : Int32), i + m = n → ((p = -9 ∧ ∀ j, j < i → w j ≠ x) ∨ ∃ j, j < i ∧ w j = x ∧ p = nI j) → Go none RX9 cX9_placeAt 4 (some .int) false d 5 [some (.ref 147), some (.int (nI x)), some (.int p), some (.int (nI i))] [] h 163 0 0 (fun r h' N' => ((r = some (.int (-9)) ∧ ∀ j, j < n → w j ≠ x) ∨ ∃ j, j < n ∧ w j = x ∧ r = some (.int (nI j))) ∧ h' = h ∧ N' = 163) := by
  intro m
  induction m with
  | zero =>
    intro i p hi hp
    have e : i = n := by omega
    subst e
    refine go_iload_n dX9_placeAt_5 rfl ?_
    refine go_aload_n dX9_placeAt_6 rfl ?_
    refine go_get dX9_placeAt_7 fX9_60 (by omega) h0 rfl ?_
    refine go_icmp_ge (tgt := 35) dX9_placeAt_10 (by decide) (fun c_10 => ?_) (fun c_10 => ?_)
    · skip
      refine go_iload_n dX9_placeAt_35 rfl ?_
      refine go_iret dX9_placeAt_36 rfl ?_
      refine ⟨?_, rfl, rfl⟩
      rcases hp with ⟨h1, h2⟩ | ⟨j, h1, h2, h3⟩
      · exact Or.inl ⟨by rw [h1], h2⟩
      · exact Or.inr ⟨j, h1, h2, by rw [h3]⟩
    · exact absurd (nI_le (Nat.le_refl _) (by omega)) c_10
  | succ m ih =>
    intro i p hi hp
    have hw := (hE.1 i (by omega)).1
    refine go_iload_n dX9_placeAt_5 rfl ?_
    refine go_aload_n dX9_placeAt_6 rfl ?_
    refine go_get dX9_placeAt_7 fX9_60 (by omega) h0 rfl ?_
    refine go_icmp_ge (tgt := 35) dX9_placeAt_10 (by decide) (fun c_10 => ?_) (fun c_10 => ?_)
    · exact absurd c_10 (nI_ge (by omega) (by omega))
    · skip
      refine go_aload_n dX9_placeAt_13 rfl ?_
      refine go_get dX9_placeAt_14 fX9_13 (by omega) h0 rfl ?_
      refine go_iload_n dX9_placeAt_17 rfl ?_
      refine go_iald dX9_placeAt_18 (by omega) h4 rfl (by omega) (by omega) ?_
      refine go_top (y := .int (nI (w i))) (by rw [hF i (by omega)]) ?_
      refine go_iload_n dX9_placeAt_19 rfl ?_
      refine go_icmp_ne (tgt := 27) dX9_placeAt_20 (by decide) (fun c_20 => ?_) (fun c_20 => ?_)
      · skip
        have hne : w i ≠ x := fun q => c_20 (by rw [q])
        refine go_iload_n dX9_placeAt_27 rfl ?_
        refine go_istore_n (L' := [_, _, _, _]) dX9_placeAt_28 rfl (by decide) rfl ?_
        refine go_inc (L' := [_, _, _, _]) dX9_placeAt_29 rfl (by decide) rfl ?_
        refine go_goto (tgt := 5) dX9_placeAt_32 (by decide) ?_
        first | exact ih (i + 1) (nI i) (by omega) (Or.inr ⟨i, by omega, heq, rfl⟩) | (refine ih (i + 1) p (by omega) ?_; rcases hp with ⟨h1, h2⟩ | ⟨j, h1, h2, h3⟩; exact Or.inl ⟨h1, fun j hj => by rcases Nat.lt_or_ge j i with z | z; exact h2 j z; rw [show j = i by omega]; exact hne⟩; exact Or.inr ⟨j, by omega, h2, h3⟩)
      · skip
        have heq : w i = x := (nI_eq (by omega) (by omega)).mp (Decidable.not_not.mp c_20)
        refine go_iload_n dX9_placeAt_23 rfl ?_
        refine go_goto (tgt := 28) dX9_placeAt_24 (by decide) ?_
        refine go_istore_n (L' := [_, _, _, _]) dX9_placeAt_28 rfl (by decide) rfl ?_
        refine go_inc (L' := [_, _, _, _]) dX9_placeAt_29 rfl (by decide) rfl ?_
        refine go_goto (tgt := 5) dX9_placeAt_32 (by decide) ?_
        first | exact ih (i + 1) (nI i) (by omega) (Or.inr ⟨i, by omega, heq, rfl⟩) | (refine ih (i + 1) p (by omega) ?_; rcases hp with ⟨h1, h2⟩ | ⟨j, h1, h2, h3⟩; exact Or.inl ⟨h1, fun j hj => by rcases Nat.lt_or_ge j i with z | z; exact h2 j z; rw [show j = i by omega]; exact hne⟩; exact Or.inr ⟨j, by omega, h2, h3⟩)
theorem run_placeAt (d : Nat) {n x : Nat} {h : gH} {w v : Nat → Nat} {f : Nat → Option Nat} {F : Nat → Int32} {a k e s r0 r1 r2 r3 r4 u sn rn : Int32} (h0 : h 147 = mo (nI n) a k e s r0 r1 r2 r3 r4 u sn rn) (h4 : h 148 = .inl (0, 24, .inl F)) (hn : n ≤ 24) (hE : EN f n w v) (hF : ∀ i, i < n → F i = nI (w i)) (hx : x < 100) : Run d yX9_placeAt cX9_placeAt 4 (some .int) [.ref 147, .int (nI x)] h 163 0 0 (fun r h' N' => ((r = some (.int (-9)) ∧ f x = none) ∨ ∃ j, j < n ∧ w j = x ∧ r = some (.int (nI j)) ∧ f x = some (v j)) ∧ h' = h ∧ N' = 163) := by
  refine Run.of (ini := false) (L := [_, _, _, _]) mX9_placeAt (fun h => by cases h) rfl (Nat.le_of_ble_eq_true rfl) rfl ?_
  refine go_bipush (v := (-9)) dX9_placeAt_0 (by decide) ?_
  refine go_istore_n (L' := [_, _, _, _]) dX9_placeAt_2 rfl (by decide) rfl ?_
  refine go_iconst (v := nI 0) dX9_placeAt_3 (by decide) ?_
  refine go_istore_n (L' := [_, _, _, _]) dX9_placeAt_4 rfl (by decide) rfl ?_
  refine go_Q ?_ (placeAt_loop h0 h4 hn hE hF hx n 0 (-9) (by omega) (Or.inl ⟨rfl, fun j hj => absurd hj (by omega)⟩))
  rintro r h' N' ⟨h1 | ⟨j, h1, h2, h3⟩, h5, h6⟩
  · refine ⟨Or.inl ⟨h1.1, ?_⟩, h5, h6⟩
    cases hq : f x with
    | none => rfl
    | some y =>
      obtain ⟨i, hi, q⟩ := hE.2.2 x hx (by rw [hq]; simp)
      exact absurd q (h1.2 i hi)
  · exact ⟨Or.inr ⟨j, h1, h2, h3, by rw [← h2]; exact (hE.1 j h1).2⟩, h5, h6⟩
