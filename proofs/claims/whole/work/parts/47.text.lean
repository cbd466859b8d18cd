/-! ===== what a text tells ===== -/
abbrev TX : Type := Nat × (Nat → Nat)
def isL (b : Nat) : Bool := decide (97 ≤ b ∧ b ≤ 122)
def isD (b : Nat) : Bool := decide (48 ≤ b ∧ b ≤ 57)
/-- where a run of such bytes ends -/
def rnE (P : Nat → Bool) (t : TX) : Nat → Nat → Nat
  | 0, p => p
  | n + 1, p => if p < t.1 ∧ P (t.2 p) = true then rnE P t n (p + 1) else p
def rn (P : Nat → Bool) (t : TX) (p : Nat) : Nat := rnE P t (t.1 - p) p
theorem rn_step {P : Nat → Bool} {t : TX} {p : Nat} (h1 : p < t.1) (h2 : P (t.2 p) = true) : rn P t p = rn P t (p + 1) := by
  unfold rn
  rw [show t.1 - p = t.1 - (p + 1) + 1 by omega, rnE, if_pos ⟨h1, h2⟩]
theorem rn_stop {P : Nat → Bool} {t : TX} {p : Nat} (h : ¬ (p < t.1 ∧ P (t.2 p) = true)) : rn P t p = p := by
  unfold rn
  cases t.1 - p with
  | zero => rfl
  | succ n => rw [rnE, if_neg h]
theorem rnE_b {P : Nat → Bool} {t : TX} : ∀ (n p : Nat), p ≤ rnE P t n p ∧ (p ≤ t.1 → rnE P t n p ≤ t.1) ∧ ∀ i, p ≤ i → i < rnE P t n p → i < t.1 ∧ P (t.2 i) = true
  | 0, p => ⟨Nat.le_refl _, fun h => h, fun i h1 h2 => absurd h2 (by simp only [rnE]; omega)⟩
  | n + 1, p => by
    rw [rnE]
    split
    · rename_i h
      have ih := rnE_b (P := P) (t := t) n (p + 1)
      refine ⟨by omega, fun _ => ih.2.1 (by omega), fun i h1 h2 => ?_⟩
      by_cases e : i = p
      · rw [e]; exact h
      · exact ih.2.2 i (by omega) h2
    · exact ⟨Nat.le_refl _, fun h => h, fun i h1 h2 => absurd h2 (by omega)⟩
theorem rn_ge {P : Nat → Bool} {t : TX} {p : Nat} : p ≤ rn P t p := (rnE_b _ _).1
theorem rn_le {P : Nat → Bool} {t : TX} {p : Nat} (h : p ≤ t.1) : rn P t p ≤ t.1 := (rnE_b _ _).2.1 h
theorem rn_in {P : Nat → Bool} {t : TX} {p i : Nat} (h1 : p ≤ i) (h2 : i < rn P t p) : i < t.1 ∧ P (t.2 i) = true := (rnE_b _ _).2.2 i h1 h2
theorem rn_gt {P : Nat → Bool} {t : TX} {p : Nat} (h1 : p < t.1) (h2 : P (t.2 p) = true) : p < rn P t p := by
  rw [rn_step h1 h2]
  have := rn_ge (P := P) (t := t) (p := p + 1)
  omega
/-- the value of n digits from p on -/
def nvl (t : TX) (p : Nat) : Nat → Nat
  | 0 => 0
  | n + 1 => 10 * nvl t p n + (t.2 (p + n) - 48)
def numT (t : TX) (p e : Nat) : Option Nat := if 3 < e - p ∨ (t.2 p = 48 ∧ 1 < e - p) then none else some (nvl t p (e - p))
/-- how far the reading is: what is awaited, items, places begun, classes and cost begun, row, cell, numbers, classes, cost -/
abbrev PS : Type := Nat × Nat × Nat × Bool × Bool × Nat × Nat × (Nat → Option Nat) × Nat × Nat
def tkL : PS → Nat → Option PS
  | (aw, it, pb, kb, cb, ro, ce, f, K, C), b =>
    if aw = 0 then
      (if b = 112 then (if pb < 24 then some (1, it, pb + 1, kb, cb, ro, ce, f, K, C) else none)
       else if b = 107 then (if kb = true then none else some (4, it, pb, true, cb, ro, ce, f, K, C))
       else if b = 99 then (if cb = true then none else some (5, it, pb, kb, true, ro, ce, f, K, C))
       else none)
    else none
def tkN : PS → Nat → Option PS
  | (aw, it, pb, kb, cb, ro, ce, f, K, C), v =>
    if aw = 1 then (if v ≤ 9 then some (2, it, pb, kb, cb, v, ce, f, K, C) else none)
    else if aw = 2 then (if v ≤ 9 ∧ f (10 * ro + v) = none then some (3, it, pb, kb, cb, ro, 10 * ro + v, f, K, C) else none)
    else if aw = 3 then (if v ≤ 999 then some (6, it, pb, kb, cb, ro, ce, setF f ce (some v), K, C) else none)
    else if aw = 4 then (if 1 ≤ v ∧ v ≤ 6 then some (6, it, pb, kb, cb, ro, ce, f, v, C) else none)
    else if aw = 5 then (if v ≤ 999 then some (6, it, pb, kb, cb, ro, ce, f, K, v) else none)
    else none
def tkE : PS → Option PS
  | (aw, it, pb, kb, cb, ro, ce, f, K, C) => if aw = 6 then some (0, it + 1, pb, kb, cb, ro, ce, f, K, C) else none
/-- one token: where it ends, and what it does; none: it is a fault -/
def tok (t : TX) (p : Nat) (s : PS) : Option (Nat × PS) :=
  if isL (t.2 p) = true then (if rn isL t p = p + 1 then (tkL s (t.2 p)).map (fun s' => (p + 1, s')) else none)
  else if isD (t.2 p) = true then ((numT t p (rn isD t p)).bind (tkN s)).map (fun s' => (rn isD t p, s'))
  else if t.2 p = 59 then (tkE s).map (fun s' => (p + 1, s'))
  else none
theorem tok_lt {t : TX} {p p' : Nat} {s s' : PS} (hp : p < t.1) (h : tok t p s = some (p', s')) : p < p' := by
  unfold tok at h
  split at h
  · split at h
    · cases hq : tkL s (t.2 p) with
      | none => rw [hq] at h; cases h
      | some x => rw [hq] at h; cases h; omega
    · cases h
  · split at h
    · rename_i hd
      have := rn_gt hp hd
      cases hq : (numT t p (rn isD t p)).bind (tkN s) with
      | none => rw [hq] at h; cases h
      | some x => rw [hq] at h; cases h; exact this
    · split at h
      · cases hq : tkE s with
        | none => rw [hq] at h; cases h
        | some x => rw [hq] at h; cases h; omega
      · cases h
/-- the whole reading from p on: where the fault is, or what was told -/
def rdE (t : TX) : Nat → Nat → PS → Nat ⊕ PS
  | 0, p, _ => .inl p
  | n + 1, p, s => if t.1 ≤ p then (if s.1 = 0 then .inr s else .inl t.1) else if t.2 p = 32 then rdE t n (p + 1) s else
      match tok t p s with
      | none => .inl p
      | some q => rdE t n q.1 q.2
theorem rdE_same {t : TX} : ∀ (n m p : Nat) (s : PS), t.1 - p < n → t.1 - p < m → rdE t n p s = rdE t m p s
  | 0, m, p, s, h, _ => absurd h (by omega)
  | n + 1, 0, p, s, _, h => absurd h (by omega)
  | n + 1, m + 1, p, s, h1, h2 => by
    rw [rdE, rdE]
    split
    · rfl
    · split
      · exact rdE_same n m (p + 1) s (by omega) (by omega)
      · cases hq : tok t p s with
        | none => rfl
        | some q =>
          have := tok_lt (p' := q.1) (s' := q.2) (by omega) hq
          exact rdE_same n m q.1 q.2 (by omega) (by omega)
def rd (t : TX) (p : Nat) (s : PS) : Nat ⊕ PS := rdE t (t.1 - p + 1) p s
theorem rd_end {t : TX} {p : Nat} {s : PS} (h : t.1 ≤ p) : rd t p s = if s.1 = 0 then .inr s else .inl t.1 := by
  unfold rd
  rw [rdE, if_pos h]
theorem rd_blank {t : TX} {p : Nat} {s : PS} (h : p < t.1) (hb : t.2 p = 32) : rd t p s = rd t (p + 1) s := by
  unfold rd
  rw [rdE, if_neg (by omega), if_pos hb]
  exact rdE_same _ _ _ _ (by omega) (by omega)
theorem rd_no {t : TX} {p : Nat} {s : PS} (h : p < t.1) (hb : ¬ t.2 p = 32) (hq : tok t p s = none) : rd t p s = .inl p := by
  unfold rd
  rw [rdE, if_neg (by omega), if_neg hb, hq]
theorem rd_tok {t : TX} {p p' : Nat} {s s' : PS} (h : p < t.1) (hb : ¬ t.2 p = 32) (hq : tok t p s = some (p', s')) : rd t p s = rd t p' s' := by
  have := tok_lt h hq
  unfold rd
  rw [rdE, if_neg (by omega), if_neg hb, hq]
  exact rdE_same _ _ _ _ (by omega) (by omega)
def ps0 : PS := (0, 0, 0, false, false, 0, 0, fun _ => none, 3, 0)
def mapS (s : SD) : Int32 × SD :=
  match rd s.2.2.2 0 ps0 with
  | .inl q => (-10 - nI q, s)
  | .inr (_, it, _, _, _, _, _, f, K, C) => (nI it, ((f, fun _ => 0, none, K, C), (0, s.2.1.2), (s.2.2.1.1, fun _ => false), (0, s.2.2.2.2)))
/-- what a reading keeps to -/
def PO (p : Nat) : PS → Prop
  | (aw, it, pb, kb, cb, ro, ce, f, K, C) => aw ≤ 6 ∧ it ≤ p ∧ pb ≤ 24 ∧ (∀ x, x < 100 → ∀ v, f x = some v → v ≤ 999) ∧ (cP f 100 + (if aw = 1 ∨ aw = 2 ∨ aw = 3 then 1 else 0) ≤ pb) ∧ (1 ≤ K ∧ K ≤ 6) ∧ C ≤ 999 ∧ (aw = 2 → ro ≤ 9) ∧ (aw = 3 → ce < 100 ∧ f ce = none)
theorem PO.zero : PO 0 ps0 := by
  refine ⟨by decide, by decide, by decide, fun x _ v h => (by cases h), ?_, by decide, by decide, (fun h => by cases h), (fun h => by cases h)⟩
  have : cP (fun _ => none) 100 = 0 := by rw [← gsum_cP]; exact gsum_0 (fun _ _ => rfl)
  rw [this]
  decide
theorem PO.mono {p p' : Nat} {s : PS} (h : PO p s) (hp : p ≤ p') : PO p' s := by
  obtain ⟨aw, it, pb, kb, cb, ro, ce, f, K, C⟩ := s
  obtain ⟨h1, h2, h3⟩ := h
  exact ⟨h1, by omega, h3⟩
theorem cP_new {f : Nat → Option Nat} {x v : Nat} (hx : x < 100) (hf : f x = none) : cP (setF f x (some v)) 100 = cP f 100 + 1 := by
  have h1 : setF f x (some v) x = some v := by simp [setF]
  have h2 : setF (setF f x (some v)) x none = f := by
    funext y
    by_cases e : y = x
    · subst e; simp [setF, hf]
    · simp [setF, e]
  rw [← gsum_cP, gsum_set h1 hx, h2, gsum_cP]
theorem PO_L {p : Nat} {s s' : PS} {b : Nat} (h : PO p s) (q : tkL s b = some s') : PO p s' := by
  obtain ⟨aw, it, pb, kb, cb, ro, ce, f, K, C⟩ := s
  obtain ⟨h1, h2, h3, h4, h5, h6, h7, h8, h9⟩ := h
  simp only [tkL] at q
  split at q
  · rename_i e
    subst e
    have h5 : cP f 100 ≤ pb := by simpa using h5
    split at q
    · split at q
      · cases q
        exact ⟨by omega, h2, by omega, h4, by simp; omega, h6, h7, (fun z => by cases z), (fun z => by cases z)⟩
      · cases q
    · split at q
      · split at q
        · cases q
        · cases q
          exact ⟨by omega, h2, h3, h4, by simp; omega, h6, h7, (fun z => by cases z), (fun z => by cases z)⟩
      · split at q
        · split at q
          · cases q
          · cases q
            exact ⟨by omega, h2, h3, h4, by simp; omega, h6, h7, (fun z => by cases z), (fun z => by cases z)⟩
        · cases q
  · cases q
theorem PO_N {p : Nat} {s s' : PS} {v : Nat} (h : PO p s) (q : tkN s v = some s') : PO p s' := by
  obtain ⟨aw, it, pb, kb, cb, ro, ce, f, K, C⟩ := s
  obtain ⟨h1, h2, h3, h4, h5, h6, h7, h8, h9⟩ := h
  simp only [tkN] at q
  split at q
  · rename_i e
    subst e
    split at q
    · cases q
      exact ⟨by omega, h2, h3, h4, by simpa using h5, h6, h7, (fun _ => by assumption), (fun z => by cases z)⟩
    · cases q
  · split at q
    · rename_i e
      subst e
      split at q
      · rename_i e2
        cases q
        exact ⟨by omega, h2, h3, h4, by simpa using h5, h6, h7, (fun z => by cases z), (fun _ => ⟨by have := h8 rfl; omega, e2.2⟩)⟩
      · cases q
    · split at q
      · rename_i e
        subst e
        split at q
        · rename_i e2
          cases q
          obtain ⟨g1, g2⟩ := h9 rfl
          have h5 : cP f 100 + 1 ≤ pb := by simpa using h5
          refine ⟨by omega, h2, h3, fun x hx w hf => ?_, by rw [cP_new g1 g2]; simp; omega, h6, h7, (fun z => by cases z), (fun z => by cases z)⟩
          by_cases e3 : x = ce
          · subst e3
            simp [setF] at hf
            omega
          · simp only [setF, if_neg e3] at hf
            exact h4 x hx w hf
        · cases q
      · split at q
        · rename_i e
          subst e
          split at q
          · rename_i e2
            cases q
            exact ⟨by omega, h2, h3, h4, by simpa using h5, e2, h7, (fun z => by cases z), (fun z => by cases z)⟩
          · cases q
        · split at q
          · rename_i e
            subst e
            split at q
            · rename_i e2
              cases q
              exact ⟨by omega, h2, h3, h4, by simpa using h5, h6, e2, (fun z => by cases z), (fun z => by cases z)⟩
            · cases q
          · cases q
theorem PO_E {p : Nat} {s s' : PS} (h : PO p s) (q : tkE s = some s') : PO (p + 1) s' := by
  obtain ⟨aw, it, pb, kb, cb, ro, ce, f, K, C⟩ := s
  obtain ⟨h1, h2, h3, h4, h5, h6, h7, h8, h9⟩ := h
  simp only [tkE] at q
  split at q
  · rename_i e
    subst e
    cases q
    exact ⟨by omega, by omega, h3, h4, by simpa using h5, h6, h7, (fun z => by cases z), (fun z => by cases z)⟩
  · cases q
theorem PO_tok {t : TX} {p p' : Nat} {s s' : PS} (hp : p < t.1) (h : PO p s) (q : tok t p s = some (p', s')) : PO p' s' := by
  have hlt := tok_lt hp q
  unfold tok at q
  split at q
  · split at q
    · cases hq : tkL s (t.2 p) with
      | none => rw [hq] at q; cases q
      | some x => rw [hq] at q; cases q; exact (PO_L h hq).mono (by omega)
    · cases q
  · split at q
    · cases hq : (numT t p (rn isD t p)).bind (tkN s) with
      | none => rw [hq] at q; cases q
      | some x =>
        rw [hq] at q
        cases hn : numT t p (rn isD t p) with
        | none => rw [hn] at hq; cases hq
        | some v =>
          rw [hn] at hq
          cases q
          exact (PO_N h hq).mono (by omega)
    · split at q
      · cases hq : tkE s with
        | none => rw [hq] at q; cases q
        | some x => rw [hq] at q; cases q; exact PO_E h hq
      · cases q
theorem tok_le {t : TX} {p p' : Nat} {s s' : PS} (hp : p < t.1) (q : tok t p s = some (p', s')) : p' ≤ t.1 := by
  unfold tok at q
  split at q
  · split at q
    · cases hq : tkL s (t.2 p) with
      | none => rw [hq] at q; cases q
      | some x => rw [hq] at q; cases q; omega
    · cases q
  · split at q
    · cases hq : (numT t p (rn isD t p)).bind (tkN s) with
      | none => rw [hq] at q; cases q
      | some x => rw [hq] at q; cases q; exact rn_le (by omega)
    · split at q
      · cases hq : tkE s with
        | none => rw [hq] at q; cases q
        | some x => rw [hq] at q; cases q; omega
      · cases q
