/-! ===== what the calls that only read answer ===== -/
/-- where run i begins, as a number; -1 asks how many runs there are -/
noncomputable def begS (c : CD) (q : PD) (i : Int32) : Int32 := if i.toInt = -1 then nI q.1 else if 0 ≤ i.toInt ∧ i.toInt < (q.1 : Int) then nI ((so c.1).2.1 (q.2.1 (toN i))) else -1
/-- how many of the first m borders are strange -/
noncomputable def stB (c : CD) (q : PD) : Nat → Nat
  | 0 => 0
  | m + 1 => stB c q m + if oldB c.2.1 ((so c.1).2.1 (q.2.1 (m + 1))) (oK c.2.2.1) = true then 0 else 1
theorem stB_le (c : CD) (q : PD) : ∀ m, stB c q m ≤ m
  | 0 => Nat.le_refl _
  | m + 1 => by have := stB_le c q m; rw [stB]; split <;> omega
noncomputable def strS (c : CD) : Nat := stB c (nowD c) ((nowD c).1 - 1)
/-- in which class a number lies -/
noncomputable def shS (c : CD) (v : Nat) : Nat := rO (fun j => decide ((so c.1).2.1 ((nowD c).2.1 j) ≤ v)) (nowD c).1 (nowD c).1 0
noncomputable def placeS (c : CD) (r k w : Int32) : Int32 :=
  if (rI 0 9 r && rI 0 9 k && rI 0 2 w) = true then
    (match c.1 (10 * toN r + toN k) with
     | none => -9
     | some v => if toN w = 0 then nI v else if toN w = 1 then nI (shS c v) else nI (tint (shS c v) (nowD c).1))
  else -1
noncomputable def sortedS (c : CD) (i w : Int32) : Int32 :=
  if (0 ≤ i.toInt ∧ i.toInt < ((so c.1).1 : Int)) ∧ rI 0 2 w = true then
    (if toN w = 0 then nI ((so c.1).2.1 (toN i)) else if toN w = 1 then nI ((so c.1).2.2 (toN i)) else nI (shS c ((so c.1).2.1 (toN i))))
  else -1
def spN (q : PD) : Nat := q.2.2.toInt.toNat
def toldS (p : Nat) (u : Bool) : Int64 := lN ((if u = true then p else 5354228880) / Nat.gcd p 5354228880)
noncomputable def spreadS (c : CD) (w : Int32) : Int64 := if rI 0 1 w = true then toldS (spN (nowD c)) (toN w == 0) else -1
noncomputable def leastS (c : CD) (k i : Int32) : Int32 := if rI 1 6 k = true then begS c (leastD c (toN k)) i else -1
noncomputable def gainS (c : CD) (k w : Int32) : Int64 :=
  if (rI 1 6 k && rI 0 3 w) = true ∧ (toN w < 2 ∨ 2 ≤ toN k) then
    (if toN w < 2 then toldS (spN (leastD c (toN k))) (toN w == 0) else toldS (spN (leastD c (toN k - 1)) - spN (leastD c (toN k))) (toN w == 2))
  else -1
noncomputable def lastS (c : CD) (k j : Int32) : Int32 := if rI 1 6 k = true ∧ 1 ≤ j.toInt ∧ j.toInt ≤ ((so c.1).1 : Int) then lastI c (toN k) (toN j) else -1
/-- the first of k, k + 1, .. (m of them) that is enough -/
noncomputable def enG (c : CD) (x : Nat) : Nat → Nat → Int32
  | 0, _ => -9
  | m + 1, k => if 100 * spN (leastD c k) ≤ x * spN (leastD c 1) then nI k else enG c x m (k + 1)
noncomputable def enoughS (c : CD) (x : Int32) : Int32 := if rI 0 100 x = true then enG c (toN x) 6 1 else -1
noncomputable def countN (s : SD) : Nat → Int32
  | 0 => nI (cP s.1.1 100)
  | 1 => nI (so s.1.1).1
  | 2 => nI s.1.2.2.2.1
  | 3 => nI s.1.2.2.2.2
  | 4 => oI s.1.2.2.1
  | 5 => nI (sP s.1.1 100)
  | 6 => nI s.2.1.1
  | _ => nI s.2.2.2.1
noncomputable def countS (s : SD) (w : Int32) : Int32 := if rI 0 7 w = true then countN s (toN w) else -1
noncomputable def closeC (c : CD) : CD := (c.1, (fun i => if i < (nowD c).1 - 1 then (so c.1).2.1 ((nowD c).2.1 (i + 1)) else c.2.1 i), some ((nowD c).1 - 1), c.2.2.2)
noncomputable def closesS (s : SD) : Int32 × SD := (nI (strS s.1), chS s (closeC s.1))
/-! partings of a chart -/
theorem par_r (c : CD) (fee : Nat → Int64) (k : Nat) : (parD c fee k).1 = min k (so c.1).1 := rfl
theorem par_lt {c : CD} {fee : Nat → Int64} {k j : Nat} (hj : j < (parD c fee k).1) : (parD c fee k).2.1 j < (so c.1).1 := by
  have := bg_in (n := (so c.1).1) (S := spr (so c.1).2.1 (so c.1).2.2) (fee := fee) (r := min k (so c.1).1) (Nat.min_le_right _ _) (i := j) (Nat.le_of_lt hj)
  have hj : j < min k (so c.1).1 := hj
  show bg _ _ _ _ j < _
  omega
theorem par_up {c : CD} {fee : Nat → Int64} {k i j : Nat} (hij : i < j) (hj : j < (parD c fee k).1) : (parD c fee k).2.1 i < (parD c fee k).2.1 j := by
  induction j with
  | zero => omega
  | succ j ih =>
    have h1 := bg_lt (n := (so c.1).1) (S := spr (so c.1).2.1 (so c.1).2.2) (fee := fee) (r := min k (so c.1).1) (Nat.min_le_right _ _) (i := j) (by have : j + 1 < min k (so c.1).1 := hj; omega)
    by_cases e : i = j
    · subst e; exact h1
    · exact Nat.lt_trans (ih (by omega) (by omega)) h1
theorem now_6 {c : CD} (hw : CW c) : (nowD c).1 ≤ 6 := by have := hw.2.2.2.2.1.2; show min _ _ ≤ _; omega
theorem now_lt {c : CD} {j : Nat} (hj : j < (nowD c).1) : (nowD c).2.1 j < (so c.1).1 := par_lt hj
theorem rO_cong {P P' : Nat → Bool} {r : Nat} : ∀ (m run : Nat), (∀ j, j < r → P j = P' j) → rO P r m run = rO P' r m run
  | 0, _, _ => rfl
  | m + 1, run, h => by
    rw [rO, rO]
    by_cases e : run + 1 < r
    · rw [h _ e, rO_cong m (run + 1) h]
    · simp [e]
theorem CS.pa {h h' : gH} {s : SD} (q : CS h s) (f : Fr 49 147 h h') (p : PaE h' s.1) : CS h' s := ⟨(f _ (by omega)).trans q.1, q.2.1.fr f (by omega), q.2.2.1.fr f (by omega), q.2.2.2.1.fr f (by omega), q.2.2.2.2.1.fr f (by omega), p⟩
theorem PaE.h49 {h : gH} {c : CD} (q : PaE h c) : ∃ l cu le ta, h 49 = pa49 l cu le ta := by obtain ⟨l, cu, le, ta, q⟩ := q; exact ⟨l, cu, le, ta, q.1⟩
/-- SORTED, from whatever has been found -/
theorem run_rungsE (d : Nat) {N : Nat} {h : gH} {c : CD} (hN : 147 ≤ N) (hw : CW c) (hC : Ct h 1 c) (hP : PaE h c) : Run (d + 3) yX6_rungs cX6_rungs 1 (some (FieldType.object "ShadeClasses$Ladder")) [.ref 49] h N 0 0 (fun v h' N' => v = some (.ref 50) ∧ N' = N ∧ PaE h' c ∧ Ld h' (so c.1).1 (so c.1).2.1 (so c.1).2.2 ∧ Fr 49 79 h h') := by
  obtain ⟨l, cu, le, ta, hP⟩ := hP
  exact (run_rungs d hN hw hC hP).mono (fun v h' N' ⟨a, b, c', e⟩ => ⟨a, b, ⟨_, _, _, _, c'⟩, c'.ld, e⟩)
