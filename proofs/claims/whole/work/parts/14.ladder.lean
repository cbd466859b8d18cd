/-! ===== SORTED, by counts ===== -/
/-- n unlike numbers A, rising, with their weights W: just those that cnt counts -/
def Srt (n : Nat) (A W cnt : Nat → Nat) : Prop := (∀ i j, i < j → j < n → A i < A j) ∧ (∀ i, i < n → W i = cnt (A i) ∧ 0 < cnt (A i)) ∧ ∀ v, 0 < cnt v → ∃ i, i < n ∧ A i = v
def bump (cnt : Nat → Nat) (v : Nat) : Nat → Nat := fun x => if x = v then cnt x + 1 else cnt x
/-- how many of the first k places have the number v -/
def cF (f : Nat → Option Nat) : Nat → Nat → Nat
  | 0, _ => 0
  | k + 1, v => cF f k v + (if f k = some v then 1 else 0)
theorem Srt.zero {A W : Nat → Nat} : Srt 0 A W (fun _ => 0) := ⟨fun i j _ h => absurd h (by omega), fun i h => absurd h (by omega), fun v h => absurd h (Nat.lt_irrefl 0)⟩
/-- the first r are less than v, the others aren't -/
def Rk (n : Nat) (A : Nat → Nat) (v r : Nat) : Prop := r ≤ n ∧ (∀ i, i < r → A i < v) ∧ ∀ i, r ≤ i → i < n → v ≤ A i
def insA (A : Nat → Nat) (r v : Nat) : Nat → Nat := fun i => if i < r then A i else if i = r then v else A (i - 1)
theorem Srt.hit {n v r : Nat} {A W cnt : Nat → Nat} (h : Srt n A W cnt) (hr : r < n) (hv : A r = v) : Srt n A (fun i => if i = r then W i + 1 else W i) (bump cnt v) := by
  obtain ⟨h1, h2, h3⟩ := h
  have inj : ∀ i, i < n → A i = v → i = r := by
    intro i hi e
    rcases Nat.lt_trichotomy i r with q | q | q
    · have := h1 i r q hr; omega
    · exact q
    · have := h1 r i q hi; omega
  refine ⟨h1, fun i hi => ?_, fun w hw => ?_⟩
  · obtain ⟨q1, q2⟩ := h2 i hi
    by_cases e : i = r
    · subst e
      simp [bump, hv, q1]
    · have : ¬ A i = v := fun q => e (inj i hi q)
      simp [bump, e, this, q1]
      exact q2
  · by_cases e : w = v
    · exact ⟨r, hr, by rw [hv, e]⟩
    · simp [bump, e] at hw
      exact h3 w hw
theorem Srt.new {n v r : Nat} {A W cnt : Nat → Nat} (h : Srt n A W cnt) (hr : Rk n A v r) (hv : ∀ i, i < n → A i ≠ v) : Srt (n + 1) (insA A r v) (insA W r 1) (bump cnt v) := by
  obtain ⟨h1, h2, h3⟩ := h
  obtain ⟨r1, r2, r3⟩ := hr
  have hc : cnt v = 0 := by
    rcases Nat.eq_zero_or_pos (cnt v) with q | q
    · exact q
    · obtain ⟨i, hi, e⟩ := h3 v q
      exact absurd e (hv i hi)
  have gt : ∀ i, r ≤ i → i < n → v < A i := fun i h4 h5 => by
    have := r3 i h4 h5
    have := hv i h5
    omega
  refine ⟨fun i j hij hj => ?_, fun i hi => ?_, fun w hw => ?_⟩
  · unfold insA
    by_cases a1 : i < r
    · rw [if_pos a1]
      by_cases b1 : j < r
      · rw [if_pos b1]; exact h1 i j hij (by omega)
      · rw [if_neg b1]
        by_cases b2 : j = r
        · rw [if_pos b2]; exact r2 i a1
        · rw [if_neg b2]
          have := r2 i a1
          have := gt (j - 1) (by omega) (by omega)
          omega
    · rw [if_neg a1, if_neg (show ¬ j < r by omega), if_neg (show ¬ j = r by omega)]
      by_cases a2 : i = r
      · rw [if_pos a2]; exact gt (j - 1) (by omega) (by omega)
      · rw [if_neg a2]; exact h1 (i - 1) (j - 1) (by omega) (by omega)
  · unfold insA
    by_cases a1 : i < r
    · rw [if_pos a1, if_pos a1]
      have hne := hv i (by omega)
      simp only [bump, if_neg hne]
      exact h2 i (by omega)
    · rw [if_neg a1, if_neg a1]
      by_cases a2 : i = r
      · rw [if_pos a2, if_pos a2]
        simp [bump, hc]
      · rw [if_neg a2, if_neg a2]
        have hne := hv (i - 1) (by omega)
        simp only [bump, if_neg hne]
        exact h2 (i - 1) (by omega)
  · by_cases e : w = v
    · refine ⟨r, by omega, ?_⟩
      simp [insA, e]
    · simp only [bump, if_neg e] at hw
      obtain ⟨i, hi, q⟩ := h3 w hw
      by_cases a1 : i < r
      · exact ⟨i, by omega, by simp [insA, a1, q]⟩
      · exact ⟨i + 1, by omega, by simp [insA, show ¬ i + 1 < r by omega, show ¬ i + 1 = r by omega, q]⟩
/-- two such are the same -/
theorem Srt.same {n n' : Nat} {A W A' W' cnt : Nat → Nat} (h : Srt n A W cnt) (h' : Srt n' A' W' cnt) : n = n' ∧ ∀ i, i < n → A i = A' i ∧ W i = W' i := by
  have low : ∀ {n n' : Nat} {A W A' W' : Nat → Nat}, Srt n A W cnt → Srt n' A' W' cnt → ∀ i, i < n → i < n' → (∀ j, j < i → A j = A' j) → A' i ≤ A i := by
    intro n n' A W A' W' h h' i hi hi' hj
    obtain ⟨k, hk, e⟩ := h'.2.2 (A i) (h.2.1 i hi).2
    rcases Nat.lt_or_ge k i with q | q
    · have := h.1 k i q hi
      have := hj k q
      omega
    · rcases Nat.lt_or_ge i k with q2 | q2
      · have := h'.1 i k q2 hk
        omega
      · have : k = i := by omega
        subst this
        omega
  have eq : ∀ i, i < n → i < n' → A i = A' i := by
    intro i
    induction i using Nat.strongRecOn with
    | _ i ih =>
      intro hi hi'
      have h1 := low h h' i hi hi' (fun j hj => ih j hj (by omega) (by omega))
      have h2 := low h' h i hi' hi (fun j hj => (ih j hj (by omega) (by omega)).symm)
      omega
  have len : ∀ {n n' : Nat} {A W A' W' : Nat → Nat}, Srt n A W cnt → Srt n' A' W' cnt → (∀ i, i < n → i < n' → A i = A' i) → n ≤ n' := by
    intro n n' A W A' W' h h' he
    rcases Nat.lt_or_ge n' n with q | q
    · exfalso
      obtain ⟨k, hk, e⟩ := h'.2.2 (A n') (h.2.1 n' q).2
      have := he k (by omega) hk
      have := h.1 k n' hk q
      omega
    · exact q
  have e : n = n' := Nat.le_antisymm (len h h' eq) (len h' h (fun i h1 h2 => (eq i h2 h1).symm))
  subst e
  refine ⟨rfl, fun i hi => ⟨eq i hi hi, ?_⟩⟩
  rw [(h.2.1 i hi).1, (h'.2.1 i hi).1, eq i hi hi]
theorem Srt.le {n m : Nat} {A W cnt : Nat → Nat} (h : Srt n A W cnt) (hm : ∀ v, 0 < cnt v → v ≤ m) : ∀ i, i < n → A i ≤ m := fun i hi => hm _ (h.2.1 i hi).2
/-! ===== Ladder: cell 50, numbers 51, weights 52, spreads 53, its rows 54 .. 78 ===== -/
def Lc (h : gH) (n : Nat) (A W : Nat → Nat) : Prop := ∃ FA FW : Nat → Int32, h 50 = .inr (2, [.ref 51, .ref 52, .ref 53, .int (nI n)]) ∧ h 51 = .inl (0, 24, .inl FA) ∧ h 52 = .inl (0, 24, .inl FW) ∧ n ≤ 24 ∧ (∀ i, i < n → FA i = nI (A i)) ∧ (∀ i, i < n → FW i = nI (W i))
theorem Lc.fr {h h' : gH} {lo hi n : Nat} {A W : Nat → Nat} (q : Lc h n A W) (f : Fr lo hi h h') (hx : 53 ≤ lo ∨ hi ≤ 50) : Lc h' n A W := by
  obtain ⟨FA, FW, h0, h1, h2, h3⟩ := q
  exact ⟨FA, FW, (f _ (by omega)).trans h0, (f _ (by omega)).trans h1, (f _ (by omega)).trans h2, h3⟩
set_option maxRecDepth 100000 in
theorem rankOf_loop {d N n v : Nat} {h : gH} {A W : Nat → Nat} (hN : 79 ≤ N) (hv : v < 2 ^ 31) (hA : ∀ i, i < n → A i < 2 ^ 31) (hS : ∀ i j, i < j → j < n → A i < A j) (hL : Lc h n A W) : ∀ (m k : Nat), k + m = n → (∀ i, i < k → A i < v) → Go none RX2 cX2_rankOf 3 (some .int) false d 2 [some (.ref 50), some (.int (nI v)), some (.int (nI k))] [] h N 0 0 (fun x h' N' => (∃ r, x = some (.int (nI r)) ∧ Rk n A v r) ∧ h' = h ∧ N' = N) := by
  obtain ⟨FA, FW, h0, h1, h2, h3, h4, h5⟩ := hL
  intro m
  induction m with
  | zero =>
    intro k hk hl
    have e : k = n := by omega
    subst e
    refine go_iload_n dX2_rankOf_2 rfl ?_
    refine go_aload_n dX2_rankOf_3 rfl ?_
    refine go_get dX2_rankOf_4 fX2_23 (by omega) h0 rfl ?_
    refine go_icmp_ge (tgt := 26) dX2_rankOf_7 (by decide) (fun c_7 => ?_) (fun c_7 => ?_)
    · skip
      refine go_iload_n dX2_rankOf_26 rfl ?_
      refine go_iret dX2_rankOf_27 rfl ?_
      exact ⟨⟨k, rfl, Nat.le_refl _, hl, fun i q1 q2 => absurd q2 (by omega)⟩, rfl, rfl⟩
    · exact absurd (nI_le (Nat.le_refl _) (by omega)) c_7
  | succ m ih =>
    intro k hk hl
    refine go_iload_n dX2_rankOf_2 rfl ?_
    refine go_aload_n dX2_rankOf_3 rfl ?_
    refine go_get dX2_rankOf_4 fX2_23 (by omega) h0 rfl ?_
    refine go_icmp_ge (tgt := 26) dX2_rankOf_7 (by decide) (fun c_7 => ?_) (fun c_7 => ?_)
    · exact absurd c_7 (nI_ge (by omega) (by omega))
    · skip
      refine go_aload_n dX2_rankOf_10 rfl ?_
      refine go_get dX2_rankOf_11 fX2_9 (by omega) h0 rfl ?_
      refine go_iload_n dX2_rankOf_14 rfl ?_
      refine go_iald dX2_rankOf_15 (by omega) h1 rfl (by omega) (by omega) ?_
      refine go_top (y := .int (nI (A k))) (by rw [h4 k (by omega)]) ?_
      refine go_iload_n dX2_rankOf_16 rfl ?_
      refine go_icmp_ge (tgt := 26) dX2_rankOf_17 (by decide) (fun c_17 => ?_) (fun c_17 => ?_)
      · skip
        have e := (nI_leI hv (hA k (by omega))).mp c_17
        refine go_iload_n dX2_rankOf_26 rfl ?_
        refine go_iret dX2_rankOf_27 rfl ?_
        refine ⟨⟨k, rfl, by omega, hl, fun i q1 q2 => ?_⟩, rfl, rfl⟩
        rcases Nat.lt_or_ge k i with q | q
        · have := hS k i q q2; omega
        · have : i = k := by omega
          subst this; exact e
      · skip
        have e : A k < v := by have := mt (nI_leI (a := v) (b := A k) hv (hA k (by omega))).mpr c_17; omega
        refine go_inc (L' := [_, _, _]) dX2_rankOf_20 rfl (by decide) rfl ?_
        refine go_goto (tgt := 2) dX2_rankOf_23 (by decide) ?_
        exact ih (k + 1) (by omega) (fun i hi => by by_cases q : i < k <;> first | exact hl i q | (rw [show i = k by omega]; exact e))
theorem run_rankOf (d : Nat) {N n v : Nat} {h : gH} {A W : Nat → Nat} (hN : 79 ≤ N) (hv : v < 2 ^ 31) (hA : ∀ i, i < n → A i < 2 ^ 31) (hS : ∀ i j, i < j → j < n → A i < A j) (hL : Lc h n A W) : Run d yX2_rankOf cX2_rankOf 3 (some .int) [.ref 50, .int (nI v)] h N 0 0 (fun x h' N' => (∃ r, x = some (.int (nI r)) ∧ Rk n A v r) ∧ h' = h ∧ N' = N) := by
  refine Run.of (ini := false) (L := [_, _, _]) mX2_rankOf (fun h => by cases h) rfl (Nat.le_of_ble_eq_true rfl) rfl ?_
  refine go_iconst (v := nI 0) dX2_rankOf_0 (by decide) ?_
  refine go_istore_n (L' := [_, _, _]) dX2_rankOf_1 rfl (by decide) rfl ?_
  exact rankOf_loop hN hv hA hS hL n 0 (by omega) (fun i hi => absurd hi (by omega))
theorem run_numberAt (d : Nat) {N n k : Nat} {h : gH} {A W : Nat → Nat} (hN : 79 ≤ N) (hk : k < n) (hL : Lc h n A W) : Run d yX2_numberAt cX2_numberAt 2 (some .int) [.ref 50, .int (nI k)] h N 0 0 (fun v h' N' => v = some (.int (nI (A k))) ∧ h' = h ∧ N' = N) := by
  obtain ⟨FA, FW, h0, h1, h2, h3, h4, h5⟩ := hL
  refine Run.of (ini := false) (L := [_, _]) mX2_numberAt (fun h => by cases h) rfl (Nat.le_of_ble_eq_true rfl) rfl ?_
  refine go_iload_n dX2_numberAt_0 rfl ?_
  refine go_if_lt (tgt := 21) dX2_numberAt_1 (by decide) (fun c_1 => ?_) (fun c_1 => ?_)
  · exact absurd c_1 (nI_pos (by omega))
  · skip
    refine go_iload_n dX2_numberAt_4 rfl ?_
    refine go_aload_n dX2_numberAt_5 rfl ?_
    refine go_get dX2_numberAt_6 fX2_23 (by omega) h0 rfl ?_
    refine go_icmp_ge (tgt := 21) dX2_numberAt_9 (by decide) (fun c_9 => ?_) (fun c_9 => ?_)
    · exact absurd c_9 (nI_ge hk (by omega))
    · skip
      refine go_aload_n dX2_numberAt_12 rfl ?_
      refine go_get dX2_numberAt_13 fX2_9 (by omega) h0 rfl ?_
      refine go_iload_n dX2_numberAt_16 rfl ?_
      refine go_iald dX2_numberAt_17 (by omega) h1 rfl (by omega) (by omega) ?_
      refine go_goto (tgt := 23) dX2_numberAt_18 (by decide) ?_
      refine go_iret dX2_numberAt_23 rfl ?_
      exact ⟨by rw [h4 k hk], rfl, rfl⟩
theorem run_weightAt (d : Nat) {N n k : Nat} {h : gH} {A W : Nat → Nat} (hN : 79 ≤ N) (hk : k < n) (hL : Lc h n A W) : Run d yX2_weightAt cX2_weightAt 2 (some .int) [.ref 50, .int (nI k)] h N 0 0 (fun v h' N' => v = some (.int (nI (W k))) ∧ h' = h ∧ N' = N) := by
  obtain ⟨FA, FW, h0, h1, h2, h3, h4, h5⟩ := hL
  refine Run.of (ini := false) (L := [_, _]) mX2_weightAt (fun h => by cases h) rfl (Nat.le_of_ble_eq_true rfl) rfl ?_
  refine go_iload_n dX2_weightAt_0 rfl ?_
  refine go_if_lt (tgt := 21) dX2_weightAt_1 (by decide) (fun c_1 => ?_) (fun c_1 => ?_)
  · exact absurd c_1 (nI_pos (by omega))
  · skip
    refine go_iload_n dX2_weightAt_4 rfl ?_
    refine go_aload_n dX2_weightAt_5 rfl ?_
    refine go_get dX2_weightAt_6 fX2_23 (by omega) h0 rfl ?_
    refine go_icmp_ge (tgt := 21) dX2_weightAt_9 (by decide) (fun c_9 => ?_) (fun c_9 => ?_)
    · exact absurd c_9 (nI_ge hk (by omega))
    · skip
      refine go_aload_n dX2_weightAt_12 rfl ?_
      refine go_get dX2_weightAt_13 fX2_15 (by omega) h0 rfl ?_
      refine go_iload_n dX2_weightAt_16 rfl ?_
      refine go_iald dX2_weightAt_17 (by omega) h2 rfl (by omega) (by omega) ?_
      refine go_goto (tgt := 22) dX2_weightAt_18 (by decide) ?_
      refine go_iret dX2_weightAt_22 rfl ?_
      exact ⟨by rw [h5 k hk], rfl, rfl⟩
theorem ins_ok {n r : Nat} {F : Nat → Int32} {A : Nat → Nat} {v : Nat} (hr : r ≤ n) (h : ∀ i, i < n → F i = nI (A i)) : ∀ i, i < n + 1 → upd (va_cpy F F r (r + 1) (n - r)) r (nI v) i = nI (insA A r v i) := by
  intro i hi
  by_cases e : i = r
  · subst e; simp [upd, insA]
  · rw [pk_un e]
    by_cases e2 : i < r
    · rw [pk_cpy_out (by omega), h i (by omega)]; simp [insA, e2]
    · rw [pk_cpy_in (by omega) (by omega), h _ (by omega)]
      simp only [insA, if_neg e2, if_neg e]
      congr 2
      omega
set_option maxRecDepth 100000 in
theorem run_add (d : Nat) {N n v : Nat} {h : gH} {A W cnt : Nat → Nat} (hN : 79 ≤ N) (hv : v ≤ 999) (hn : n < 24) (hA : ∀ w, 0 < cnt w → w ≤ 999) (hS : Srt n A W cnt) (hL : Lc h n A W) : Run (d + 1) yX2_add cX2_add 3 none [.ref 50, .int (nI v)] h N 0 0 (fun x h' N' => x = none ∧ N' = N ∧ (∃ n' A' W', Lc h' n' A' W' ∧ Srt n' A' W' (bump cnt v) ∧ n' ≤ n + 1) ∧ Fr 50 53 h h') := by
  have hA9 := hS.le hA
  obtain ⟨FA, FW, h0, h1, h2, h3, h4, h5⟩ := id hL
  refine Run.of (ini := false) (L := [_, _, _]) mX2_add (fun h => by cases h) rfl (Nat.le_of_ble_eq_true rfl) rfl ?_
  refine go_aload_n dX2_add_0 rfl ?_
  refine go_iload_n dX2_add_1 rfl ?_
  refine go_iv dX2_add_2 mX2_rankOf iX2_37 (run_rankOf d hN (by omega) (fun i hi => by have := hA9 i hi; omega) hS.1 hL) rfl rfl (by omega) h0 rfl (Nat.le_of_ble_eq_true rfl) (Nat.zero_le _) (Nat.zero_le _) (fun v_2 h_2 n_2 q_2 => ?_)
  obtain ⟨⟨r, rfl, hr⟩, rfl, rfl⟩ := q_2
  have hr1 := hr.1
  refine go_istore_n (L' := [_, _, _]) dX2_add_5 rfl (by decide) rfl ?_
  refine go_iload_n dX2_add_6 rfl ?_
  refine go_aload_n dX2_add_7 rfl ?_
  refine go_get dX2_add_8 fX2_23 (by omega) h0 rfl ?_
  refine go_icmp_ge (tgt := 35) dX2_add_11 (by decide) (fun c_11 => ?_) (fun c_11 => ?_)
  · skip
    have e := (nI_leI (by omega) (by have := hr.1; omega)).mp c_11
    have hno : ∀ i, i < n → A i ≠ v := fun i hi q => by have := hr.2.1 i (by omega); omega
    refine go_aload_n dX2_add_35 rfl ?_
    refine go_get dX2_add_36 fX2_23 (by omega) h0 rfl ?_
    refine go_bipush (v := nI 24) dX2_add_39 (by decide) ?_
    refine go_icmp_lt (tgt := 45) dX2_add_41 (by decide) (fun c_41 => ?_) (fun c_41 => ?_)
    · skip
      refine go_aload_n dX2_add_45 rfl ?_
      refine go_get dX2_add_46 fX2_9 (by omega) h0 rfl ?_
      refine go_iload_n dX2_add_49 rfl ?_
      refine go_aload_n dX2_add_50 rfl ?_
      refine go_get dX2_add_51 fX2_9 (by omega) h0 rfl ?_
      refine go_iload_n dX2_add_54 rfl ?_
      refine go_iconst (v := nI 1) dX2_add_55 (by decide) ?_
      refine go_iadd dX2_add_56 ?_
      refine go_top (y := .int (nI (r + 1))) (by rw [nI_add]) ?_
      refine go_aload_n dX2_add_57 rfl ?_
      refine go_get dX2_add_58 fX2_23 (by omega) h0 rfl ?_
      refine go_iload_n dX2_add_61 rfl ?_
      refine go_isub dX2_add_62 ?_
      refine go_top (y := .int (nI (n - r))) (by rw [pk_sub hr.1]) ?_
      refine go_copy (x := r) (y := r + 1) (z := n - r) dX2_add_63 aX2_41 (by omega) (by omega) h1 h1 rfl rfl rfl (by omega) (by omega) (by omega) (by omega) (by decide) ?_
      have k0 := fun y => (hset_ne (a := 51) (j := 50) (x := y) (by omega)).trans h0
      have k2 := fun y => (hset_ne (a := 51) (j := 52) (x := y) (by omega)).trans h2
      refine go_aload_n dX2_add_66 rfl ?_
      refine go_get dX2_add_67 fX2_15 (by omega) (k0 _) rfl ?_
      refine go_iload_n dX2_add_70 rfl ?_
      refine go_aload_n dX2_add_71 rfl ?_
      refine go_get dX2_add_72 fX2_15 (by omega) (k0 _) rfl ?_
      refine go_iload_n dX2_add_75 rfl ?_
      refine go_iconst (v := nI 1) dX2_add_76 (by decide) ?_
      refine go_iadd dX2_add_77 ?_
      refine go_top (y := .int (nI (r + 1))) (by rw [nI_add]) ?_
      refine go_aload_n dX2_add_78 rfl ?_
      refine go_get dX2_add_79 fX2_23 (by omega) (k0 _) rfl ?_
      refine go_iload_n dX2_add_82 rfl ?_
      refine go_isub dX2_add_83 ?_
      refine go_top (y := .int (nI (n - r))) (by rw [pk_sub hr.1]) ?_
      refine go_copy (x := r) (y := r + 1) (z := n - r) dX2_add_84 aX2_41 (by omega) (by omega) (k2 _) (k2 _) rfl rfl rfl (by omega) (by omega) (by omega) (by omega) (by decide) ?_
      refine go_aload_n dX2_add_87 rfl ?_
      refine go_get dX2_add_88 fX2_9 (by omega) ((hset_ne (by omega)).trans (k0 _)) rfl ?_
      refine go_iload_n dX2_add_91 rfl ?_
      refine go_iload_n dX2_add_92 rfl ?_
      refine go_iast dX2_add_93 (by omega) ((hset_ne (by omega)).trans hset_same) rfl (by omega) (by omega) ?_
      refine go_aload_n dX2_add_94 rfl ?_
      refine go_get dX2_add_95 fX2_15 (by omega) ((hset_ne (by omega)).trans ((hset_ne (by omega)).trans (k0 _))) rfl ?_
      refine go_iload_n dX2_add_98 rfl ?_
      refine go_iconst (v := nI 1) dX2_add_99 (by decide) ?_
      refine go_iast dX2_add_100 (by omega) ((hset_ne (by omega)).trans hset_same) rfl (by omega) (by omega) ?_
      refine go_aload_n dX2_add_101 rfl ?_
      refine go_dup dX2_add_102 rfl ?_
      refine go_get dX2_add_103 fX2_23 (by omega) ((hset_ne (by omega)).trans ((hset_ne (by omega)).trans ((hset_ne (by omega)).trans (k0 _)))) rfl ?_
      refine go_iconst (v := nI 1) dX2_add_106 (by decide) ?_
      refine go_iadd dX2_add_107 ?_
      refine go_top (y := .int (nI (n + 1))) (by rw [nI_add]) ?_
      refine go_put (fs' := [_, _, _, _]) dX2_add_108 fX2_23 (by omega) ((hset_ne (by omega)).trans ((hset_ne (by omega)).trans ((hset_ne (by omega)).trans (k0 _)))) (Nat.le_of_ble_eq_true rfl) (Or.inl rfl) ⟨_, _, _, rfl, Or.inl rfl⟩ rfl ?_
      refine go_vret dX2_add_111 rfl ?_
      refine ⟨rfl, rfl, ⟨n + 1, insA A r v, insA W r 1, ⟨_, _, hset_same, ((hset_ne (by omega)).trans (hset_ne (by omega))).trans hset_same, (hset_ne (by omega)).trans hset_same, by omega, ins_ok hr.1 h4, ins_ok hr.1 h5⟩, hS.new hr hno, by omega⟩, ((((Fr.rf.set (by omega) (by omega)).set (by omega) (by omega)).set (by omega) (by omega)).set (by omega) (by omega)).set (by omega) (by omega)⟩
    · exact absurd (nI_lt hn (by decide)) c_41
  · skip
    have e : r < n := by have := mt (nI_leI (a := n) (b := r) (by omega) (by have := hr.1; omega)).mpr c_11; omega
    refine go_aload_n dX2_add_14 rfl ?_
    refine go_get dX2_add_15 fX2_9 (by omega) h0 rfl ?_
    refine go_iload_n dX2_add_18 rfl ?_
    refine go_iald dX2_add_19 (by omega) h1 rfl (by omega) (by omega) ?_
    refine go_top (y := .int (nI (A r))) (by rw [h4 r e]) ?_
    refine go_iload_n dX2_add_20 rfl ?_
    refine go_icmp_ne (tgt := 35) dX2_add_21 (by decide) (fun c_21 => ?_) (fun c_21 => ?_)
    · skip
      have hne : ¬ A r = v := fun q => c_21 (by rw [q])
      have hno : ∀ i, i < n → A i ≠ v := by
        intro i hi q
        have h9 := hr.2.2 r (by omega) e
        rcases Nat.lt_trichotomy i r with z | z | z
        · have := hr.2.1 i z; omega
        · subst z; exact hne q
        · have := hS.1 r i z hi; omega
      refine go_aload_n dX2_add_35 rfl ?_
      refine go_get dX2_add_36 fX2_23 (by omega) h0 rfl ?_
      refine go_bipush (v := nI 24) dX2_add_39 (by decide) ?_
      refine go_icmp_lt (tgt := 45) dX2_add_41 (by decide) (fun c_41 => ?_) (fun c_41 => ?_)
      · skip
        refine go_aload_n dX2_add_45 rfl ?_
        refine go_get dX2_add_46 fX2_9 (by omega) h0 rfl ?_
        refine go_iload_n dX2_add_49 rfl ?_
        refine go_aload_n dX2_add_50 rfl ?_
        refine go_get dX2_add_51 fX2_9 (by omega) h0 rfl ?_
        refine go_iload_n dX2_add_54 rfl ?_
        refine go_iconst (v := nI 1) dX2_add_55 (by decide) ?_
        refine go_iadd dX2_add_56 ?_
        refine go_top (y := .int (nI (r + 1))) (by rw [nI_add]) ?_
        refine go_aload_n dX2_add_57 rfl ?_
        refine go_get dX2_add_58 fX2_23 (by omega) h0 rfl ?_
        refine go_iload_n dX2_add_61 rfl ?_
        refine go_isub dX2_add_62 ?_
        refine go_top (y := .int (nI (n - r))) (by rw [pk_sub hr.1]) ?_
        refine go_copy (x := r) (y := r + 1) (z := n - r) dX2_add_63 aX2_41 (by omega) (by omega) h1 h1 rfl rfl rfl (by omega) (by omega) (by omega) (by omega) (by decide) ?_
        have k0 := fun y => (hset_ne (a := 51) (j := 50) (x := y) (by omega)).trans h0
        have k2 := fun y => (hset_ne (a := 51) (j := 52) (x := y) (by omega)).trans h2
        refine go_aload_n dX2_add_66 rfl ?_
        refine go_get dX2_add_67 fX2_15 (by omega) (k0 _) rfl ?_
        refine go_iload_n dX2_add_70 rfl ?_
        refine go_aload_n dX2_add_71 rfl ?_
        refine go_get dX2_add_72 fX2_15 (by omega) (k0 _) rfl ?_
        refine go_iload_n dX2_add_75 rfl ?_
        refine go_iconst (v := nI 1) dX2_add_76 (by decide) ?_
        refine go_iadd dX2_add_77 ?_
        refine go_top (y := .int (nI (r + 1))) (by rw [nI_add]) ?_
        refine go_aload_n dX2_add_78 rfl ?_
        refine go_get dX2_add_79 fX2_23 (by omega) (k0 _) rfl ?_
        refine go_iload_n dX2_add_82 rfl ?_
        refine go_isub dX2_add_83 ?_
        refine go_top (y := .int (nI (n - r))) (by rw [pk_sub hr.1]) ?_
        refine go_copy (x := r) (y := r + 1) (z := n - r) dX2_add_84 aX2_41 (by omega) (by omega) (k2 _) (k2 _) rfl rfl rfl (by omega) (by omega) (by omega) (by omega) (by decide) ?_
        refine go_aload_n dX2_add_87 rfl ?_
        refine go_get dX2_add_88 fX2_9 (by omega) ((hset_ne (by omega)).trans (k0 _)) rfl ?_
        refine go_iload_n dX2_add_91 rfl ?_
        refine go_iload_n dX2_add_92 rfl ?_
        refine go_iast dX2_add_93 (by omega) ((hset_ne (by omega)).trans hset_same) rfl (by omega) (by omega) ?_
        refine go_aload_n dX2_add_94 rfl ?_
        refine go_get dX2_add_95 fX2_15 (by omega) ((hset_ne (by omega)).trans ((hset_ne (by omega)).trans (k0 _))) rfl ?_
        refine go_iload_n dX2_add_98 rfl ?_
        refine go_iconst (v := nI 1) dX2_add_99 (by decide) ?_
        refine go_iast dX2_add_100 (by omega) ((hset_ne (by omega)).trans hset_same) rfl (by omega) (by omega) ?_
        refine go_aload_n dX2_add_101 rfl ?_
        refine go_dup dX2_add_102 rfl ?_
        refine go_get dX2_add_103 fX2_23 (by omega) ((hset_ne (by omega)).trans ((hset_ne (by omega)).trans ((hset_ne (by omega)).trans (k0 _)))) rfl ?_
        refine go_iconst (v := nI 1) dX2_add_106 (by decide) ?_
        refine go_iadd dX2_add_107 ?_
        refine go_top (y := .int (nI (n + 1))) (by rw [nI_add]) ?_
        refine go_put (fs' := [_, _, _, _]) dX2_add_108 fX2_23 (by omega) ((hset_ne (by omega)).trans ((hset_ne (by omega)).trans ((hset_ne (by omega)).trans (k0 _)))) (Nat.le_of_ble_eq_true rfl) (Or.inl rfl) ⟨_, _, _, rfl, Or.inl rfl⟩ rfl ?_
        refine go_vret dX2_add_111 rfl ?_
        refine ⟨rfl, rfl, ⟨n + 1, insA A r v, insA W r 1, ⟨_, _, hset_same, ((hset_ne (by omega)).trans (hset_ne (by omega))).trans hset_same, (hset_ne (by omega)).trans hset_same, by omega, ins_ok hr.1 h4, ins_ok hr.1 h5⟩, hS.new hr hno, by omega⟩, ((((Fr.rf.set (by omega) (by omega)).set (by omega) (by omega)).set (by omega) (by omega)).set (by omega) (by omega)).set (by omega) (by omega)⟩
      · exact absurd (nI_lt hn (by decide)) c_41
    · skip
      have heq : A r = v := (nI_eq (by have := hA9 r e; omega) (by omega)).mp (Decidable.not_not.mp c_21)
      refine go_aload_n dX2_add_24 rfl ?_
      refine go_get dX2_add_25 fX2_15 (by omega) h0 rfl ?_
      refine go_iload_n dX2_add_28 rfl ?_
      refine go_dup2 dX2_add_29 rfl rfl ?_
      refine go_iald dX2_add_30 (by omega) h2 rfl (by omega) (by omega) ?_
      refine go_top (y := .int (nI (W r))) (by rw [h5 r e]) ?_
      refine go_iconst (v := nI 1) dX2_add_31 (by decide) ?_
      refine go_iadd dX2_add_32 ?_
      refine go_top (y := .int (nI (W r + 1))) (by rw [nI_add]) ?_
      refine go_iast dX2_add_33 (by omega) h2 rfl (by omega) (by omega) ?_
      refine go_vret dX2_add_34 rfl ?_
      refine ⟨rfl, rfl, ⟨n, A, fun i => if i = r then W i + 1 else W i, ⟨FA, _, (hset_ne (by omega)).trans h0, (hset_ne (by omega)).trans h1, hset_same, h3, h4, fun i hi => ?_⟩, hS.hit e heq, by omega⟩, Fr.rf.set (by omega) (by omega)⟩
      by_cases q : i = r
      · subst q; simp [upd]
      · rw [pk_un q, h5 i hi]; simp [q]
/-! ===== sums and spreads ===== -/
/-- f a + .. + f (a + m - 1) -/
def sm (f : Nat → Nat) (a : Nat) : Nat → Nat
  | 0 => 0
  | m + 1 => sm f a m + f (a + m)
/-- the spread of the run from a to ahead of b, in parts -/
def spr (A W : Nat → Nat) (a b : Nat) : Int64 := lN (sm (fun i => W i * A i * A i) a (b - a)) * 5354228880 - lN (sm (fun i => W i * A i) a (b - a)) * lN (sm (fun i => W i * A i) a (b - a)) * lN (5354228880 / sm W a (b - a))
theorem parts_div : ∀ w, w < 25 → 0 < w → w * (5354228880 / w) = 5354228880 := by decide
theorem spr_eq {w s1 s2 : Nat} (h0 : 0 < w) (h24 : w ≤ 24) : (lN w * lN s2 - lN s1 * lN s1) * (5354228880 / lN w) = lN s2 * 5354228880 - lN s1 * lN s1 * lN (5354228880 / w) := by
  have e : (5354228880 : Int64) / lN w = lN (5354228880 / w) := pk_lDiv (a := 5354228880) (by decide) h0 (by omega)
  have e2 : lN w * lN (5354228880 / w) = 5354228880 := by rw [lN_mul, parts_div w (by omega) h0]; rfl
  rw [e, Int64.sub_mul]
  congr 1
  rw [Int64.mul_comm (lN w) (lN s2), Int64.mul_assoc, e2]
/-- a row of the spreads: kind 1, 25 longs -/
def Rw (h : gH) (i : Nat) (F : Nat → Int64) : Prop := h i = .inl (1, 25, .inr (.inl F))
def Lr (h : gH) : Prop := ∃ R : Nat → Option Nat, h 53 = .inl (6, 25, .inr (.inr (.inr (.inr R)))) ∧ (∀ i, i < 25 → R i = some (54 + i)) ∧ ∀ i, i < 25 → ∃ F, Rw h (54 + i) F
theorem Lr.fr {h h' : gH} {lo hi : Nat} (q : Lr h) (f : Fr lo hi h h') (hx : 79 ≤ lo ∨ hi ≤ 53) : Lr h' := by
  obtain ⟨R, h0, h1, h2⟩ := q
  refine ⟨R, (f _ (by omega)).trans h0, h1, fun i hi => ?_⟩
  obtain ⟨F, hF⟩ := h2 i hi
  exact ⟨F, (f _ (by omega)).trans hF⟩
set_option maxRecDepth 100000 in
theorem measure_loop {d N n a : Nat} {h : gH} {A W : Nat → Nat} {R : Nat → Option Nat} (hN : 79 ≤ N) (hA : ∀ i, i < n → A i < 2 ^ 31) (hW0 : ∀ i, i < n → 0 < W i) (hW : sm W a (n - a) ≤ 24) (hmono : ∀ m, m ≤ n - a → sm W a m ≤ 24) (h53 : h 53 = .inl (6, 25, .inr (.inr (.inr (.inr R))))) (hR : ∀ i, i < 25 → R i = some (54 + i)) (hL : Lc h n A W) (ha : a < n) : ∀ (m k : Nat) (F : Nat → Int64), a + k + m = n → (∀ j, a < j → j ≤ a + k → F j = spr A W a j) → Go none RX2 cX2_measureFrom 9 none false d 11 [some (.ref 50), some (.int (nI a)), some (.long (lN (sm W a k))), none, some (.long (lN (sm (fun i => W i * A i) a k))), none, some (.long (lN (sm (fun i => W i * A i * A i) a k))), none, some (.int (nI (a + k)))] [] (hset h (54 + a) (.inl (1, 25, .inr (.inl F)))) N 0 0 (fun x h' N' => x = none ∧ N' = N ∧ (∃ F', h' = hset h (54 + a) (.inl (1, 25, .inr (.inl F'))) ∧ ∀ j, a < j → j ≤ n → F' j = spr A W a j)) := by
  obtain ⟨FA, FW, h0, h1, h2, h3, h4, h5⟩ := hL
  have k0 := fun y => (hset_ne (a := 54 + a) (j := 50) (x := y) (by omega)).trans h0
  have k1 := fun y => (hset_ne (a := 54 + a) (j := 51) (x := y) (by omega)).trans h1
  have k2 := fun y => (hset_ne (a := 54 + a) (j := 52) (x := y) (by omega)).trans h2
  have k3 := fun y => (hset_ne (a := 54 + a) (j := 53) (x := y) (by omega)).trans h53
  intro m
  induction m with
  | zero =>
    intro k F hk hF
    have e : a + k = n := by omega
    refine go_iload dX2_measureFrom_11 rfl ?_
    refine go_aload_n dX2_measureFrom_13 rfl ?_
    refine go_get dX2_measureFrom_14 fX2_23 (by omega) (k0 _) rfl ?_
    refine go_icmp_ge (tgt := 123) dX2_measureFrom_17 (by decide) (fun c_17 => ?_) (fun c_17 => ?_)
    · skip
      refine go_vret dX2_measureFrom_123 rfl ?_
      exact ⟨rfl, rfl, F, rfl, fun j h1 h2 => hF j h1 (by omega)⟩
    · exact absurd (nI_le (by omega) (by omega)) c_17
  | succ m ih =>
    intro k F hk hF
    have hWk : W (a + k) < 2 ^ 31 := by
      have := hmono (k + 1) (by omega)
      rw [sm] at this
      omega
    have hAk := hA (a + k) (by omega)
    have hpos : 0 < sm W a (k + 1) := by
      have := hW0 (a + k) (by omega)
      rw [sm]
      omega
    have hle := hmono (k + 1) (by omega)
    refine go_iload dX2_measureFrom_11 rfl ?_
    refine go_aload_n dX2_measureFrom_13 rfl ?_
    refine go_get dX2_measureFrom_14 fX2_23 (by omega) (k0 _) rfl ?_
    refine go_icmp_ge (tgt := 123) dX2_measureFrom_17 (by decide) (fun c_17 => ?_) (fun c_17 => ?_)
    · exact absurd c_17 (nI_ge (by omega) (by omega))
    · skip
      refine go_lload_n dX2_measureFrom_20 rfl ?_
      refine go_aload_n dX2_measureFrom_21 rfl ?_
      refine go_get dX2_measureFrom_22 fX2_15 (by omega) (k0 _) rfl ?_
      refine go_iload dX2_measureFrom_25 rfl ?_
      refine go_iald dX2_measureFrom_27 (by omega) (k2 _) rfl (by omega) (by omega) ?_
      refine go_top (y := .int (nI (W (a + k)))) (by rw [h5 _ (by omega)]) ?_
      refine go_i2l dX2_measureFrom_28 rfl ?_
      refine go_top (y := .long (lN (W (a + k)))) (by rw [nI_l hWk]) ?_
      refine go_ladd dX2_measureFrom_29 ?_
      refine go_top (y := .long (lN (sm W a (k + 1)))) (by rw [lN_add, sm]) ?_
      refine go_lstore_n (L' := [_, _, _, _, _, _, _, _, _]) dX2_measureFrom_30 rfl (by decide) rfl ?_
      refine go_lload dX2_measureFrom_31 rfl ?_
      refine go_aload_n dX2_measureFrom_33 rfl ?_
      refine go_get dX2_measureFrom_34 fX2_15 (by omega) (k0 _) rfl ?_
      refine go_iload dX2_measureFrom_37 rfl ?_
      refine go_iald dX2_measureFrom_39 (by omega) (k2 _) rfl (by omega) (by omega) ?_
      refine go_top (y := .int (nI (W (a + k)))) (by rw [h5 _ (by omega)]) ?_
      refine go_i2l dX2_measureFrom_40 rfl ?_
      refine go_top (y := .long (lN (W (a + k)))) (by rw [nI_l hWk]) ?_
      refine go_aload_n dX2_measureFrom_41 rfl ?_
      refine go_get dX2_measureFrom_42 fX2_9 (by omega) (k0 _) rfl ?_
      refine go_iload dX2_measureFrom_45 rfl ?_
      refine go_iald dX2_measureFrom_47 (by omega) (k1 _) rfl (by omega) (by omega) ?_
      refine go_top (y := .int (nI (A (a + k)))) (by rw [h4 _ (by omega)]) ?_
      refine go_i2l dX2_measureFrom_48 rfl ?_
      refine go_top (y := .long (lN (A (a + k)))) (by rw [nI_l hAk]) ?_
      refine go_lmul dX2_measureFrom_49 ?_
      refine go_top (y := .long (lN (W (a + k) * A (a + k)))) (by rw [lN_mul]) ?_
      refine go_ladd dX2_measureFrom_50 ?_
      refine go_top (y := .long (lN (sm (fun i => W i * A i) a (k + 1)))) (by rw [lN_add, sm]) ?_
      refine go_lstore (L' := [_, _, _, _, _, _, _, _, _]) dX2_measureFrom_51 (by decide) rfl ?_
      refine go_lload dX2_measureFrom_53 rfl ?_
      refine go_aload_n dX2_measureFrom_55 rfl ?_
      refine go_get dX2_measureFrom_56 fX2_15 (by omega) (k0 _) rfl ?_
      refine go_iload dX2_measureFrom_59 rfl ?_
      refine go_iald dX2_measureFrom_61 (by omega) (k2 _) rfl (by omega) (by omega) ?_
      refine go_top (y := .int (nI (W (a + k)))) (by rw [h5 _ (by omega)]) ?_
      refine go_i2l dX2_measureFrom_62 rfl ?_
      refine go_top (y := .long (lN (W (a + k)))) (by rw [nI_l hWk]) ?_
      refine go_aload_n dX2_measureFrom_63 rfl ?_
      refine go_get dX2_measureFrom_64 fX2_9 (by omega) (k0 _) rfl ?_
      refine go_iload dX2_measureFrom_67 rfl ?_
      refine go_iald dX2_measureFrom_69 (by omega) (k1 _) rfl (by omega) (by omega) ?_
      refine go_top (y := .int (nI (A (a + k)))) (by rw [h4 _ (by omega)]) ?_
      refine go_i2l dX2_measureFrom_70 rfl ?_
      refine go_top (y := .long (lN (A (a + k)))) (by rw [nI_l hAk]) ?_
      refine go_lmul dX2_measureFrom_71 ?_
      refine go_top (y := .long (lN (W (a + k) * A (a + k)))) (by rw [lN_mul]) ?_
      refine go_aload_n dX2_measureFrom_72 rfl ?_
      refine go_get dX2_measureFrom_73 fX2_9 (by omega) (k0 _) rfl ?_
      refine go_iload dX2_measureFrom_76 rfl ?_
      refine go_iald dX2_measureFrom_78 (by omega) (k1 _) rfl (by omega) (by omega) ?_
      refine go_top (y := .int (nI (A (a + k)))) (by rw [h4 _ (by omega)]) ?_
      refine go_i2l dX2_measureFrom_79 rfl ?_
      refine go_top (y := .long (lN (A (a + k)))) (by rw [nI_l hAk]) ?_
      refine go_lmul dX2_measureFrom_80 ?_
      refine go_top (y := .long (lN (W (a + k) * A (a + k) * A (a + k)))) (by rw [lN_mul]) ?_
      refine go_ladd dX2_measureFrom_81 ?_
      refine go_top (y := .long (lN (sm (fun i => W i * A i * A i) a (k + 1)))) (by rw [lN_add, sm]) ?_
      refine go_lstore (L' := [_, _, _, _, _, _, _, _, _]) dX2_measureFrom_82 (by decide) rfl ?_
      refine go_lload_n dX2_measureFrom_84 rfl ?_
      refine go_lconst (v := lN 0) dX2_measureFrom_85 rfl ?_
      refine go_lcmp dX2_measureFrom_86 ?_
      refine go_if_le (tgt := 117) dX2_measureFrom_87 (by decide) (fun c_87 => ?_) (fun c_87 => ?_)
      · exact absurd ((lg_cmp_le _ _).mp c_87) (fun q => absurd ((pk_lLE (a := sm W a (k + 1)) (b := 0) (by omega) (by decide)).mp q) (by omega))
      · skip
        refine go_aload_n dX2_measureFrom_90 rfl ?_
        refine go_get dX2_measureFrom_91 fX2_20 (by omega) (k0 _) rfl ?_
        refine go_iload_n dX2_measureFrom_94 rfl ?_
        refine go_aald dX2_measureFrom_95 (by omega) (k3 _) (by decide) (by decide) rfl (by omega) (by omega) (hR a (by omega)) ?_
        refine go_iload dX2_measureFrom_96 rfl ?_
        refine go_iconst (v := nI 1) dX2_measureFrom_98 (by decide) ?_
        refine go_iadd dX2_measureFrom_99 ?_
        refine go_top (y := .int (nI (a + k + 1))) (by rw [nI_add]) ?_
        refine go_lload_n dX2_measureFrom_100 rfl ?_
        refine go_lload dX2_measureFrom_101 rfl ?_
        refine go_lmul dX2_measureFrom_103 ?_
        refine go_lload dX2_measureFrom_104 rfl ?_
        refine go_lload dX2_measureFrom_106 rfl ?_
        refine go_lmul dX2_measureFrom_108 ?_
        refine go_lsub dX2_measureFrom_109 ?_
        refine go_ldc2 dX2_measureFrom_110 kX2_47 ?_
        refine go_lload_n dX2_measureFrom_113 rfl ?_
        refine go_ldiv dX2_measureFrom_114 (fun q => absurd ((pk_lEQ (a := sm W a (k + 1)) (b := 0) (by omega) (by decide)).mp q) (by omega)) ?_
        refine go_lmul dX2_measureFrom_115 ?_
        refine go_top (y := .long (spr A W a (a + k + 1))) (by rw [spr_eq hpos hle, spr, show a + k + 1 - a = k + 1 by omega]) ?_
        refine go_last dX2_measureFrom_116 (by omega) hset_same rfl (by omega) (by omega) ?_
        rw [hset_hset]
        refine go_inc (L' := [_, _, _, _, _, _, _, _, _]) dX2_measureFrom_117 rfl (by decide) rfl ?_
        refine go_goto (tgt := 11) dX2_measureFrom_120 (by decide) ?_
        refine go_eqL ?_ (ih (k + 1) _ (by omega) (fun j q1 q2 => ?_))
        · rfl
        · by_cases e : j = a + k + 1
          · subst e; rw [pk_uLs]
          · rw [pk_uLn e]; exact hF j q1 (by omega)
theorem sm_mono (f : Nat → Nat) (a : Nat) {m m' : Nat} (h : m ≤ m') : sm f a m ≤ sm f a m' := by
  induction m' with
  | zero => rw [show m = 0 by omega]; exact Nat.le_refl _
  | succ m' ih =>
    rcases Nat.lt_or_ge m (m' + 1) with q | q
    · have := ih (by omega)
      rw [sm]
      omega
    · rw [show m = m' + 1 by omega]; exact Nat.le_refl _
theorem run_measure (d : Nat) {N n a : Nat} {h : gH} {A W : Nat → Nat} (hN : 79 ≤ N) (hA : ∀ i, i < n → A i < 2 ^ 31) (hW0 : ∀ i, i < n → 0 < W i) (hW : sm W a (n - a) ≤ 24) (hR : Lr h) (hL : Lc h n A W) (ha : a < n) : Run d yX2_measureFrom cX2_measureFrom 9 none [.ref 50, .int (nI a)] h N 0 0 (fun x h' N' => x = none ∧ N' = N ∧ (∃ F', h' = hset h (54 + a) (.inl (1, 25, .inr (.inl F'))) ∧ ∀ j, a < j → j ≤ n → F' j = spr A W a j)) := by
  obtain ⟨R, h53, hR1, hR2⟩ := hR
  obtain ⟨F, hF⟩ := hR2 a (by obtain ⟨_, _, _, _, _, q, _⟩ := hL; omega)
  refine Run.of (ini := false) (L := [_, _, _, _, _, _, _, _, _]) mX2_measureFrom (fun h => by cases h) rfl (Nat.le_of_ble_eq_true rfl) rfl ?_
  refine go_lconst (v := lN 0) dX2_measureFrom_0 rfl ?_
  refine go_lstore_n (L' := [_, _, _, _, _, _, _, _, _]) dX2_measureFrom_1 rfl (by decide) rfl ?_
  refine go_lconst (v := lN 0) dX2_measureFrom_2 rfl ?_
  refine go_lstore (L' := [_, _, _, _, _, _, _, _, _]) dX2_measureFrom_3 (by decide) rfl ?_
  refine go_lconst (v := lN 0) dX2_measureFrom_5 rfl ?_
  refine go_lstore (L' := [_, _, _, _, _, _, _, _, _]) dX2_measureFrom_6 (by decide) rfl ?_
  refine go_iload_n dX2_measureFrom_8 rfl ?_
  refine go_istore (L' := [_, _, _, _, _, _, _, _, _]) dX2_measureFrom_9 (by decide) rfl ?_
  have e : h = hset h (54 + a) (.inl (1, 25, .inr (.inl F))) := by funext j; by_cases q : j = 54 + a; (subst q; rw [hset_same]; exact hF); (rw [hset_ne q])
  refine go_eqh e ?_
  exact measure_loop hN hA hW0 hW (fun m hm => Nat.le_trans (sm_mono W a hm) hW) h53 hR1 hL ha (n - a) 0 F (by omega) (fun j q1 q2 => absurd q1 (by omega))
