/-! ===== numbers, small things ===== -/
theorem hset_hset {h : gH} {a : Nat} {x y : gC} : hset (hset h a x) a y = hset h a y := by
  funext j
  by_cases e : j = a <;> simp [hset, e]
/-- a number that may be wanting: -1 -/
def nO : Option Nat → Int32
  | none => -1
  | some v => nI v
/-- how many are old: -9, if no edition was closed -/
def oI : Option Nat → Int32
  | none => -9
  | some v => nI v
def bI (b : Bool) : Int32 := if b then 1 else 0
theorem bI_t : bI true = 1 := rfl
theorem bI_f : bI false = 0 := rfl
theorem bI_01 (b : Bool) : bI b = 0 ∨ bI b = 1 := by cases b <;> simp [bI]
theorem nI_neg {n : Nat} (h : n < 2 ^ 31) {x : Int32} (hx : x < 0) : ¬ nI n ≤ x := by
  intro q
  have h1 := nI_toInt h
  have h2 : (nI n).toInt ≤ x.toInt := Int32.le_iff_toInt_le.mp q
  have h3 : x.toInt < (0 : Int32).toInt := Int32.lt_iff_toInt_lt.mp hx
  rw [Int32.toInt_zero] at h3
  omega
theorem nI_ne_m1 {n : Nat} (h : n < 2 ^ 31) : ¬ nI n = -1 := by
  intro q
  have h1 := nI_toInt h
  rw [q] at h1
  have : (-1 : Int32).toInt = -1 := by decide
  omega
theorem nI_ne_m9 {n : Nat} (h : n < 2 ^ 31) : ¬ nI n = -9 := by
  intro q
  have h1 := nI_toInt h
  rw [q] at h1
  have : (-9 : Int32).toInt = -9 := by decide
  omega
/-! ===== java.util.Arrays.fill ===== -/
def ffill (x : Int32) (f : Nat → Int32) (i : Nat) : Nat → Int32 := fun j => if j < i then x else f j
theorem ffill_0 (x : Int32) (f : Nat → Int32) : ffill x f 0 = f := by funext j; simp [ffill]
theorem ffill_succ (x : Int32) (f : Nat → Int32) (i : Nat) : upd (ffill x f i) i x = ffill x f (i + 1) := by
  funext j
  by_cases e : j = i
  · simp [upd, ffill, e]
  · by_cases e2 : j < i
    · simp [upd, ffill, e, e2, Nat.lt_succ_of_lt e2]
    · simp [upd, ffill, e, e2, show ¬ j < i + 1 by omega]
set_option maxRecDepth 100000 in
theorem fill_loop {d N a n : Nat} {h : gH} {f : Nat → Int32} {x : Int32} (ha : a < N) (hn : n < 2 ^ 31) : ∀ (m i : Nat), i + m = n → Go none RJ7 cJ7_fill_53178 4 none false d 5 [some (.ref a), some (.int x), some (.int (nI i)), some (.int (nI n))] [] (hset h a (.inl (0, n, .inl (ffill x f i)))) N 0 0 (fun v h' N' => v = none ∧ h' = hset h a (.inl (0, n, .inl (ffill x f n))) ∧ N' = N) := by
  intro m
  induction m with
  | zero =>
    intro i hi
    have e : i = n := by omega
    subst e
    refine go_iload_n dJ7_fill_53178_5 rfl ?_
    refine go_iload_n dJ7_fill_53178_6 rfl ?_
    refine go_icmp_ge (tgt := 20) dJ7_fill_53178_7 (by decide) (fun c_7 => ?_) (fun c_7 => ?_)
    · skip
      exact go_vret dJ7_fill_53178_20 rfl ⟨rfl, rfl, rfl⟩
    · exact absurd (nI_le (Nat.le_refl _) hn) c_7
  | succ m ih =>
    intro i hi
    refine go_iload_n dJ7_fill_53178_5 rfl ?_
    refine go_iload_n dJ7_fill_53178_6 rfl ?_
    refine go_icmp_ge (tgt := 20) dJ7_fill_53178_7 (by decide) (fun c_7 => ?_) (fun c_7 => ?_)
    · exact absurd c_7 (nI_ge (by omega) hn)
    · skip
      refine go_aload_n dJ7_fill_53178_10 rfl ?_
      refine go_iload_n dJ7_fill_53178_11 rfl ?_
      refine go_iload_n dJ7_fill_53178_12 rfl ?_
      refine go_iast dJ7_fill_53178_13 (by omega) hset_same rfl (by omega) (by omega) ?_
      rw [hset_hset, ffill_succ]
      refine go_inc (L' := [_, _, _, _]) dJ7_fill_53178_14 rfl (by decide) rfl ?_
      refine go_goto (tgt := 5) dJ7_fill_53178_17 (by decide) ?_
      exact ih (i + 1) (by omega)
theorem run_fill (d : Nat) {N a n : Nat} {h : gH} {f : Nat → Int32} {x : Int32} (ha : a < N) (hn : n < 2 ^ 31) (he : h a = .inl (0, n, .inl f)) : Run d yJ7_fill_53178 cJ7_fill_53178 4 none [.ref a, .int x] h N 0 0 (fun v h' N' => v = none ∧ h' = hset h a (.inl (0, n, .inl (ffill x f n))) ∧ N' = N) := by
  refine Run.of (ini := false) (L := [_, _, _, _]) mJ7_fill_53178 (fun h => by cases h) rfl (Nat.le_of_ble_eq_true rfl) rfl ?_
  refine go_iconst (v := nI 0) dJ7_fill_53178_0 (by decide) ?_
  refine go_istore_n (L' := [_, _, _, _]) dJ7_fill_53178_1 rfl (by decide) rfl ?_
  refine go_aload_n dJ7_fill_53178_2 rfl ?_
  refine go_alen dJ7_fill_53178_3 (by omega) he (by decide) ?_
  refine go_istore_n (L' := [_, _, _, _]) dJ7_fill_53178_4 rfl (by decide) rfl ?_
  have e : h = hset h a (.inl (0, n, .inl (ffill x f 0))) := by funext j; by_cases q : j = a <;> simp [hset, q, he, ffill_0]
  refine go_eqh e ?_
  have key := fill_loop (d := d) (h := h) (f := f) (x := x) ha hn n 0 (by omega)
  exact key
/-! ===== Chart: numbers, old, olds, classes, cost ===== -/
/-- what a chart holds: the number of each place, the old borders, how many they are (none: no edition), classes, cost -/
abbrev CD : Type := (Nat → Option Nat) × (Nat → Nat) × Option Nat × Nat × Nat
def Ct (h : gH) (i : Nat) (c : CD) : Prop := ∃ F G : Nat → Int32, h i = .inr (0, [.ref (i + 1), .ref (i + 2), .int (oI c.2.2.1), .int (nI c.2.2.2.1), .int (nI c.2.2.2.2)]) ∧ h (i + 1) = .inl (0, 100, .inl F) ∧ h (i + 2) = .inl (0, 5, .inl G) ∧ (∀ x, x < 100 → F x = nO (c.1 x)) ∧ (∀ x, x < 5 → G x = nI (c.2.1 x))
theorem Ct.kept {h h' : gH} {i : Nat} {c : CD} (hC : Ct h i c) (h0 : h' i = h i) (h1 : h' (i + 1) = h (i + 1)) (h2 : h' (i + 2) = h (i + 2)) : Ct h' i c := by
  obtain ⟨F, G, q⟩ := hC
  exact ⟨F, G, by rw [h0, h1, h2]; exact q⟩
/-- how many places of the first n have a number; their sum -/
def cP (f : Nat → Option Nat) : Nat → Nat
  | 0 => 0
  | n + 1 => cP f n + (if (f n).isSome then 1 else 0)
def sP (f : Nat → Option Nat) : Nat → Nat
  | 0 => 0
  | n + 1 => sP f n + (f n).getD 0
theorem cP_le (f : Nat → Option Nat) : ∀ n, cP f n ≤ n
  | 0 => Nat.le_refl _
  | n + 1 => by have := cP_le f n; unfold cP; split <;> omega
set_option maxRecDepth 100000 in
theorem places_loop {d N i : Nat} {h : gH} {c : CD} {F : Nat → Int32} (hw : ∀ x, x < 100 → ∀ v, c.1 x = some v → v ≤ 999) (hi : i + 2 < N) (hF : h (i + 1) = .inl (0, 100, .inl F)) (hf : ∀ x, x < 100 → F x = nO (c.1 x)) (w : Option Value) : ∀ (m k : Nat) (w : Option Value), k + m = 100 → Go none RX0 cX0_places 6 (some .int) false d 13 [some (.ref i), some (.int (nI (cP c.1 k))), some (.ref (i + 1)), some (.int (nI 100)), some (.int (nI k)), w] [] h N 0 0 (fun v h' N' => v = some (.int (nI (cP c.1 100))) ∧ h' = h ∧ N' = N) := by
  intro m
  induction m with
  | zero =>
    intro k w hk
    have e : k = 100 := by omega
    subst e
    refine go_iload dX0_places_13 rfl ?_
    refine go_iload_n dX0_places_15 rfl ?_
    refine go_icmp_ge (tgt := 40) dX0_places_16 (by decide) (fun c_16 => ?_) (fun c_16 => ?_)
    · skip
      refine go_iload_n dX0_places_40 rfl ?_
      exact go_iret dX0_places_41 rfl ⟨rfl, rfl, rfl⟩
    · exact absurd (nI_le (Nat.le_refl _) (by decide)) c_16
  | succ m ih =>
    intro k w hk
    refine go_iload dX0_places_13 rfl ?_
    refine go_iload_n dX0_places_15 rfl ?_
    refine go_icmp_ge (tgt := 40) dX0_places_16 (by decide) (fun c_16 => ?_) (fun c_16 => ?_)
    · exact absurd c_16 (nI_ge (by omega) (by decide))
    · skip
      refine go_aload_n dX0_places_19 rfl ?_
      refine go_iload dX0_places_20 rfl ?_
      refine go_iald dX0_places_22 (by omega) hF rfl (by omega) (by omega) ?_
      refine go_top (y := .int (nO (c.1 k))) (by rw [hf k (by omega)]) ?_
      refine go_istore (L' := [_, _, _, _, _, _]) dX0_places_23 (by decide) rfl ?_
      refine go_iload dX0_places_25 rfl ?_
      refine go_iconst (v := (-1)) dX0_places_27 (by decide) ?_
      refine go_icmp_eq (tgt := 34) dX0_places_28 (by decide) (fun c_28 => ?_) (fun c_28 => ?_)
      · skip
        have hn : c.1 k = none := by
          cases hq : c.1 k with
          | none => rfl
          | some v => rw [hq] at c_28; exact absurd c_28 (nI_ne_m1 (by have := hw k (by omega) v hq; omega))
        refine go_inc (L' := [_, _, _, _, _, _]) dX0_places_34 rfl (by decide) rfl ?_
        refine go_goto (tgt := 13) dX0_places_37 (by decide) ?_
        refine go_eqL ?_ (ih (k + 1) (some (.int (nO (c.1 k)))) (by omega))
        simp [cP, hn]
      · skip
        have hn : (c.1 k).isSome = true := by
          cases hq : c.1 k with
          | none => rw [hq] at c_28; exact absurd rfl c_28
          | some v => rfl
        refine go_inc (L' := [_, _, _, _, _, _]) dX0_places_31 rfl (by decide) rfl ?_
        refine go_inc (L' := [_, _, _, _, _, _]) dX0_places_34 rfl (by decide) rfl ?_
        refine go_goto (tgt := 13) dX0_places_37 (by decide) ?_
        refine go_eqL ?_ (ih (k + 1) (some (.int (nO (c.1 k)))) (by omega))
        simp [cP, hn]
theorem run_places (d : Nat) {N i : Nat} {h : gH} {c : CD} (hw : ∀ x, x < 100 → ∀ v, c.1 x = some v → v ≤ 999) (hi : i + 2 < N) (hC : Ct h i c) : Run d yX0_places cX0_places 6 (some .int) [.ref i] h N 0 0 (fun v h' N' => v = some (.int (nI (cP c.1 100))) ∧ h' = h ∧ N' = N) := by
  obtain ⟨F, G, h0, h1, h2, hf, hg⟩ := hC
  refine Run.of (ini := false) (L := [_, _, _, _, _, _]) mX0_places (fun h => by cases h) rfl (Nat.le_of_ble_eq_true rfl) rfl ?_
  refine go_iconst (v := nI 0) dX0_places_0 (by decide) ?_
  refine go_istore_n (L' := [_, _, _, _, _, _]) dX0_places_1 rfl (by decide) rfl ?_
  refine go_aload_n dX0_places_2 rfl ?_
  refine go_get dX0_places_3 fX0_9 (by omega) h0 rfl ?_
  refine go_astore_n (L' := [_, _, _, _, _, _]) dX0_places_6 rfl (by decide) rfl ?_
  refine go_aload_n dX0_places_7 rfl ?_
  refine go_alen dX0_places_8 (by omega) h1 (by decide) ?_
  refine go_istore_n (L' := [_, _, _, _, _, _]) dX0_places_9 rfl (by decide) rfl ?_
  refine go_iconst (v := nI 0) dX0_places_10 (by decide) ?_
  refine go_istore (L' := [_, _, _, _, _, _]) dX0_places_11 (by decide) rfl ?_
  exact places_loop hw hi h1 hf none 100 0 none (by omega)
set_option maxRecDepth 100000 in
theorem sum_loop {d N i : Nat} {h : gH} {c : CD} {F : Nat → Int32} (hw : ∀ x, x < 100 → ∀ v, c.1 x = some v → v ≤ 999) (hi : i + 2 < N) (hF : h (i + 1) = .inl (0, 100, .inl F)) (hf : ∀ x, x < 100 → F x = nO (c.1 x)) : ∀ (m k : Nat) (w : Option Value), k + m = 100 → Go none RX0 cX0_sum 6 (some .int) false d 13 [some (.ref i), some (.int (nI (sP c.1 k))), some (.ref (i + 1)), some (.int (nI 100)), some (.int (nI k)), w] [] h N 0 0 (fun v h' N' => v = some (.int (nI (sP c.1 100))) ∧ h' = h ∧ N' = N) := by
  intro m
  induction m with
  | zero =>
    intro k w hk
    have e : k = 100 := by omega
    subst e
    refine go_iload dX0_sum_13 rfl ?_
    refine go_iload_n dX0_sum_15 rfl ?_
    refine go_icmp_ge (tgt := 42) dX0_sum_16 (by decide) (fun c_16 => ?_) (fun c_16 => ?_)
    · skip
      refine go_iload_n dX0_sum_42 rfl ?_
      exact go_iret dX0_sum_43 rfl ⟨rfl, rfl, rfl⟩
    · exact absurd (nI_le (Nat.le_refl _) (by decide)) c_16
  | succ m ih =>
    intro k w hk
    refine go_iload dX0_sum_13 rfl ?_
    refine go_iload_n dX0_sum_15 rfl ?_
    refine go_icmp_ge (tgt := 42) dX0_sum_16 (by decide) (fun c_16 => ?_) (fun c_16 => ?_)
    · exact absurd c_16 (nI_ge (by omega) (by decide))
    · skip
      refine go_aload_n dX0_sum_19 rfl ?_
      refine go_iload dX0_sum_20 rfl ?_
      refine go_iald dX0_sum_22 (by omega) hF rfl (by omega) (by omega) ?_
      refine go_top (y := .int (nO (c.1 k))) (by rw [hf k (by omega)]) ?_
      refine go_istore (L' := [_, _, _, _, _, _]) dX0_sum_23 (by decide) rfl ?_
      refine go_iload dX0_sum_25 rfl ?_
      refine go_iconst (v := (-1)) dX0_sum_27 (by decide) ?_
      refine go_icmp_eq (tgt := 36) dX0_sum_28 (by decide) (fun c_28 => ?_) (fun c_28 => ?_)
      · skip
        have hn : c.1 k = none := by
          cases hq : c.1 k with
          | none => rfl
          | some v => rw [hq] at c_28; exact absurd c_28 (nI_ne_m1 (by have := hw k (by omega) v hq; omega))
        refine go_inc (L' := [_, _, _, _, _, _]) dX0_sum_36 rfl (by decide) rfl ?_
        refine go_goto (tgt := 13) dX0_sum_39 (by decide) ?_
        refine go_eqL ?_ (ih (k + 1) (some (.int (nO (c.1 k)))) (by omega))
        simp [sP, hn, nO, nI_add]
      · skip
        obtain ⟨v, hn⟩ : ∃ v, c.1 k = some v := by
          cases hq : c.1 k with
          | none => rw [hq] at c_28; exact absurd rfl c_28
          | some v => exact ⟨v, rfl⟩
        refine go_iload_n dX0_sum_31 rfl ?_
        refine go_iload dX0_sum_32 rfl ?_
        refine go_iadd dX0_sum_34 ?_
        refine go_istore_n (L' := [_, _, _, _, _, _]) dX0_sum_35 rfl (by decide) rfl ?_
        refine go_inc (L' := [_, _, _, _, _, _]) dX0_sum_36 rfl (by decide) rfl ?_
        refine go_goto (tgt := 13) dX0_sum_39 (by decide) ?_
        refine go_eqL ?_ (ih (k + 1) (some (.int (nO (c.1 k)))) (by omega))
        simp [sP, hn, nO, nI_add]
theorem run_sum (d : Nat) {N i : Nat} {h : gH} {c : CD} (hw : ∀ x, x < 100 → ∀ v, c.1 x = some v → v ≤ 999) (hi : i + 2 < N) (hC : Ct h i c) : Run d yX0_sum cX0_sum 6 (some .int) [.ref i] h N 0 0 (fun v h' N' => v = some (.int (nI (sP c.1 100))) ∧ h' = h ∧ N' = N) := by
  obtain ⟨F, G, h0, h1, h2, hf, hg⟩ := hC
  refine Run.of (ini := false) (L := [_, _, _, _, _, _]) mX0_sum (fun h => by cases h) rfl (Nat.le_of_ble_eq_true rfl) rfl ?_
  refine go_iconst (v := nI 0) dX0_sum_0 (by decide) ?_
  refine go_istore_n (L' := [_, _, _, _, _, _]) dX0_sum_1 rfl (by decide) rfl ?_
  refine go_aload_n dX0_sum_2 rfl ?_
  refine go_get dX0_sum_3 fX0_9 (by omega) h0 rfl ?_
  refine go_astore_n (L' := [_, _, _, _, _, _]) dX0_sum_6 rfl (by decide) rfl ?_
  refine go_aload_n dX0_sum_7 rfl ?_
  refine go_alen dX0_sum_8 (by omega) h1 (by decide) ?_
  refine go_istore_n (L' := [_, _, _, _, _, _]) dX0_sum_9 rfl (by decide) rfl ?_
  refine go_iconst (v := nI 0) dX0_sum_10 (by decide) ?_
  refine go_istore (L' := [_, _, _, _, _, _]) dX0_sum_11 (by decide) rfl ?_
  exact sum_loop hw hi h1 hf 100 0 none (by omega)
/-- whether v is among the first n of g -/
def oldB (g : Nat → Nat) (v : Nat) : Nat → Bool
  | 0 => false
  | n + 1 => oldB g v n || g n == v
def oK (o : Option Nat) : Nat := o.getD 0
theorem oldB_iff (g : Nat → Nat) (v : Nat) : ∀ n, oldB g v n = true ↔ ∃ i, i < n ∧ g i = v
  | 0 => by simp [oldB]
  | n + 1 => by
    rw [oldB, Bool.or_eq_true, oldB_iff g v n, beq_iff_eq]
    constructor
    · rintro (⟨i, h1, h2⟩ | h)
      · exact ⟨i, by omega, h2⟩
      · exact ⟨n, by omega, h⟩
    · rintro ⟨i, h1, h2⟩
      by_cases e : i = n
      · right; rw [← e]; exact h2
      · left; exact ⟨i, by omega, h2⟩
set_option maxRecDepth 100000 in
theorem isOld_loop {d N i v n : Nat} {h : gH} {c : CD} {G : Nat → Int32} (hv : v < 2 ^ 31) (hg5 : ∀ x, x < 5 → c.2.1 x < 2 ^ 31) (ho : c.2.2.1 = some n) (hn : n ≤ 5) (hi : i + 2 < N) (h0 : h i = .inr (0, [.ref (i + 1), .ref (i + 2), .int (oI c.2.2.1), .int (nI c.2.2.2.1), .int (nI c.2.2.2.2)])) (hG : h (i + 2) = .inl (0, 5, .inl G)) (hg : ∀ x, x < 5 → G x = nI (c.2.1 x)) : ∀ (m k : Nat), k + m = n → oldB c.2.1 v k = false → Go none RX0 cX0_isOld 3 (some .boolean) false d 2 [some (.ref i), some (.int (nI v)), some (.int (nI k))] [] h N 0 0 (fun r h' N' => r = some (.int (bI (oldB c.2.1 v n))) ∧ h' = h ∧ N' = N) := by
  intro m
  rw [ho] at h0
  induction m with
  | zero =>
    intro k hk hb
    have e : k = n := by omega
    subst e
    refine go_iload_n dX0_isOld_2 rfl ?_
    refine go_aload_n dX0_isOld_3 rfl ?_
    refine go_get dX0_isOld_4 fX0_27 (by omega) h0 rfl ?_
    refine go_icmp_ge (tgt := 37) dX0_isOld_7 (by decide) (fun c_7 => ?_) (fun c_7 => ?_)
    · skip
      refine go_iconst (v := nI 0) dX0_isOld_37 (by decide) ?_
      refine go_zret dX0_isOld_38 rfl (by first | exact Or.inl rfl | exact Or.inr rfl) ?_
      rw [hb]
      exact ⟨rfl, rfl, rfl⟩
    · exact absurd (nI_le (Nat.le_refl _) (by omega)) c_7
  | succ m ih =>
    intro k hk hb
    refine go_iload_n dX0_isOld_2 rfl ?_
    refine go_aload_n dX0_isOld_3 rfl ?_
    refine go_get dX0_isOld_4 fX0_27 (by omega) h0 rfl ?_
    refine go_icmp_ge (tgt := 37) dX0_isOld_7 (by decide) (fun c_7 => ?_) (fun c_7 => ?_)
    · exact absurd c_7 (nI_ge (by omega) (by omega))
    · skip
      refine go_iload_n dX0_isOld_10 rfl ?_
      refine go_aload_n dX0_isOld_11 rfl ?_
      refine go_get dX0_isOld_12 fX0_15 (by omega) h0 rfl ?_
      refine go_alen dX0_isOld_15 (by omega) hG (by decide) ?_
      refine go_icmp_ge (tgt := 37) dX0_isOld_16 (by decide) (fun c_16 => ?_) (fun c_16 => ?_)
      · exact absurd c_16 (nI_ge (by omega) (by omega))
      · skip
        refine go_aload_n dX0_isOld_19 rfl ?_
        refine go_get dX0_isOld_20 fX0_15 (by omega) h0 rfl ?_
        refine go_iload_n dX0_isOld_23 rfl ?_
        refine go_iald dX0_isOld_24 (by omega) hG rfl (by omega) (by omega) ?_
        refine go_top (y := .int (nI (c.2.1 k))) (by rw [hg k (by omega)]) ?_
        refine go_iload_n dX0_isOld_25 rfl ?_
        refine go_icmp_ne (tgt := 31) dX0_isOld_26 (by decide) (fun c_26 => ?_) (fun c_26 => ?_)
        · skip
          have hne : ¬ c.2.1 k = v := fun q => c_26 (by rw [q])
          refine go_inc (L' := [_, _, _]) dX0_isOld_31 rfl (by decide) rfl ?_
          refine go_goto (tgt := 2) dX0_isOld_34 (by decide) ?_
          exact ih (k + 1) (by omega) (by rw [oldB, hb]; simpa using hne)
        · skip
          refine go_iconst (v := nI 1) dX0_isOld_29 (by decide) ?_
          refine go_zret dX0_isOld_30 rfl (by first | exact Or.inl rfl | exact Or.inr rfl) ?_
          have hq : c.2.1 k = v := by
            have hq := Decidable.not_not.mp c_26
            exact (nI_eq (hg5 k (by omega)) hv).mp hq
          have hb2 : oldB c.2.1 v n = true := (oldB_iff _ _ _).mpr ⟨k, by omega, hq⟩
          rw [hb2]
          exact ⟨rfl, rfl, rfl⟩
theorem run_isOld (d : Nat) {N i v : Nat} {h : gH} {c : CD} (hv : v < 2 ^ 31) (hg5 : ∀ x, x < 5 → c.2.1 x < 2 ^ 31) (ho : ∀ n, c.2.2.1 = some n → n ≤ 5) (hi : i + 2 < N) (hC : Ct h i c) : Run d yX0_isOld cX0_isOld 3 (some .boolean) [.ref i, .int (nI v)] h N 0 0 (fun r h' N' => r = some (.int (bI (oldB c.2.1 v (oK c.2.2.1)))) ∧ h' = h ∧ N' = N) := by
  obtain ⟨F, G, h0, h1, h2, hf, hg⟩ := hC
  refine Run.of (ini := false) (L := [_, _, _]) mX0_isOld (fun h => by cases h) rfl (Nat.le_of_ble_eq_true rfl) rfl ?_
  cases hq : c.2.2.1 with
  | none =>
    rw [hq] at h0
    refine go_iconst (v := nI 0) dX0_isOld_0 (by decide) ?_
    refine go_istore_n (L' := [_, _, _]) dX0_isOld_1 rfl (by decide) rfl ?_
    refine go_iload_n dX0_isOld_2 rfl ?_
    refine go_aload_n dX0_isOld_3 rfl ?_
    refine go_get dX0_isOld_4 fX0_27 (by omega) h0 rfl ?_
    refine go_icmp_ge (tgt := 37) dX0_isOld_7 (by decide) (fun c_7 => ?_) (fun c_7 => ?_)
    · skip
      refine go_iconst (v := nI 0) dX0_isOld_37 (by decide) ?_
      exact go_zret dX0_isOld_38 rfl (by first | exact Or.inl rfl | exact Or.inr rfl) ⟨rfl, rfl, rfl⟩
    · exact absurd (by decide) c_7
  | some n =>
    have hn := ho n hq
    refine go_iconst (v := nI 0) dX0_isOld_0 (by decide) ?_
    refine go_istore_n (L' := [_, _, _]) dX0_isOld_1 rfl (by decide) rfl ?_
    exact isOld_loop hv hg5 hq hn hi h0 h2 hg n 0 (by omega) rfl
/-- what a border at v costs, in parts -/
def feeC (c : CD) (v : Nat) : Int64 := if c.2.2.1 = none then 0 else if oldB c.2.1 v (oK c.2.2.1) = true then 0 else lN c.2.2.2.2 * 5354228880
theorem run_feeOf (d : Nat) {N i v : Nat} {h : gH} {c : CD} (hv : v < 2 ^ 31) (hg5 : ∀ x, x < 5 → c.2.1 x < 2 ^ 31) (ho : ∀ n, c.2.2.1 = some n → n ≤ 5) (hc : c.2.2.2.2 < 2 ^ 31) (hi : i + 2 < N) (hC : Ct h i c) : Run (d + 1) yX0_feeOf cX0_feeOf 2 (some .long) [.ref i, .int (nI v)] h N 0 0 (fun r h' N' => r = some (.long (feeC c v)) ∧ h' = h ∧ N' = N) := by
  obtain ⟨F, G, h0, h1, h2, hf, hg⟩ := id hC
  refine Run.of (ini := false) (L := [_, _]) mX0_feeOf (fun h => by cases h) rfl (Nat.le_of_ble_eq_true rfl) rfl ?_
  cases hq : c.2.2.1 with
  | none =>
    rw [hq] at h0
    refine go_aload_n dX0_feeOf_0 rfl ?_
    refine go_get dX0_feeOf_1 fX0_27 (by omega) h0 rfl ?_
    refine go_bipush (v := (-9)) dX0_feeOf_4 (by decide) ?_
    refine go_icmp_eq (tgt := 17) dX0_feeOf_6 (by decide) (fun c_6 => ?_) (fun c_6 => ?_)
    · skip
      refine go_lconst (v := lN 0) dX0_feeOf_17 rfl ?_
      refine go_goto (tgt := 30) dX0_feeOf_18 (by decide) ?_
      refine go_lret dX0_feeOf_30 rfl ?_
      exact ⟨by rw [feeC, if_pos hq]; rfl, rfl, rfl⟩
    · exact absurd rfl c_6
  | some n =>
    rw [hq] at h0
    have hn := ho n hq
    refine go_aload_n dX0_feeOf_0 rfl ?_
    refine go_get dX0_feeOf_1 fX0_27 (by omega) h0 rfl ?_
    refine go_bipush (v := (-9)) dX0_feeOf_4 (by decide) ?_
    refine go_icmp_eq (tgt := 17) dX0_feeOf_6 (by decide) (fun c_6 => ?_) (fun c_6 => ?_)
    · exact absurd c_6 (nI_ne_m9 (by omega))
    · skip
      refine go_aload_n dX0_feeOf_9 rfl ?_
      refine go_iload_n dX0_feeOf_10 rfl ?_
      refine go_iv dX0_feeOf_11 mX0_isOld iX0_43 (run_isOld d hv hg5 ho hi hC) rfl rfl (by omega) h0 rfl (by decide) (Nat.zero_le _) (Nat.zero_le _) (fun v_11 h_11 n_11 q_11 => ?_)
      obtain ⟨rfl, rfl, rfl⟩ := q_11
      refine go_if_eq (tgt := 21) dX0_feeOf_14 (by decide) (fun c_14 => ?_) (fun c_14 => ?_)
      · skip
        have hb : oldB c.2.1 v (oK c.2.2.1) = false := by cases hb : oldB c.2.1 v (oK c.2.2.1) with | false => rfl | true => rw [hb] at c_14; exact absurd c_14 (by decide)
        refine go_aload_n dX0_feeOf_21 rfl ?_
        refine go_get dX0_feeOf_22 fX0_34 (by omega) h0 rfl ?_
        refine go_i2l dX0_feeOf_25 rfl ?_
        refine go_ldc2 dX0_feeOf_26 kX0_47 ?_
        refine go_lmul dX0_feeOf_29 ?_
        refine go_lret dX0_feeOf_30 rfl ?_
        exact ⟨by unfold feeC; rw [if_neg (by rw [hq]; simp)]; first | (rw [if_pos hb]; rfl) | (rw [if_neg (by rw [hb]; decide), nI_l hc]), rfl, rfl⟩
      · skip
        have hb : oldB c.2.1 v (oK c.2.2.1) = true := by cases hb : oldB c.2.1 v (oK c.2.2.1) with | true => rfl | false => rw [hb] at c_14; exact absurd rfl c_14
        refine go_lconst (v := lN 0) dX0_feeOf_17 rfl ?_
        refine go_goto (tgt := 30) dX0_feeOf_18 (by decide) ?_
        refine go_lret dX0_feeOf_30 rfl ?_
        exact ⟨by unfold feeC; rw [if_neg (by rw [hq]; simp)]; first | (rw [if_pos hb]; rfl) | (rw [if_neg (by rw [hb]; decide), nI_l hc]), rfl, rfl⟩
/-- nothing else has changed -/
def Fr (lo hi : Nat) (h h' : gH) : Prop := ∀ x, x < lo ∨ hi ≤ x → h' x = h x
theorem Fr.rf {lo hi : Nat} {h : gH} : Fr lo hi h h := fun _ _ => rfl
theorem Fr.trans {lo hi : Nat} {h h1 h2 : gH} (a : Fr lo hi h h1) (b : Fr lo hi h1 h2) : Fr lo hi h h2 := fun x hx => (b x hx).trans (a x hx)
theorem Fr.set {lo hi : Nat} {h h1 : gH} {a : Nat} {x : gC} (f : Fr lo hi h h1) (h1' : lo ≤ a) (h2 : a < hi) : Fr lo hi h (hset h1 a x) := fun y hy => (hset_ne (by omega)).trans (f y hy)
theorem Fr.wide {lo hi lo' hi' : Nat} {h h1 : gH} (f : Fr lo hi h h1) (h1' : lo' ≤ lo) (h2 : hi ≤ hi') : Fr lo' hi' h h1 := fun y hy => f y (by omega)
theorem Ct.fr {h h' : gH} {lo hi i : Nat} {c : CD} (hC : Ct h i c) (f : Fr lo hi h h') (hx : i + 2 < lo ∨ hi ≤ i) : Ct h' i c := hC.kept (f _ (by omega)) (f _ (by omega)) (f _ (by omega))
def c0 : CD := (fun _ => none, fun _ => 0, none, 3, 0)
set_option maxRecDepth 100000 in
theorem run_empty (d : Nat) {N i : Nat} {h : gH} {F G : Nat → Int32} {g : Nat → Nat} {o k c : Int32} (hi : i + 2 < N) (h0 : h i = .inr (0, [.ref (i + 1), .ref (i + 2), .int o, .int k, .int c])) (h1 : h (i + 1) = .inl (0, 100, .inl F)) (h2 : h (i + 2) = .inl (0, 5, .inl G)) (hg : ∀ x, x < 5 → G x = nI (g x)) : Run (d + 1) yX0_empty cX0_empty 1 none [.ref i] h N 0 0 (fun v h' N' => v = none ∧ N' = N ∧ Ct h' i (fun _ => none, g, none, 3, 0) ∧ Fr i (i + 3) h h') := by
  refine Run.of (ini := false) (L := [_]) mX0_empty (fun h => by cases h) rfl (Nat.le_of_ble_eq_true rfl) rfl ?_
  refine go_aload_n dX0_empty_0 rfl ?_
  refine go_get dX0_empty_1 fX0_9 (by omega) h0 rfl ?_
  refine go_iconst (v := (-1)) dX0_empty_4 (by decide) ?_
  refine go_is dX0_empty_5 mJ7_fill_53178 iX0_21 (run_fill d (by omega) (by omega) h1) rfl rfl (by decide) (Nat.zero_le _) (Nat.zero_le _) (fun v_5 h_5 n_5 q_5 => ?_)
  obtain ⟨rfl, rfl, rfl⟩ := q_5
  have e0 : hset h (i + 1) (.inl (0, 100, .inl (ffill (-1) F 100))) i = .inr (0, [.ref (i + 1), .ref (i + 2), .int o, .int k, .int c]) := (hset_ne (by omega)).trans h0
  refine go_aload_n dX0_empty_8 rfl ?_
  refine go_bipush (v := (-9)) dX0_empty_9 (by decide) ?_
  refine go_put (fs' := [_, _, _, _, _]) dX0_empty_11 fX0_27 (by omega) e0 (Nat.le_of_ble_eq_true rfl) (Or.inl rfl) ⟨_, _, _, rfl, Or.inl rfl⟩ rfl ?_
  refine go_aload_n dX0_empty_14 rfl ?_
  refine go_iconst (v := nI 3) dX0_empty_15 (by decide) ?_
  refine go_put (fs' := [_, _, _, _, _]) dX0_empty_16 fX0_31 (by omega) hset_same (Nat.le_of_ble_eq_true rfl) (Or.inl rfl) ⟨_, _, _, rfl, Or.inl rfl⟩ rfl ?_
  refine go_aload_n dX0_empty_19 rfl ?_
  refine go_iconst (v := nI 0) dX0_empty_20 (by decide) ?_
  refine go_put (fs' := [_, _, _, _, _]) dX0_empty_21 fX0_34 (by omega) hset_same (Nat.le_of_ble_eq_true rfl) (Or.inl rfl) ⟨_, _, _, rfl, Or.inl rfl⟩ rfl ?_
  refine go_vret dX0_empty_24 rfl ?_
  rw [hset_hset, hset_hset]
  refine ⟨rfl, rfl, ⟨ffill (-1) F 100, G, hset_same, (hset_ne (by omega)).trans hset_same, ((hset_ne (by omega)).trans (hset_ne (by omega))).trans h2, fun x hx => by simp [ffill, hx, nO], hg⟩, ((Fr.rf.set (by omega) (by omega)).set (by omega) (by omega))⟩
set_option maxRecDepth 100000 in
theorem run_become (d : Nat) {N i j : Nat} {h : gH} {a c : CD} (hi : i + 2 < N) (hj : j + 2 < N) (hij : i + 2 < j ∨ j + 2 < i) (hA : Ct h i a) (hC : Ct h j c) : Run (d + 1) yX0_become cX0_become 2 none [.ref i, .ref j] h N 0 0 (fun v h' N' => v = none ∧ N' = N ∧ Ct h' i c ∧ Fr i (i + 3) h h') := by
  obtain ⟨F, G, h0, h1, h2, hf, hg⟩ := hA
  obtain ⟨F', G', q0, q1, q2, hf', hg'⟩ := hC
  refine Run.of (ini := false) (L := [_, _]) mX0_become (fun h => by cases h) rfl (Nat.le_of_ble_eq_true rfl) rfl ?_
  refine go_aload_n dX0_become_0 rfl ?_
  refine go_get dX0_become_1 fX0_9 (by omega) q0 rfl ?_
  refine go_iconst (v := nI 0) dX0_become_4 (by decide) ?_
  refine go_aload_n dX0_become_5 rfl ?_
  refine go_get dX0_become_6 fX0_9 (by omega) h0 rfl ?_
  refine go_iconst (v := nI 0) dX0_become_9 (by decide) ?_
  refine go_aload_n dX0_become_10 rfl ?_
  refine go_get dX0_become_11 fX0_9 (by omega) h0 rfl ?_
  refine go_alen dX0_become_14 (by omega) h1 (by decide) ?_
  refine go_copy (z := 100) dX0_become_15 aX0_37 (by omega) (by omega) q1 h1 rfl rfl rfl (by omega) (by omega) (by omega) (by omega) (by decide) ?_
  have b0 : hset h (i + 1) (.inl (0, 100, .inl (va_cpy F' F 0 0 100))) i = h i := hset_ne (by omega)
  have b1 : hset h (i + 1) (.inl (0, 100, .inl (va_cpy F' F 0 0 100))) j = h j := hset_ne (by omega)
  have b2 : hset h (i + 1) (.inl (0, 100, .inl (va_cpy F' F 0 0 100))) (i + 2) = h (i + 2) := hset_ne (by omega)
  have b3 : hset h (i + 1) (.inl (0, 100, .inl (va_cpy F' F 0 0 100))) (j + 2) = h (j + 2) := hset_ne (by omega)
  refine go_aload_n dX0_become_18 rfl ?_
  refine go_get dX0_become_19 fX0_15 (by omega) (b1.trans q0) rfl ?_
  refine go_iconst (v := nI 0) dX0_become_22 (by decide) ?_
  refine go_aload_n dX0_become_23 rfl ?_
  refine go_get dX0_become_24 fX0_15 (by omega) (b0.trans h0) rfl ?_
  refine go_iconst (v := nI 0) dX0_become_27 (by decide) ?_
  refine go_aload_n dX0_become_28 rfl ?_
  refine go_get dX0_become_29 fX0_15 (by omega) (b0.trans h0) rfl ?_
  refine go_alen dX0_become_32 (by omega) (b2.trans h2) (by decide) ?_
  refine go_copy (z := 5) dX0_become_33 aX0_37 (by omega) (by omega) (b3.trans q2) (b2.trans h2) rfl rfl rfl (by omega) (by omega) (by omega) (by omega) (by decide) ?_
  have d0 : ∀ y, hset (hset h (i + 1) (.inl (0, 100, .inl (va_cpy F' F 0 0 100)))) (i + 2) y i = h i := fun y => (hset_ne (by omega)).trans b0
  have d1 : ∀ y, hset (hset h (i + 1) (.inl (0, 100, .inl (va_cpy F' F 0 0 100)))) (i + 2) y j = h j := fun y => (hset_ne (by omega)).trans b1
  refine go_aload_n dX0_become_36 rfl ?_
  refine go_aload_n dX0_become_37 rfl ?_
  refine go_get dX0_become_38 fX0_27 (by omega) ((d1 _).trans q0) rfl ?_
  refine go_put (fs' := [_, _, _, _, _]) dX0_become_41 fX0_27 (by omega) ((d0 _).trans h0) (Nat.le_of_ble_eq_true rfl) (Or.inl rfl) ⟨_, _, _, rfl, Or.inl rfl⟩ rfl ?_
  refine go_aload_n dX0_become_44 rfl ?_
  refine go_aload_n dX0_become_45 rfl ?_
  refine go_get dX0_become_46 fX0_31 (by omega) (((hset_ne (by omega)).trans (d1 _)).trans q0) rfl ?_
  refine go_put (fs' := [_, _, _, _, _]) dX0_become_49 fX0_31 (by omega) hset_same (Nat.le_of_ble_eq_true rfl) (Or.inl rfl) ⟨_, _, _, rfl, Or.inl rfl⟩ rfl ?_
  refine go_aload_n dX0_become_52 rfl ?_
  refine go_aload_n dX0_become_53 rfl ?_
  refine go_get dX0_become_54 fX0_34 (by omega) (((hset_ne (by omega)).trans ((hset_ne (by omega)).trans (d1 _))).trans q0) rfl ?_
  refine go_put (fs' := [_, _, _, _, _]) dX0_become_57 fX0_34 (by omega) hset_same (Nat.le_of_ble_eq_true rfl) (Or.inl rfl) ⟨_, _, _, rfl, Or.inl rfl⟩ rfl ?_
  refine go_vret dX0_become_60 rfl ?_
  rw [hset_hset, hset_hset]
  refine ⟨rfl, rfl, ⟨va_cpy F' F 0 0 100, va_cpy G' G 0 0 5, hset_same, ((hset_ne (by omega)).trans (hset_ne (by omega))).trans hset_same, (hset_ne (by omega)).trans hset_same, fun x hx => ?_, fun x hx => ?_⟩, (((Fr.rf.set (by omega) (by omega)).set (by omega) (by omega)).set (by omega) (by omega))⟩
  · rw [pk_cpy_in (by omega) (by omega)]; simpa using hf' x hx
  · rw [pk_cpy_in (by omega) (by omega)]; simpa using hg' x hx
set_option maxRecDepth 100000 in
theorem run_chart (d : Nat) {i : Nat} {h : gH} (h0 : h i = .inr (0, [.null, .null, .int 0, .int 0, .int 0])) : Run (d + 2) yX0_init cX0_init 1 none [.ref i] h (i + 1) 2 105 (fun v h' N' => v = none ∧ N' = i + 3 ∧ Ct h' i c0 ∧ Fr i (i + 3) h h') := by
  refine Run.of (ini := true) (L := [_]) mX0_init (fun h => rfl) rfl (Nat.le_of_ble_eq_true rfl) rfl ?_
  refine go_aload_n dX0_init_0 rfl ?_
  refine go_obj dX0_init_1 oX0 (by decide) ?_
  refine go_aload_n dX0_init_4 rfl ?_
  refine go_bipush (v := nI 100) dX0_init_5 (by decide) ?_
  refine go_newI (n := 100) dX0_init_7 rfl (by omega) (by decide) (by decide) ?_
  refine go_put (fs' := [_, _, _, _, _]) dX0_init_9 fX0_9 (by omega) ((hset_ne (by omega)).trans h0) (Nat.le_of_ble_eq_true rfl) rfl ⟨_, _, _, rfl, Or.inr ⟨rfl, rfl, rfl⟩⟩ rfl ?_
  refine go_aload_n dX0_init_12 rfl ?_
  refine go_iconst (v := nI 5) dX0_init_13 (by decide) ?_
  refine go_newI (n := 5) dX0_init_14 rfl (by omega) (by decide) (by decide) ?_
  refine go_put (fs' := [_, _, _, _, _]) dX0_init_16 fX0_15 (by omega) ((hset_ne (by omega)).trans hset_same) (Nat.le_of_ble_eq_true rfl) rfl ⟨_, _, _, rfl, Or.inr ⟨rfl, rfl, rfl⟩⟩ rfl ?_
  refine go_aload_n dX0_init_19 rfl ?_
  refine go_iv dX0_init_20 mX0_empty iX0_18 (run_empty d (F := fun _ => 0) (G := fun _ => 0) (g := fun _ => 0) (by omega) hset_same ((hset_ne (by omega)).trans ((hset_ne (by omega)).trans ((hset_ne (by omega)).trans hset_same))) ((hset_ne (by omega)).trans hset_same) (fun x hx => rfl)) rfl rfl (by omega) hset_same rfl (by decide) (Nat.zero_le _) (Nat.zero_le _) (fun v_20 h_20 n_20 q_20 => ?_)
  obtain ⟨rfl, rfl, hC, hF⟩ := q_20
  refine go_vret dX0_init_23 rfl ?_
  refine ⟨rfl, rfl, hC, fun x hx => (hF x hx).trans ?_⟩
  rw [hset_ne (by omega), hset_ne (by omega), hset_ne (by omega), hset_ne (by omega)]
