/-! ===== comparisons of any int with a small number ===== -/
theorem ltN {x : Int32} {n : Nat} (h : n < 2 ^ 31) : x < nI n ↔ x.toInt < n := by rw [Int32.lt_iff_toInt_lt, nI_toInt h]
theorem leN {x : Int32} {n : Nat} (h : n < 2 ^ 31) : x ≤ nI n ↔ x.toInt ≤ n := by rw [Int32.le_iff_toInt_le, nI_toInt h]
theorem gtN {x : Int32} {n : Nat} (h : n < 2 ^ 31) : nI n < x ↔ (n : Int) < x.toInt := by rw [Int32.lt_iff_toInt_lt, nI_toInt h]
theorem geN {x : Int32} {n : Nat} (h : n < 2 ^ 31) : nI n ≤ x ↔ (n : Int) ≤ x.toInt := by rw [Int32.le_iff_toInt_le, nI_toInt h]
theorem lt0 {x : Int32} : x < 0 ↔ x.toInt < 0 := by rw [Int32.lt_iff_toInt_lt, Int32.toInt_zero]
/-- whether an int lies from lo to hi -/
def rI (lo hi : Nat) (x : Int32) : Bool := decide ((lo : Int) ≤ x.toInt ∧ x.toInt ≤ (hi : Int))
theorem rI_t {lo hi : Nat} {x : Int32} (h : rI lo hi x = true) : ∃ k, lo ≤ k ∧ k ≤ hi ∧ x = nI k := by
  have h := of_decide_eq_true h
  refine ⟨x.toInt.toNat, by omega, by omega, ?_⟩
  apply Int32.toInt_inj.mp
  have hx := Int32.toInt_lt x
  rw [nI_toInt (by omega)]
  omega
theorem rI_n {lo hi k : Nat} (hk : k < 2 ^ 31) : rI lo hi (nI k) = decide (lo ≤ k ∧ k ≤ hi) := by
  unfold rI
  rw [nI_toInt hk]
  congr 1
  apply propext
  omega
theorem rI_yes {lo hi k : Nat} (hk : k < 2 ^ 31) (h1 : lo ≤ k) (h2 : k ≤ hi) : rI lo hi (nI k) = true := by rw [rI_n hk]; simp [h1, h2]
theorem bI_eq {b : Bool} : bI b = 0 ↔ b = false := by cases b <;> simp [bI]
theorem bI_ne {b : Bool} : ¬ bI b = 0 ↔ b = true := by cases b <;> simp [bI]
/-! ===== isClasses, isSide, cellOf ===== -/
theorem run_isClasses (d : Nat) {N : Nat} {h : gH} (x : Int32) : Run d yX8_isClasses cX8_isClasses 1 (some .boolean) [.int x] h N 0 0 (fun v h' N' => v = some (.int (bI (rI 1 6 x))) ∧ h' = h ∧ N' = N) := by
  refine Run.of (ini := false) (L := [_]) mX8_isClasses (fun h => by cases h) rfl (Nat.le_of_ble_eq_true rfl) rfl ?_
  refine go_iload_n dX8_isClasses_0 rfl ?_
  refine go_iconst (v := nI 1) dX8_isClasses_1 (by decide) ?_
  refine go_icmp_lt (tgt := 15) dX8_isClasses_2 (by decide) (fun c_2 => ?_) (fun c_2 => ?_)
  · skip
    rw [ltN (by decide)] at c_2
    have e : rI 1 6 x = false := by unfold rI; exact decide_eq_false (by omega)
    refine go_iconst (v := nI 0) dX8_isClasses_15 (by decide) ?_
    refine go_zret dX8_isClasses_16 rfl (by first | exact Or.inl rfl | exact Or.inr rfl) ?_
    rw [e]
    exact ⟨rfl, rfl, rfl⟩
  · skip
    rw [ltN (by decide)] at c_2
    refine go_iload_n dX8_isClasses_5 rfl ?_
    refine go_bipush (v := nI 6) dX8_isClasses_6 (by decide) ?_
    refine go_icmp_gt (tgt := 15) dX8_isClasses_8 (by decide) (fun c_8 => ?_) (fun c_8 => ?_)
    · skip
      rw [gtN (by decide)] at c_8
      have e : rI 1 6 x = false := by unfold rI; exact decide_eq_false (by omega)
      refine go_iconst (v := nI 0) dX8_isClasses_15 (by decide) ?_
      refine go_zret dX8_isClasses_16 rfl (by first | exact Or.inl rfl | exact Or.inr rfl) ?_
      rw [e]
      exact ⟨rfl, rfl, rfl⟩
    · skip
      rw [gtN (by decide)] at c_8
      have e : rI 1 6 x = true := by unfold rI; exact decide_eq_true (by omega)
      refine go_iconst (v := nI 1) dX8_isClasses_11 (by decide) ?_
      refine go_goto (tgt := 16) dX8_isClasses_12 (by decide) ?_
      refine go_zret dX8_isClasses_16 rfl (by first | exact Or.inl rfl | exact Or.inr rfl) ?_
      rw [e]
      exact ⟨rfl, rfl, rfl⟩
theorem run_isSide (d : Nat) {N : Nat} {h : gH} (x : Int32) : Run d yX8_isSide cX8_isSide 1 (some .boolean) [.int x] h N 0 0 (fun v h' N' => v = some (.int (bI (rI 0 9 x))) ∧ h' = h ∧ N' = N) := by
  refine Run.of (ini := false) (L := [_]) mX8_isSide (fun h => by cases h) rfl (Nat.le_of_ble_eq_true rfl) rfl ?_
  refine go_iload_n dX8_isSide_0 rfl ?_
  refine go_if_lt (tgt := 14) dX8_isSide_1 (by decide) (fun c_1 => ?_) (fun c_1 => ?_)
  · skip
    rw [lt0] at c_1
    have e : rI 0 9 x = false := by unfold rI; exact decide_eq_false (by omega)
    refine go_iconst (v := nI 0) dX8_isSide_14 (by decide) ?_
    refine go_zret dX8_isSide_15 rfl (by first | exact Or.inl rfl | exact Or.inr rfl) ?_
    rw [e]
    exact ⟨rfl, rfl, rfl⟩
  · skip
    rw [lt0] at c_1
    refine go_iload_n dX8_isSide_4 rfl ?_
    refine go_bipush (v := nI 10) dX8_isSide_5 (by decide) ?_
    refine go_icmp_ge (tgt := 14) dX8_isSide_7 (by decide) (fun c_7 => ?_) (fun c_7 => ?_)
    · skip
      rw [geN (by decide)] at c_7
      have e : rI 0 9 x = false := by unfold rI; exact decide_eq_false (by omega)
      refine go_iconst (v := nI 0) dX8_isSide_14 (by decide) ?_
      refine go_zret dX8_isSide_15 rfl (by first | exact Or.inl rfl | exact Or.inr rfl) ?_
      rw [e]
      exact ⟨rfl, rfl, rfl⟩
    · skip
      rw [geN (by decide)] at c_7
      have e : rI 0 9 x = true := by unfold rI; exact decide_eq_true (by omega)
      refine go_iconst (v := nI 1) dX8_isSide_10 (by decide) ?_
      refine go_goto (tgt := 15) dX8_isSide_11 (by decide) ?_
      refine go_zret dX8_isSide_15 rfl (by first | exact Or.inl rfl | exact Or.inr rfl) ?_
      rw [e]
      exact ⟨rfl, rfl, rfl⟩
/-- a place's cell: -1, if there is no such place -/
def cellI (r c : Int32) : Int32 := if (rI 0 9 r && rI 0 9 c) = true then r * nI 10 + c else -1
theorem cellI_no {r c : Int32} (h : (rI 0 9 r && rI 0 9 c) = false) : cellI r c = -1 := by unfold cellI; rw [h]; rfl
theorem cellI_yes {r c : Int32} (h : (rI 0 9 r && rI 0 9 c) = true) : ∃ i j, i ≤ 9 ∧ j ≤ 9 ∧ r = nI i ∧ c = nI j ∧ cellI r c = nI (10 * i + j) := by
  have h2 := h
  rw [Bool.and_eq_true] at h2
  obtain ⟨i, -, h3, rfl⟩ := rI_t h2.1
  obtain ⟨j, -, h4, rfl⟩ := rI_t h2.2
  refine ⟨i, j, h3, h4, rfl, rfl, ?_⟩
  unfold cellI
  rw [if_pos h, pk_mul, nI_add, Nat.mul_comm]
theorem run_cellOf (d : Nat) {N : Nat} {h : gH} (r c : Int32) : Run (d + 1) yX8_cellOf cX8_cellOf 2 (some .int) [.int r, .int c] h N 0 0 (fun v h' N' => v = some (.int (cellI r c)) ∧ h' = h ∧ N' = N) := by
  refine Run.of (ini := false) (L := [_, _]) mX8_cellOf (fun h => by cases h) rfl (Nat.le_of_ble_eq_true rfl) rfl ?_
  refine go_iload_n dX8_cellOf_0 rfl ?_
  refine go_is dX8_cellOf_1 mX8_isSide iX8_180 (run_isSide d r) rfl rfl (Nat.le_of_ble_eq_true rfl) (Nat.zero_le _) (Nat.zero_le _) (fun v_1 h_1 n_1 q_1 => ?_)
  obtain ⟨rfl, rfl, rfl⟩ := q_1
  refine go_if_eq (tgt := 23) dX8_cellOf_4 (by decide) (fun c_4 => ?_) (fun c_4 => ?_)
  · skip
    have e : cellI r c = -1 := cellI_no (by rw [bI_eq.mp c_4]; rfl)
    refine go_iconst (v := (-1)) dX8_cellOf_23 (by decide) ?_
    refine go_iret dX8_cellOf_24 rfl ?_
    rw [e]
    exact ⟨rfl, rfl, rfl⟩
  · skip
    refine go_iload_n dX8_cellOf_7 rfl ?_
    refine go_is dX8_cellOf_8 mX8_isSide iX8_180 (run_isSide d c) rfl rfl (Nat.le_of_ble_eq_true rfl) (Nat.zero_le _) (Nat.zero_le _) (fun v_8 h_8 n_8 q_8 => ?_)
    obtain ⟨rfl, rfl, rfl⟩ := q_8
    refine go_if_eq (tgt := 23) dX8_cellOf_11 (by decide) (fun c_11 => ?_) (fun c_11 => ?_)
    · skip
      have e : cellI r c = -1 := cellI_no (by rw [bI_eq.mp c_11, Bool.and_false])
      refine go_iconst (v := (-1)) dX8_cellOf_23 (by decide) ?_
      refine go_iret dX8_cellOf_24 rfl ?_
      rw [e]
      exact ⟨rfl, rfl, rfl⟩
    · skip
      have e : cellI r c = r * nI 10 + c := if_pos (by rw [bI_ne.mp c_4, bI_ne.mp c_11]; rfl)
      refine go_iload_n dX8_cellOf_14 rfl ?_
      refine go_bipush (v := nI 10) dX8_cellOf_15 (by decide) ?_
      refine go_imul dX8_cellOf_17 ?_
      refine go_iload_n dX8_cellOf_18 rfl ?_
      refine go_iadd dX8_cellOf_19 ?_
      refine go_goto (tgt := 24) dX8_cellOf_20 (by decide) ?_
      refine go_iret dX8_cellOf_24 rfl ?_
      rw [e]
      exact ⟨rfl, rfl, rfl⟩
/-! ===== tintOf ===== -/
def tint (a r : Nat) : Nat := if r < 2 then 255 else 255 - 255 * a / (r - 1)
theorem tint_fp : ∀ r, r < 7 → ∀ a, a < 7 → 2 ≤ r → a < r → vf_n32 (FP.fmul 1132396544 (FP.i2f (nI a))) ∧ vf_n32 (FP.fdiv (FP.fmul 1132396544 (FP.i2f (nI a))) (FP.i2f (nI r - nI 1))) ∧ nI 255 - FP.f2i (FP.fdiv (FP.fmul 1132396544 (FP.i2f (nI a))) (FP.i2f (nI r - nI 1))) = nI (tint a r) := by
  unfold vf_n32
  decide +kernel
theorem run_tintOf (d : Nat) {N a r : Nat} {h : gH} (hr : r ≤ 6) (ha : a < r) : Run d yX8_tintOf cX8_tintOf 2 (some .int) [.int (nI a), .int (nI r)] h N 0 0 (fun v h' N' => v = some (.int (nI (tint a r))) ∧ h' = h ∧ N' = N) := by
  refine Run.of (ini := false) (L := [_, _]) mX8_tintOf (fun h => by cases h) rfl (Nat.le_of_ble_eq_true rfl) rfl ?_
  refine go_iload_n dX8_tintOf_0 rfl ?_
  refine go_iconst (v := nI 2) dX8_tintOf_1 (by decide) ?_
  refine go_icmp_ge (tgt := 9) dX8_tintOf_2 (by decide) (fun c_2 => ?_) (fun c_2 => ?_)
  · skip
    have h2 : 2 ≤ r := (nI_leI (by decide) (by omega)).mp c_2
    have hfp := tint_fp r (by omega) a (by omega) h2 ha
    refine go_sipush (v := nI 255) dX8_tintOf_9 (by decide) ?_
    refine go_ldcf dX8_tintOf_12 kX8_183 ?_
    refine go_iload_n dX8_tintOf_14 rfl ?_
    refine go_i2f dX8_tintOf_15 ?_
    refine go_fmul dX8_tintOf_16 hfp.1 ?_
    refine go_iload_n dX8_tintOf_17 rfl ?_
    refine go_iconst (v := nI 1) dX8_tintOf_18 (by decide) ?_
    refine go_isub dX8_tintOf_19 ?_
    refine go_i2f dX8_tintOf_20 ?_
    refine go_fdiv dX8_tintOf_21 hfp.2.1 ?_
    refine go_f2i dX8_tintOf_22 ?_
    refine go_isub dX8_tintOf_23 ?_
    refine go_iret dX8_tintOf_24 rfl ?_
    exact ⟨by rw [hfp.2.2], rfl, rfl⟩
  · skip
    refine go_sipush (v := nI 255) dX8_tintOf_5 (by decide) ?_
    refine go_iret dX8_tintOf_8 rfl ?_
    have h2 : r < 2 := by have := mt (nI_leI (a := 2) (b := r) (by decide) (by omega)).mpr c_2; omega
    exact ⟨by rw [show tint a r = 255 by simp [tint, h2]], rfl, rfl⟩
/-! ===== the common divisor ===== -/
theorem lrem_N {a b : Nat} (ha : a < 2 ^ 63) (h0 : 0 < b) (hb : b < 2 ^ 63) : lN a - lN a / lN b * lN b = lN (a % b) := pk_lRem ha h0 hb
theorem gcd_half {b r : Nat} (h0 : 0 < r) (hr : r < b) : b % r ≤ (b - 1) / 2 := by
  have h1 := Nat.mod_lt b h0
  rcases Nat.lt_or_ge b (2 * r) with h | h
  · have e : b % r = b - r := by
      rw [Nat.mod_eq_sub_mod (by omega), Nat.mod_eq_of_lt (by omega)]
    omega
  · omega
theorem gcd_step (a b : Nat) : Nat.gcd a b = Nat.gcd b (a % b) := by rw [Nat.gcd_comm a b, Nat.gcd_rec b a, Nat.gcd_comm]
set_option maxRecDepth 100000 in
theorem cd_exit {d N a step : Nat} {h : gH} {x y : Int64} {w9 w10 : Option Value} (hs : step ≤ 100) : Go none RX8 cX8_commonDivisor 11 (some .long) false d 9 [some (.long x), none, some (.long y), none, some (.long (lN a)), none, some (.long (lN 0)), none, some (.int (nI step)), w9, w10] [] h N 0 0 (fun v h' N' => v = some (.long (lN a)) ∧ h' = h ∧ N' = N) := by
  refine go_iload dX8_commonDivisor_9 rfl ?_
  refine go_bipush (v := nI 100) dX8_commonDivisor_11 (by decide) ?_
  refine go_icmp_ge (tgt := 44) dX8_commonDivisor_13 (by decide) (fun c_13 => ?_) (fun c_13 => ?_)
  · skip
    refine go_lload dX8_commonDivisor_44 rfl ?_
    exact go_lret dX8_commonDivisor_46 rfl ⟨rfl, rfl, rfl⟩
  · skip
    refine go_lload dX8_commonDivisor_16 rfl ?_
    refine go_lconst (v := lN 0) dX8_commonDivisor_18 rfl ?_
    refine go_lcmp dX8_commonDivisor_19 ?_
    refine go_if_eq (tgt := 44) dX8_commonDivisor_20 (by decide) (fun c_20 => ?_) (fun c_20 => ?_)
    · skip
      refine go_lload dX8_commonDivisor_44 rfl ?_
      exact go_lret dX8_commonDivisor_46 rfl ⟨rfl, rfl, rfl⟩
    · exact absurd ((lg_cmp_eq _ _).mpr rfl) c_20
set_option maxRecDepth 100000 in
theorem cd_step {d N a b step : Nat} {h : gH} {x y : Int64} {w9 w10 : Option Value} {Q : Option Value → gH → Nat → Prop} (hs : step < 100) (ha : a < 2 ^ 63) (hb0 : 0 < b) (hb : b < 2 ^ 63)
    (k : ∀ w9 w10, Go none RX8 cX8_commonDivisor 11 (some .long) false d 9 [some (.long x), none, some (.long y), none, some (.long (lN b)), none, some (.long (lN (a % b))), none, some (.int (nI (step + 1))), w9, w10] [] h N 0 0 Q) : Go none RX8 cX8_commonDivisor 11 (some .long) false d 9 [some (.long x), none, some (.long y), none, some (.long (lN a)), none, some (.long (lN b)), none, some (.int (nI step)), w9, w10] [] h N 0 0 Q := by
  have hne : ¬ lN b = 0 := by
    intro q
    have := (pk_lEQ (a := b) (b := 0) hb (by decide)).mp q
    omega
  refine go_iload dX8_commonDivisor_9 rfl ?_
  refine go_bipush (v := nI 100) dX8_commonDivisor_11 (by decide) ?_
  refine go_icmp_ge (tgt := 44) dX8_commonDivisor_13 (by decide) (fun c_13 => ?_) (fun c_13 => ?_)
  · exact absurd c_13 (nI_ge hs (by decide))
  · skip
    refine go_lload dX8_commonDivisor_16 rfl ?_
    refine go_lconst (v := lN 0) dX8_commonDivisor_18 rfl ?_
    refine go_lcmp dX8_commonDivisor_19 ?_
    refine go_if_eq (tgt := 44) dX8_commonDivisor_20 (by decide) (fun c_20 => ?_) (fun c_20 => ?_)
    · exact absurd ((lg_cmp_eq _ _).mp c_20) hne
    · skip
      refine go_lload dX8_commonDivisor_23 rfl ?_
      refine go_lload dX8_commonDivisor_25 rfl ?_
      refine go_lrem dX8_commonDivisor_27 hne ?_
      refine go_top (y := .long (lN (a % b))) (by rw [lrem_N ha hb0 hb]) ?_
      refine go_lstore (L' := [_, _, _, _, _, _, _, _, _, _, _]) dX8_commonDivisor_28 (by decide) rfl ?_
      refine go_lload dX8_commonDivisor_30 rfl ?_
      refine go_lstore (L' := [_, _, _, _, _, _, _, _, _, _, _]) dX8_commonDivisor_32 (by decide) rfl ?_
      refine go_lload dX8_commonDivisor_34 rfl ?_
      refine go_lstore (L' := [_, _, _, _, _, _, _, _, _, _, _]) dX8_commonDivisor_36 (by decide) rfl ?_
      refine go_inc (L' := [_, _, _, _, _, _, _, _, _, _, _]) dX8_commonDivisor_38 rfl (by decide) rfl ?_
      refine go_goto (tgt := 9) dX8_commonDivisor_41 (by decide) ?_
      exact k _ _
theorem cd_loop {d N : Nat} {h : gH} {x y : Int64} : ∀ (k a b step : Nat) (w9 w10 : Option Value), b < 2 ^ k → step + 2 * k ≤ 100 → a < 2 ^ 63 → b < 2 ^ 63 → Go none RX8 cX8_commonDivisor 11 (some .long) false d 9 [some (.long x), none, some (.long y), none, some (.long (lN a)), none, some (.long (lN b)), none, some (.int (nI step)), w9, w10] [] h N 0 0 (fun v h' N' => v = some (.long (lN (Nat.gcd a b))) ∧ h' = h ∧ N' = N) := by
  intro k
  induction k with
  | zero =>
    intro a b step w9 w10 hb hs ha hb3
    have e : b = 0 := by simpa using hb
    subst e
    rw [Nat.gcd_zero_right]
    exact cd_exit (by omega)
  | succ k ih =>
    intro a b step w9 w10 hb hs ha hb3
    rcases Nat.eq_zero_or_pos b with e | h0
    · subst e
      rw [Nat.gcd_zero_right]
      exact cd_exit (by omega)
    · refine cd_step (by omega) ha h0 hb3 fun w9 w10 => ?_
      rw [gcd_step]
      have hr := Nat.mod_lt a h0
      rcases Nat.eq_zero_or_pos (a % b) with e | h1
      · rw [e, Nat.gcd_zero_right]
        exact cd_exit (by omega)
      · refine cd_step (by omega) hb3 h1 (by omega) fun w9 w10 => ?_
        rw [gcd_step]
        have h2 := gcd_half h1 hr
        rw [Nat.pow_succ] at hb
        exact ih _ _ (step + 2) _ _ (by omega) (by omega) (by omega) (by omega)
theorem run_commonDivisor (d : Nat) {N p : Nat} {h : gH} (hp : p < 2 ^ 63) : Run d yX8_commonDivisor cX8_commonDivisor 11 (some .long) [.long (lN p), .long 5354228880] h N 0 0 (fun v h' N' => v = some (.long (lN (Nat.gcd p 5354228880))) ∧ h' = h ∧ N' = N) := by
  refine Run.of (ini := false) (L := [_, _, _, _, _, _, _, _, _, _, _]) mX8_commonDivisor (fun h => by cases h) rfl (Nat.le_of_ble_eq_true rfl) rfl ?_
  refine go_lload_n dX8_commonDivisor_0 rfl ?_
  refine go_lstore (L' := [_, _, _, _, _, _, _, _, _, _, _]) dX8_commonDivisor_1 (by decide) rfl ?_
  refine go_lload_n dX8_commonDivisor_3 rfl ?_
  refine go_lstore (L' := [_, _, _, _, _, _, _, _, _, _, _]) dX8_commonDivisor_4 (by decide) rfl ?_
  refine go_iconst (v := nI 0) dX8_commonDivisor_6 (by decide) ?_
  refine go_istore (L' := [_, _, _, _, _, _, _, _, _, _, _]) dX8_commonDivisor_7 (by decide) rfl ?_
  exact cd_loop 33 p 5354228880 0 none none (by decide) (by omega) hp (by decide)
theorem run_inLeastTerms (d : Nat) {N p : Nat} {h : gH} (hp : p < 2 ^ 63) (u : Bool) : Run (d + 1) yX8_inLeastTerms cX8_inLeastTerms 5 (some .long) [.long (lN p), .int (bI u)] h N 0 0 (fun v h' N' => v = some (.long (lN ((if u = true then p else 5354228880) / Nat.gcd p 5354228880))) ∧ h' = h ∧ N' = N) := by
  have hg0 : 0 < Nat.gcd p 5354228880 := Nat.gcd_pos_of_pos_right p (by decide)
  have hg1 : Nat.gcd p 5354228880 ≤ 5354228880 := Nat.le_of_dvd (by decide) (Nat.gcd_dvd_right p 5354228880)
  have hne : ¬ lN (Nat.gcd p 5354228880) = 0 := by
    intro q
    have := (pk_lEQ (a := Nat.gcd p 5354228880) (b := 0) (by omega) (by decide)).mp q
    omega
  refine Run.of (ini := false) (L := [_, _, _, _, _]) mX8_inLeastTerms (fun h => by cases h) rfl (Nat.le_of_ble_eq_true rfl) rfl ?_
  refine go_lload_n dX8_inLeastTerms_0 rfl ?_
  refine go_ldc2 dX8_inLeastTerms_1 kX8_184 ?_
  refine go_is dX8_inLeastTerms_4 mX8_commonDivisor iX8_186 (run_commonDivisor d hp) rfl rfl (Nat.le_of_ble_eq_true rfl) (Nat.zero_le _) (Nat.zero_le _) (fun v_4 h_4 n_4 q_4 => ?_)
  obtain ⟨rfl, rfl, rfl⟩ := q_4
  refine go_lstore_n (L' := [_, _, _, _, _]) dX8_inLeastTerms_7 rfl (by decide) rfl ?_
  refine go_lload_n dX8_inLeastTerms_8 rfl ?_
  refine go_lconst (v := lN 1) dX8_inLeastTerms_9 rfl ?_
  refine go_lcmp dX8_inLeastTerms_10 ?_
  refine go_if_ge (tgt := 18) dX8_inLeastTerms_11 (by decide) (fun c_11 => ?_) (fun c_11 => ?_)
  · skip
    refine go_iload_n dX8_inLeastTerms_18 rfl ?_
    refine go_if_eq (tgt := 26) dX8_inLeastTerms_19 (by decide) (fun c_19 => ?_) (fun c_19 => ?_)
    · skip
      have e := bI_eq.mp c_19
      refine go_ldc2 dX8_inLeastTerms_26 kX8_184 ?_
      refine go_lload_n dX8_inLeastTerms_29 rfl ?_
      refine go_ldiv dX8_inLeastTerms_30 hne ?_
      refine go_lret dX8_inLeastTerms_31 rfl ?_
      rw [e]
      refine ⟨?_, rfl, rfl⟩
      first | rw [if_neg (by decide), ← pk_lDiv (a := 5354228880) (by decide) hg0 (by omega)]; rfl | rw [if_pos rfl, ← pk_lDiv hp hg0 (by omega)]
    · skip
      have e := bI_ne.mp c_19
      refine go_lload_n dX8_inLeastTerms_22 rfl ?_
      refine go_goto (tgt := 29) dX8_inLeastTerms_23 (by decide) ?_
      refine go_lload_n dX8_inLeastTerms_29 rfl ?_
      refine go_ldiv dX8_inLeastTerms_30 hne ?_
      refine go_lret dX8_inLeastTerms_31 rfl ?_
      rw [e]
      refine ⟨?_, rfl, rfl⟩
      first | rw [if_neg (by decide), ← pk_lDiv (a := 5354228880) (by decide) hg0 (by omega)]; rfl | rw [if_pos rfl, ← pk_lDiv hp hg0 (by omega)]
  · exact absurd ((lg_cmp_ge _ _).mpr ((pk_lLE (a := 1) (b := Nat.gcd p 5354228880) (by decide) (by omega)).mpr hg0)) c_11
/-! ===== Parting ===== -/
/-- a parting: runs, where they begin, spread -/
abbrev PD : Type := Nat × (Nat → Nat) × Int64
def Pg (h : gH) (i : Nat) (q : PD) : Prop := ∃ F : Nat → Int32, h i = .inr (5, [.ref (i + 1), .int (nI q.1), .long q.2.2]) ∧ h (i + 1) = .inl (0, 6, .inl F) ∧ q.1 ≤ 6 ∧ (∀ x, x < q.1 → F x = nI (q.2.1 x))
theorem Pg.kept {h h' : gH} {i : Nat} {c : PD} (hC : Pg h i c) (h0 : h' i = h i) (h1 : h' (i + 1) = h (i + 1)) : Pg h' i c := by
  obtain ⟨F, q⟩ := hC
  exact ⟨F, by rw [h0, h1]; exact q⟩
theorem Pg.fr {h h' : gH} {lo hi i : Nat} {c : PD} (hC : Pg h i c) (f : Fr lo hi h h') (hx : i + 1 < lo ∨ hi ≤ i) : Pg h' i c := hC.kept (f _ (by omega)) (f _ (by omega))
theorem run_parting (d : Nat) {i : Nat} {h : gH} (h0 : h i = .inr (5, [.null, .int 0, .long 0])) : Run (d + 1) yX5_init cX5_init 1 none [.ref i] h (i + 1) 1 6 (fun v h' N' => v = none ∧ N' = i + 2 ∧ Pg h' i (0, fun _ => 0, 0) ∧ Fr i (i + 2) h h') := by
  refine Run.of (ini := true) (L := [_]) mX5_init (fun h => rfl) rfl (Nat.le_of_ble_eq_true rfl) rfl ?_
  refine go_aload_n dX5_init_0 rfl ?_
  refine go_obj dX5_init_1 oX5 (Nat.le_of_ble_eq_true rfl) ?_
  refine go_aload_n dX5_init_4 rfl ?_
  refine go_bipush (v := nI 6) dX5_init_5 (by decide) ?_
  refine go_newI (n := 6) dX5_init_7 rfl (by omega) (by decide) (by decide) ?_
  refine go_put (fs' := [_, _, _]) dX5_init_9 fX5_9 (by omega) ((hset_ne (by omega)).trans h0) (Nat.le_of_ble_eq_true rfl) rfl ⟨_, _, _, rfl, Or.inr ⟨rfl, rfl, rfl⟩⟩ rfl ?_
  refine go_vret dX5_init_12 rfl ?_
  refine ⟨rfl, rfl, ⟨fun _ => 0, hset_same, (hset_ne (by omega)).trans hset_same, by decide, fun x hx => absurd hx (by omega)⟩, (Fr.rf.set (by omega) (by omega)).set (by omega) (by omega)⟩
theorem run_beginOf (d : Nat) {N i k : Nat} {h : gH} {q : PD} (hi : i + 1 < N) (hk : k < q.1) (hP : Pg h i q) : Run d yX5_beginOf cX5_beginOf 2 (some .int) [.ref i, .int (nI k)] h N 0 0 (fun v h' N' => v = some (.int (nI (q.2.1 k))) ∧ h' = h ∧ N' = N) := by
  obtain ⟨F, h0, h1, h6, hf⟩ := hP
  refine Run.of (ini := false) (L := [_, _]) mX5_beginOf (fun h => by cases h) rfl (Nat.le_of_ble_eq_true rfl) rfl ?_
  refine go_iload_n dX5_beginOf_0 rfl ?_
  refine go_if_lt (tgt := 27) dX5_beginOf_1 (by decide) (fun c_1 => ?_) (fun c_1 => ?_)
  · exact absurd c_1 (nI_pos (by omega))
  · skip
    refine go_iload_n dX5_beginOf_4 rfl ?_
    refine go_aload_n dX5_beginOf_5 rfl ?_
    refine go_get dX5_beginOf_6 fX5_15 (by omega) h0 rfl ?_
    refine go_icmp_ge (tgt := 27) dX5_beginOf_9 (by decide) (fun c_9 => ?_) (fun c_9 => ?_)
    · exact absurd c_9 (nI_ge hk (by omega))
    · skip
      refine go_iload_n dX5_beginOf_12 rfl ?_
      refine go_bipush (v := nI 6) dX5_beginOf_13 (by decide) ?_
      refine go_icmp_ge (tgt := 27) dX5_beginOf_15 (by decide) (fun c_15 => ?_) (fun c_15 => ?_)
      · exact absurd c_15 (nI_ge (by omega) (by omega))
      · skip
        refine go_aload_n dX5_beginOf_18 rfl ?_
        refine go_get dX5_beginOf_19 fX5_9 (by omega) h0 rfl ?_
        refine go_iload_n dX5_beginOf_22 rfl ?_
        refine go_iald dX5_beginOf_23 (by omega) h1 rfl (by omega) (by omega) ?_
        refine go_goto (tgt := 29) dX5_beginOf_24 (by decide) ?_
        refine go_iret dX5_beginOf_29 rfl ?_
        exact ⟨by rw [hf k hk], rfl, rfl⟩
/-- the run in which a place of SORTED lies: as long as the next one begins no later -/
def rO (P : Nat → Bool) (r : Nat) : Nat → Nat → Nat
  | 0, run => run
  | m + 1, run => if run + 1 < r ∧ P (run + 1) = true then rO P r m (run + 1) else run
theorem rO_lt {P : Nat → Bool} {r : Nat} : ∀ (m run : Nat), run < r → rO P r m run < r
  | 0, run, h => h
  | m + 1, run, h => by
    unfold rO
    split
    · next q => exact rO_lt m (run + 1) q.1
    · exact h
set_option maxRecDepth 100000 in
theorem runOf_loop {d N i k : Nat} {h : gH} {q : PD} (hi : i + 1 < N) (hk : k < 2 ^ 31) (hB : ∀ x, x < q.1 → q.2.1 x < 2 ^ 31) (hP : Pg h i q) : ∀ (m run : Nat), q.1 ≤ run + 1 + m → run ≤ q.1 → Go none RX5 cX5_runOf 3 (some .int) false (d + 1) 2 [some (.ref i), some (.int (nI k)), some (.int (nI run))] [] h N 0 0 (fun v h' N' => v = some (.int (nI (rO (fun j => decide (q.2.1 j ≤ k)) q.1 m run))) ∧ h' = h ∧ N' = N) := by
  intro m
  obtain ⟨F, h0, h1, h6, hf⟩ := id hP
  induction m with
  | zero =>
    intro run hr h2
    refine go_iload_n dX5_runOf_2 rfl ?_
    refine go_iconst (v := nI 1) dX5_runOf_3 (by decide) ?_
    refine go_iadd dX5_runOf_4 ?_
    refine go_top (y := .int (nI (run + 1))) (by rw [nI_add]) ?_
    refine go_aload_n dX5_runOf_5 rfl ?_
    refine go_get dX5_runOf_6 fX5_15 (by omega) h0 rfl ?_
    refine go_icmp_ge (tgt := 29) dX5_runOf_9 (by decide) (fun c_9 => ?_) (fun c_9 => ?_)
    · skip
      refine go_iload_n dX5_runOf_29 rfl ?_
      exact go_iret dX5_runOf_30 rfl ⟨rfl, rfl, rfl⟩
    · exact absurd (nI_le (by omega) (by omega)) c_9
  | succ m ih =>
    intro run hr h2
    refine go_iload_n dX5_runOf_2 rfl ?_
    refine go_iconst (v := nI 1) dX5_runOf_3 (by decide) ?_
    refine go_iadd dX5_runOf_4 ?_
    refine go_top (y := .int (nI (run + 1))) (by rw [nI_add]) ?_
    refine go_aload_n dX5_runOf_5 rfl ?_
    refine go_get dX5_runOf_6 fX5_15 (by omega) h0 rfl ?_
    refine go_icmp_ge (tgt := 29) dX5_runOf_9 (by decide) (fun c_9 => ?_) (fun c_9 => ?_)
    · skip
      have e := (nI_leI (by omega) (by omega)).mp c_9
      refine go_iload_n dX5_runOf_29 rfl ?_
      refine go_iret dX5_runOf_30 rfl ?_
      first | exact ⟨by rw [rO, if_neg (by omega)], rfl, rfl⟩ | exact ⟨by rw [rO, if_neg (by simp; omega)], rfl, rfl⟩
    · skip
      have e : run + 1 < q.1 := by have := mt (nI_leI (a := q.1) (b := run + 1) (by omega) (by omega)).mpr c_9; omega
      refine go_aload_n dX5_runOf_12 rfl ?_
      refine go_iload_n dX5_runOf_13 rfl ?_
      refine go_iconst (v := nI 1) dX5_runOf_14 (by decide) ?_
      refine go_iadd dX5_runOf_15 ?_
      refine go_top (y := .int (nI (run + 1))) (by rw [nI_add]) ?_
      refine go_iv dX5_runOf_16 mX5_beginOf iX5_19 (run_beginOf d hi e hP) rfl rfl (by omega) h0 rfl (Nat.le_of_ble_eq_true rfl) (Nat.zero_le _) (Nat.zero_le _) (fun v_16 h_16 n_16 q_16 => ?_)
      obtain ⟨rfl, rfl, rfl⟩ := q_16
      refine go_iload_n dX5_runOf_19 rfl ?_
      refine go_icmp_gt (tgt := 29) dX5_runOf_20 (by decide) (fun c_20 => ?_) (fun c_20 => ?_)
      · skip
        have e2 := (nI_ltI hk (hB _ e)).mp c_20
        refine go_iload_n dX5_runOf_29 rfl ?_
        refine go_iret dX5_runOf_30 rfl ?_
        first | exact ⟨by rw [rO, if_neg (by omega)], rfl, rfl⟩ | exact ⟨by rw [rO, if_neg (by simp; omega)], rfl, rfl⟩
      · skip
        have e2 : q.2.1 (run + 1) ≤ k := by have := mt (nI_ltI (a := k) (b := q.2.1 (run + 1)) hk (hB _ e)).mpr c_20; omega
        refine go_inc (L' := [_, _, _]) dX5_runOf_23 rfl (by decide) rfl ?_
        refine go_goto (tgt := 2) dX5_runOf_26 (by decide) ?_
        rw [show rO (fun j => decide (q.2.1 j ≤ k)) q.1 (m + 1) run = rO (fun j => decide (q.2.1 j ≤ k)) q.1 m (run + 1) by rw [rO, if_pos ⟨e, by simpa using e2⟩]]
        exact ih (run + 1) (by omega) (by omega)
theorem run_runOf (d : Nat) {N i k : Nat} {h : gH} {q : PD} (hi : i + 1 < N) (hk : k < 2 ^ 31) (hB : ∀ x, x < q.1 → q.2.1 x < 2 ^ 31) (hP : Pg h i q) : Run (d + 1) yX5_runOf cX5_runOf 3 (some .int) [.ref i, .int (nI k)] h N 0 0 (fun v h' N' => v = some (.int (nI (rO (fun j => decide (q.2.1 j ≤ k)) q.1 q.1 0))) ∧ h' = h ∧ N' = N) := by
  refine Run.of (ini := false) (L := [_, _, _]) mX5_runOf (fun h => by cases h) rfl (Nat.le_of_ble_eq_true rfl) rfl ?_
  refine go_iconst (v := nI 0) dX5_runOf_0 (by decide) ?_
  refine go_istore_n (L' := [_, _, _]) dX5_runOf_1 rfl (by decide) rfl ?_
  exact runOf_loop hi hk hB hP q.1 0 (by omega) (by omega)
