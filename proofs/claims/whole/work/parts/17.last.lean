/-! ===== bounds of longs ===== -/
def Bd (x : Int64) (m : Nat) : Prop := -(m : Int) ≤ x.toInt ∧ x.toInt ≤ m
theorem toInt64_add {x y : Int64} (h1 : -9223372036854775808 ≤ x.toInt + y.toInt) (h2 : x.toInt + y.toInt < 9223372036854775808) : (x + y).toInt = x.toInt + y.toInt := by
  rw [Int64.toInt_add, Int.bmod_eq_of_le (by simpa using h1) (by simpa using h2)]
theorem Bd.add {x y : Int64} {a b : Nat} (hx : Bd x a) (hy : Bd y b) (h : a + b < 2 ^ 63) : Bd (x + y) (a + b) := by
  obtain ⟨h1, h2⟩ := hx
  obtain ⟨h3, h4⟩ := hy
  have e := toInt64_add (x := x) (y := y) (by omega) (by omega)
  exact ⟨by rw [e]; omega, by rw [e]; omega⟩
theorem Bd.mono {x : Int64} {a b : Nat} (h : Bd x a) (hab : a ≤ b) : Bd x b := ⟨by have := h.1; omega, by have := h.2; omega⟩
theorem Bd.lt {x y : Int64} {a : Nat} (h : Bd x a) (hy : (a : Int) < y.toInt) : x < y := Int64.lt_iff_toInt_lt.mpr (by have := h.2; omega)
/-- all spreads are small -/
def SB (n : Nat) (S : Nat → Nat → Int64) : Prop := ∀ a b, a < b → b ≤ n → Bd (S a b) 130000000000000000
/-! ===== LAST, from the front ===== -/
def lst (S : Nat → Nat → Int64) : Nat → Nat → Int64 × Nat
  | 0, _ => (0, 0)
  | 1, j => (S 0 j, 0)
  | k + 2, j => fm (fun b => (lst S (k + 1) b).1 + S b j) (k + 1) (j - (k + 2))
theorem lst_bd {n : Nat} {S : Nat → Nat → Int64} (hS : SB n S) : ∀ {k j : Nat}, 1 ≤ k → k ≤ 6 → k ≤ j → j ≤ n → Bd (lst S k j).1 (k * 130000000000000000)
  | 0, j, h, _, _, _ => absurd h (by omega)
  | 1, j, _, _, h1, h2 => by
    have := hS 0 j (by omega) h2
    simpa [lst] using this
  | k + 2, j, _, h6, h1, h2 => by
    have hin := fm_in (fun b => (lst S (k + 1) b).1 + S b j) (k + 1) (j - (k + 2))
    have hv := fm_val (fun b => (lst S (k + 1) b).1 + S b j) (k + 1) (j - (k + 2))
    rw [lst, hv]
    have b1 := lst_bd hS (k := k + 1) (j := (fm (fun b => (lst S (k + 1) b).1 + S b j) (k + 1) (j - (k + 2))).2) (by omega) (by omega) (by omega) (by omega)
    have b2 := hS (fm (fun b => (lst S (k + 1) b).1 + S b j) (k + 1) (j - (k + 2))).2 j (by omega) h2
    exact (b1.add b2 (by omega)).mono (by omega)
/-! ===== LastTable: cell 115; best 116, rows 117 .. 123; begins 124, rows 125 .. 131 ===== -/
def Lt (h : gH) (B : Nat → Nat → Int64) (E : Nat → Nat → Int32) : Prop := ∃ R1 R2 : Nat → Option Nat, h 115 = .inr (3, [.ref 116, .ref 124]) ∧ h 116 = .inl (6, 7, .inr (.inr (.inr (.inr R1)))) ∧ (∀ i, i < 7 → R1 i = some (117 + i)) ∧ h 124 = .inl (5, 7, .inr (.inr (.inr (.inr R2)))) ∧ (∀ i, i < 7 → R2 i = some (125 + i)) ∧ (∀ i, i < 7 → h (117 + i) = .inl (1, 25, .inr (.inl (B i)))) ∧ (∀ i, i < 7 → h (125 + i) = .inl (0, 25, .inl (E i)))
theorem Lt.fr {h h' : gH} {lo hi : Nat} {B : Nat → Nat → Int64} {E : Nat → Nat → Int32} (q : Lt h B E) (f : Fr lo hi h h') (hx : 132 ≤ lo ∨ hi ≤ 115) : Lt h' B E := by
  obtain ⟨R1, R2, h0, h1, h2, h3, h4, h5, h6⟩ := q
  exact ⟨R1, R2, (f _ (by omega)).trans h0, (f _ (by omega)).trans h1, h2, (f _ (by omega)).trans h3, h4, fun i hi => (f _ (by omega)).trans (h5 i hi), fun i hi => (f _ (by omega)).trans (h6 i hi)⟩
theorem Lt.putB {h : gH} {k a : Nat} {B : Nat → Nat → Int64} {E : Nat → Nat → Int32} {x : Int64} (q : Lt h B E) (hk : k < 7) : Lt (hset h (117 + k) (.inl (1, 25, .inr (.inl (vp_updL (B k) a x))))) (u2L B k a x) E := by
  obtain ⟨R1, R2, h0, h1, h2, h3, h4, h5, h6⟩ := q
  refine ⟨R1, R2, (hset_ne (by omega)).trans h0, (hset_ne (by omega)).trans h1, h2, (hset_ne (by omega)).trans h3, h4, fun i hi => ?_, fun i hi => (hset_ne (by omega)).trans (h6 i hi)⟩
  by_cases e : i = k
  · subst e
    rw [hset_same]
    simp [u2L]
  · rw [hset_ne (by omega), h5 i hi]
    simp [u2L, e]
theorem Lt.putE {h : gH} {k a : Nat} {B : Nat → Nat → Int64} {E : Nat → Nat → Int32} {x : Int32} (q : Lt h B E) (hk : k < 7) : Lt (hset h (125 + k) (.inl (0, 25, .inl (upd (E k) a x)))) B (u2I E k a x) := by
  obtain ⟨R1, R2, h0, h1, h2, h3, h4, h5, h6⟩ := q
  refine ⟨R1, R2, (hset_ne (by omega)).trans h0, (hset_ne (by omega)).trans h1, h2, (hset_ne (by omega)).trans h3, h4, fun i hi => (hset_ne (by omega)).trans (h5 i hi), fun i hi => ?_⟩
  by_cases e : i = k
  · subst e
    rw [hset_same]
    simp [u2I]
  · rw [hset_ne (by omega), h6 i hi]
    simp [u2I, e]
section LastC
variable {d N n k j : Nat} {h : gH} {A W : Nat → Nat} {B : Nat → Nat → Int64} {E : Nat → Nat → Int32}
set_option maxRecDepth 100000 in
theorem lchoose_one {least : Int64} {chosen : Int32} {b : Nat} {w8 w9 : Option Value} {Q : Option Value → gH → Nat → Prop} (hN : 132 ≤ N) (hk : 2 ≤ k) (hk6 : k ≤ 6) (hb : b < j) (hj : j ≤ n) (hn : n ≤ 24) (hL : Ld h n A W) (hY : Lt h B E)
    (hyes : B (k - 1) b + spr A W b j < least → ∀ w8 w9, Go none RX3 cX3_choose 10 none false d 14 [some (.ref 115), some (.ref 50), some (.int (nI k)), some (.int (nI j)), some (.long (B (k - 1) b + spr A W b j)), none, some (.int (nI b)), some (.int (nI (b + 1))), w8, w9] [] h N 0 0 Q)
    (hno : ¬ B (k - 1) b + spr A W b j < least → ∀ w8 w9, Go none RX3 cX3_choose 10 none false d 14 [some (.ref 115), some (.ref 50), some (.int (nI k)), some (.int (nI j)), some (.long least), none, some (.int chosen), some (.int (nI (b + 1))), w8, w9] [] h N 0 0 Q) :
    Go none RX3 cX3_choose 10 none false d 14 [some (.ref 115), some (.ref 50), some (.int (nI k)), some (.int (nI j)), some (.long least), none, some (.int chosen), some (.int (nI b)), w8, w9] [] h N 0 0 Q := by
  obtain ⟨R1, R2, y0, y1, y2, y3, y4, y5, y6⟩ := id hY
  obtain ⟨⟨FA, FW, l0, l1, l2, l3, l4, l5⟩, R, r0, r1, r2⟩ := id hL
  obtain ⟨F, f0, f1⟩ := r2 b (by omega)
  refine go_iload dX3_choose_14 rfl ?_
  refine go_iload_n dX3_choose_16 rfl ?_
  refine go_icmp_ge (tgt := 65) dX3_choose_17 (by decide) (fun c_17 => ?_) (fun c_17 => ?_)
  · exact absurd c_17 (nI_ge hb (by omega))
  · skip
    refine go_aload_n dX3_choose_20 rfl ?_
    refine go_get dX3_choose_21 fX3_11 (by omega) y0 rfl ?_
    refine go_iload_n dX3_choose_24 rfl ?_
    refine go_iconst (v := nI 1) dX3_choose_25 (by decide) ?_
    refine go_isub dX3_choose_26 ?_
    refine go_top (y := .int (nI (k - 1))) (by rw [pk_sub (by omega)]) ?_
    refine go_aald dX3_choose_27 (by omega) y1 (by decide) (by decide) rfl (by omega) (by omega) (y2 (k - 1) (by omega)) ?_
    refine go_iload dX3_choose_28 rfl ?_
    refine go_lald dX3_choose_30 (by omega) (y5 (k - 1) (by omega)) rfl (by omega) (by omega) ?_
    refine go_aload_n dX3_choose_31 rfl ?_
    refine go_get dX3_choose_32 fX3_27 (by omega) l0 rfl ?_
    refine go_iload dX3_choose_35 rfl ?_
    refine go_aald dX3_choose_37 (by omega) r0 (by decide) (by decide) rfl (by omega) (by omega) (r1 b (by omega)) ?_
    refine go_iload_n dX3_choose_38 rfl ?_
    refine go_lald dX3_choose_39 (by omega) f0 rfl (by omega) (by omega) ?_
    refine go_top (y := .long (spr A W b j)) (by rw [f1 j (by omega) hb hj]) ?_
    refine go_ladd dX3_choose_40 ?_
    refine go_lstore (L' := [_, _, _, _, _, _, _, _, _, _]) dX3_choose_41 (by decide) rfl ?_
    refine go_lload dX3_choose_43 rfl ?_
    refine go_lload dX3_choose_45 rfl ?_
    refine go_lcmp dX3_choose_47 ?_
    refine go_if_ge (tgt := 59) dX3_choose_48 (by decide) (fun c_48 => ?_) (fun c_48 => ?_)
    · skip
      have c1 := mt (lg_cmp_lt _ _).mpr (fun q => absurd c_48 (Int32.not_le.mpr q))
      refine go_inc (L' := [_, _, _, _, _, _, _, _, _, _]) dX3_choose_59 rfl (by decide) rfl ?_
      refine go_goto (tgt := 14) dX3_choose_62 (by decide) ?_
      first | exact hyes c1 _ _ | exact hno c1 _ _
    · skip
      have c1 := (lg_cmp_lt _ _).mp (Int32.not_le.mp c_48)
      refine go_lload dX3_choose_51 rfl ?_
      refine go_lstore (L' := [_, _, _, _, _, _, _, _, _, _]) dX3_choose_53 (by decide) rfl ?_
      refine go_iload dX3_choose_55 rfl ?_
      refine go_istore (L' := [_, _, _, _, _, _, _, _, _, _]) dX3_choose_57 (by decide) rfl ?_
      refine go_inc (L' := [_, _, _, _, _, _, _, _, _, _]) dX3_choose_59 rfl (by decide) rfl ?_
      refine go_goto (tgt := 14) dX3_choose_62 (by decide) ?_
      first | exact hyes c1 _ _ | exact hno c1 _ _
set_option maxRecDepth 100000 in
theorem lchoose_end {least : Int64} {chosen : Int32} {b : Nat} {w8 w9 : Option Value} (hN : 132 ≤ N) (hk : 2 ≤ k) (hk6 : k ≤ 6) (hb : j ≤ b) (hb2 : b < 100) (hj : j ≤ n) (hn : n ≤ 24) (hY : Lt h B E) :
    Go none RX3 cX3_choose 10 none false d 14 [some (.ref 115), some (.ref 50), some (.int (nI k)), some (.int (nI j)), some (.long least), none, some (.int chosen), some (.int (nI b)), w8, w9] [] h N 0 0 (fun v h' N' => v = none ∧ N' = N ∧ Lt h' (u2L B k j least) (u2I E k j chosen) ∧ Fr 117 132 h h') := by
  obtain ⟨R1, R2, y0, y1, y2, y3, y4, y5, y6⟩ := id hY
  refine go_iload dX3_choose_14 rfl ?_
  refine go_iload_n dX3_choose_16 rfl ?_
  refine go_icmp_ge (tgt := 65) dX3_choose_17 (by decide) (fun c_17 => ?_) (fun c_17 => ?_)
  · skip
    refine go_aload_n dX3_choose_65 rfl ?_
    refine go_get dX3_choose_66 fX3_11 (by omega) y0 rfl ?_
    refine go_iload_n dX3_choose_69 rfl ?_
    refine go_aald dX3_choose_70 (by omega) y1 (by decide) (by decide) rfl (by omega) (by omega) (y2 k (by omega)) ?_
    refine go_iload_n dX3_choose_71 rfl ?_
    refine go_lload dX3_choose_72 rfl ?_
    refine go_last dX3_choose_74 (by omega) (y5 k (by omega)) rfl (by omega) (by omega) ?_
    refine go_aload_n dX3_choose_75 rfl ?_
    refine go_get dX3_choose_76 fX3_18 (by omega) ((hset_ne (by omega)).trans y0) rfl ?_
    refine go_iload_n dX3_choose_79 rfl ?_
    refine go_aald dX3_choose_80 (by omega) ((hset_ne (by omega)).trans y3) (by decide) (by decide) rfl (by omega) (by omega) (y4 k (by omega)) ?_
    refine go_iload_n dX3_choose_81 rfl ?_
    refine go_iload dX3_choose_82 rfl ?_
    refine go_iast dX3_choose_84 (by omega) ((hset_ne (by omega)).trans (y6 k (by omega))) rfl (by omega) (by omega) ?_
    refine go_vret dX3_choose_85 rfl ?_
    exact ⟨rfl, rfl, (hY.putB (by omega)).putE (by omega), (Fr.rf.set (by omega) (by omega)).set (by omega) (by omega)⟩
  · exact absurd (nI_le hb (by omega)) c_17
theorem lchoose_loop (hN : 132 ≤ N) (hk : 2 ≤ k) (hk6 : k ≤ 6) (hkj : k ≤ j) (hj : j ≤ n) (hn : n ≤ 24) (hL : Ld h n A W) (hY : Lt h B E) : ∀ (m i : Nat) (w8 w9 : Option Value), k + i + m = j →
    Go none RX3 cX3_choose 10 none false d 14 [some (.ref 115), some (.ref 50), some (.int (nI k)), some (.int (nI j)), some (.long (fm (fun b => B (k - 1) b + spr A W b j) (k - 1) i).1), none, some (.int (nI (fm (fun b => B (k - 1) b + spr A W b j) (k - 1) i).2)), some (.int (nI (k - 1 + i + 1))), w8, w9] [] h N 0 0 (fun v h' N' => v = none ∧ N' = N ∧ Lt h' (u2L B k j (fm (fun b => B (k - 1) b + spr A W b j) (k - 1) (j - k)).1) (u2I E k j (nI (fm (fun b => B (k - 1) b + spr A W b j) (k - 1) (j - k)).2)) ∧ Fr 117 132 h h') := by
  intro m
  induction m with
  | zero =>
    intro i w8 w9 hi
    have e : j - k = i := by omega
    rw [e]
    exact lchoose_end hN hk hk6 (by omega) (by omega) hj hn hY
  | succ m ih =>
    intro i w8 w9 hi
    refine lchoose_one hN hk hk6 (by omega) hj hn hL hY (fun q w8 w9 => ?_) (fun q w8 w9 => ?_)
    · have e : fm (fun b => B (k - 1) b + spr A W b j) (k - 1) (i + 1) = (B (k - 1) (k - 1 + i + 1) + spr A W (k - 1 + i + 1) j, k - 1 + i + 1) := by rw [fm, if_pos q]
      have := ih (i + 1) w8 w9 (by omega)
      rw [e] at this
      exact this
    · have e : fm (fun b => B (k - 1) b + spr A W b j) (k - 1) (i + 1) = fm (fun b => B (k - 1) b + spr A W b j) (k - 1) i := by rw [fm, if_neg q]
      have := ih (i + 1) w8 w9 (by omega)
      rw [e] at this
      exact this
/-- which of the table's cells are as they shall be -/
def TD (n : Nat) (S : Nat → Nat → Int64) (B : Nat → Nat → Int64) (E : Nat → Nat → Int32) (k j : Nat) : Prop := ∀ k' j', 1 ≤ k' → k' < 7 → (k' < k ∨ (k' = k ∧ j' < j)) → 1 ≤ j' → j' ≤ n → (k' ≤ j' → B k' j' = (lst S k' j').1 ∧ E k' j' = nI (lst S k' j').2) ∧ (j' < k' → E k' j' = -9)
theorem run_lchoose (d : Nat) (hN : 132 ≤ N) (hk : 2 ≤ k) (hk6 : k ≤ 6) (hj1 : 1 ≤ j) (hj : j ≤ n) (hn : n ≤ 24) (hS : SB n (spr A W)) (hL : Ld h n A W) (hY : Lt h B E) (hD : TD n (spr A W) B E k j) : Run d yX3_choose cX3_choose 10 none [.ref 115, .ref 50, .int (nI k), .int (nI j)] h N 0 0 (fun v h' N' => v = none ∧ N' = N ∧ (∃ B E, Lt h' B E ∧ TD n (spr A W) B E k (j + 1)) ∧ Fr 117 132 h h') := by
  have keep : ∀ (x : Int64) (y : Int32), (k ≤ j → x = (lst (spr A W) k j).1 ∧ y = nI (lst (spr A W) k j).2) → (j < k → y = -9) → TD n (spr A W) (u2L B k j x) (u2I E k j y) k (j + 1) := by
    intro x y h1 h2 k' j' q1 q7 q2 q3 q4
    by_cases e : k' = k ∧ j' = j
    · obtain ⟨rfl, rfl⟩ := e
      rw [u2L_s, u2I_s]
      exact ⟨h1, h2⟩
    · have hne : k' ≠ k ∨ j' ≠ j := by omega
      rw [u2L_n hne, u2I_n hne]
      exact hD k' j' q1 q7 (by omega) q3 q4
  refine Run.of (ini := false) (L := [_, _, _, _, _, _, _, _, _, _]) mX3_choose (fun h => by cases h) rfl (Nat.le_of_ble_eq_true rfl) rfl ?_
  refine go_ldc2 dX3_choose_0 kX3_36 ?_
  refine go_lstore (L' := [_, _, _, _, _, _, _, _, _, _]) dX3_choose_3 (by decide) rfl ?_
  refine go_bipush (v := (-9)) dX3_choose_5 (by decide) ?_
  refine go_istore (L' := [_, _, _, _, _, _, _, _, _, _]) dX3_choose_7 (by decide) rfl ?_
  refine go_iload_n dX3_choose_9 rfl ?_
  refine go_iconst (v := nI 1) dX3_choose_10 (by decide) ?_
  refine go_isub dX3_choose_11 ?_
  refine go_top (y := .int (nI (k - 1))) (by rw [pk_sub (by omega)]) ?_
  refine go_istore (L' := [_, _, _, _, _, _, _, _, _, _]) dX3_choose_12 (by decide) rfl ?_
  rcases Nat.lt_or_ge j k with e | e
  · exact go_Q (fun v h' N' q => ⟨q.1, q.2.1, ⟨_, _, q.2.2.1, keep _ _ (fun z => absurd z (by omega)) (fun _ => rfl)⟩, q.2.2.2⟩) (lchoose_end (n := n) hN hk hk6 (by omega) (by omega) hj hn hY)
  · obtain ⟨i, rfl⟩ : ∃ i, k = i + 2 := ⟨k - 2, by omega⟩
    have hc : fm (fun b => B (i + 2 - 1) b + spr A W b j) (i + 2 - 1) (j - (i + 2)) = lst (spr A W) (i + 2) j := by
      rw [lst]
      apply fm_cong
      intro t ht1 ht2
      show B (i + 2 - 1) t + _ = _
      rw [show i + 2 - 1 = i + 1 by omega, ((hD (i + 1) t (by omega) (by omega) (by omega) (by omega) (by omega)).1 (by omega)).1]
    refine lchoose_one (b := i + 2 - 1) hN hk hk6 (by omega) hj hn hL hY (fun q w8 w9 => ?_) (fun q w8 w9 => ?_)
    · have := lchoose_loop (d := d) hN hk hk6 e hj hn hL hY (j - (i + 2)) 0 w8 w9 (by omega)
      rw [hc] at this
      exact go_Q (fun v h' N' q => ⟨q.1, q.2.1, ⟨_, _, q.2.2.1, keep _ _ (fun z => ⟨rfl, rfl⟩) (fun z => absurd z (by omega))⟩, q.2.2.2⟩) this
    · exfalso
      apply q
      have b1 := lst_bd hS (k := i + 1) (j := i + 2 - 1) (by omega) (by omega) (by omega) (by omega)
      rw [← ((hD (i + 1) (i + 2 - 1) (by omega) (by omega) (by omega) (by omega) (by omega)).1 (by omega)).1] at b1
      have b2 := hS (i + 2 - 1) j (by omega) hj
      exact (b1.add b2 (by omega)).lt (by rw [show (9223372036854775807 : Int64).toInt = 9223372036854775807 by decide]; omega)
end LastC
section LastB
variable {d N n : Nat} {A W : Nat → Nat} {h0 : gH}
set_option maxRecDepth 100000 in
theorem lb_inner {k : Nat} (hN : 132 ≤ N) (hk : 2 ≤ k) (hk6 : k ≤ 6) (hn : n ≤ 24) (hS : SB n (spr A W)) {Q : Option Value → gH → Nat → Prop}
    (hq : ∀ (h : gH) (B : Nat → Nat → Int64) (E : Nat → Nat → Int32) (w3 : Option Value), Ld h n A W → Lt h B E → TD n (spr A W) B E (k + 1) 1 → Fr 117 132 h0 h → Go none RX3 cX3_build 4 none false (d + 1) 43 [some (.ref 115), some (.ref 50), some (.int (nI (k + 1))), w3] [] h N 0 0 Q) :
    ∀ (m j : Nat) (h : gH) (B : Nat → Nat → Int64) (E : Nat → Nat → Int32), 1 ≤ j → j + m = n + 1 → Ld h n A W → Lt h B E → TD n (spr A W) B E k j → Fr 117 132 h0 h → Go none RX3 cX3_build 4 none false (d + 1) 51 [some (.ref 115), some (.ref 50), some (.int (nI k)), some (.int (nI j))] [] h N 0 0 Q := by
  intro m
  induction m with
  | zero =>
    intro j h B E hj1 hm hL hY hD hF
    obtain ⟨⟨FA, FW, l0, l1, l2, l3, l4, l5⟩, R, r0, r1, r2⟩ := id hL
    refine go_iload_n dX3_build_51 rfl ?_
    refine go_aload_n dX3_build_52 rfl ?_
    refine go_get dX3_build_53 fX3_21 (by omega) l0 rfl ?_
    refine go_icmp_gt (tgt := 72) dX3_build_56 (by decide) (fun c_56 => ?_) (fun c_56 => ?_)
    · skip
      refine go_inc (L' := [_, _, _, _]) dX3_build_72 rfl (by decide) rfl ?_
      refine go_goto (tgt := 43) dX3_build_75 (by decide) ?_
      exact hq h B E _ hL hY (fun k' j' h1 h7 h2 h3 h4 => hD k' j' h1 h7 (by omega) h3 h4) hF
    · exact absurd (nI_lt (by omega) (by omega)) c_56
  | succ m ih =>
    intro j h B E hj1 hm hL hY hD hF
    obtain ⟨⟨FA, FW, l0, l1, l2, l3, l4, l5⟩, R, r0, r1, r2⟩ := id hL
    obtain ⟨R1, R2, y0, -⟩ := id hY
    refine go_iload_n dX3_build_51 rfl ?_
    refine go_aload_n dX3_build_52 rfl ?_
    refine go_get dX3_build_53 fX3_21 (by omega) l0 rfl ?_
    refine go_icmp_gt (tgt := 72) dX3_build_56 (by decide) (fun c_56 => ?_) (fun c_56 => ?_)
    · exact absurd ((nI_ltI (by omega) (by omega)).mp c_56) (by omega)
    · skip
      refine go_aload_n dX3_build_59 rfl ?_
      refine go_aload_n dX3_build_60 rfl ?_
      refine go_iload_n dX3_build_61 rfl ?_
      refine go_iload_n dX3_build_62 rfl ?_
      refine go_iv dX3_build_63 mX3_choose iX3_30 (run_lchoose d hN hk hk6 hj1 (by omega) hn hS hL hY hD) rfl rfl (by omega) y0 rfl (Nat.le_of_ble_eq_true rfl) (Nat.zero_le _) (Nat.zero_le _) (fun v_63 h_63 n_63 q_63 => ?_)
      obtain ⟨rfl, rfl, ⟨B1, E1, hY1, hD1⟩, hF1⟩ := q_63
      refine go_inc (L' := [_, _, _, _]) dX3_build_66 rfl (by decide) rfl ?_
      refine go_goto (tgt := 51) dX3_build_69 (by decide) ?_
      exact ih (j + 1) _ _ _ (by omega) (by omega) (hL.fr hF1 (by omega)) hY1 hD1 (hF.trans hF1)
set_option maxRecDepth 100000 in
theorem lb_outer (hN : 132 ≤ N) (hn : n ≤ 24) (hS : SB n (spr A W)) : ∀ (m k : Nat) (h : gH) (B : Nat → Nat → Int64) (E : Nat → Nat → Int32) (w3 : Option Value), 2 ≤ k → k + m = 7 → Ld h n A W → Lt h B E → TD n (spr A W) B E k 1 → Fr 117 132 h0 h → Go none RX3 cX3_build 4 none false (d + 1) 43 [some (.ref 115), some (.ref 50), some (.int (nI k)), w3] [] h N 0 0 (fun v h' N' => v = none ∧ N' = N ∧ (∃ B E, Lt h' B E ∧ TD n (spr A W) B E 7 1) ∧ Fr 117 132 h0 h') := by
  intro m
  induction m with
  | zero =>
    intro k h B E w3 hk2 hm hL hY hD hF
    have e : k = 7 := by omega
    subst e
    refine go_iload_n dX3_build_43 rfl ?_
    refine go_bipush (v := nI 6) dX3_build_44 (by decide) ?_
    refine go_icmp_gt (tgt := 78) dX3_build_46 (by decide) (fun c_46 => ?_) (fun c_46 => ?_)
    · skip
      refine go_vret dX3_build_78 rfl ?_
      exact ⟨rfl, rfl, ⟨B, E, hY, hD⟩, hF⟩
    · exact absurd (nI_lt (by omega) (by omega)) c_46
  | succ m ih =>
    intro k h B E w3 hk2 hm hL hY hD hF
    refine go_iload_n dX3_build_43 rfl ?_
    refine go_bipush (v := nI 6) dX3_build_44 (by decide) ?_
    refine go_icmp_gt (tgt := 78) dX3_build_46 (by decide) (fun c_46 => ?_) (fun c_46 => ?_)
    · exact absurd ((nI_ltI (by omega) (by omega)).mp c_46) (by omega)
    · skip
      refine go_iconst (v := nI 1) dX3_build_49 (by decide) ?_
      refine go_istore_n (L' := [_, _, _, _]) dX3_build_50 rfl (by decide) rfl ?_
      exact lb_inner hN hk2 (by omega) hn hS (fun h1 B1 E1 w6 q1 q2 q3 q4 => ih (k + 1) h1 B1 E1 w6 (by omega) (by omega) q1 q2 q3 q4) n 1 h B E (by omega) (by omega) hL hY hD hF
set_option maxRecDepth 100000 in
theorem lb_first (hN : 132 ≤ N) (hn : n ≤ 24) (hS : SB n (spr A W)) : ∀ (m j : Nat) (h : gH) (B : Nat → Nat → Int64) (E : Nat → Nat → Int32), 1 ≤ j → j + m = n + 1 → Ld h n A W → Lt h B E → TD n (spr A W) B E 1 j → Fr 117 132 h0 h → Go none RX3 cX3_build 4 none false (d + 1) 2 [some (.ref 115), some (.ref 50), some (.int (nI j)), none] [] h N 0 0 (fun v h' N' => v = none ∧ N' = N ∧ (∃ B E, Lt h' B E ∧ TD n (spr A W) B E 7 1) ∧ Fr 117 132 h0 h') := by
  intro m
  induction m with
  | zero =>
    intro j h B E hj1 hm hL hY hD hF
    obtain ⟨⟨FA, FW, l0, l1, l2, l3, l4, l5⟩, R, r0, r1, r2⟩ := id hL
    refine go_iload_n dX3_build_2 rfl ?_
    refine go_aload_n dX3_build_3 rfl ?_
    refine go_get dX3_build_4 fX3_21 (by omega) l0 rfl ?_
    refine go_icmp_gt (tgt := 41) dX3_build_7 (by decide) (fun c_7 => ?_) (fun c_7 => ?_)
    · skip
      refine go_iconst (v := nI 2) dX3_build_41 (by decide) ?_
      refine go_istore_n (L' := [_, _, _, _]) dX3_build_42 rfl (by decide) rfl ?_
      exact lb_outer hN hn hS 5 2 h B E none (by omega) (by omega) hL hY (fun k' j' h1 h7 h2 h3 h4 => hD k' j' h1 h7 (by omega) h3 h4) hF
    · exact absurd (nI_lt (by omega) (by omega)) c_7
  | succ m ih =>
    intro j h B E hj1 hm hL hY hD hF
    obtain ⟨R1, R2, y0, y1, y2, y3, y4, y5, y6⟩ := id hY
    obtain ⟨⟨FA, FW, l0, l1, l2, l3, l4, l5⟩, R, r0, r1, r2⟩ := id hL
    obtain ⟨F, f0, f1⟩ := r2 0 (by omega)
    refine go_iload_n dX3_build_2 rfl ?_
    refine go_aload_n dX3_build_3 rfl ?_
    refine go_get dX3_build_4 fX3_21 (by omega) l0 rfl ?_
    refine go_icmp_gt (tgt := 41) dX3_build_7 (by decide) (fun c_7 => ?_) (fun c_7 => ?_)
    · exact absurd ((nI_ltI (by omega) (by omega)).mp c_7) (by omega)
    · skip
      refine go_aload_n dX3_build_10 rfl ?_
      refine go_get dX3_build_11 fX3_11 (by omega) y0 rfl ?_
      refine go_iconst (v := nI 1) dX3_build_14 (by decide) ?_
      refine go_aald dX3_build_15 (by omega) y1 (by decide) (by decide) rfl (by omega) (by omega) (y2 1 (by omega)) ?_
      refine go_iload_n dX3_build_16 rfl ?_
      refine go_aload_n dX3_build_17 rfl ?_
      refine go_get dX3_build_18 fX3_27 (by omega) l0 rfl ?_
      refine go_iconst (v := nI 0) dX3_build_21 (by decide) ?_
      refine go_aald dX3_build_22 (by omega) r0 (by decide) (by decide) rfl (by omega) (by omega) (r1 0 (by omega)) ?_
      refine go_iload_n dX3_build_23 rfl ?_
      refine go_lald dX3_build_24 (by omega) f0 rfl (by omega) (by omega) ?_
      refine go_top (y := .long (spr A W 0 j)) (by rw [f1 j (by omega) (by omega) (by omega)]) ?_
      refine go_last dX3_build_25 (by omega) (y5 1 (by omega)) rfl (by omega) (by omega) ?_
      refine go_aload_n dX3_build_26 rfl ?_
      refine go_get dX3_build_27 fX3_18 (by omega) ((hset_ne (by omega)).trans y0) rfl ?_
      refine go_iconst (v := nI 1) dX3_build_30 (by decide) ?_
      refine go_aald dX3_build_31 (by omega) ((hset_ne (by omega)).trans y3) (by decide) (by decide) rfl (by omega) (by omega) (y4 1 (by omega)) ?_
      refine go_iload_n dX3_build_32 rfl ?_
      refine go_iconst (v := nI 0) dX3_build_33 (by decide) ?_
      refine go_iast dX3_build_34 (by omega) ((hset_ne (by omega)).trans (y6 1 (by omega))) rfl (by omega) (by omega) ?_
      refine go_inc (L' := [_, _, _, _]) dX3_build_35 rfl (by decide) rfl ?_
      refine go_goto (tgt := 2) dX3_build_38 (by decide) ?_
      have fr : Fr 117 132 h (hset (hset h (117 + 1) (.inl (1, 25, .inr (.inl (vp_updL (B 1) j (spr A W 0 j)))))) (125 + 1) (.inl (0, 25, .inl (upd (E 1) j (nI 0))))) := (Fr.rf.set (by omega) (by omega)).set (by omega) (by omega)
      refine ih (j + 1) _ _ _ (by omega) (by omega) (hL.fr fr (by omega)) ((hY.putB (by omega)).putE (by omega)) ?_ (hF.trans fr)
      intro k' j' h1 h7 h2 h3 h4
      by_cases e : k' = 1 ∧ j' = j
      · obtain ⟨rfl, rfl⟩ := e
        rw [u2L_s, u2I_s]
        exact ⟨fun _ => ⟨rfl, rfl⟩, fun z => absurd z (by omega)⟩
      · have hne : k' ≠ 1 ∨ j' ≠ j := by omega
        rw [u2L_n hne, u2I_n hne]
        exact hD k' j' h1 h7 (by omega) h3 h4
theorem run_lbuild (d : Nat) {h : gH} {B : Nat → Nat → Int64} {E : Nat → Nat → Int32} (hN : 132 ≤ N) (hS : SB n (spr A W)) (hL : Ld h n A W) (hY : Lt h B E) : Run (d + 1) yX3_build cX3_build 4 none [.ref 115, .ref 50] h N 0 0 (fun v h' N' => v = none ∧ N' = N ∧ (∃ B E, Lt h' B E ∧ TD n (spr A W) B E 7 1) ∧ Fr 117 132 h h') := by
  obtain ⟨⟨FA, FW, l0, l1, l2, l3, l4, l5⟩, -⟩ := id hL
  refine Run.of (ini := false) (L := [_, _, _, _]) mX3_build (fun h => by cases h) rfl (Nat.le_of_ble_eq_true rfl) rfl ?_
  refine go_iconst (v := nI 1) dX3_build_0 (by decide) ?_
  refine go_istore_n (L' := [_, _, _, _]) dX3_build_1 rfl (by decide) rfl ?_
  exact lb_first hN l3 hS n 1 h B E (by omega) (by omega) hL hY (fun k' a' h1 h7 h2 h3 => absurd h2 (by omega)) Fr.rf
set_option maxRecDepth 100000 in
theorem run_last0 (d : Nat) {h : gH} (h0 : h 115 = .inr (3, [.null, .null])) : Run (d + 1) yX3_init cX3_init 1 none [.ref 115] h 116 16 364 (fun v h' N' => v = none ∧ N' = 132 ∧ Lt h' (fun _ _ => 0) (fun _ _ => 0) ∧ Fr 115 132 h h') := by
  refine Run.of (ini := true) (L := [_]) mX3_init (fun h => rfl) rfl (Nat.le_of_ble_eq_true rfl) rfl ?_
  refine go_aload_n dX3_init_0 rfl ?_
  refine go_obj dX3_init_1 oX3 (Nat.le_of_ble_eq_true rfl) ?_
  refine go_aload_n dX3_init_4 rfl ?_
  refine go_bipush (v := nI 7) dX3_init_5 (by decide) ?_
  refine go_bipush (v := nI 25) dX3_init_7 (by decide) ?_
  refine go_mna (n := 7) (w := 25) (kd := 6) (ki := 1) (ty := .long) dX3_init_9 nX3_9 ac_long (Or.inr ⟨rfl, rfl, rfl, rfl⟩) rfl rfl (by omega) (by omega) (by decide) (by decide) ?_
  have hg : ∀ (h : gH) (z : gC) (M kd j : Nat), (j < M ∨ M + 8 ≤ j) → hgrid h M 7 kd z j = h j := fun h z M kd j hj => by unfold hgrid; rw [if_neg (by omega), if_neg (by omega)]
  have hg1 : ∀ (h : gH) (z : gC) (M kd i : Nat), i < 7 → hgrid h M 7 kd z (M + 1 + i) = z := fun h z M kd i hi => by unfold hgrid; rw [if_neg (by omega), if_pos (by omega)]
  have hg0 : ∀ (h : gH) (z : gC) (M kd : Nat), hgrid h M 7 kd z M = .inl (kd, 7, .inr (.inr (.inr (.inr (fun i => if i < 7 then some (M + 1 + i) else none))))) := fun h z M kd => by unfold hgrid; rw [if_pos rfl]
  refine go_put (fs' := [_, _]) dX3_init_13 fX3_11 (by omega) ((hg _ _ _ _ _ (by omega)).trans h0) (Nat.le_of_ble_eq_true rfl) rfl ⟨_, _, _, rfl, Or.inr ⟨rfl, rfl, rfl⟩⟩ rfl ?_
  refine go_aload_n dX3_init_16 rfl ?_
  refine go_bipush (v := nI 7) dX3_init_17 (by decide) ?_
  refine go_bipush (v := nI 25) dX3_init_19 (by decide) ?_
  refine go_mna (n := 7) (w := 25) (kd := 5) (ki := 0) (ty := .int) dX3_init_21 nX3_16 ac_int (Or.inl ⟨rfl, rfl, rfl, rfl⟩) rfl rfl (by omega) (by omega) (by decide) (by decide) ?_
  refine go_put (fs' := [_, _]) dX3_init_25 fX3_18 (by omega) ((hg _ _ _ _ _ (by omega)).trans hset_same) (Nat.le_of_ble_eq_true rfl) rfl ⟨_, _, _, rfl, Or.inr ⟨rfl, rfl, rfl⟩⟩ rfl ?_
  refine go_vret dX3_init_28 rfl ?_
  refine ⟨rfl, rfl, ⟨fun i => if i < 7 then some (116 + 1 + i) else none, fun i => if i < 7 then some (124 + 1 + i) else none, hset_same, ?_, fun i hi => ?_, ?_, fun i hi => ?_, fun i hi => ?_, fun i hi => ?_⟩, fun x hx => ?_⟩
  · rw [hset_ne (by omega), hg _ _ _ _ _ (by omega), hset_ne (by omega), hg0]
  · show (if i < 7 then some (116 + 1 + i) else none) = _; rw [if_pos hi]
  · rw [hset_ne (by omega)]; exact hg0 _ _ _ _
  · show (if i < 7 then some (124 + 1 + i) else none) = _; rw [if_pos hi]
  · rw [hset_ne (by omega), hg _ _ _ _ _ (by omega), hset_ne (by omega)]; exact hg1 _ _ _ _ _ hi
  · rw [hset_ne (by omega)]; exact hg1 _ _ _ _ _ hi
  · rw [hset_ne (by omega), hg _ _ _ _ _ (by omega), hset_ne (by omega), hg _ _ _ _ _ (by omega)]
end LastB
