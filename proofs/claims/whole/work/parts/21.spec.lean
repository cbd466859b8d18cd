/-! ===== THE STATE that both sides stand for: chart; what can be undone; images; text ===== -/
abbrev SD : Type := CD × (Nat × (Nat → CD)) × ((Nat → CD) × (Nat → Bool)) × (Nat × (Nat → Nat))
theorem rI_f {lo hi : Nat} {x : Int32} (h : rI lo hi x = false) : x.toInt < lo ∨ (hi : Int) < x.toInt := by
  have := of_decide_eq_false h
  omega
def toN (x : Int32) : Nat := x.toInt.toNat
theorem toN_nI {n : Nat} (h : n < 2 ^ 31) : toN (nI n) = n := by unfold toN; rw [nI_toInt h]; rfl
/-- what a state keeps to -/
def SW (s : SD) : Prop := CW s.1 ∧ s.2.1.1 ≤ 10 ∧ (∀ i, i < s.2.1.1 → CW (s.2.1.2 i)) ∧ (∀ i, i < 2 → s.2.2.1.2 i = true → CW (s.2.2.1.1 i)) ∧ s.2.2.2.1 ≤ 150 ∧ ∀ i, i < s.2.2.2.1 → s.2.2.2.2 i ≤ 255
/-- a chart is remembered; of ten the oldest is lost -/
def pushU (u : Nat × (Nat → CD)) (c : CD) : Nat × (Nat → CD) := if u.1 < 10 then (u.1 + 1, fun i => if i = u.1 then c else u.2 i) else (10, fun i => if i = 9 then c else u.2 (i + 1))
/-- the chart becomes another one, the old one is remembered -/
def chS (s : SD) (c : CD) : SD := (c, pushU s.2.1 s.1, s.2.2)
def typeS (s : SD) (x : Int32) : Int32 × SD := if rI 0 255 x = true then (if s.2.2.2.1 < 150 then (nI (s.2.2.2.1 + 1), (s.1, s.2.1, s.2.2.1, (s.2.2.2.1 + 1, fun i => if i = s.2.2.2.1 then toN x else s.2.2.2.2 i))) else (-3, s)) else (-1, s)
def clearS (s : SD) : Int32 × SD := (nI s.2.2.2.1, (s.1, s.2.1, s.2.2.1, (0, s.2.2.2.2)))
def setF (f : Nat → Option Nat) (k : Nat) (v : Option Nat) : Nat → Option Nat := fun x => if x = k then v else f x
def nN (v : Option Nat) : Int32 := match v with
  | none => -9
  | some v => nI v
def putsS (s : SD) (r c x : Int32) : Int32 × SD :=
  if (rI 0 9 r && rI 0 9 c && rI 0 999 x) = true then
    (if s.1.1 (10 * toN r + toN c) = none ∧ 24 ≤ cP s.1.1 100 then (-3, s) else (nN (s.1.1 (10 * toN r + toN c)), chS s (setF s.1.1 (10 * toN r + toN c) (some (toN x)), s.1.2)))
  else (-1, s)
def dropsS (s : SD) (r c : Int32) : Int32 × SD :=
  if (rI 0 9 r && rI 0 9 c) = true then
    (if s.1.1 (10 * toN r + toN c) = none then (-2, s) else (nN (s.1.1 (10 * toN r + toN c)), chS s (setF s.1.1 (10 * toN r + toN c) none, s.1.2)))
  else (-1, s)
def asksS (s : SD) (k : Int32) : Int32 × SD :=
  if rI 1 6 k = true then (if s.1.2.2.2.1 = toN k then (-2, s) else (nI s.1.2.2.2.1, chS s (s.1.1, s.1.2.1, s.1.2.2.1, toN k, s.1.2.2.2.2))) else (-1, s)
def costsS (s : SD) (x : Int32) : Int32 × SD :=
  if rI 0 999 x = true then (if s.1.2.2.2.2 = toN x then (-2, s) else (nI s.1.2.2.2.2, chS s (s.1.1, s.1.2.1, s.1.2.2.1, s.1.2.2.2.1, toN x))) else (-1, s)
def undoS (s : SD) : Int32 × SD := if s.2.1.1 = 0 then (-2, s) else (nI (s.2.1.1 - 1), (s.2.1.2 (s.2.1.1 - 1), (s.2.1.1 - 1, s.2.1.2), s.2.2))
def keepS (s : SD) (x : Int32) : Int32 × SD := if rI 0 1 x = true then (nI (cP s.1.1 100), (s.1, s.2.1, (fun i => if i = toN x then s.1 else s.2.2.1.1 i, fun i => if i = toN x then true else s.2.2.1.2 i), s.2.2.2)) else (-1, s)
def backS (s : SD) (x : Int32) : Int32 × SD := if rI 0 1 x = true then (if s.2.2.1.2 (toN x) = true then (nI (cP (s.2.2.1.1 (toN x)).1 100), (s.2.2.1.1 (toN x), (0, s.2.1.2), s.2.2)) else (-2, s)) else (-1, s)
/-! ===== the class's side: MapText's cells 44, 45, 46; ShadeClasses' cells 0, 36, 37, 40, 43 ===== -/
def Mt (h : gH) (tl : Nat) (tx : Nat → Nat) : Prop := ∃ (F : Nat → Int32) (x3 x4 x5 x6 x7 x8 x9 : Int32) (c : CD), h 44 = .inr (4, [.ref 45, .ref 46, .int (nI tl), .int x3, .int x4, .int x5, .int x6, .int x7, .int x8, .int x9]) ∧ h 45 = .inl (0, 150, .inl F) ∧ Ct h 46 (c.1, fun _ => 0, c.2.2) ∧ ∀ i, i < tl → F i = nI (tx i)
theorem Mt.fr {h h' : gH} {lo hi tl : Nat} {tx : Nat → Nat} (q : Mt h tl tx) (f : Fr lo hi h h') (hx : 49 ≤ lo ∨ hi ≤ 44) : Mt h' tl tx := by
  obtain ⟨F, x3, x4, x5, x6, x7, x8, x9, c, h0, h1, h2, h3⟩ := q
  exact ⟨F, x3, x4, x5, x6, x7, x8, x9, c, (f _ (by omega)).trans h0, (f _ (by omega)).trans h1, h2.fr f (by omega), h3⟩
def Ob (h : gH) : Prop := h 0 = .inr (8, [.ref 1, .ref 4, .ref 36, .ref 43, .ref 44, .ref 49])
def HU (h : gH) (u : Nat × (Nat → CD)) : Prop := ∃ nx H, nx < 10 ∧ Hs h nx u.1 H ∧ ∀ i, i < u.1 → H ((nx + 10 - u.1 + i) % 10) = u.2 i
def Im (h : gH) (u : (Nat → CD) × (Nat → Bool)) : Prop := (∃ R : Nat → Option Nat, h 36 = .inl (3, 2, .inr (.inr (.inr (.inr R)))) ∧ ∀ i, i < 2 → R i = some (37 + 3 * i)) ∧ (∀ i, i < 2 → Ct h (37 + 3 * i) (u.1 i)) ∧ ∃ F : Nat → Int32, h 43 = .inl (2, 2, .inl F) ∧ ∀ i, i < 2 → F i = bI (u.2 i)
theorem HU.fr {h h' : gH} {lo hi : Nat} {u : Nat × (Nat → CD)} (q : HU h u) (f : Fr lo hi h h') (hx : 36 ≤ lo ∨ hi ≤ 4) : HU h' u := by
  obtain ⟨nx, H, h1, h2, h3⟩ := q
  exact ⟨nx, H, h1, h2.fr f hx, h3⟩
theorem Im.fr {h h' : gH} {lo hi : Nat} {u : (Nat → CD) × (Nat → Bool)} (q : Im h u) (f : Fr lo hi h h') (hx : 44 ≤ lo ∨ hi ≤ 36) : Im h' u := by
  obtain ⟨⟨R, h1, h2⟩, h3, F, h4, h5⟩ := q
  exact ⟨⟨R, (f _ (by omega)).trans h1, h2⟩, fun i hi => (h3 i hi).fr f (by omega), F, (f _ (by omega)).trans h4, h5⟩
def CS (h : gH) (s : SD) : Prop := Ob h ∧ Ct h 1 s.1 ∧ HU h s.2.1 ∧ Im h s.2.2.1 ∧ Mt h s.2.2.2.1 s.2.2.2.2 ∧ PaE h s.1
theorem PaE.fr {h h' : gH} {c : CD} {lo hi : Nat} (q : PaE h c) (f : Fr lo hi h h') (hx : 147 ≤ lo ∨ hi ≤ 49) : PaE h' c := by
  obtain ⟨l, cu, le, ta, q⟩ := q
  exact ⟨l, cu, le, ta, q.fr f hx⟩
theorem CS.fr {h h' : gH} {s : SD} {lo hi : Nat} (q : CS h s) (f : Fr lo hi h h') (hx : 147 ≤ lo) : CS h' s := ⟨(f _ (by omega)).trans q.1, q.2.1.fr f (by omega), q.2.2.1.fr f (by omega), q.2.2.2.1.fr f (by omega), q.2.2.2.2.1.fr f (by omega), q.2.2.2.2.2.fr f (by omega)⟩
theorem HU.push {h' : gH} {u : Nat × (Nat → CD)} {nx : Nat} {H : Nat → CD} {c : CD} (h10 : u.1 ≤ 10) (hx : nx < 10) (hU : ∀ i, i < u.1 → H ((nx + 10 - u.1 + i) % 10) = u.2 i) (q : Hs h' ((nx + 1) % 10) (min (u.1 + 1) 10) (updH H nx c)) : HU h' (pushU u c) := by
  unfold pushU
  by_cases e : u.1 < 10
  · rw [if_pos e]
    refine ⟨(nx + 1) % 10, updH H nx c, Nat.mod_lt _ (by decide), ?_, fun i hi => ?_⟩
    · rw [show min (u.1 + 1) 10 = u.1 + 1 by omega] at q
      exact q
    · show updH H nx c (((nx + 1) % 10 + 10 - (u.1 + 1) + i) % 10) = if i = u.1 then c else u.2 i
      have hi : i < u.1 + 1 := hi
      by_cases e2 : i = u.1
      · rw [if_pos e2, updH, if_pos (by omega)]
      · rw [if_neg e2, updH, if_neg (by omega), ← hU i (by omega)]
        congr 1
        omega
  · rw [if_neg e]
    have e10 : u.1 = 10 := by omega
    refine ⟨(nx + 1) % 10, updH H nx c, Nat.mod_lt _ (by decide), ?_, fun i hi => ?_⟩
    · rw [show min (u.1 + 1) 10 = 10 by omega] at q
      exact q
    · show updH H nx c (((nx + 1) % 10 + 10 - 10 + i) % 10) = if i = 9 then c else u.2 (i + 1)
      have hi : i < 10 := hi
      by_cases e2 : i = 9
      · rw [if_pos e2, updH, if_pos (by omega)]
      · rw [if_neg e2, updH, if_neg (by omega), ← hU (i + 1) (by omega)]
        congr 1
        omega
/-- ahead of a change: the chart is remembered, what was found of it is forgotten -/
theorem run_ahead {h : gH} {s : SD} (hw : SW s) (hS : CS h s) : Run 7 yX8_aheadOfChange cX8_aheadOfChange 1 none [.ref 0] h 163 0 0 (fun v h' N' => v = none ∧ N' = 163 ∧ (Ob h' ∧ Ct h' 1 s.1 ∧ HU h' (pushU s.2.1 s.1) ∧ Im h' s.2.2.1 ∧ Mt h' s.2.2.2.1 s.2.2.2.2 ∧ ∀ c', PaE h' c') ∧ Fr 4 50 h h') := by
  obtain ⟨o, hC, ⟨nx, H, hx, hH, hU⟩, hI, hM, l, cu, le, ta, hP⟩ := hS
  obtain ⟨R, g0, -⟩ := id hH
  refine Run.of (ini := false) (L := [_]) mX8_aheadOfChange (fun h => by cases h) rfl (Nat.le_of_ble_eq_true rfl) rfl ?_
  refine go_aload_n dX8_aheadOfChange_0 rfl ?_
  refine go_get dX8_aheadOfChange_1 fX8_19 (by omega) o rfl ?_
  refine go_aload_n dX8_aheadOfChange_4 rfl ?_
  refine go_get dX8_aheadOfChange_5 fX8_10 (by omega) o rfl ?_
  refine go_iv dX8_aheadOfChange_8 mX1_remember iX8_174 (run_remember 4 (by omega) hx hw.2.1 hH hC) rfl rfl (by omega) g0 rfl (Nat.le_of_ble_eq_true rfl) (Nat.zero_le _) (Nat.zero_le _) (fun v_8 h_8 n_8 q_8 => ?_)
  obtain ⟨rfl, rfl, hH1, hF1⟩ := q_8
  have o1 := (hF1 0 (by omega)).trans o
  have hP1 := hP.fr hF1 (by omega)
  refine go_aload_n dX8_aheadOfChange_11 rfl ?_
  refine go_get dX8_aheadOfChange_12 fX8_43 (by omega) o1 rfl ?_
  refine go_iv dX8_aheadOfChange_15 mX6_forget iX8_66 (run_pforget 6 (by omega) hP1) rfl rfl (by omega) hP1.1 rfl (Nat.le_of_ble_eq_true rfl) (Nat.zero_le _) (Nat.zero_le _) (fun v_15 h_15 n_15 q_15 => ?_)
  obtain ⟨rfl, rfl, hP2, hF2⟩ := q_15
  refine go_vret dX8_aheadOfChange_18 rfl ?_
  refine ⟨rfl, rfl, ⟨(hF2 0 (by omega)).trans o1, (hC.fr hF1 (by omega)).fr hF2 (by omega), (HU.push hw.2.1 hx hU hH1).fr hF2 (by omega), (hI.fr hF1 (by omega)).fr hF2 (by omega), (hM.fr hF1 (by omega)).fr hF2 (by omega), fun c' => ⟨_, _, _, _, hP2 c'⟩⟩, (hF1.wide (by omega) (by omega)).trans (hF2.wide (by omega) (by omega))⟩
theorem run_append (d : Nat) {N tl : Nat} {tx : Nat → Nat} {h : gH} {x : Nat} (hN : 163 ≤ N) (ht : tl ≤ 150) (hM : Mt h tl tx) : Run d yX4_append cX4_append 2 (some .boolean) [.ref 44, .int (nI x)] h N 0 0 (fun v h' N' => N' = N ∧ v = some (.int (bI (decide (tl < 150)))) ∧ (if tl < 150 then Mt h' (tl + 1) (fun i => if i = tl then x else tx i) else Mt h' tl tx) ∧ Fr 44 49 h h') := by
  obtain ⟨F, x3, x4, x5, x6, x7, x8, x9, c, h0, h1, h2, h3⟩ := id hM
  refine Run.of (ini := false) (L := [_, _]) mX4_append (fun h => by cases h) rfl (Nat.le_of_ble_eq_true rfl) rfl ?_
  refine go_aload_n dX4_append_0 rfl ?_
  refine go_get dX4_append_1 fX4_22 (by omega) h0 rfl ?_
  refine go_sipush (v := nI 150) dX4_append_4 (by decide) ?_
  refine go_icmp_lt (tgt := 12) dX4_append_7 (by decide) (fun c_7 => ?_) (fun c_7 => ?_)
  · skip
    have e := (nI_ltI (by omega) (by decide)).mp c_7
    refine go_aload_n dX4_append_12 rfl ?_
    refine go_get dX4_append_13 fX4_9 (by omega) h0 rfl ?_
    refine go_aload_n dX4_append_16 rfl ?_
    refine go_get dX4_append_17 fX4_22 (by omega) h0 rfl ?_
    refine go_iload_n dX4_append_20 rfl ?_
    refine go_iast dX4_append_21 (by omega) h1 rfl (by omega) (by omega) ?_
    refine go_aload_n dX4_append_22 rfl ?_
    refine go_dup dX4_append_23 rfl ?_
    refine go_get dX4_append_24 fX4_22 (by omega) ((hset_ne (by omega)).trans h0) rfl ?_
    refine go_iconst (v := nI 1) dX4_append_27 (by decide) ?_
    refine go_iadd dX4_append_28 ?_
    refine go_top (y := .int (nI (tl + 1))) (by rw [nI_add]) ?_
    refine go_put (fs' := [_, _, _, _, _, _, _, _, _, _]) dX4_append_29 fX4_22 (by omega) ((hset_ne (by omega)).trans h0) (Nat.le_of_ble_eq_true rfl) (Or.inl rfl) ⟨_, _, _, rfl, Or.inl rfl⟩ rfl ?_
    refine go_iconst (v := nI 1) dX4_append_32 (by decide) ?_
    refine go_zret dX4_append_33 rfl (by first | exact Or.inl rfl | exact Or.inr rfl) ?_
    refine ⟨rfl, by simp [e, bI]; rfl, ?_, (Fr.rf.set (by omega) (by omega)).set (by omega) (by omega)⟩
    rw [if_pos e]
    refine ⟨_, x3, x4, x5, x6, x7, x8, x9, c, hset_same, (hset_ne (by omega)).trans hset_same, h2.kept ((hset_ne (by omega)).trans (hset_ne (by omega))) ((hset_ne (by omega)).trans (hset_ne (by omega))) ((hset_ne (by omega)).trans (hset_ne (by omega))), fun i hi => ?_⟩
    by_cases q : i = tl
    · subst q; simp [upd]
    · rw [pk_un q, h3 i (by omega)]; simp [q]
  · skip
    have e : ¬ tl < 150 := mt (nI_ltI (a := tl) (b := 150) (by omega) (by decide)).mpr c_7
    refine go_iconst (v := nI 0) dX4_append_10 (by decide) ?_
    refine go_zret dX4_append_11 rfl (by first | exact Or.inl rfl | exact Or.inr rfl) ?_
    exact ⟨rfl, by simp [e, bI]; rfl, by rw [if_neg e]; exact hM, Fr.rf⟩
theorem c_type {h : gH} {s : SD} (hw : SW s) (hS : CS h s) (x : Int32) : Run 8 yX8_type cX8_type 2 (some .int) [.ref 0, .int x] h 163 0 0 (fun v h' N' => v = some (.int (typeS s x).1) ∧ N' = 163 ∧ CS h' (typeS s x).2 ∧ Fr 0 147 h h') := by
  obtain ⟨o, hC, hU, hI, hM, hP⟩ := id hS
  obtain ⟨F, x3, x4, x5, x6, x7, x8, x9, c, m0, -⟩ := id hM
  cases hr : rI 0 255 x with
  | false =>
    have e : typeS s x = (-1, s) := by unfold typeS; rw [hr]; rfl
    rw [e]
    refine Run.of (ini := false) (L := [_, _]) mX8_type (fun h => by cases h) rfl (Nat.le_of_ble_eq_true rfl) rfl ?_
    refine go_iload_n dX8_type_0 rfl ?_
    refine go_if_lt (tgt := 11) dX8_type_1 (by decide) (fun c_1 => ?_) (fun c_1 => ?_)
    · skip
      refine go_iconst (v := (-1)) dX8_type_11 (by decide) ?_
      refine go_iret dX8_type_12 rfl ?_
      exact ⟨rfl, rfl, hS, Fr.rf⟩
    · skip
      rw [lt0] at c_1
      refine go_iload_n dX8_type_4 rfl ?_
      refine go_sipush (v := nI 255) dX8_type_5 (by decide) ?_
      refine go_icmp_le (tgt := 13) dX8_type_8 (by decide) (fun c_8 => ?_) (fun c_8 => ?_)
      · exact absurd (rI_f hr) (by rw [leN (by decide)] at c_8; omega)
      · skip
        refine go_iconst (v := (-1)) dX8_type_11 (by decide) ?_
        refine go_iret dX8_type_12 rfl ?_
        exact ⟨rfl, rfl, hS, Fr.rf⟩
  | true =>
    obtain ⟨k, -, hk, rfl⟩ := rI_t hr
    have e : typeS s (nI k) = if s.2.2.2.1 < 150 then (nI (s.2.2.2.1 + 1), (s.1, s.2.1, s.2.2.1, (s.2.2.2.1 + 1, fun i => if i = s.2.2.2.1 then k else s.2.2.2.2 i))) else (-3, s) := by unfold typeS; rw [hr, toN_nI (by omega)]; rfl
    rw [e]
    refine Run.of (ini := false) (L := [_, _]) mX8_type (fun h => by cases h) rfl (Nat.le_of_ble_eq_true rfl) rfl ?_
    refine go_iload_n dX8_type_0 rfl ?_
    refine go_if_lt (tgt := 11) dX8_type_1 (by decide) (fun c_1 => ?_) (fun c_1 => ?_)
    · exact absurd c_1 (nI_pos (by omega))
    · skip
      refine go_iload_n dX8_type_4 rfl ?_
      refine go_sipush (v := nI 255) dX8_type_5 (by decide) ?_
      refine go_icmp_le (tgt := 13) dX8_type_8 (by decide) (fun c_8 => ?_) (fun c_8 => ?_)
      · skip
        refine go_aload_n dX8_type_13 rfl ?_
        refine go_get dX8_type_14 fX8_34 (by omega) o rfl ?_
        refine go_iload_n dX8_type_17 rfl ?_
        refine go_iv dX8_type_18 mX4_append iX8_47 (run_append 7 (by omega) hw.2.2.2.2.1 hM) rfl rfl (by omega) m0 rfl (Nat.le_of_ble_eq_true rfl) (Nat.zero_le _) (Nat.zero_le _) (fun v_18 h_18 n_18 q_18 => ?_)
        obtain ⟨rfl, rfl, hM1, hF1⟩ := q_18
        refine go_if_eq (tgt := 34) dX8_type_21 (by decide) (fun c_21 => ?_) (fun c_21 => ?_)
        · skip
          have q : ¬ s.2.2.2.1 < 150 := by simpa using bI_eq.mp c_21
          rw [if_neg q] at hM1
          refine go_bipush (v := (-3)) dX8_type_34 (by decide) ?_
          refine go_iret dX8_type_36 rfl ?_
          first | (rw [if_neg q]; exact ⟨rfl, rfl, ⟨(hF1 0 (by omega)).trans o, hC.fr hF1 (by omega), hU.fr hF1 (by omega), hI.fr hF1 (by omega), hM1, hP.fr hF1 (by omega)⟩, hF1.wide (by omega) (by omega)⟩) | (rw [if_pos q]; exact ⟨rfl, rfl, ⟨(hF1 0 (by omega)).trans o, hC.fr hF1 (by omega), hU.fr hF1 (by omega), hI.fr hF1 (by omega), hM1, hP.fr hF1 (by omega)⟩, hF1.wide (by omega) (by omega)⟩)
        · skip
          have q : s.2.2.2.1 < 150 := by simpa using bI_ne.mp c_21
          rw [if_pos q] at hM1
          obtain ⟨F', y3, y4, y5, y6, y7, y8, y9, c', m1, -⟩ := id hM1
          refine go_aload_n dX8_type_24 rfl ?_
          refine go_get dX8_type_25 fX8_34 (by omega) ((hF1 0 (by omega)).trans o) rfl ?_
          refine go_get dX8_type_28 fX8_51 (by omega) m1 rfl ?_
          refine go_goto (tgt := 36) dX8_type_31 (by decide) ?_
          refine go_iret dX8_type_36 rfl ?_
          first | (rw [if_neg q]; exact ⟨rfl, rfl, ⟨(hF1 0 (by omega)).trans o, hC.fr hF1 (by omega), hU.fr hF1 (by omega), hI.fr hF1 (by omega), hM1, hP.fr hF1 (by omega)⟩, hF1.wide (by omega) (by omega)⟩) | (rw [if_pos q]; exact ⟨rfl, rfl, ⟨(hF1 0 (by omega)).trans o, hC.fr hF1 (by omega), hU.fr hF1 (by omega), hI.fr hF1 (by omega), hM1, hP.fr hF1 (by omega)⟩, hF1.wide (by omega) (by omega)⟩)
      · exact absurd (nI_le (by omega) (by decide)) c_8
theorem c_clear {h : gH} {s : SD} (hS : CS h s) : Run 8 yX8_clear cX8_clear 2 (some .int) [.ref 0] h 163 0 0 (fun v h' N' => v = some (.int (clearS s).1) ∧ N' = 163 ∧ CS h' (clearS s).2 ∧ Fr 0 147 h h') := by
  obtain ⟨o, hC, hU, hI, hM, hP⟩ := id hS
  obtain ⟨F, x3, x4, x5, x6, x7, x8, x9, c, m0, m1, m2, m3⟩ := id hM
  refine Run.of (ini := false) (L := [_, _]) mX8_clear (fun h => by cases h) rfl (Nat.le_of_ble_eq_true rfl) rfl ?_
  refine go_aload_n dX8_clear_0 rfl ?_
  refine go_get dX8_clear_1 fX8_34 (by omega) o rfl ?_
  refine go_get dX8_clear_4 fX8_51 (by omega) m0 rfl ?_
  refine go_istore_n (L' := [_, _]) dX8_clear_7 rfl (by decide) rfl ?_
  refine go_aload_n dX8_clear_8 rfl ?_
  refine go_get dX8_clear_9 fX8_34 (by omega) o rfl ?_
  refine go_iconst (v := nI 0) dX8_clear_12 (by decide) ?_
  refine go_put (fs' := [_, _, _, _, _, _, _, _, _, _]) dX8_clear_13 fX8_51 (by omega) m0 (Nat.le_of_ble_eq_true rfl) (Or.inl rfl) ⟨_, _, _, rfl, Or.inl rfl⟩ rfl ?_
  refine go_iload_n dX8_clear_16 rfl ?_
  refine go_iret dX8_clear_17 rfl ?_
  have fr : ∀ y, Fr 44 45 h (hset h 44 y) := fun y => Fr.rf.set (by omega) (by omega)
  exact ⟨rfl, rfl, ⟨(hset_ne (by omega)).trans o, hC.fr (fr _) (by omega), hU.fr (fr _) (by omega), hI.fr (fr _) (by omega), ⟨F, x3, x4, x5, x6, x7, x8, x9, c, hset_same, (hset_ne (by omega)).trans m1, m2.fr (fr _) (by omega), fun i hi => absurd hi (Nat.not_lt_zero _)⟩, hP.fr (fr _) (by omega)⟩, (fr _).wide (by omega) (by omega)⟩
