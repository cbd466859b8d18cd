/-! ===== MapText reads: the class's side ===== -/
def Mr (h : gH) (t : TX) : PS → Prop
  | (aw, it, pb, kb, cb, ro, ce, f, K, C) => ∃ (F : Nat → Int32) (x8 x9 : Int32), h 44 = .inr (4, [.ref 45, .ref 46, .int (nI t.1), .int (nI aw), .int (nI it), .int (nI pb), .int (bI kb), .int (bI cb), .int x8, .int x9]) ∧ h 45 = iA 150 F ∧ (∀ i, i < t.1 → F i = nI (t.2 i)) ∧ Ct h 46 (f, fun _ => 0, none, K, C) ∧ (aw = 2 → x8 = nI ro) ∧ (aw = 3 → x9 = nI ce)
theorem Mr.mt {h : gH} {t : TX} {s : PS} (q : Mr h t s) : Mt h t.1 t.2 := by
  obtain ⟨aw, it, pb, kb, cb, ro, ce, f, K, C⟩ := s
  obtain ⟨F, x8, x9, h0, h1, h2, h3, -⟩ := q
  exact ⟨F, _, _, _, _, _, _, _, (f, fun _ => 0, none, K, C), h0, h1, h3, h2⟩
def TP (t : TX) (h : gH) (o : Option PS) (v : Option Value) (h' : gH) (N' : Nat) : Prop := N' = 163 ∧ v = some (.int (bI o.isSome)) ∧ Fr 44 49 h h' ∧ (o = none → h' = h) ∧ ∀ s', o = some s' → Mr h' t s'
theorem TP.no {t : TX} {h : gH} {o : Option PS} (e : o = none) : TP t h o (some (.int 0)) h 163 := ⟨rfl, (by rw [e]; rfl), Fr.rf, (fun _ => rfl), (fun s' q => by rw [e] at q; cases q)⟩
theorem TP.yes {t : TX} {h h' : gH} {o : Option PS} {s' : PS} (e : o = some s') (hF : Fr 44 49 h h') (q : Mr h' t s') : TP t h o (some (.int 1)) h' 163 := ⟨rfl, (by rw [e]; rfl), hF, (fun z => by rw [e] at z; cases z), (fun s'' z => by rw [e] at z; cases z; exact q)⟩
theorem run_isLetter (d : Nat) {b : Nat} {h : gH} (hb : b < 2 ^ 31) : Run d yX4_isLetter cX4_isLetter 1 (some .boolean) [.int (nI b)] h 163 0 0 (fun v h' N' => v = some (.int (bI (isL b))) ∧ h' = h ∧ N' = 163) := by
  refine Run.of (ini := false) (L := [_]) mX4_isLetter (fun h => by cases h) rfl (Nat.le_of_ble_eq_true rfl) rfl ?_
  refine go_iload_n dX4_isLetter_0 rfl ?_
  refine go_bipush (v := nI 97) dX4_isLetter_1 (by decide) ?_
  refine go_icmp_lt (tgt := 16) dX4_isLetter_3 (by decide) (fun c_3 => ?_) (fun c_3 => ?_)
  · skip
    rw [nI_ltI hb (by decide)] at c_3
    refine go_iconst (v := nI 0) dX4_isLetter_16 (by decide) ?_
    refine go_zret dX4_isLetter_17 rfl (by first | exact Or.inl rfl | exact Or.inr rfl | exact bI01 _) ?_
    first | exact ⟨by rw [isL, decide_eq_true (by omega)]; rfl, rfl, rfl⟩ | exact ⟨by rw [isL, decide_eq_false (by omega)]; rfl, rfl, rfl⟩
  · skip
    rw [nI_ltI hb (by decide)] at c_3
    refine go_iload_n dX4_isLetter_6 rfl ?_
    refine go_bipush (v := nI 122) dX4_isLetter_7 (by decide) ?_
    refine go_icmp_gt (tgt := 16) dX4_isLetter_9 (by decide) (fun c_9 => ?_) (fun c_9 => ?_)
    · skip
      rw [nI_ltI (by decide) hb] at c_9
      refine go_iconst (v := nI 0) dX4_isLetter_16 (by decide) ?_
      refine go_zret dX4_isLetter_17 rfl (by first | exact Or.inl rfl | exact Or.inr rfl | exact bI01 _) ?_
      first | exact ⟨by rw [isL, decide_eq_true (by omega)]; rfl, rfl, rfl⟩ | exact ⟨by rw [isL, decide_eq_false (by omega)]; rfl, rfl, rfl⟩
    · skip
      rw [nI_ltI (by decide) hb] at c_9
      refine go_iconst (v := nI 1) dX4_isLetter_12 (by decide) ?_
      refine go_goto (tgt := 17) dX4_isLetter_13 (by decide) ?_
      refine go_zret dX4_isLetter_17 rfl (by first | exact Or.inl rfl | exact Or.inr rfl | exact bI01 _) ?_
      first | exact ⟨by rw [isL, decide_eq_true (by omega)]; rfl, rfl, rfl⟩ | exact ⟨by rw [isL, decide_eq_false (by omega)]; rfl, rfl, rfl⟩
theorem run_isDigit (d : Nat) {b : Nat} {h : gH} (hb : b < 2 ^ 31) : Run d yX4_isDigit cX4_isDigit 1 (some .boolean) [.int (nI b)] h 163 0 0 (fun v h' N' => v = some (.int (bI (isD b))) ∧ h' = h ∧ N' = 163) := by
  refine Run.of (ini := false) (L := [_]) mX4_isDigit (fun h => by cases h) rfl (Nat.le_of_ble_eq_true rfl) rfl ?_
  refine go_iload_n dX4_isDigit_0 rfl ?_
  refine go_bipush (v := nI 48) dX4_isDigit_1 (by decide) ?_
  refine go_icmp_lt (tgt := 16) dX4_isDigit_3 (by decide) (fun c_3 => ?_) (fun c_3 => ?_)
  · skip
    rw [nI_ltI hb (by decide)] at c_3
    refine go_iconst (v := nI 0) dX4_isDigit_16 (by decide) ?_
    refine go_zret dX4_isDigit_17 rfl (by first | exact Or.inl rfl | exact Or.inr rfl | exact bI01 _) ?_
    first | exact ⟨by rw [isD, decide_eq_true (by omega)]; rfl, rfl, rfl⟩ | exact ⟨by rw [isD, decide_eq_false (by omega)]; rfl, rfl, rfl⟩
  · skip
    rw [nI_ltI hb (by decide)] at c_3
    refine go_iload_n dX4_isDigit_6 rfl ?_
    refine go_bipush (v := nI 57) dX4_isDigit_7 (by decide) ?_
    refine go_icmp_gt (tgt := 16) dX4_isDigit_9 (by decide) (fun c_9 => ?_) (fun c_9 => ?_)
    · skip
      rw [nI_ltI (by decide) hb] at c_9
      refine go_iconst (v := nI 0) dX4_isDigit_16 (by decide) ?_
      refine go_zret dX4_isDigit_17 rfl (by first | exact Or.inl rfl | exact Or.inr rfl | exact bI01 _) ?_
      first | exact ⟨by rw [isD, decide_eq_true (by omega)]; rfl, rfl, rfl⟩ | exact ⟨by rw [isD, decide_eq_false (by omega)]; rfl, rfl, rfl⟩
    · skip
      rw [nI_ltI (by decide) hb] at c_9
      refine go_iconst (v := nI 1) dX4_isDigit_12 (by decide) ?_
      refine go_goto (tgt := 17) dX4_isDigit_13 (by decide) ?_
      refine go_zret dX4_isDigit_17 rfl (by first | exact Or.inl rfl | exact Or.inr rfl | exact bI01 _) ?_
      first | exact ⟨by rw [isD, decide_eq_true (by omega)]; rfl, rfl, rfl⟩ | exact ⟨by rw [isD, decide_eq_false (by omega)]; rfl, rfl, rfl⟩
theorem run_takesEnd (d : Nat) {h : gH} {t : TX} {p : Nat} {s : PS} (hp : p ≤ 150) (hO : PO p s) (hM : Mr h t s) : Run d yX4_takesEnd cX4_takesEnd 1 (some .boolean) [.ref 44] h 163 0 0 (TP t h (tkE s)) := by
  obtain ⟨aw, it, pb, kb, cb, ro, ce, f, K, C⟩ := s
  obtain ⟨o1, o2, o3, o4, o5, o6, o7, o8, o9⟩ := hO
  obtain ⟨F, x8, x9, h0, h1, h2, h3, h4, h5⟩ := id hM
  refine Run.of (ini := false) (L := [_]) mX4_takesEnd (fun h => by cases h) rfl (Nat.le_of_ble_eq_true rfl) rfl ?_
  refine go_aload_n dX4_takesEnd_0 rfl ?_
  refine go_get dX4_takesEnd_1 fX4_37 (by omega) h0 rfl ?_
  refine go_bipush (v := nI 6) dX4_takesEnd_4 (by decide) ?_
  refine go_icmp_eq (tgt := 11) dX4_takesEnd_6 (by decide) (fun c_6 => ?_) (fun c_6 => ?_)
  · skip
    have e : aw = 6 := (nI_eq (by omega) (by decide)).mp c_6
    refine go_aload_n dX4_takesEnd_11 rfl ?_
    refine go_dup dX4_takesEnd_12 rfl ?_
    refine go_get dX4_takesEnd_13 fX4_40 (by omega) h0 rfl ?_
    refine go_iconst (v := nI 1) dX4_takesEnd_16 (by decide) ?_
    refine go_iadd dX4_takesEnd_17 ?_
    refine go_top (y := .int (nI (it + 1))) (by rw [nI_add]) ?_
    refine go_put (fs' := [_, _, _, _, _, _, _, _, _, _]) dX4_takesEnd_18 fX4_40 (by omega) h0 (Nat.le_of_ble_eq_true rfl) (Or.inl rfl) ⟨_, _, _, rfl, Or.inl rfl⟩ rfl ?_
    refine go_aload_n dX4_takesEnd_21 rfl ?_
    refine go_iconst (v := nI 0) dX4_takesEnd_22 (by decide) ?_
    refine go_put (fs' := [_, _, _, _, _, _, _, _, _, _]) dX4_takesEnd_23 fX4_37 (by omega) hset_same (Nat.le_of_ble_eq_true rfl) (Or.inl rfl) ⟨_, _, _, rfl, Or.inl rfl⟩ rfl ?_
    rw [hset_hset]
    refine go_iconst (v := nI 1) dX4_takesEnd_26 (by decide) ?_
    refine go_zret dX4_takesEnd_27 rfl (by first | exact Or.inl rfl | exact Or.inr rfl | exact bI01 _) ?_
    exact TP.yes (s' := (0, it + 1, pb, kb, cb, ro, ce, f, K, C)) (by simp only [tkE, if_pos e]) (Fr.rf.set (by omega) (by omega)) ⟨F, x8, x9, hset_same, (hset_ne (by omega)).trans h1, h2, h3.kept (hset_ne (by omega)) (hset_ne (by omega)) (hset_ne (by omega)), (fun z => by cases z), (fun z => by cases z)⟩
  · skip
    have e : ¬ aw = 6 := fun z => c_6 (by rw [z])
    refine go_iconst (v := nI 0) dX4_takesEnd_9 (by decide) ?_
    refine go_zret dX4_takesEnd_10 rfl (by first | exact Or.inl rfl | exact Or.inr rfl | exact bI01 _) ?_
    exact TP.no (by simp only [tkE, if_neg e])
theorem run_beginsPlace (d : Nat) {h : gH} {t : TX} {p it pb ro ce K C : Nat} {kb cb : Bool} {f : Nat → Option Nat} (hO : PO p (0, it, pb, kb, cb, ro, ce, f, K, C)) (hM : Mr h t (0, it, pb, kb, cb, ro, ce, f, K, C)) : Run d yX4_beginsPlace cX4_beginsPlace 1 (some .boolean) [.ref 44] h 163 0 0 (TP t h (if pb < 24 then some (1, it, pb + 1, kb, cb, ro, ce, f, K, C) else none)) := by
  obtain ⟨o1, o2, o3, o4, o5, o6, o7, o8, o9⟩ := hO
  obtain ⟨F, x8, x9, h0, h1, h2, h3, h4, h5⟩ := id hM
  refine Run.of (ini := false) (L := [_]) mX4_beginsPlace (fun h => by cases h) rfl (Nat.le_of_ble_eq_true rfl) rfl ?_
  refine go_aload_n dX4_beginsPlace_0 rfl ?_
  refine go_get dX4_beginsPlace_1 fX4_46 (by omega) h0 rfl ?_
  refine go_bipush (v := nI 24) dX4_beginsPlace_4 (by decide) ?_
  refine go_icmp_lt (tgt := 11) dX4_beginsPlace_6 (by decide) (fun c_6 => ?_) (fun c_6 => ?_)
  · skip
    have e : pb < 24 := (nI_ltI (by omega) (by decide)).mp c_6
    refine go_aload_n dX4_beginsPlace_11 rfl ?_
    refine go_dup dX4_beginsPlace_12 rfl ?_
    refine go_get dX4_beginsPlace_13 fX4_46 (by omega) h0 rfl ?_
    refine go_iconst (v := nI 1) dX4_beginsPlace_16 (by decide) ?_
    refine go_iadd dX4_beginsPlace_17 ?_
    refine go_top (y := .int (nI (pb + 1))) (by rw [nI_add]) ?_
    refine go_put (fs' := [_, _, _, _, _, _, _, _, _, _]) dX4_beginsPlace_18 fX4_46 (by omega) h0 (Nat.le_of_ble_eq_true rfl) (Or.inl rfl) ⟨_, _, _, rfl, Or.inl rfl⟩ rfl ?_
    refine go_aload_n dX4_beginsPlace_21 rfl ?_
    refine go_iconst (v := nI 1) dX4_beginsPlace_22 (by decide) ?_
    refine go_put (fs' := [_, _, _, _, _, _, _, _, _, _]) dX4_beginsPlace_23 fX4_37 (by omega) hset_same (Nat.le_of_ble_eq_true rfl) (Or.inl rfl) ⟨_, _, _, rfl, Or.inl rfl⟩ rfl ?_
    rw [hset_hset]
    refine go_iconst (v := nI 1) dX4_beginsPlace_26 (by decide) ?_
    refine go_zret dX4_beginsPlace_27 rfl (by first | exact Or.inl rfl | exact Or.inr rfl | exact bI01 _) ?_
    exact TP.yes (if_pos e) (Fr.rf.set (by omega) (by omega)) ⟨F, x8, x9, hset_same, (hset_ne (by omega)).trans h1, h2, h3.kept (hset_ne (by omega)) (hset_ne (by omega)) (hset_ne (by omega)), (fun z => by cases z), (fun z => by cases z)⟩
  · skip
    have e : ¬ pb < 24 := mt (nI_ltI (a := pb) (b := 24) (by omega) (by decide)).mpr c_6
    refine go_iconst (v := nI 0) dX4_beginsPlace_9 (by decide) ?_
    refine go_zret dX4_beginsPlace_10 rfl (by first | exact Or.inl rfl | exact Or.inr rfl | exact bI01 _) ?_
    exact TP.no (if_neg e)
theorem run_beginsClasses (d : Nat) {h : gH} {t : TX} {it pb ro ce K C : Nat} {kb cb : Bool} {f : Nat → Option Nat} (hM : Mr h t (0, it, pb, kb, cb, ro, ce, f, K, C)) : Run d yX4_beginsClasses cX4_beginsClasses 1 (some .boolean) [.ref 44] h 163 0 0 (TP t h (if kb = true then none else some (4, it, pb, true, cb, ro, ce, f, K, C))) := by
  obtain ⟨F, x8, x9, h0, h1, h2, h3, h4, h5⟩ := id hM
  refine Run.of (ini := false) (L := [_]) mX4_beginsClasses (fun h => by cases h) rfl (Nat.le_of_ble_eq_true rfl) rfl ?_
  refine go_aload_n dX4_beginsClasses_0 rfl ?_
  refine go_get dX4_beginsClasses_1 fX4_49 (by omega) h0 rfl ?_
  refine go_if_eq (tgt := 9) dX4_beginsClasses_4 (by decide) (fun c_4 => ?_) (fun c_4 => ?_)
  · skip
    have e : ¬ kb = true := by rw [bI_eq.mp c_4]; decide
    refine go_aload_n dX4_beginsClasses_9 rfl ?_
    refine go_iconst (v := nI 1) dX4_beginsClasses_10 (by decide) ?_
    refine go_put (fs' := [_, _, _, _, _, _, _, _, _, _]) dX4_beginsClasses_11 fX4_49 (by omega) h0 (Nat.le_of_ble_eq_true rfl) (Or.inr ⟨rfl, by decide⟩) ⟨_, _, _, rfl, Or.inl rfl⟩ rfl ?_
    refine go_aload_n dX4_beginsClasses_14 rfl ?_
    refine go_iconst (v := nI 4) dX4_beginsClasses_15 (by decide) ?_
    refine go_put (fs' := [_, _, _, _, _, _, _, _, _, _]) dX4_beginsClasses_16 fX4_37 (by omega) hset_same (Nat.le_of_ble_eq_true rfl) (Or.inl rfl) ⟨_, _, _, rfl, Or.inl rfl⟩ rfl ?_
    rw [hset_hset]
    refine go_iconst (v := nI 1) dX4_beginsClasses_19 (by decide) ?_
    refine go_zret dX4_beginsClasses_20 rfl (by first | exact Or.inl rfl | exact Or.inr rfl | exact bI01 _) ?_
    exact TP.yes (if_neg e) (Fr.rf.set (by omega) (by omega)) ⟨F, x8, x9, hset_same, (hset_ne (by omega)).trans h1, h2, h3.kept (hset_ne (by omega)) (hset_ne (by omega)) (hset_ne (by omega)), (fun z => by cases z), (fun z => by cases z)⟩
  · skip
    have e := bI_ne.mp c_4
    refine go_iconst (v := nI 0) dX4_beginsClasses_7 (by decide) ?_
    refine go_zret dX4_beginsClasses_8 rfl (by first | exact Or.inl rfl | exact Or.inr rfl | exact bI01 _) ?_
    exact TP.no (if_pos e)
theorem run_beginsCost (d : Nat) {h : gH} {t : TX} {it pb ro ce K C : Nat} {kb cb : Bool} {f : Nat → Option Nat} (hM : Mr h t (0, it, pb, kb, cb, ro, ce, f, K, C)) : Run d yX4_beginsCost cX4_beginsCost 1 (some .boolean) [.ref 44] h 163 0 0 (TP t h (if cb = true then none else some (5, it, pb, kb, true, ro, ce, f, K, C))) := by
  obtain ⟨F, x8, x9, h0, h1, h2, h3, h4, h5⟩ := id hM
  refine Run.of (ini := false) (L := [_]) mX4_beginsCost (fun h => by cases h) rfl (Nat.le_of_ble_eq_true rfl) rfl ?_
  refine go_aload_n dX4_beginsCost_0 rfl ?_
  refine go_get dX4_beginsCost_1 fX4_53 (by omega) h0 rfl ?_
  refine go_if_eq (tgt := 9) dX4_beginsCost_4 (by decide) (fun c_4 => ?_) (fun c_4 => ?_)
  · skip
    have e : ¬ cb = true := by rw [bI_eq.mp c_4]; decide
    refine go_aload_n dX4_beginsCost_9 rfl ?_
    refine go_iconst (v := nI 1) dX4_beginsCost_10 (by decide) ?_
    refine go_put (fs' := [_, _, _, _, _, _, _, _, _, _]) dX4_beginsCost_11 fX4_53 (by omega) h0 (Nat.le_of_ble_eq_true rfl) (Or.inr ⟨rfl, by decide⟩) ⟨_, _, _, rfl, Or.inl rfl⟩ rfl ?_
    refine go_aload_n dX4_beginsCost_14 rfl ?_
    refine go_iconst (v := nI 5) dX4_beginsCost_15 (by decide) ?_
    refine go_put (fs' := [_, _, _, _, _, _, _, _, _, _]) dX4_beginsCost_16 fX4_37 (by omega) hset_same (Nat.le_of_ble_eq_true rfl) (Or.inl rfl) ⟨_, _, _, rfl, Or.inl rfl⟩ rfl ?_
    rw [hset_hset]
    refine go_iconst (v := nI 1) dX4_beginsCost_19 (by decide) ?_
    refine go_zret dX4_beginsCost_20 rfl (by first | exact Or.inl rfl | exact Or.inr rfl | exact bI01 _) ?_
    exact TP.yes (if_neg e) (Fr.rf.set (by omega) (by omega)) ⟨F, x8, x9, hset_same, (hset_ne (by omega)).trans h1, h2, h3.kept (hset_ne (by omega)) (hset_ne (by omega)) (hset_ne (by omega)), (fun z => by cases z), (fun z => by cases z)⟩
  · skip
    have e := bI_ne.mp c_4
    refine go_iconst (v := nI 0) dX4_beginsCost_7 (by decide) ?_
    refine go_zret dX4_beginsCost_8 rfl (by first | exact Or.inl rfl | exact Or.inr rfl | exact bI01 _) ?_
    exact TP.no (if_pos e)
theorem run_takesRow (d : Nat) {h : gH} {t : TX} {v it pb ro ce K C : Nat} {kb cb : Bool} {f : Nat → Option Nat} (hv : v < 2 ^ 31) (hM : Mr h t (1, it, pb, kb, cb, ro, ce, f, K, C)) : Run (d + 1) yX4_takesRow cX4_takesRow 2 (some .boolean) [.ref 44, .int (nI v)] h 163 0 0 (TP t h (if v ≤ 9 then some (2, it, pb, kb, cb, v, ce, f, K, C) else none)) := by
  obtain ⟨F, x8, x9, h0, h1, h2, h3, h4, h5⟩ := id hM
  refine Run.of (ini := false) (L := [_, _]) mX4_takesRow (fun h => by cases h) rfl (Nat.le_of_ble_eq_true rfl) rfl ?_
  refine go_iload_n dX4_takesRow_0 rfl ?_
  refine go_isN dX4_takesRow_1 mX8_isSide iX4_101 (run_isSide d (nI v)) rfl rfl (Nat.le_of_ble_eq_true rfl) (Nat.zero_le _) (Nat.zero_le _) (fun v_1 h_1 n_1 q_1 => ?_)
  obtain ⟨rfl, rfl, rfl⟩ := q_1
  refine go_if_ne (tgt := 9) dX4_takesRow_4 (by decide) (fun c_4 => ?_) (fun c_4 => ?_)
  · skip
    have e : v ≤ 9 := by have := bI_ne.mp c_4; rw [rI_n hv] at this; exact (of_decide_eq_true this).2
    refine go_aload_n dX4_takesRow_9 rfl ?_
    refine go_iload_n dX4_takesRow_10 rfl ?_
    refine go_put (fs' := [_, _, _, _, _, _, _, _, _, _]) dX4_takesRow_11 fX4_104 (by omega) h0 (Nat.le_of_ble_eq_true rfl) (Or.inl rfl) ⟨_, _, _, rfl, Or.inl rfl⟩ rfl ?_
    refine go_aload_n dX4_takesRow_14 rfl ?_
    refine go_iconst (v := nI 2) dX4_takesRow_15 (by decide) ?_
    refine go_put (fs' := [_, _, _, _, _, _, _, _, _, _]) dX4_takesRow_16 fX4_37 (by omega) hset_same (Nat.le_of_ble_eq_true rfl) (Or.inl rfl) ⟨_, _, _, rfl, Or.inl rfl⟩ rfl ?_
    rw [hset_hset]
    refine go_iconst (v := nI 1) dX4_takesRow_19 (by decide) ?_
    refine go_zret dX4_takesRow_20 rfl (by first | exact Or.inl rfl | exact Or.inr rfl | exact bI01 _) ?_
    exact TP.yes (if_pos e) (Fr.rf.set (by omega) (by omega)) ⟨F, _, x9, hset_same, (hset_ne (by omega)).trans h1, h2, h3.kept (hset_ne (by omega)) (hset_ne (by omega)) (hset_ne (by omega)), (fun _ => rfl), (fun z => by cases z)⟩
  · skip
    have e : ¬ v ≤ 9 := fun z => c_4 (by rw [rI_yes hv (Nat.zero_le _) z]; decide)
    refine go_iconst (v := nI 0) dX4_takesRow_7 (by decide) ?_
    refine go_zret dX4_takesRow_8 rfl (by first | exact Or.inl rfl | exact Or.inr rfl | exact bI01 _) ?_
    exact TP.no (if_neg e)
set_option maxRecDepth 100000 in
theorem run_takesColumn (d : Nat) {h : gH} {t : TX} {v p it pb ro ce K C : Nat} {kb cb : Bool} {f : Nat → Option Nat} (hv : v < 2 ^ 31) (hO : PO p (2, it, pb, kb, cb, ro, ce, f, K, C)) (hM : Mr h t (2, it, pb, kb, cb, ro, ce, f, K, C)) : Run (d + 2) yX4_takesColumn cX4_takesColumn 3 (some .boolean) [.ref 44, .int (nI v)] h 163 0 0 (TP t h (if v ≤ 9 ∧ f (10 * ro + v) = none then some (3, it, pb, kb, cb, ro, 10 * ro + v, f, K, C) else none)) := by
  obtain ⟨o1, o2, o3, o4, o5, o6, o7, o8, o9⟩ := hO
  obtain ⟨F, x8, x9, h0, h1, h2, h3, h4, h5⟩ := id hM
  have hro := o8 rfl
  have hx8 := h4 rfl
  subst hx8
  obtain ⟨FC, GC, g0, g1, g2, gf, gg⟩ := id h3
  refine Run.of (ini := false) (L := [_, _, _]) mX4_takesColumn (fun h => by cases h) rfl (Nat.le_of_ble_eq_true rfl) rfl ?_
  by_cases hv9 : v ≤ 9
  · obtain ⟨i, j, hi, hj, ei, ej, hce⟩ := cellI_yes (r := nI ro) (c := nI v) (by rw [rI_yes (by omega) (Nat.zero_le _) hro, rI_yes hv (Nat.zero_le _) hv9]; rfl)
    have ei := (nI_eq (by omega) (by omega)).mp ei
    have ej := (nI_eq (by omega) (by omega)).mp ej
    subst ei ej
    have hcell : 10 * ro + v < 100 := by omega
    refine go_aload_n dX4_takesColumn_0 rfl ?_
    refine go_get dX4_takesColumn_1 fX4_104 (by omega) h0 rfl ?_
    refine go_iload_n dX4_takesColumn_4 rfl ?_
    refine go_isN dX4_takesColumn_5 mX8_cellOf iX4_107 (run_cellOf d (nI ro) (nI v)) rfl rfl (Nat.le_of_ble_eq_true rfl) (Nat.zero_le _) (Nat.zero_le _) (fun v_5 h_5 n_5 q_5 => ?_)
    obtain ⟨rfl, rfl, rfl⟩ := q_5
    rw [hce]
    refine go_istore_n (L' := [_, _, _]) dX4_takesColumn_8 rfl (by decide) rfl ?_
    refine go_iload_n dX4_takesColumn_9 rfl ?_
    refine go_if_lt (tgt := 26) dX4_takesColumn_10 (by decide) (fun c_10 => ?_) (fun c_10 => ?_)
    · exact absurd c_10 (nI_pos (by omega))
    · skip
      refine go_aload_n dX4_takesColumn_13 rfl ?_
      refine go_get dX4_takesColumn_14 fX4_18 (by omega) h0 rfl ?_
      refine go_get dX4_takesColumn_17 fX4_110 (by omega) g0 rfl ?_
      refine go_iload_n dX4_takesColumn_20 rfl ?_
      refine go_iald dX4_takesColumn_21 (by omega) g1 rfl (by omega) (by omega) ?_
      refine go_top (y := .int (nO (f (10 * ro + v)))) (by rw [gf _ hcell]) ?_
      refine go_iconst (v := (-1)) dX4_takesColumn_22 (by decide) ?_
      refine go_icmp_eq (tgt := 28) dX4_takesColumn_23 (by decide) (fun c_23 => ?_) (fun c_23 => ?_)
      · skip
        have hn : f (10 * ro + v) = none := by
          cases hq : f (10 * ro + v) with
          | none => rfl
          | some w => rw [hq] at c_23; exact absurd c_23 (nI_ne_m1 (by have := o4 _ hcell w hq; omega))
        refine go_aload_n dX4_takesColumn_28 rfl ?_
        refine go_iload_n dX4_takesColumn_29 rfl ?_
        refine go_put (fs' := [_, _, _, _, _, _, _, _, _, _]) dX4_takesColumn_30 fX4_113 (by omega) h0 (Nat.le_of_ble_eq_true rfl) (Or.inl rfl) ⟨_, _, _, rfl, Or.inl rfl⟩ rfl ?_
        refine go_aload_n dX4_takesColumn_33 rfl ?_
        refine go_iconst (v := nI 3) dX4_takesColumn_34 (by decide) ?_
        refine go_put (fs' := [_, _, _, _, _, _, _, _, _, _]) dX4_takesColumn_35 fX4_37 (by omega) hset_same (Nat.le_of_ble_eq_true rfl) (Or.inl rfl) ⟨_, _, _, rfl, Or.inl rfl⟩ rfl ?_
        rw [hset_hset]
        refine go_iconst (v := nI 1) dX4_takesColumn_38 (by decide) ?_
        refine go_zret dX4_takesColumn_39 rfl (by first | exact Or.inl rfl | exact Or.inr rfl | exact bI01 _) ?_
        exact TP.yes (if_pos ⟨hv9, hn⟩) (Fr.rf.set (by omega) (by omega)) ⟨F, _, _, hset_same, (hset_ne (by omega)).trans h1, h2, h3.kept (hset_ne (by omega)) (hset_ne (by omega)) (hset_ne (by omega)), (fun z => by cases z), (fun _ => rfl)⟩
      · skip
        have hn : ¬ f (10 * ro + v) = none := fun z => c_23 (by rw [z]; rfl)
        refine go_iconst (v := nI 0) dX4_takesColumn_26 (by decide) ?_
        refine go_zret dX4_takesColumn_27 rfl (by first | exact Or.inl rfl | exact Or.inr rfl | exact bI01 _) ?_
        exact TP.no (if_neg (fun z => hn z.2))
  · have hno : (rI 0 9 (nI ro) && rI 0 9 (nI v)) = false := by rw [rI_n hv, decide_eq_false (by omega), Bool.and_false]
    refine go_aload_n dX4_takesColumn_0 rfl ?_
    refine go_get dX4_takesColumn_1 fX4_104 (by omega) h0 rfl ?_
    refine go_iload_n dX4_takesColumn_4 rfl ?_
    refine go_isN dX4_takesColumn_5 mX8_cellOf iX4_107 (run_cellOf d (nI ro) (nI v)) rfl rfl (Nat.le_of_ble_eq_true rfl) (Nat.zero_le _) (Nat.zero_le _) (fun v_5 h_5 n_5 q_5 => ?_)
    obtain ⟨rfl, rfl, rfl⟩ := q_5
    rw [cellI_no hno]
    refine go_istore_n (L' := [_, _, _]) dX4_takesColumn_8 rfl (by decide) rfl ?_
    refine go_iload_n dX4_takesColumn_9 rfl ?_
    refine go_if_lt (tgt := 26) dX4_takesColumn_10 (by decide) (fun c_10 => ?_) (fun c_10 => ?_)
    · skip
      refine go_iconst (v := nI 0) dX4_takesColumn_26 (by decide) ?_
      refine go_zret dX4_takesColumn_27 rfl (by first | exact Or.inl rfl | exact Or.inr rfl | exact bI01 _) ?_
      exact TP.no (if_neg (fun z => hv9 z.1))
    · exact absurd (by decide) c_10
theorem run_takesNumber (d : Nat) {h : gH} {t : TX} {v p it pb ro ce K C : Nat} {kb cb : Bool} {f : Nat → Option Nat} (hv : v < 2 ^ 31) (hO : PO p (3, it, pb, kb, cb, ro, ce, f, K, C)) (hM : Mr h t (3, it, pb, kb, cb, ro, ce, f, K, C)) : Run d yX4_takesNumber cX4_takesNumber 2 (some .boolean) [.ref 44, .int (nI v)] h 163 0 0 (TP t h (if v ≤ 999 then some (6, it, pb, kb, cb, ro, ce, setF f ce (some v), K, C) else none)) := by
  obtain ⟨o1, o2, o3, o4, o5, o6, o7, o8, o9⟩ := hO
  obtain ⟨F, x8, x9, h0, h1, h2, h3, h4, h5⟩ := id hM
  obtain ⟨hce, hfn⟩ := o9 rfl
  have hx9 := h5 rfl
  subst hx9
  obtain ⟨FC, GC, g0, g1, g2, gf, gg⟩ := id h3
  refine Run.of (ini := false) (L := [_, _]) mX4_takesNumber (fun h => by cases h) rfl (Nat.le_of_ble_eq_true rfl) rfl ?_
  refine go_iload_n dX4_takesNumber_0 rfl ?_
  refine go_sipush (v := nI 999) dX4_takesNumber_1 (by decide) ?_
  refine go_icmp_le (tgt := 9) dX4_takesNumber_4 (by decide) (fun c_4 => ?_) (fun c_4 => ?_)
  · skip
    have e : v ≤ 999 := (nI_leI (by omega) (by decide)).mp c_4
    refine go_aload_n dX4_takesNumber_9 rfl ?_
    refine go_get dX4_takesNumber_10 fX4_18 (by omega) h0 rfl ?_
    refine go_get dX4_takesNumber_13 fX4_110 (by omega) g0 rfl ?_
    refine go_aload_n dX4_takesNumber_16 rfl ?_
    refine go_get dX4_takesNumber_17 fX4_113 (by omega) h0 rfl ?_
    refine go_iload_n dX4_takesNumber_20 rfl ?_
    refine go_iast dX4_takesNumber_21 (by omega) g1 rfl (by omega) (by omega) ?_
    refine go_aload_n dX4_takesNumber_22 rfl ?_
    refine go_bipush (v := nI 6) dX4_takesNumber_23 (by decide) ?_
    refine go_put (fs' := [_, _, _, _, _, _, _, _, _, _]) dX4_takesNumber_25 fX4_37 (by omega) ((hset_ne (by omega)).trans h0) (Nat.le_of_ble_eq_true rfl) (Or.inl rfl) ⟨_, _, _, rfl, Or.inl rfl⟩ rfl ?_
    refine go_iconst (v := nI 1) dX4_takesNumber_28 (by decide) ?_
    refine go_zret dX4_takesNumber_29 rfl (by first | exact Or.inl rfl | exact Or.inr rfl | exact bI01 _) ?_
    refine TP.yes (if_pos e) ((Fr.rf.set (by omega) (by omega)).set (by omega) (by omega)) ⟨F, _, _, hset_same, (hset_ne (by omega)).trans ((hset_ne (by omega)).trans h1), h2, ?_, (fun z => by cases z), (fun z => by cases z)⟩
    have hC := h3.putN (k := ce) (v := some v) g1 gf
    exact hC.kept (hset_ne (by omega)) (hset_ne (by omega)) (hset_ne (by omega))
  · skip
    have e : ¬ v ≤ 999 := mt (nI_leI (a := v) (b := 999) (by omega) (by decide)).mpr c_4
    refine go_iconst (v := nI 0) dX4_takesNumber_7 (by decide) ?_
    refine go_zret dX4_takesNumber_8 rfl (by first | exact Or.inl rfl | exact Or.inr rfl | exact bI01 _) ?_
    exact TP.no (if_neg e)
theorem run_takesClasses (d : Nat) {h : gH} {t : TX} {v it pb ro ce K C : Nat} {kb cb : Bool} {f : Nat → Option Nat} (hv : v < 2 ^ 31) (hM : Mr h t (4, it, pb, kb, cb, ro, ce, f, K, C)) : Run (d + 1) yX4_takesClasses cX4_takesClasses 2 (some .boolean) [.ref 44, .int (nI v)] h 163 0 0 (TP t h (if 1 ≤ v ∧ v ≤ 6 then some (6, it, pb, kb, cb, ro, ce, f, v, C) else none)) := by
  obtain ⟨F, x8, x9, h0, h1, h2, h3, h4, h5⟩ := id hM
  obtain ⟨FC, GC, g0, g1, g2, gf, gg⟩ := id h3
  refine Run.of (ini := false) (L := [_, _]) mX4_takesClasses (fun h => by cases h) rfl (Nat.le_of_ble_eq_true rfl) rfl ?_
  refine go_iload_n dX4_takesClasses_0 rfl ?_
  refine go_isN dX4_takesClasses_1 mX8_isClasses iX4_116 (run_isClasses d (nI v)) rfl rfl (Nat.le_of_ble_eq_true rfl) (Nat.zero_le _) (Nat.zero_le _) (fun v_1 h_1 n_1 q_1 => ?_)
  obtain ⟨rfl, rfl, rfl⟩ := q_1
  refine go_if_ne (tgt := 9) dX4_takesClasses_4 (by decide) (fun c_4 => ?_) (fun c_4 => ?_)
  · skip
    have e : 1 ≤ v ∧ v ≤ 6 := by have := bI_ne.mp c_4; rw [rI_n hv] at this; exact of_decide_eq_true this
    refine go_aload_n dX4_takesClasses_9 rfl ?_
    refine go_get dX4_takesClasses_10 fX4_18 (by omega) h0 rfl ?_
    refine go_iload_n dX4_takesClasses_13 rfl ?_
    refine go_put (fs' := [_, _, _, _, _]) dX4_takesClasses_14 fX4_119 (by omega) g0 (Nat.le_of_ble_eq_true rfl) (Or.inl rfl) ⟨_, _, _, rfl, Or.inl rfl⟩ rfl ?_
    refine go_aload_n dX4_takesClasses_17 rfl ?_
    refine go_bipush (v := nI 6) dX4_takesClasses_18 (by decide) ?_
    refine go_put (fs' := [_, _, _, _, _, _, _, _, _, _]) dX4_takesClasses_20 fX4_37 (by omega) ((hset_ne (by omega)).trans h0) (Nat.le_of_ble_eq_true rfl) (Or.inl rfl) ⟨_, _, _, rfl, Or.inl rfl⟩ rfl ?_
    refine go_iconst (v := nI 1) dX4_takesClasses_23 (by decide) ?_
    refine go_zret dX4_takesClasses_24 rfl (by first | exact Or.inl rfl | exact Or.inr rfl | exact bI01 _) ?_
    exact TP.yes (if_pos e) ((Fr.rf.set (by omega) (by omega)).set (by omega) (by omega)) ⟨F, _, _, hset_same, (hset_ne (by omega)).trans ((hset_ne (by omega)).trans h1), h2, ⟨FC, GC, (hset_ne (by omega)).trans hset_same, (hset_ne (by omega)).trans ((hset_ne (by omega)).trans g1), (hset_ne (by omega)).trans ((hset_ne (by omega)).trans g2), gf, gg⟩, (fun z => by cases z), (fun z => by cases z)⟩
  · skip
    have e : ¬ (1 ≤ v ∧ v ≤ 6) := fun z => c_4 (by rw [rI_yes hv z.1 z.2]; decide)
    refine go_iconst (v := nI 0) dX4_takesClasses_7 (by decide) ?_
    refine go_zret dX4_takesClasses_8 rfl (by first | exact Or.inl rfl | exact Or.inr rfl | exact bI01 _) ?_
    exact TP.no (if_neg e)
theorem run_takesCost (d : Nat) {h : gH} {t : TX} {v it pb ro ce K C : Nat} {kb cb : Bool} {f : Nat → Option Nat} (hv : v < 2 ^ 31) (hM : Mr h t (5, it, pb, kb, cb, ro, ce, f, K, C)) : Run d yX4_takesCost cX4_takesCost 2 (some .boolean) [.ref 44, .int (nI v)] h 163 0 0 (TP t h (if v ≤ 999 then some (6, it, pb, kb, cb, ro, ce, f, K, v) else none)) := by
  obtain ⟨F, x8, x9, h0, h1, h2, h3, h4, h5⟩ := id hM
  obtain ⟨FC, GC, g0, g1, g2, gf, gg⟩ := id h3
  refine Run.of (ini := false) (L := [_, _]) mX4_takesCost (fun h => by cases h) rfl (Nat.le_of_ble_eq_true rfl) rfl ?_
  refine go_iload_n dX4_takesCost_0 rfl ?_
  refine go_sipush (v := nI 999) dX4_takesCost_1 (by decide) ?_
  refine go_icmp_le (tgt := 9) dX4_takesCost_4 (by decide) (fun c_4 => ?_) (fun c_4 => ?_)
  · skip
    have e : v ≤ 999 := (nI_leI (by omega) (by decide)).mp c_4
    refine go_aload_n dX4_takesCost_9 rfl ?_
    refine go_get dX4_takesCost_10 fX4_18 (by omega) h0 rfl ?_
    refine go_iload_n dX4_takesCost_13 rfl ?_
    refine go_put (fs' := [_, _, _, _, _]) dX4_takesCost_14 fX4_122 (by omega) g0 (Nat.le_of_ble_eq_true rfl) (Or.inl rfl) ⟨_, _, _, rfl, Or.inl rfl⟩ rfl ?_
    refine go_aload_n dX4_takesCost_17 rfl ?_
    refine go_bipush (v := nI 6) dX4_takesCost_18 (by decide) ?_
    refine go_put (fs' := [_, _, _, _, _, _, _, _, _, _]) dX4_takesCost_20 fX4_37 (by omega) ((hset_ne (by omega)).trans h0) (Nat.le_of_ble_eq_true rfl) (Or.inl rfl) ⟨_, _, _, rfl, Or.inl rfl⟩ rfl ?_
    refine go_iconst (v := nI 1) dX4_takesCost_23 (by decide) ?_
    refine go_zret dX4_takesCost_24 rfl (by first | exact Or.inl rfl | exact Or.inr rfl | exact bI01 _) ?_
    exact TP.yes (if_pos e) ((Fr.rf.set (by omega) (by omega)).set (by omega) (by omega)) ⟨F, _, _, hset_same, (hset_ne (by omega)).trans ((hset_ne (by omega)).trans h1), h2, ⟨FC, GC, (hset_ne (by omega)).trans hset_same, (hset_ne (by omega)).trans ((hset_ne (by omega)).trans g1), (hset_ne (by omega)).trans ((hset_ne (by omega)).trans g2), gf, gg⟩, (fun z => by cases z), (fun z => by cases z)⟩
  · skip
    have e : ¬ v ≤ 999 := mt (nI_leI (a := v) (b := 999) (by omega) (by decide)).mpr c_4
    refine go_iconst (v := nI 0) dX4_takesCost_7 (by decide) ?_
    refine go_zret dX4_takesCost_8 rfl (by first | exact Or.inl rfl | exact Or.inr rfl | exact bI01 _) ?_
    exact TP.no (if_neg e)
