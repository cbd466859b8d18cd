/-! ===== takesLetter, takesNumeral, numeral, tokenEnd, takes ===== -/
theorem lk_no {b : Nat} (h1 : b ≠ 99) (h2 : b ≠ 107) (h3 : b ≠ 112) (hb : b < 2 ^ 31) : Op.lookupswitch.offset #[((99 : Int), (45 : Int)), (107, 40), (112, 35)].toList 50 (nI b).toInt = 50 := by
  rw [nI_toInt hb]
  show (if (99 : Int) = (b : Int) then (45 : Int) else if (107 : Int) = (b : Int) then 40 else if (112 : Int) = (b : Int) then 35 else 50) = 50
  rw [if_neg (by omega), if_neg (by omega), if_neg (by omega)]
theorem run_takesLetter (d : Nat) {h : gH} {t : TX} {p b it pb ro ce K C : Nat} {kb cb : Bool} {f : Nat → Option Nat} (hb : b < 2 ^ 31) (hO : PO p (0, it, pb, kb, cb, ro, ce, f, K, C)) (hM : Mr h t (0, it, pb, kb, cb, ro, ce, f, K, C)) : Run (d + 1) yX4_takesLetter cX4_takesLetter 2 (some .boolean) [.ref 44, .int (nI b)] h 163 0 0 (TP t h (tkL (0, it, pb, kb, cb, ro, ce, f, K, C) b)) := by
  obtain ⟨F, x8, x9, h0, -⟩ := id hM
  refine Run.of (ini := false) (L := [_, _]) mX4_takesLetter (fun h => by cases h) rfl (Nat.le_of_ble_eq_true rfl) rfl ?_
  refine go_iload_n dX4_takesLetter_0 rfl ?_
  by_cases e1 : b = 112
  · subst e1
    have e : tkL (0, it, pb, kb, cb, ro, ce, f, K, C) 112 = if pb < 24 then some (1, it, pb + 1, kb, cb, ro, ce, f, K, C) else none := rfl
    rw [e]
    refine go_lookup (off := 35) (tgt := 36) dX4_takesLetter_1 (by decide) (by decide) (by decide) ?_
    refine go_aload_n dX4_takesLetter_36 rfl ?_
    refine go_iv dX4_takesLetter_37 mX4_beginsPlace iX4_77 (run_beginsPlace d hO hM) rfl rfl (by omega) h0 rfl (Nat.le_of_ble_eq_true rfl) (Nat.zero_le _) (Nat.zero_le _) (fun v_37 h_37 n_37 q_37 => ?_)
    obtain ⟨rfl, rfl, tF, tN, tS⟩ := q_37
    refine go_zret dX4_takesLetter_40 rfl (by first | exact Or.inl rfl | exact Or.inr rfl | exact bI01 _) ?_
    exact ⟨rfl, rfl, tF, tN, tS⟩
  · by_cases e2 : b = 107
    · subst e2
      have e : tkL (0, it, pb, kb, cb, ro, ce, f, K, C) 107 = if kb = true then none else some (4, it, pb, true, cb, ro, ce, f, K, C) := rfl
      rw [e]
      refine go_lookup (off := 40) (tgt := 41) dX4_takesLetter_1 (by decide) (by decide) (by decide) ?_
      refine go_aload_n dX4_takesLetter_41 rfl ?_
      refine go_iv dX4_takesLetter_42 mX4_beginsClasses iX4_80 (run_beginsClasses d hM) rfl rfl (by omega) h0 rfl (Nat.le_of_ble_eq_true rfl) (Nat.zero_le _) (Nat.zero_le _) (fun v_42 h_42 n_42 q_42 => ?_)
      obtain ⟨rfl, rfl, tF, tN, tS⟩ := q_42
      refine go_zret dX4_takesLetter_45 rfl (by first | exact Or.inl rfl | exact Or.inr rfl | exact bI01 _) ?_
      exact ⟨rfl, rfl, tF, tN, tS⟩
    · by_cases e3 : b = 99
      · subst e3
        have e : tkL (0, it, pb, kb, cb, ro, ce, f, K, C) 99 = if cb = true then none else some (5, it, pb, kb, true, ro, ce, f, K, C) := rfl
        rw [e]
        refine go_lookup (off := 45) (tgt := 46) dX4_takesLetter_1 (by decide) (by decide) (by decide) ?_
        refine go_aload_n dX4_takesLetter_46 rfl ?_
        refine go_iv dX4_takesLetter_47 mX4_beginsCost iX4_83 (run_beginsCost d hM) rfl rfl (by omega) h0 rfl (Nat.le_of_ble_eq_true rfl) (Nat.zero_le _) (Nat.zero_le _) (fun v_47 h_47 n_47 q_47 => ?_)
        obtain ⟨rfl, rfl, tF, tN, tS⟩ := q_47
        refine go_zret dX4_takesLetter_50 rfl (by first | exact Or.inl rfl | exact Or.inr rfl | exact bI01 _) ?_
        exact ⟨rfl, rfl, tF, tN, tS⟩
      · have e : tkL (0, it, pb, kb, cb, ro, ce, f, K, C) b = none := by simp only [tkL, if_pos, if_neg e1, if_neg e2, if_neg e3]
        refine go_lookup (off := 50) (tgt := 51) dX4_takesLetter_1 (by decide) (lk_no e3 e2 e1 hb) (by decide) ?_
        refine go_iconst (v := nI 0) dX4_takesLetter_51 (by decide) ?_
        refine go_zret dX4_takesLetter_52 rfl (by first | exact Or.inl rfl | exact Or.inr rfl | exact bI01 _) ?_
        exact TP.no e
set_option maxRecDepth 100000 in
theorem run_takesNumeral (d : Nat) {h : gH} {t : TX} {p : Nat} {s : PS} (v : Option Nat) (hv : ∀ x, v = some x → x < 2 ^ 31) (hO : PO p s) (hM : Mr h t s) : Run (d + 3) yX4_takesNumeral cX4_takesNumeral 2 (some .boolean) [.ref 44, .int (nO v)] h 163 0 0 (TP t h (v.bind (tkN s))) := by
  refine Run.of (ini := false) (L := [_, _]) mX4_takesNumeral (fun h => by cases h) rfl (Nat.le_of_ble_eq_true rfl) rfl ?_
  cases v with
  | none =>
    refine go_iload_n dX4_takesNumeral_0 rfl ?_
    refine go_if_ge (tgt := 6) dX4_takesNumeral_1 (by decide) (fun c_1 => ?_) (fun c_1 => ?_)
    · exact absurd c_1 (by decide)
    · skip
      refine go_iconst (v := nI 0) dX4_takesNumeral_4 (by decide) ?_
      refine go_zret dX4_takesNumeral_5 rfl (by first | exact Or.inl rfl | exact Or.inr rfl | exact bI01 _) ?_
      exact TP.no rfl
  | some v =>
    have hv := hv v rfl
    obtain ⟨aw, it, pb, kb, cb, ro, ce, f, K, C⟩ := s
    obtain ⟨o1, -⟩ := id hO
    obtain ⟨F, x8, x9, h0, -⟩ := id hM
    show Go none RX4 cX4_takesNumeral 2 (some .boolean) false (d + 3) 0 [some (.ref 44), some (.int (nI v))] [] h 163 0 0 (TP t h (tkN (aw, it, pb, kb, cb, ro, ce, f, K, C) v))
    have KK : Go none RX4 cX4_takesNumeral 2 (some .boolean) false (d + 3) 6 [some (.ref 44), some (.int (nI v))] [] h 163 0 0 (TP t h (tkN (aw, it, pb, kb, cb, ro, ce, f, K, C) v)) := by
      refine go_aload_n dX4_takesNumeral_6 rfl ?_
      refine go_get dX4_takesNumeral_7 fX4_37 (by omega) h0 rfl ?_
      rcases (show aw = 0 ∨ aw = 6 ∨ aw = 1 ∨ aw = 2 ∨ aw = 3 ∨ aw = 4 ∨ aw = 5 by omega) with rfl | rfl | rfl | rfl | rfl | rfl | rfl
      · refine go_tableOut (tgt := 74) dX4_takesNumeral_10 (by decide) (by decide) ?_
        refine go_iconst (v := nI 0) dX4_takesNumeral_74 (by decide) ?_
        refine go_zret dX4_takesNumeral_75 rfl (by first | exact Or.inl rfl | exact Or.inr rfl | exact bI01 _) ?_
        exact TP.no rfl
      · refine go_tableOut (tgt := 74) dX4_takesNumeral_10 (by decide) (by decide) ?_
        refine go_iconst (v := nI 0) dX4_takesNumeral_74 (by decide) ?_
        refine go_zret dX4_takesNumeral_75 rfl (by first | exact Or.inl rfl | exact Or.inr rfl | exact bI01 _) ?_
        exact TP.no rfl
      · refine go_tableIn (tgt := 44) dX4_takesNumeral_10 (by decide) (by decide) rfl (by decide) ?_
        refine go_aload_n dX4_takesNumeral_44 rfl ?_
        refine go_iload_n dX4_takesNumeral_45 rfl ?_
        refine go_iv dX4_takesNumeral_46 mX4_takesRow iX4_86 (run_takesRow (d + 1) hv hM) rfl rfl (by omega) h0 rfl (Nat.le_of_ble_eq_true rfl) (Nat.zero_le _) (Nat.zero_le _) (fun v_46 h_46 n_46 q_46 => ?_)
        obtain ⟨rfl, rfl, tF, tN, tS⟩ := q_46
        refine go_zret dX4_takesNumeral_49 rfl (by first | exact Or.inl rfl | exact Or.inr rfl | exact bI01 _) ?_
        exact ⟨rfl, rfl, tF, tN, tS⟩
      · refine go_tableIn (tgt := 50) dX4_takesNumeral_10 (by decide) (by decide) rfl (by decide) ?_
        refine go_aload_n dX4_takesNumeral_50 rfl ?_
        refine go_iload_n dX4_takesNumeral_51 rfl ?_
        refine go_iv dX4_takesNumeral_52 mX4_takesColumn iX4_89 (run_takesColumn d hv hO hM) rfl rfl (by omega) h0 rfl (Nat.le_of_ble_eq_true rfl) (Nat.zero_le _) (Nat.zero_le _) (fun v_52 h_52 n_52 q_52 => ?_)
        obtain ⟨rfl, rfl, tF, tN, tS⟩ := q_52
        refine go_zret dX4_takesNumeral_55 rfl (by first | exact Or.inl rfl | exact Or.inr rfl | exact bI01 _) ?_
        exact ⟨rfl, rfl, tF, tN, tS⟩
      · refine go_tableIn (tgt := 56) dX4_takesNumeral_10 (by decide) (by decide) rfl (by decide) ?_
        refine go_aload_n dX4_takesNumeral_56 rfl ?_
        refine go_iload_n dX4_takesNumeral_57 rfl ?_
        refine go_iv dX4_takesNumeral_58 mX4_takesNumber iX4_92 (run_takesNumber (d + 2) hv hO hM) rfl rfl (by omega) h0 rfl (Nat.le_of_ble_eq_true rfl) (Nat.zero_le _) (Nat.zero_le _) (fun v_58 h_58 n_58 q_58 => ?_)
        obtain ⟨rfl, rfl, tF, tN, tS⟩ := q_58
        refine go_zret dX4_takesNumeral_61 rfl (by first | exact Or.inl rfl | exact Or.inr rfl | exact bI01 _) ?_
        exact ⟨rfl, rfl, tF, tN, tS⟩
      · refine go_tableIn (tgt := 62) dX4_takesNumeral_10 (by decide) (by decide) rfl (by decide) ?_
        refine go_aload_n dX4_takesNumeral_62 rfl ?_
        refine go_iload_n dX4_takesNumeral_63 rfl ?_
        refine go_iv dX4_takesNumeral_64 mX4_takesClasses iX4_95 (run_takesClasses (d + 1) hv hM) rfl rfl (by omega) h0 rfl (Nat.le_of_ble_eq_true rfl) (Nat.zero_le _) (Nat.zero_le _) (fun v_64 h_64 n_64 q_64 => ?_)
        obtain ⟨rfl, rfl, tF, tN, tS⟩ := q_64
        refine go_zret dX4_takesNumeral_67 rfl (by first | exact Or.inl rfl | exact Or.inr rfl | exact bI01 _) ?_
        exact ⟨rfl, rfl, tF, tN, tS⟩
      · refine go_tableIn (tgt := 68) dX4_takesNumeral_10 (by decide) (by decide) rfl (by decide) ?_
        refine go_aload_n dX4_takesNumeral_68 rfl ?_
        refine go_iload_n dX4_takesNumeral_69 rfl ?_
        refine go_iv dX4_takesNumeral_70 mX4_takesCost iX4_98 (run_takesCost (d + 2) hv hM) rfl rfl (by omega) h0 rfl (Nat.le_of_ble_eq_true rfl) (Nat.zero_le _) (Nat.zero_le _) (fun v_70 h_70 n_70 q_70 => ?_)
        obtain ⟨rfl, rfl, tF, tN, tS⟩ := q_70
        refine go_zret dX4_takesNumeral_73 rfl (by first | exact Or.inl rfl | exact Or.inr rfl | exact bI01 _) ?_
        exact ⟨rfl, rfl, tF, tN, tS⟩
    refine go_iload_n dX4_takesNumeral_0 rfl ?_
    refine go_if_ge (tgt := 6) dX4_takesNumeral_1 (by decide) (fun c_1 => ?_) (fun c_1 => ?_)
    · skip
      exact KK
    · exact absurd (nI_pos' (by omega)) c_1
/-- the digits' value stays small -/
theorem nvl_lt {t : TX} {p : Nat} : ∀ {n}, (∀ i, i < n → isD (t.2 (p + i)) = true) → nvl t p n < 10 ^ n
  | 0, _ => by simp [nvl]
  | n + 1, h => by
    have ih := nvl_lt (n := n) (fun i hi => h i (by omega))
    have hd := of_decide_eq_true (h n (by omega))
    rw [nvl, Nat.pow_succ]
    omega
set_option maxRecDepth 100000 in
theorem nm_loop {d p e : Nat} {h : gH} {t : TX} {F : Nat → Int32} {x2 x3 x4 x5 x6 x7 x8 x9 : Int32} (h0 : h 44 = .inr (4, [.ref 45, .ref 46, .int x2, .int x3, .int x4, .int x5, .int x6, .int x7, .int x8, .int x9])) (h1 : h 45 = iA 150 F) (h2 : ∀ i, i < t.1 → F i = nI (t.2 i)) (ht : t.1 ≤ 150) (he : e ≤ t.1) (hD : ∀ i, p ≤ i → i < e → isD (t.2 i) = true) : ∀ (m n : Nat), p + n + m = e → Go none RX4 cX4_numeral 5 (some .int) false d 32 [some (.ref 44), some (.int (nI p)), some (.int (nI e)), some (.int (nI (nvl t p n))), some (.int (nI (p + n)))] [] h 163 0 0 (fun v h' N' => v = some (.int (nI (nvl t p (e - p)))) ∧ h' = h ∧ N' = 163) := by
  intro m
  induction m with
  | zero =>
    intro n hn
    have q : e - p = n := by omega
    rw [q]
    refine go_iload dX4_numeral_32 rfl ?_
    refine go_iload_n dX4_numeral_34 rfl ?_
    refine go_icmp_ge (tgt := 60) dX4_numeral_35 (by decide) (fun c_35 => ?_) (fun c_35 => ?_)
    · skip
      refine go_iload_n dX4_numeral_60 rfl ?_
      refine go_iret dX4_numeral_61 rfl ?_
      exact ⟨rfl, rfl, rfl⟩
    · exact absurd (nI_le (by omega) (by omega)) c_35
  | succ m ih =>
    intro n hn
    have hd := of_decide_eq_true (hD (p + n) (by omega) (by omega))
    refine go_iload dX4_numeral_32 rfl ?_
    refine go_iload_n dX4_numeral_34 rfl ?_
    refine go_icmp_ge (tgt := 60) dX4_numeral_35 (by decide) (fun c_35 => ?_) (fun c_35 => ?_)
    · exact absurd c_35 (nI_ge (by omega) (by omega))
    · skip
      refine go_iload_n dX4_numeral_38 rfl ?_
      refine go_bipush (v := nI 10) dX4_numeral_39 (by decide) ?_
      refine go_imul dX4_numeral_41 ?_
      refine go_aload_n dX4_numeral_42 rfl ?_
      refine go_get dX4_numeral_43 fX4_9 (by omega) h0 rfl ?_
      refine go_iload dX4_numeral_46 rfl ?_
      refine go_iald dX4_numeral_48 (by omega) h1 rfl (by omega) (by omega) ?_
      refine go_top (y := .int (nI (t.2 (p + n)))) (by rw [h2 _ (by omega)]) ?_
      refine go_iadd dX4_numeral_49 ?_
      refine go_bipush (v := nI 48) dX4_numeral_50 (by decide) ?_
      refine go_isub dX4_numeral_52 ?_
      refine go_top (y := .int (nI (nvl t p (n + 1)))) (by rw [pk_mul, nI_add, nI_sub (by omega), nvl, show nvl t p n * 10 + t.2 (p + n) - 48 = 10 * nvl t p n + (t.2 (p + n) - 48) by omega]) ?_
      refine go_istore_n (L' := [_, _, _, _, _]) dX4_numeral_53 rfl (by decide) rfl ?_
      refine go_inc (L' := [_, _, _, _, _]) dX4_numeral_54 rfl (by decide) rfl ?_
      refine go_goto (tgt := 32) dX4_numeral_57 (by decide) ?_
      exact ih (n + 1) (by omega)
theorem run_numeral (d : Nat) {p e : Nat} {h : gH} {t : TX} {F : Nat → Int32} {x2 x3 x4 x5 x6 x7 x8 x9 : Int32} (h0 : h 44 = .inr (4, [.ref 45, .ref 46, .int x2, .int x3, .int x4, .int x5, .int x6, .int x7, .int x8, .int x9])) (h1 : h 45 = iA 150 F) (h2 : ∀ i, i < t.1 → F i = nI (t.2 i)) (ht : t.1 ≤ 150) (hpe : p < e) (he : e ≤ t.1) (hb : t.2 p < 2 ^ 31) (hD : ∀ i, p ≤ i → i < e → isD (t.2 i) = true) : Run d yX4_numeral cX4_numeral 5 (some .int) [.ref 44, .int (nI p), .int (nI e)] h 163 0 0 (fun v h' N' => v = some (.int (nO (numT t p e))) ∧ h' = h ∧ N' = 163) := by
  refine Run.of (ini := false) (L := [_, _, _, _, _]) mX4_numeral (fun h => by cases h) rfl (Nat.le_of_ble_eq_true rfl) rfl ?_
  refine go_iload_n dX4_numeral_0 rfl ?_
  refine go_iload_n dX4_numeral_1 rfl ?_
  refine go_isub dX4_numeral_2 ?_
  refine go_top (y := .int (nI (e - p))) (by rw [nI_sub (by omega)]) ?_
  refine go_iconst (v := nI 3) dX4_numeral_3 (by decide) ?_
  refine go_icmp_gt (tgt := 25) dX4_numeral_4 (by decide) (fun c_4 => ?_) (fun c_4 => ?_)
  · skip
    have c1 : 3 < e - p := (nI_ltI (by omega) (by omega)).mp c_4
    refine go_iconst (v := (-1)) dX4_numeral_25 (by decide) ?_
    refine go_iret dX4_numeral_26 rfl ?_
    refine ⟨?_, rfl, rfl⟩
    rw [numT, if_pos (by omega)]
    rfl
  · skip
    have c1 : ¬ 3 < e - p := mt (nI_ltI (a := 3) (b := e - p) (by omega) (by omega)).mpr c_4
    refine go_aload_n dX4_numeral_7 rfl ?_
    refine go_get dX4_numeral_8 fX4_9 (by omega) h0 rfl ?_
    refine go_iload_n dX4_numeral_11 rfl ?_
    refine go_iald dX4_numeral_12 (by omega) h1 rfl (by omega) (by omega) ?_
    refine go_top (y := .int (nI (t.2 p))) (by rw [h2 _ (by omega)]) ?_
    refine go_bipush (v := nI 48) dX4_numeral_13 (by decide) ?_
    refine go_icmp_ne (tgt := 27) dX4_numeral_15 (by decide) (fun c_15 => ?_) (fun c_15 => ?_)
    · skip
      have c2 : ¬ t.2 p = 48 := fun z => c_15 (by rw [z])
      refine go_iconst (v := nI 0) dX4_numeral_27 (by decide) ?_
      refine go_istore_n (L' := [_, _, _, _, _]) dX4_numeral_28 rfl (by decide) rfl ?_
      refine go_iload_n dX4_numeral_29 rfl ?_
      refine go_istore (L' := [_, _, _, _, _]) dX4_numeral_30 (by decide) rfl ?_
      refine go_Q ?_ (nm_loop h0 h1 h2 ht he hD (e - p) 0 (by omega))
      rintro v h' N' ⟨a, b, c⟩
      refine ⟨?_, b, c⟩
      rw [a, numT, if_neg (by omega)]
      rfl
    · skip
      have c2 : t.2 p = 48 := (nI_eq (by omega) (by decide)).mp (Decidable.not_not.mp c_15)
      refine go_iload_n dX4_numeral_18 rfl ?_
      refine go_iload_n dX4_numeral_19 rfl ?_
      refine go_isub dX4_numeral_20 ?_
      refine go_top (y := .int (nI (e - p))) (by rw [nI_sub (by omega)]) ?_
      refine go_iconst (v := nI 1) dX4_numeral_21 (by decide) ?_
      refine go_icmp_le (tgt := 27) dX4_numeral_22 (by decide) (fun c_22 => ?_) (fun c_22 => ?_)
      · skip
        have c3 : ¬ 1 < e - p := by have := (nI_leI (by omega) (by omega)).mp c_22; omega
        refine go_iconst (v := nI 0) dX4_numeral_27 (by decide) ?_
        refine go_istore_n (L' := [_, _, _, _, _]) dX4_numeral_28 rfl (by decide) rfl ?_
        refine go_iload_n dX4_numeral_29 rfl ?_
        refine go_istore (L' := [_, _, _, _, _]) dX4_numeral_30 (by decide) rfl ?_
        refine go_Q ?_ (nm_loop h0 h1 h2 ht he hD (e - p) 0 (by omega))
        rintro v h' N' ⟨a, b, c⟩
        refine ⟨?_, b, c⟩
        rw [a, numT, if_neg (by omega)]
        rfl
      · skip
        have c3 : 1 < e - p := by have := mt (nI_leI (a := e - p) (b := 1) (by omega) (by omega)).mpr c_22; omega
        refine go_iconst (v := (-1)) dX4_numeral_25 (by decide) ?_
        refine go_iret dX4_numeral_26 rfl ?_
        refine ⟨?_, rfl, rfl⟩
        rw [numT, if_pos (by omega)]
        rfl
