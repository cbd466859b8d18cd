/-! ===== tokenEnd, takes, begin, read, map: the class's side ===== -/
def te (t : TX) (p : Nat) : Nat := if t.2 p = 59 then p + 1 else if isL (t.2 p) = true then rn isL t p else rn isD t p
def pL (l : Bool) : Nat → Bool := if l = true then isL else isD
set_option maxRecDepth 100000 in
theorem te_loop {d p : Nat} {l : Bool} {h : gH} {t : TX} {F : Nat → Int32} {x3 x4 x5 x6 x7 x8 x9 : Int32} (h0 : h 44 = .inr (4, [.ref 45, .ref 46, .int (nI t.1), .int x3, .int x4, .int x5, .int x6, .int x7, .int x8, .int x9])) (h1 : h 45 = iA 150 F) (h2 : ∀ i, i < t.1 → F i = nI (t.2 i)) (ht : t.1 ≤ 150) (hb : ∀ i, i < t.1 → t.2 i ≤ 255) : ∀ (m e : Nat), e + m = t.1 → Go none RX4 cX4_tokenEnd 4 (some .int) false (d + 1) 27 [some (.ref 44), some (.int (nI p)), some (.int (bI l)), some (.int (nI e))] [] h 163 0 0 (fun v h' N' => v = some (.int (nI (rn (pL l) t e))) ∧ h' = h ∧ N' = 163) := by
  intro m
  induction m with
  | zero =>
    intro e he
    rw [rn_stop (by omega)]
    refine go_iload_n dX4_tokenEnd_27 rfl ?_
    refine go_aload_n dX4_tokenEnd_28 rfl ?_
    refine go_get dX4_tokenEnd_29 fX4_22 (by omega) h0 rfl ?_
    refine go_icmp_ge (tgt := 72) dX4_tokenEnd_32 (by decide) (fun c_32 => ?_) (fun c_32 => ?_)
    · skip
      refine go_iload_n dX4_tokenEnd_72 rfl ?_
      refine go_iret dX4_tokenEnd_73 rfl ?_
      exact ⟨rfl, rfl, rfl⟩
    · exact absurd (nI_le (by omega) (by omega)) c_32
  | succ m ih =>
    intro e he
    have hbe := hb e (by omega)
    cases l with
    | true =>
      refine go_iload_n dX4_tokenEnd_27 rfl ?_
      refine go_aload_n dX4_tokenEnd_28 rfl ?_
      refine go_get dX4_tokenEnd_29 fX4_22 (by omega) h0 rfl ?_
      refine go_icmp_ge (tgt := 72) dX4_tokenEnd_32 (by decide) (fun c_32 => ?_) (fun c_32 => ?_)
      · exact absurd c_32 (nI_ge (by omega) (by omega))
      · skip
        refine go_iload_n dX4_tokenEnd_35 rfl ?_
        refine go_if_eq (tgt := 54) dX4_tokenEnd_36 (by decide) (fun c_36 => ?_) (fun c_36 => ?_)
        · exact absurd c_36 (by decide)
        · skip
          refine go_aload_n dX4_tokenEnd_39 rfl ?_
          refine go_get dX4_tokenEnd_40 fX4_9 (by omega) h0 rfl ?_
          refine go_iload_n dX4_tokenEnd_43 rfl ?_
          refine go_iald dX4_tokenEnd_44 (by omega) h1 rfl (by omega) (by omega) ?_
          refine go_top (y := .int (nI (t.2 e))) (by rw [h2 _ (by omega)]) ?_
          refine go_is dX4_tokenEnd_45 mX4_isLetter iX4_56 (run_isLetter d (by omega)) rfl rfl (Nat.le_of_ble_eq_true rfl) (Nat.zero_le _) (Nat.zero_le _) (fun v_45 h_45 n_45 q_45 => ?_)
          obtain ⟨rfl, rfl, rfl⟩ := q_45
          refine go_if_eq (tgt := 72) dX4_tokenEnd_48 (by decide) (fun c_48 => ?_) (fun c_48 => ?_)
          · skip
            have c1 := bI_eq.mp c_48
            refine go_iload_n dX4_tokenEnd_72 rfl ?_
            refine go_iret dX4_tokenEnd_73 rfl ?_
            rw [rn_stop (by intro z; have z2 : isL (t.2 e) = true := z.2; rw [c1] at z2; cases z2)]
            exact ⟨rfl, rfl, rfl⟩
          · skip
            have c1 := bI_ne.mp c_48
            refine go_goto (tgt := 66) dX4_tokenEnd_51 (by decide) ?_
            refine go_inc (L' := [_, _, _, _]) dX4_tokenEnd_66 rfl (by decide) rfl ?_
            refine go_goto (tgt := 27) dX4_tokenEnd_69 (by decide) ?_
            rw [rn_step (by omega) (show pL true (t.2 e) = true from c1)]
            exact ih (e + 1) (by omega)
    | false =>
      refine go_iload_n dX4_tokenEnd_27 rfl ?_
      refine go_aload_n dX4_tokenEnd_28 rfl ?_
      refine go_get dX4_tokenEnd_29 fX4_22 (by omega) h0 rfl ?_
      refine go_icmp_ge (tgt := 72) dX4_tokenEnd_32 (by decide) (fun c_32 => ?_) (fun c_32 => ?_)
      · exact absurd c_32 (nI_ge (by omega) (by omega))
      · skip
        refine go_iload_n dX4_tokenEnd_35 rfl ?_
        refine go_if_eq (tgt := 54) dX4_tokenEnd_36 (by decide) (fun c_36 => ?_) (fun c_36 => ?_)
        · skip
          refine go_aload_n dX4_tokenEnd_54 rfl ?_
          refine go_get dX4_tokenEnd_55 fX4_9 (by omega) h0 rfl ?_
          refine go_iload_n dX4_tokenEnd_58 rfl ?_
          refine go_iald dX4_tokenEnd_59 (by omega) h1 rfl (by omega) (by omega) ?_
          refine go_top (y := .int (nI (t.2 e))) (by rw [h2 _ (by omega)]) ?_
          refine go_is dX4_tokenEnd_60 mX4_isDigit iX4_60 (run_isDigit d (by omega)) rfl rfl (Nat.le_of_ble_eq_true rfl) (Nat.zero_le _) (Nat.zero_le _) (fun v_60 h_60 n_60 q_60 => ?_)
          obtain ⟨rfl, rfl, rfl⟩ := q_60
          refine go_if_eq (tgt := 72) dX4_tokenEnd_63 (by decide) (fun c_63 => ?_) (fun c_63 => ?_)
          · skip
            have c1 := bI_eq.mp c_63
            refine go_iload_n dX4_tokenEnd_72 rfl ?_
            refine go_iret dX4_tokenEnd_73 rfl ?_
            rw [rn_stop (by intro z; have z2 : isD (t.2 e) = true := z.2; rw [c1] at z2; cases z2)]
            exact ⟨rfl, rfl, rfl⟩
          · skip
            have c1 := bI_ne.mp c_63
            refine go_inc (L' := [_, _, _, _]) dX4_tokenEnd_66 rfl (by decide) rfl ?_
            refine go_goto (tgt := 27) dX4_tokenEnd_69 (by decide) ?_
            rw [rn_step (by omega) (show pL false (t.2 e) = true from c1)]
            exact ih (e + 1) (by omega)
        · exact absurd rfl c_36
theorem run_tokenEnd (d : Nat) {p : Nat} {h : gH} {t : TX} {F : Nat → Int32} {x3 x4 x5 x6 x7 x8 x9 : Int32} (h0 : h 44 = .inr (4, [.ref 45, .ref 46, .int (nI t.1), .int x3, .int x4, .int x5, .int x6, .int x7, .int x8, .int x9])) (h1 : h 45 = iA 150 F) (h2 : ∀ i, i < t.1 → F i = nI (t.2 i)) (ht : t.1 ≤ 150) (hb : ∀ i, i < t.1 → t.2 i ≤ 255) (hp : p < t.1) : Run (d + 1) yX4_tokenEnd cX4_tokenEnd 4 (some .int) [.ref 44, .int (nI p)] h 163 0 0 (fun v h' N' => v = some (.int (nI (te t p))) ∧ h' = h ∧ N' = 163) := by
  have hbp := hb p hp
  refine Run.of (ini := false) (L := [_, _, _, _]) mX4_tokenEnd (fun h => by cases h) rfl (Nat.le_of_ble_eq_true rfl) rfl ?_
  refine go_aload_n dX4_tokenEnd_0 rfl ?_
  refine go_get dX4_tokenEnd_1 fX4_9 (by omega) h0 rfl ?_
  refine go_iload_n dX4_tokenEnd_4 rfl ?_
  refine go_iald dX4_tokenEnd_5 (by omega) h1 rfl (by omega) (by omega) ?_
  refine go_top (y := .int (nI (t.2 p))) (by rw [h2 _ hp]) ?_
  refine go_bipush (v := nI 59) dX4_tokenEnd_6 (by decide) ?_
  refine go_icmp_ne (tgt := 15) dX4_tokenEnd_8 (by decide) (fun c_8 => ?_) (fun c_8 => ?_)
  · skip
    have c1 : ¬ t.2 p = 59 := fun z => c_8 (by rw [z])
    refine go_aload_n dX4_tokenEnd_15 rfl ?_
    refine go_get dX4_tokenEnd_16 fX4_9 (by omega) h0 rfl ?_
    refine go_iload_n dX4_tokenEnd_19 rfl ?_
    refine go_iald dX4_tokenEnd_20 (by omega) h1 rfl (by omega) (by omega) ?_
    refine go_top (y := .int (nI (t.2 p))) (by rw [h2 _ hp]) ?_
    refine go_is dX4_tokenEnd_21 mX4_isLetter iX4_56 (run_isLetter d (by omega)) rfl rfl (Nat.le_of_ble_eq_true rfl) (Nat.zero_le _) (Nat.zero_le _) (fun v_21 h_21 n_21 q_21 => ?_)
    obtain ⟨rfl, rfl, rfl⟩ := q_21
    refine go_istore_n (L' := [_, _, _, _]) dX4_tokenEnd_24 rfl (by decide) rfl ?_
    refine go_iload_n dX4_tokenEnd_25 rfl ?_
    refine go_istore_n (L' := [_, _, _, _]) dX4_tokenEnd_26 rfl (by decide) rfl ?_
    refine go_Q ?_ (te_loop (l := isL (t.2 p)) h0 h1 h2 ht hb (t.1 - p) p (by omega))
    rintro v h' N' ⟨a, b, c⟩
    refine ⟨?_, b, c⟩
    rw [a, te, if_neg c1]
    cases isL (t.2 p) <;> rfl
  · skip
    have c1 : t.2 p = 59 := (nI_eq (by omega) (by decide)).mp (Decidable.not_not.mp c_8)
    refine go_iload_n dX4_tokenEnd_11 rfl ?_
    refine go_iconst (v := nI 1) dX4_tokenEnd_12 (by decide) ?_
    refine go_iadd dX4_tokenEnd_13 ?_
    refine go_iret dX4_tokenEnd_14 rfl ?_
    exact ⟨by rw [te, if_pos c1, nI_add], rfl, rfl⟩
theorem tok_te {t : TX} {p p' : Nat} {s s' : PS} (h : tok t p s = some (p', s')) : p' = te t p := by
  unfold tok at h
  unfold te
  split at h
  · rename_i hl
    have h59 : ¬ t.2 p = 59 := fun z => by rw [z] at hl; cases hl
    split at h
    · rename_i hr
      cases hq : tkL s (t.2 p) with
      | none => rw [hq] at h; cases h
      | some x => rw [hq] at h; cases h; rw [if_neg h59, if_pos hl, hr]
    · cases h
  · rename_i hl
    split at h
    · rename_i hd
      have h59 : ¬ t.2 p = 59 := fun z => by rw [z] at hd; cases hd
      cases hq : (numT t p (rn isD t p)).bind (tkN s) with
      | none => rw [hq] at h; cases h
      | some x => rw [hq] at h; cases h; rw [if_neg h59, if_neg hl]
    · split at h
      · rename_i h59
        cases hq : tkE s with
        | none => rw [hq] at h; cases h
        | some x => rw [hq] at h; cases h; rw [if_pos h59]
      · cases h
theorem isLD {b : Nat} (h : isL b = true) : ¬ b = 59 ∧ isD b = false := by
  have := of_decide_eq_true h
  exact ⟨by omega, decide_eq_false (by omega)⟩
set_option maxRecDepth 100000 in
theorem run_takes (d : Nat) {p : Nat} {h : gH} {t : TX} {s : PS} (ht : t.1 ≤ 150) (hb : ∀ i, i < t.1 → t.2 i ≤ 255) (hp : p < t.1) (hep : te t p ≠ p) (hO : PO p s) (hM : Mr h t s) : Run (d + 4) yX4_takes cX4_takes 3 (some .boolean) [.ref 44, .int (nI p), .int (nI (te t p))] h 163 0 0 (TP t h ((tok t p s).map (fun q => q.2))) := by
  have hbp := hb p hp
  obtain ⟨F, x3, x4, x5, x6, x7, x8, x9, c, k0, k1, -, k2⟩ := id hM.mt
  refine Run.of (ini := false) (L := [_, _, _]) mX4_takes (fun h => by cases h) rfl (Nat.le_of_ble_eq_true rfl) rfl ?_
  cases hl : isL (t.2 p) with
  | true =>
    obtain ⟨h59, hd⟩ := isLD hl
    have hte : te t p = rn isL t p := by rw [te, if_neg h59, if_pos hl]
    have hrl := rn_le (P := isL) (t := t) (p := p) (by omega)
    obtain ⟨aw, it, pb, kb, cb, ro, ce, f, K, C⟩ := s
    obtain ⟨o1, -⟩ := id hO
    obtain ⟨F', y8, y9, h0, h1, h2, -⟩ := id hM
    rw [hte]
    refine go_aload_n dX4_takes_0 rfl ?_
    refine go_get dX4_takes_1 fX4_9 (by omega) h0 rfl ?_
    refine go_iload_n dX4_takes_4 rfl ?_
    refine go_iald dX4_takes_5 (by omega) h1 rfl (by omega) (by omega) ?_
    refine go_top (y := .int (nI (t.2 p))) (by rw [h2 _ hp]) ?_
    refine go_is dX4_takes_6 mX4_isLetter iX4_56 (run_isLetter (d + 3) (by omega)) rfl rfl (Nat.le_of_ble_eq_true rfl) (Nat.zero_le _) (Nat.zero_le _) (fun v_6 h_6 n_6 q_6 => ?_)
    obtain ⟨rfl, rfl, rfl⟩ := q_6
    refine go_if_eq (tgt := 45) dX4_takes_9 (by decide) (fun c_9 => ?_) (fun c_9 => ?_)
    · exact absurd (bI_eq.mp c_9) (by rw [hl]; decide)
    · skip
      refine go_aload_n dX4_takes_12 rfl ?_
      refine go_get dX4_takes_13 fX4_37 (by omega) h0 rfl ?_
      refine go_if_ne (tgt := 43) dX4_takes_16 (by decide) (fun c_16 => ?_) (fun c_16 => ?_)
      · skip
        have e : ¬ aw = 0 := fun z => c_16 (by rw [z]; rfl)
        refine go_iconst (v := nI 0) dX4_takes_43 (by decide) ?_
        refine go_zret dX4_takes_44 rfl (by first | exact Or.inl rfl | exact Or.inr rfl | exact bI01 _) ?_
        first | exact TP.no (by unfold tok; rw [if_pos hl]; first | rw [if_neg e2]; rfl | (rw [show tkL (aw, it, pb, kb, cb, ro, ce, f, K, C) (t.2 p) = none from if_neg e]; split <;> rfl)) | (rw [et]; exact ⟨rfl, by rw [c1]; rfl, tF, tN, tS⟩)
      · skip
        have e : aw = 0 := (nI_eq (b := 0) (by omega) (by decide)).mp (Decidable.not_not.mp c_16)
        refine go_iload_n dX4_takes_19 rfl ?_
        refine go_iload_n dX4_takes_20 rfl ?_
        refine go_iconst (v := nI 1) dX4_takes_21 (by decide) ?_
        refine go_iadd dX4_takes_22 ?_
        refine go_icmp_ne (tgt := 43) dX4_takes_23 (by decide) (fun c_23 => ?_) (fun c_23 => ?_)
        · skip
          have e2 : ¬ rn isL t p = p + 1 := fun z => c_23 (by rw [z, nI_add])
          refine go_iconst (v := nI 0) dX4_takes_43 (by decide) ?_
          refine go_zret dX4_takes_44 rfl (by first | exact Or.inl rfl | exact Or.inr rfl | exact bI01 _) ?_
          first | exact TP.no (by unfold tok; rw [if_pos hl]; first | rw [if_neg e2]; rfl | (rw [show tkL (aw, it, pb, kb, cb, ro, ce, f, K, C) (t.2 p) = none from if_neg e]; split <;> rfl)) | (rw [et]; exact ⟨rfl, by rw [c1]; rfl, tF, tN, tS⟩)
        · skip
          have e2 : rn isL t p = p + 1 := by have z := Decidable.not_not.mp c_23; rw [nI_add] at z; exact (nI_eq (by omega) (by omega)).mp z
          refine go_aload_n dX4_takes_26 rfl ?_
          refine go_aload_n dX4_takes_27 rfl ?_
          refine go_get dX4_takes_28 fX4_9 (by omega) h0 rfl ?_
          refine go_iload_n dX4_takes_31 rfl ?_
          refine go_iald dX4_takes_32 (by omega) h1 rfl (by omega) (by omega) ?_
          refine go_top (y := .int (nI (t.2 p))) (by rw [h2 _ hp]) ?_
          subst e
          refine go_iv dX4_takes_33 mX4_takesLetter iX4_63 (run_takesLetter (d + 2) (by omega) hO hM) rfl rfl (by omega) h0 rfl (Nat.le_of_ble_eq_true rfl) (Nat.zero_le _) (Nat.zero_le _) (fun v_33 h_33 n_33 q_33 => ?_)
          obtain ⟨rfl, rfl, tF, tN, tS⟩ := q_33
          have et : (tok t p (0, it, pb, kb, cb, ro, ce, f, K, C)).map (fun q => q.2) = tkL (0, it, pb, kb, cb, ro, ce, f, K, C) (t.2 p) := by
            unfold tok
            rw [if_pos hl, if_pos e2]
            cases tkL (0, it, pb, kb, cb, ro, ce, f, K, C) (t.2 p) <;> rfl
          refine go_if_eq (tgt := 43) dX4_takes_36 (by decide) (fun c_36 => ?_) (fun c_36 => ?_)
          · skip
            have c1 := bI_eq.mp c_36
            refine go_iconst (v := nI 0) dX4_takes_43 (by decide) ?_
            refine go_zret dX4_takes_44 rfl (by first | exact Or.inl rfl | exact Or.inr rfl | exact bI01 _) ?_
            first | exact TP.no (by unfold tok; rw [if_pos hl]; first | rw [if_neg e2]; rfl | (rw [show tkL (aw, it, pb, kb, cb, ro, ce, f, K, C) (t.2 p) = none from if_neg e]; split <;> rfl)) | (rw [et]; exact ⟨rfl, by rw [c1]; rfl, tF, tN, tS⟩)
          · skip
            have c1 := bI_ne.mp c_36
            refine go_iconst (v := nI 1) dX4_takes_39 (by decide) ?_
            refine go_goto (tgt := 44) dX4_takes_40 (by decide) ?_
            refine go_zret dX4_takes_44 rfl (by first | exact Or.inl rfl | exact Or.inr rfl | exact bI01 _) ?_
            first | exact TP.no (by unfold tok; rw [if_pos hl]; first | rw [if_neg e2]; rfl | (rw [show tkL (aw, it, pb, kb, cb, ro, ce, f, K, C) (t.2 p) = none from if_neg e]; split <;> rfl)) | (rw [et]; exact ⟨rfl, by rw [c1]; rfl, tF, tN, tS⟩)
  | false =>
    cases hd : isD (t.2 p) with
    | true =>
      have h59 : ¬ t.2 p = 59 := fun z => by rw [z] at hd; cases hd
      have hte : te t p = rn isD t p := by rw [te, if_neg h59, hl]; rfl
      have hrl := rn_le (P := isD) (t := t) (p := p) (by omega)
      have hrg := rn_gt hp hd
      have et : (tok t p s).map (fun q => q.2) = (numT t p (rn isD t p)).bind (tkN s) := by
        unfold tok
        rw [hl, if_neg (by decide), if_pos hd]
        cases (numT t p (rn isD t p)).bind (tkN s) <;> rfl
      have hnv : ∀ x, numT t p (rn isD t p) = some x → x < 2 ^ 31 := by
        intro x hx
        unfold numT at hx
        split at hx
        · cases hx
        · rename_i z
          cases hx
          have := nvl_lt (t := t) (p := p) (n := rn isD t p - p) (fun i hi => (rn_in (P := isD) (t := t) (p := p) (i := p + i) (by omega) (by omega)).2)
          rcases (show rn isD t p - p = 1 ∨ rn isD t p - p = 2 ∨ rn isD t p - p = 3 by omega) with q | q | q <;> rw [q] at this ⊢ <;> omega
      rw [hte, et]
      refine go_aload_n dX4_takes_0 rfl ?_
      refine go_get dX4_takes_1 fX4_9 (by omega) k0 rfl ?_
      refine go_iload_n dX4_takes_4 rfl ?_
      refine go_iald dX4_takes_5 (by omega) k1 rfl (by omega) (by omega) ?_
      refine go_top (y := .int (nI (t.2 p))) (by rw [k2 _ hp]) ?_
      refine go_is dX4_takes_6 mX4_isLetter iX4_56 (run_isLetter (d + 3) (by omega)) rfl rfl (Nat.le_of_ble_eq_true rfl) (Nat.zero_le _) (Nat.zero_le _) (fun v_6 h_6 n_6 q_6 => ?_)
      obtain ⟨rfl, rfl, rfl⟩ := q_6
      refine go_if_eq (tgt := 45) dX4_takes_9 (by decide) (fun c_9 => ?_) (fun c_9 => ?_)
      · skip
        refine go_aload_n dX4_takes_45 rfl ?_
        refine go_get dX4_takes_46 fX4_9 (by omega) k0 rfl ?_
        refine go_iload_n dX4_takes_49 rfl ?_
        refine go_iald dX4_takes_50 (by omega) k1 rfl (by omega) (by omega) ?_
        refine go_top (y := .int (nI (t.2 p))) (by rw [k2 _ hp]) ?_
        refine go_is dX4_takes_51 mX4_isDigit iX4_60 (run_isDigit (d + 3) (by omega)) rfl rfl (Nat.le_of_ble_eq_true rfl) (Nat.zero_le _) (Nat.zero_le _) (fun v_51 h_51 n_51 q_51 => ?_)
        obtain ⟨rfl, rfl, rfl⟩ := q_51
        refine go_if_eq (tgt := 68) dX4_takes_54 (by decide) (fun c_54 => ?_) (fun c_54 => ?_)
        · exact absurd (bI_eq.mp c_54) (by rw [hd]; decide)
        · skip
          refine go_aload_n dX4_takes_57 rfl ?_
          refine go_aload_n dX4_takes_58 rfl ?_
          refine go_iload_n dX4_takes_59 rfl ?_
          refine go_iload_n dX4_takes_60 rfl ?_
          refine go_iv dX4_takes_61 mX4_numeral iX4_66 (run_numeral (d + 3) k0 k1 k2 ht hrg hrl (by omega) (fun i q1 q2 => (rn_in q1 q2).2)) rfl rfl (by omega) k0 rfl (Nat.le_of_ble_eq_true rfl) (Nat.zero_le _) (Nat.zero_le _) (fun v_61 h_61 n_61 q_61 => ?_)
          obtain ⟨rfl, rfl, rfl⟩ := q_61
          refine go_iv dX4_takes_64 mX4_takesNumeral iX4_70 (run_takesNumeral d _ hnv hO hM) rfl rfl (by omega) k0 rfl (Nat.le_of_ble_eq_true rfl) (Nat.zero_le _) (Nat.zero_le _) (fun v_64 h_64 n_64 q_64 => ?_)
          obtain ⟨rfl, rfl, tF, tN, tS⟩ := q_64
          refine go_zret dX4_takes_67 rfl (by first | exact Or.inl rfl | exact Or.inr rfl | exact bI01 _) ?_
          exact ⟨rfl, rfl, tF, tN, tS⟩
      · exact absurd (bI_eq.mpr hl) c_9
    | false =>
      have h59 : t.2 p = 59 := by
        by_cases z : t.2 p = 59
        · exact z
        · exact absurd (by rw [te, if_neg z, hl, if_neg (by decide)]; exact rn_stop (by rw [hd]; simp)) hep
      have et : (tok t p s).map (fun q => q.2) = tkE s := by
        unfold tok
        rw [hl, if_neg (by decide), hd, if_neg (by decide), if_pos h59]
        cases tkE s <;> rfl
      rw [et]
      refine go_aload_n dX4_takes_0 rfl ?_
      refine go_get dX4_takes_1 fX4_9 (by omega) k0 rfl ?_
      refine go_iload_n dX4_takes_4 rfl ?_
      refine go_iald dX4_takes_5 (by omega) k1 rfl (by omega) (by omega) ?_
      refine go_top (y := .int (nI (t.2 p))) (by rw [k2 _ hp]) ?_
      refine go_is dX4_takes_6 mX4_isLetter iX4_56 (run_isLetter (d + 3) (by omega)) rfl rfl (Nat.le_of_ble_eq_true rfl) (Nat.zero_le _) (Nat.zero_le _) (fun v_6 h_6 n_6 q_6 => ?_)
      obtain ⟨rfl, rfl, rfl⟩ := q_6
      refine go_if_eq (tgt := 45) dX4_takes_9 (by decide) (fun c_9 => ?_) (fun c_9 => ?_)
      · skip
        refine go_aload_n dX4_takes_45 rfl ?_
        refine go_get dX4_takes_46 fX4_9 (by omega) k0 rfl ?_
        refine go_iload_n dX4_takes_49 rfl ?_
        refine go_iald dX4_takes_50 (by omega) k1 rfl (by omega) (by omega) ?_
        refine go_top (y := .int (nI (t.2 p))) (by rw [k2 _ hp]) ?_
        refine go_is dX4_takes_51 mX4_isDigit iX4_60 (run_isDigit (d + 3) (by omega)) rfl rfl (Nat.le_of_ble_eq_true rfl) (Nat.zero_le _) (Nat.zero_le _) (fun v_51 h_51 n_51 q_51 => ?_)
        obtain ⟨rfl, rfl, rfl⟩ := q_51
        refine go_if_eq (tgt := 68) dX4_takes_54 (by decide) (fun c_54 => ?_) (fun c_54 => ?_)
        · skip
          refine go_aload_n dX4_takes_68 rfl ?_
          refine go_iv dX4_takes_69 mX4_takesEnd iX4_73 (run_takesEnd (d + 3) (p := p) (by omega) hO hM) rfl rfl (by omega) k0 rfl (Nat.le_of_ble_eq_true rfl) (Nat.zero_le _) (Nat.zero_le _) (fun v_69 h_69 n_69 q_69 => ?_)
          obtain ⟨rfl, rfl, tF, tN, tS⟩ := q_69
          refine go_zret dX4_takes_72 rfl (by first | exact Or.inl rfl | exact Or.inr rfl | exact bI01 _) ?_
          exact ⟨rfl, rfl, tF, tN, tS⟩
        · exact absurd (bI_eq.mpr hd) c_54
      · exact absurd (bI_eq.mpr hl) c_9
