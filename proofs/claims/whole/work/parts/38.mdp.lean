/-! ===== spreadOf, isOld, borderAt ===== -/
set_option maxRecDepth 100000 in
theorem so_loop {d a b : Nat} {h : gH} {c : CD} {s' u' : Nat} {r0 r1 r2 r3 r4 rn : Int32} (hw : CW c) (h7 : h 147 = mS c s' u' r0 r1 r2 r3 r4 (nI (so c.1).1) rn) (hM : Ms h c) (hab : a < b) (hb : b ≤ (so c.1).1) : ∀ (m k : Nat), a + k + m = b → Go none RX9 cX9_spreadOf 9 (some .long) false d 11 [some (.ref 147), some (.int (nI a)), some (.int (nI b)), some (.long (lN (sm (fun i => (so c.1).2.2 i * (so c.1).2.1 i * (so c.1).2.1 i) a k))), none, some (.long (lN (sm (fun i => (so c.1).2.2 i * (so c.1).2.1 i) a k))), none, some (.int (nI (sm (so c.1).2.2 a k))), some (.int (nI (a + k)))] [] h 163 0 0 (fun v h' N' => v = some (.long (spr (so c.1).2.1 (so c.1).2.2 a b)) ∧ h' = h ∧ N' = 163) := by
  obtain ⟨FS, FW, f1, f2, f3⟩ := hM
  have h24 := so_24 hw.2.1
  have hle := so_le hw.1
  have hpos := so_pos c.1
  have htot := so_tot hw.2.1
  intro m
  induction m with
  | zero =>
    intro k hk
    obtain ⟨-, -, -, w1, w2⟩ := spr_int hab hb hle hpos htot
    have e : k = b - a := by omega
    subst e
    refine go_iload dX9_spreadOf_11 rfl ?_
    refine go_iload_n dX9_spreadOf_13 rfl ?_
    refine go_icmp_ge (tgt := 86) dX9_spreadOf_14 (by decide) (fun c_14 => ?_) (fun c_14 => ?_)
    · skip
      refine go_lload_n dX9_spreadOf_86 rfl ?_
      refine go_ldc2 dX9_spreadOf_87 kX9_145 ?_
      refine go_lmul dX9_spreadOf_90 ?_
      refine go_lload dX9_spreadOf_91 rfl ?_
      refine go_lload dX9_spreadOf_93 rfl ?_
      refine go_lmul dX9_spreadOf_95 ?_
      refine go_ldc2 dX9_spreadOf_96 kX9_145 ?_
      refine go_iload dX9_spreadOf_99 rfl ?_
      refine go_i2l dX9_spreadOf_101 rfl ?_
      refine go_top (y := .long (lN (sm (so c.1).2.2 a (b - a)))) (by rw [nI_l (by omega)]) ?_
      refine go_ldiv dX9_spreadOf_102 (fun q => absurd ((pk_lEQ (a := sm (so c.1).2.2 a (b - a)) (b := 0) (by omega) (by decide)).mp q) (by omega)) ?_
      refine go_top (y := .long (lN (5354228880 / sm (so c.1).2.2 a (b - a)))) (by rw [← pk_lDiv (a := 5354228880) (by decide) (by omega) (by omega)]; rfl) ?_
      refine go_lmul dX9_spreadOf_103 ?_
      refine go_lsub dX9_spreadOf_104 ?_
      refine go_lret dX9_spreadOf_105 rfl ?_
      exact ⟨rfl, rfl, rfl⟩
    · exact absurd (nI_le (by omega) (by omega)) c_14
  | succ m ih =>
    intro k hk
    have hA := hle (a + k) (by omega)
    have hW : (so c.1).2.2 (a + k) ≤ 24 := by
      have h1 := sm_split (so c.1).2.2 0 (a + k) 1
      have h2 := sm_mono (so c.1).2.2 0 (m := a + k + 1) (m' := (so c.1).1) (by omega)
      have h3 : sm (so c.1).2.2 (0 + (a + k)) 1 = (so c.1).2.2 (a + k) := by rw [sm, sm]; simp
      omega
    have e1 := (f3 (a + k) (by omega)).1
    have e2 := (f3 (a + k) (by omega)).2
    refine go_iload dX9_spreadOf_11 rfl ?_
    refine go_iload_n dX9_spreadOf_13 rfl ?_
    refine go_icmp_ge (tgt := 86) dX9_spreadOf_14 (by decide) (fun c_14 => ?_) (fun c_14 => ?_)
    · exact absurd c_14 (nI_ge (by omega) (by omega))
    · skip
      refine go_lload_n dX9_spreadOf_17 rfl ?_
      refine go_aload_n dX9_spreadOf_18 rfl ?_
      refine go_get dX9_spreadOf_19 fX9_38 (by omega) h7 rfl ?_
      refine go_iload dX9_spreadOf_22 rfl ?_
      refine go_iald dX9_spreadOf_24 (by omega) f1 rfl (by omega) (by omega) ?_
      refine go_top (y := .int (nI ((so c.1).2.1 (a + k)))) (by rw [e1]) ?_
      refine go_i2l dX9_spreadOf_25 rfl ?_
      refine go_top (y := .long (lN ((so c.1).2.1 (a + k)))) (by rw [nI_l (by omega)]) ?_
      refine go_aload_n dX9_spreadOf_26 rfl ?_
      refine go_get dX9_spreadOf_27 fX9_38 (by omega) h7 rfl ?_
      refine go_iload dX9_spreadOf_30 rfl ?_
      refine go_iald dX9_spreadOf_32 (by omega) f1 rfl (by omega) (by omega) ?_
      refine go_top (y := .int (nI ((so c.1).2.1 (a + k)))) (by rw [e1]) ?_
      refine go_i2l dX9_spreadOf_33 rfl ?_
      refine go_top (y := .long (lN ((so c.1).2.1 (a + k)))) (by rw [nI_l (by omega)]) ?_
      refine go_lmul dX9_spreadOf_34 ?_
      refine go_aload_n dX9_spreadOf_35 rfl ?_
      refine go_get dX9_spreadOf_36 fX9_41 (by omega) h7 rfl ?_
      refine go_iload dX9_spreadOf_39 rfl ?_
      refine go_iald dX9_spreadOf_41 (by omega) f2 rfl (by omega) (by omega) ?_
      refine go_top (y := .int (nI ((so c.1).2.2 (a + k)))) (by rw [e2]) ?_
      refine go_i2l dX9_spreadOf_42 rfl ?_
      refine go_top (y := .long (lN ((so c.1).2.2 (a + k)))) (by rw [nI_l (by omega)]) ?_
      refine go_lmul dX9_spreadOf_43 ?_
      refine go_top (y := .long (lN ((so c.1).2.2 (a + k) * (so c.1).2.1 (a + k) * (so c.1).2.1 (a + k)))) (by rw [lN_mul, lN_mul, Nat.mul_comm, Nat.mul_assoc]) ?_
      refine go_ladd dX9_spreadOf_44 ?_
      refine go_top (y := .long (lN (sm (fun i => (so c.1).2.2 i * (so c.1).2.1 i * (so c.1).2.1 i) a (k + 1)))) (by rw [lN_add, sm]) ?_
      refine go_lstore_n (L' := [_, _, _, _, _, _, _, _, _]) dX9_spreadOf_45 rfl (by decide) rfl ?_
      refine go_lload dX9_spreadOf_46 rfl ?_
      refine go_aload_n dX9_spreadOf_48 rfl ?_
      refine go_get dX9_spreadOf_49 fX9_38 (by omega) h7 rfl ?_
      refine go_iload dX9_spreadOf_52 rfl ?_
      refine go_iald dX9_spreadOf_54 (by omega) f1 rfl (by omega) (by omega) ?_
      refine go_top (y := .int (nI ((so c.1).2.1 (a + k)))) (by rw [e1]) ?_
      refine go_i2l dX9_spreadOf_55 rfl ?_
      refine go_top (y := .long (lN ((so c.1).2.1 (a + k)))) (by rw [nI_l (by omega)]) ?_
      refine go_aload_n dX9_spreadOf_56 rfl ?_
      refine go_get dX9_spreadOf_57 fX9_41 (by omega) h7 rfl ?_
      refine go_iload dX9_spreadOf_60 rfl ?_
      refine go_iald dX9_spreadOf_62 (by omega) f2 rfl (by omega) (by omega) ?_
      refine go_top (y := .int (nI ((so c.1).2.2 (a + k)))) (by rw [e2]) ?_
      refine go_i2l dX9_spreadOf_63 rfl ?_
      refine go_top (y := .long (lN ((so c.1).2.2 (a + k)))) (by rw [nI_l (by omega)]) ?_
      refine go_lmul dX9_spreadOf_64 ?_
      refine go_top (y := .long (lN ((so c.1).2.2 (a + k) * (so c.1).2.1 (a + k)))) (by rw [lN_mul, Nat.mul_comm]) ?_
      refine go_ladd dX9_spreadOf_65 ?_
      refine go_top (y := .long (lN (sm (fun i => (so c.1).2.2 i * (so c.1).2.1 i) a (k + 1)))) (by rw [lN_add, sm]) ?_
      refine go_lstore (L' := [_, _, _, _, _, _, _, _, _]) dX9_spreadOf_66 (by decide) rfl ?_
      refine go_iload dX9_spreadOf_68 rfl ?_
      refine go_aload_n dX9_spreadOf_70 rfl ?_
      refine go_get dX9_spreadOf_71 fX9_41 (by omega) h7 rfl ?_
      refine go_iload dX9_spreadOf_74 rfl ?_
      refine go_iald dX9_spreadOf_76 (by omega) f2 rfl (by omega) (by omega) ?_
      refine go_top (y := .int (nI ((so c.1).2.2 (a + k)))) (by rw [e2]) ?_
      refine go_iadd dX9_spreadOf_77 ?_
      refine go_top (y := .int (nI (sm (so c.1).2.2 a (k + 1)))) (by rw [nI_add, sm]) ?_
      refine go_istore (L' := [_, _, _, _, _, _, _, _, _]) dX9_spreadOf_78 (by decide) rfl ?_
      refine go_inc (L' := [_, _, _, _, _, _, _, _, _]) dX9_spreadOf_80 rfl (by decide) rfl ?_
      refine go_goto (tgt := 11) dX9_spreadOf_83 (by decide) ?_
      refine go_eqL ?_ (ih (k + 1) (by omega))
      rfl
theorem run_spreadOf (d : Nat) {a b : Nat} {h : gH} {c : CD} {s' u' : Nat} {r0 r1 r2 r3 r4 rn : Int32} (hw : CW c) (h7 : h 147 = mS c s' u' r0 r1 r2 r3 r4 (nI (so c.1).1) rn) (hM : Ms h c) (hab : a < b) (hb : b ≤ (so c.1).1) : Run d yX9_spreadOf cX9_spreadOf 9 (some .long) [.ref 147, .int (nI a), .int (nI b)] h 163 0 0 (fun v h' N' => v = some (.long (spr (so c.1).2.1 (so c.1).2.2 a b)) ∧ h' = h ∧ N' = 163) := by
  refine Run.of (ini := false) (L := [_, _, _, _, _, _, _, _, _]) mX9_spreadOf (fun h => by cases h) rfl (Nat.le_of_ble_eq_true rfl) rfl ?_
  refine go_lconst (v := lN 0) dX9_spreadOf_0 rfl ?_
  refine go_lstore_n (L' := [_, _, _, _, _, _, _, _, _]) dX9_spreadOf_1 rfl (by decide) rfl ?_
  refine go_lconst (v := lN 0) dX9_spreadOf_2 rfl ?_
  refine go_lstore (L' := [_, _, _, _, _, _, _, _, _]) dX9_spreadOf_3 (by decide) rfl ?_
  refine go_iconst (v := nI 0) dX9_spreadOf_5 (by decide) ?_
  refine go_istore (L' := [_, _, _, _, _, _, _, _, _]) dX9_spreadOf_6 (by decide) rfl ?_
  refine go_iload_n dX9_spreadOf_8 rfl ?_
  refine go_istore (L' := [_, _, _, _, _, _, _, _, _]) dX9_spreadOf_9 (by decide) rfl ?_
  exact so_loop hw h7 hM hab hb (b - a) 0 (by omega)
theorem bI01 (b : Bool) : bI b = 0 ∨ bI b = 1 := by cases b; exact Or.inl rfl; exact Or.inr rfl
theorem dI_some {o : Nat} : dI (some o) = nI (o + 1) := rfl
set_option maxRecDepth 100000 in
theorem mo_loop {d v o : Nat} {h : gH} {c : CD} {F6 : Nat → Int32} {s' u' : Nat} {r0 r1 r2 r3 r4 sn rn : Int32} (hw : CW c) (hv : v < 2 ^ 31) (h7 : h 147 = mS c s' u' r0 r1 r2 r3 r4 sn rn) (h6 : h 150 = iA 5 F6) (ho : c.2.2.1 = some o) (hF : ∀ i, i < o → F6 i = nI (c.2.1 i)) : ∀ (m k : Nat), k + m = o → Go none RX9 cX9_isOld 4 (some .boolean) false d 4 [some (.ref 147), some (.int (nI v)), some (.int (bI (oldB c.2.1 v k))), some (.int (nI k))] [] h 163 0 0 (fun r h' N' => r = some (.int (bI (oldB c.2.1 v o))) ∧ h' = h ∧ N' = 163) := by
  have ho5 := hw.2.2.1 o ho
  unfold mS at h7
  rw [ho] at h7
  intro m
  induction m with
  | zero =>
    intro k hk
    have e : k = o := by omega
    subst e
    refine go_iload_n dX9_isOld_4 rfl ?_
    refine go_iconst (v := nI 1) dX9_isOld_5 (by decide) ?_
    refine go_iadd dX9_isOld_6 ?_
    refine go_top (y := .int (nI (k + 1))) (by rw [nI_add]) ?_
    refine go_aload_n dX9_isOld_7 rfl ?_
    refine go_get dX9_isOld_8 fX9_119 (by omega) h7 rfl ?_
    refine go_icmp_ge (tgt := 40) dX9_isOld_11 (by decide) (fun c_11 => ?_) (fun c_11 => ?_)
    · skip
      refine go_iload_n dX9_isOld_40 rfl ?_
      refine go_zret dX9_isOld_41 rfl (by first | exact Or.inl rfl | exact Or.inr rfl | exact bI01 _) ?_
      exact ⟨rfl, rfl, rfl⟩
    · exact absurd (show nI (k + 1) ≤ nI (k + 1) from nI_le (Nat.le_refl _) (by omega)) c_11
  | succ m ih =>
    intro k hk
    have hk5 := hw.2.2.2.1 k (by omega)
    refine go_iload_n dX9_isOld_4 rfl ?_
    refine go_iconst (v := nI 1) dX9_isOld_5 (by decide) ?_
    refine go_iadd dX9_isOld_6 ?_
    refine go_top (y := .int (nI (k + 1))) (by rw [nI_add]) ?_
    refine go_aload_n dX9_isOld_7 rfl ?_
    refine go_get dX9_isOld_8 fX9_119 (by omega) h7 rfl ?_
    refine go_icmp_ge (tgt := 40) dX9_isOld_11 (by decide) (fun c_11 => ?_) (fun c_11 => ?_)
    · exact absurd (show nI (o + 1) ≤ nI (k + 1) from c_11) (nI_ge (by omega) (by omega))
    · skip
      refine go_iload_n dX9_isOld_14 rfl ?_
      refine go_if_ne (tgt := 28) dX9_isOld_15 (by decide) (fun c_15 => ?_) (fun c_15 => ?_)
      · skip
        have hb := bI_ne.mp c_15
        refine go_iconst (v := nI 1) dX9_isOld_28 (by decide) ?_
        refine go_goto (tgt := 33) dX9_isOld_29 (by decide) ?_
        refine go_istore_n (L' := [_, _, _, _]) dX9_isOld_33 rfl (by decide) rfl ?_
        refine go_inc (L' := [_, _, _, _]) dX9_isOld_34 rfl (by decide) rfl ?_
        refine go_goto (tgt := 4) dX9_isOld_37 (by decide) ?_
        refine go_eqL ?_ (ih (k + 1) (by omega))
        rw [oldB]
        first | (rw [hb]; rfl) | (rw [hb]; simp [he, bI]; rfl)
      · skip
        have hb : oldB c.2.1 v k = false := bI_eq.mp (Decidable.not_not.mp c_15)
        refine go_aload_n dX9_isOld_18 rfl ?_
        refine go_get dX9_isOld_19 fX9_20 (by omega) h7 rfl ?_
        refine go_iload_n dX9_isOld_22 rfl ?_
        refine go_iald dX9_isOld_23 (by omega) h6 rfl (by omega) (by omega) ?_
        refine go_top (y := .int (nI (c.2.1 k))) (by rw [hF k (by omega)]) ?_
        refine go_iload_n dX9_isOld_24 rfl ?_
        refine go_icmp_ne (tgt := 32) dX9_isOld_25 (by decide) (fun c_25 => ?_) (fun c_25 => ?_)
        · skip
          have he : ¬ c.2.1 k = v := fun q => c_25 (by rw [q])
          refine go_iconst (v := nI 0) dX9_isOld_32 (by decide) ?_
          refine go_istore_n (L' := [_, _, _, _]) dX9_isOld_33 rfl (by decide) rfl ?_
          refine go_inc (L' := [_, _, _, _]) dX9_isOld_34 rfl (by decide) rfl ?_
          refine go_goto (tgt := 4) dX9_isOld_37 (by decide) ?_
          refine go_eqL ?_ (ih (k + 1) (by omega))
          rw [oldB]
          first | (rw [hb]; rfl) | (rw [hb]; simp [he, bI]; rfl)
        · skip
          have he : c.2.1 k = v := (nI_eq (by omega) (by omega)).mp (Decidable.not_not.mp c_25)
          refine go_iconst (v := nI 1) dX9_isOld_28 (by decide) ?_
          refine go_goto (tgt := 33) dX9_isOld_29 (by decide) ?_
          refine go_istore_n (L' := [_, _, _, _]) dX9_isOld_33 rfl (by decide) rfl ?_
          refine go_inc (L' := [_, _, _, _]) dX9_isOld_34 rfl (by decide) rfl ?_
          refine go_goto (tgt := 4) dX9_isOld_37 (by decide) ?_
          refine go_eqL ?_ (ih (k + 1) (by omega))
          rw [oldB]
          first | (rw [hb]; rfl) | (rw [hb]; simp [he, bI]; rfl)
theorem run_mOld (d : Nat) {v : Nat} {h : gH} {c : CD} {s' u' : Nat} {r0 r1 r2 r3 r4 sn rn : Int32} (hw : CW c) (hv : v < 2 ^ 31) (h7 : h 147 = mS c s' u' r0 r1 r2 r3 r4 sn rn) (h3 : M3 h c) : Run d yX9_isOld cX9_isOld 4 (some .boolean) [.ref 147, .int (nI v)] h 163 0 0 (fun r h' N' => r = some (.int (bI (oldB c.2.1 v (oK c.2.2.1)))) ∧ h' = h ∧ N' = 163) := by
  obtain ⟨F4, F5, F6, q4, q5, q6, -, ho⟩ := h3
  refine Run.of (ini := false) (L := [_, _, _, _]) mX9_isOld (fun h => by cases h) rfl (Nat.le_of_ble_eq_true rfl) rfl ?_
  cases hq : c.2.2.1 with
  | none =>
    unfold mS at h7
    rw [hq] at h7
    refine go_iconst (v := nI 0) dX9_isOld_0 (by decide) ?_
    refine go_istore_n (L' := [_, _, _, _]) dX9_isOld_1 rfl (by decide) rfl ?_
    refine go_iconst (v := nI 0) dX9_isOld_2 (by decide) ?_
    refine go_istore_n (L' := [_, _, _, _]) dX9_isOld_3 rfl (by decide) rfl ?_
    refine go_iload_n dX9_isOld_4 rfl ?_
    refine go_iconst (v := nI 1) dX9_isOld_5 (by decide) ?_
    refine go_iadd dX9_isOld_6 ?_
    refine go_aload_n dX9_isOld_7 rfl ?_
    refine go_get dX9_isOld_8 fX9_119 (by omega) h7 rfl ?_
    refine go_icmp_ge (tgt := 40) dX9_isOld_11 (by decide) (fun c_11 => ?_) (fun c_11 => ?_)
    · skip
      refine go_iload_n dX9_isOld_40 rfl ?_
      refine go_zret dX9_isOld_41 rfl (by first | exact Or.inl rfl | exact Or.inr rfl | exact bI01 _) ?_
      exact ⟨rfl, rfl, rfl⟩
    · exact absurd (by decide) c_11
  | some o =>
    rw [hq] at ho
    refine go_iconst (v := nI 0) dX9_isOld_0 (by decide) ?_
    refine go_istore_n (L' := [_, _, _, _]) dX9_isOld_1 rfl (by decide) rfl ?_
    refine go_iconst (v := nI 0) dX9_isOld_2 (by decide) ?_
    refine go_istore_n (L' := [_, _, _, _]) dX9_isOld_3 rfl (by decide) rfl ?_
    exact mo_loop hw hv h7 q6 hq ho o 0 (by omega)
/-- what borders cost, if they do -/
noncomputable def feF (c : CD) (free : Bool) : Nat → Int64 := if free = true then fun _ => 0 else feeN c
theorem run_borderAt (d : Nat) {i : Nat} {h : gH} {c : CD} {s' u' : Nat} {r0 r1 r2 r3 r4 rn : Int32} (free : Bool) (hw : CW c) (h7 : h 147 = mS c s' u' r0 r1 r2 r3 r4 (nI (so c.1).1) rn) (h3 : M3 h c) (hM : Ms h c) (hi : i < (so c.1).1) : Run (d + 1) yX9_borderAt cX9_borderAt 3 (some .long) [.ref 147, .int (nI i), .int (bI free)] h 163 0 0 (fun v h' N' => v = some (.long (feF c free i)) ∧ h' = h ∧ N' = 163) := by
  obtain ⟨FS, FW, f1, f2, f3⟩ := id hM
  have h24 := so_24 hw.2.1
  have hA := so_le hw.1 i hi
  have hc := hw.2.2.2.2.2
  refine Run.of (ini := false) (L := [_, _, _]) mX9_borderAt (fun h => by cases h) rfl (Nat.le_of_ble_eq_true rfl) rfl ?_
  cases free with
  | true =>
    refine go_iload_n dX9_borderAt_0 rfl ?_
    refine go_if_ne (tgt := 24) dX9_borderAt_1 (by decide) (fun c_1 => ?_) (fun c_1 => ?_)
    · skip
      refine go_lconst (v := lN 0) dX9_borderAt_24 rfl ?_
      refine go_goto (tgt := 37) dX9_borderAt_25 (by decide) ?_
      refine go_lret dX9_borderAt_37 rfl ?_
      exact ⟨rfl, rfl, rfl⟩
    · exact absurd (by decide) c_1
  | false =>
    cases hq : c.2.2.1 with
    | none =>
      unfold mS at h7
      rw [hq] at h7
      refine go_iload_n dX9_borderAt_0 rfl ?_
      refine go_if_ne (tgt := 24) dX9_borderAt_1 (by decide) (fun c_1 => ?_) (fun c_1 => ?_)
      · exact absurd rfl c_1
      · skip
        refine go_aload_n dX9_borderAt_4 rfl ?_
        refine go_get dX9_borderAt_5 fX9_119 (by omega) h7 rfl ?_
        refine go_if_eq (tgt := 24) dX9_borderAt_8 (by decide) (fun c_8 => ?_) (fun c_8 => ?_)
        · skip
          refine go_lconst (v := lN 0) dX9_borderAt_24 rfl ?_
          refine go_goto (tgt := 37) dX9_borderAt_25 (by decide) ?_
          refine go_lret dX9_borderAt_37 rfl ?_
          exact ⟨by show _ = some (Value.long (feeC c _)); rw [feeC, if_pos hq]; rfl, rfl, rfl⟩
        · exact absurd rfl c_8
    | some o =>
      have h7' := h7
      unfold mS at h7'
      rw [hq] at h7'
      have ho5 := hw.2.2.1 o hq
      refine go_iload_n dX9_borderAt_0 rfl ?_
      refine go_if_ne (tgt := 24) dX9_borderAt_1 (by decide) (fun c_1 => ?_) (fun c_1 => ?_)
      · exact absurd rfl c_1
      · skip
        refine go_aload_n dX9_borderAt_4 rfl ?_
        refine go_get dX9_borderAt_5 fX9_119 (by omega) h7' rfl ?_
        refine go_if_eq (tgt := 24) dX9_borderAt_8 (by decide) (fun c_8 => ?_) (fun c_8 => ?_)
        · exact absurd c_8 (show ¬ nI (o + 1) = 0 from nI_ne0 (by omega) (by omega))
        · skip
          refine go_aload_n dX9_borderAt_11 rfl ?_
          refine go_aload_n dX9_borderAt_12 rfl ?_
          refine go_get dX9_borderAt_13 fX9_38 (by omega) h7' rfl ?_
          refine go_iload_n dX9_borderAt_16 rfl ?_
          refine go_iald dX9_borderAt_17 (by omega) f1 rfl (by omega) (by omega) ?_
          refine go_top (y := .int (nI ((so c.1).2.1 i))) (by rw [(f3 i hi).1]) ?_
          refine go_iv dX9_borderAt_18 mX9_isOld iX9_147 (run_mOld d hw (by omega) h7 h3) rfl rfl (by omega) h7 rfl (Nat.le_of_ble_eq_true rfl) (Nat.zero_le _) (Nat.zero_le _) (fun v_18 h_18 n_18 q_18 => ?_)
          obtain ⟨rfl, rfl, rfl⟩ := q_18
          refine go_if_eq (tgt := 28) dX9_borderAt_21 (by decide) (fun c_21 => ?_) (fun c_21 => ?_)
          · skip
            have hb : oldB c.2.1 ((so c.1).2.1 i) (oK c.2.2.1) = false := bI_eq.mp c_21
            refine go_aload_n dX9_borderAt_28 rfl ?_
            refine go_get dX9_borderAt_29 fX9_116 (by omega) h7 rfl ?_
            refine go_i2l dX9_borderAt_32 rfl ?_
            refine go_ldc2 dX9_borderAt_33 kX9_145 ?_
            refine go_lmul dX9_borderAt_36 ?_
            refine go_lret dX9_borderAt_37 rfl ?_
            refine ⟨?_, rfl, rfl⟩
            show _ = some (Value.long (feeC c ((so c.1).2.1 i)))
            rw [feeC, if_neg (by rw [hq]; simp), hb]
            first | rw [if_neg (by decide), nI_l (by omega)] | (rw [if_pos rfl]; rfl)
          · skip
            have hb : oldB c.2.1 ((so c.1).2.1 i) (oK c.2.2.1) = true := bI_ne.mp c_21
            refine go_lconst (v := lN 0) dX9_borderAt_24 rfl ?_
            refine go_goto (tgt := 37) dX9_borderAt_25 (by decide) ?_
            refine go_lret dX9_borderAt_37 rfl ?_
            refine ⟨?_, rfl, rfl⟩
            show _ = some (Value.long (feeC c ((so c.1).2.1 i)))
            rw [feeC, if_neg (by rw [hq]; simp), hb]
            first | rw [if_neg (by decide), nI_l (by omega)] | (rw [if_pos rfl]; rfl)
