/-! ===== readsBack, notes ===== -/
set_option maxRecDepth 100000 in
theorem rb_loop1 {d t z p : Nat} {h0 : gH} {G : Nat → Int32} {Q : Option Value → gH → Nat → Prop} (ht : 151 < t) (ht2 : t < 163) (hp : p + 57 ≤ z) (hz : z < 1000) {a k e s r0 r1 r2 r3 r4 u sn rn m : Int32} (h7 : h0 147 = mo m a k e s r0 r1 r2 r3 r4 u sn rn) (hG : h0 t = iA z G)
    (hq : ∀ (h : gH) (F6 : Nat → Int32), h 150 = iA 5 F6 → (∀ i, i < 5 → F6 i = G (p + 4 + i)) → Fr 150 151 h0 h → Go none RX9 cX9_readsBack 4 none false d 62 [some (.ref 147), some (.ref t), some (.int (nI p)), some (.int (nI 0))] [] h 163 0 0 Q) :
    ∀ (n i : Nat) (h : gH) (F6 : Nat → Int32), i + n = 5 → h 150 = iA 5 F6 → (∀ j, j < i → F6 j = G (p + 4 + j)) → Fr 150 151 h0 h → Go none RX9 cX9_readsBack 4 none false d 36 [some (.ref 147), some (.ref t), some (.int (nI p)), some (.int (nI i))] [] h 163 0 0 Q := by
  intro n
  induction n with
  | zero =>
    intro i h F6 hi h1 h2 hF
    refine go_iload_n dX9_readsBack_36 rfl ?_
    refine go_iconst (v := nI 5) dX9_readsBack_37 (by decide) ?_
    refine go_icmp_ge (tgt := 60) dX9_readsBack_38 (by decide) (fun c_38 => ?_) (fun c_38 => ?_)
    · skip
      refine go_iconst (v := nI 0) dX9_readsBack_60 (by decide) ?_
      refine go_istore_n (L' := [_, _, _, _]) dX9_readsBack_61 rfl (by decide) rfl ?_
      exact hq h F6 h1 (fun j hj => h2 j (by omega)) hF
    · exact absurd (nI_le (by omega) (by omega)) c_38
  | succ n ih =>
    intro i h F6 hi h1 h2 hF
    refine go_iload_n dX9_readsBack_36 rfl ?_
    refine go_iconst (v := nI 5) dX9_readsBack_37 (by decide) ?_
    refine go_icmp_ge (tgt := 60) dX9_readsBack_38 (by decide) (fun c_38 => ?_) (fun c_38 => ?_)
    · exact absurd c_38 (nI_ge (by omega) (by omega))
    · skip
      refine go_aload_n dX9_readsBack_41 rfl ?_
      refine go_get dX9_readsBack_42 fX9_20 (by omega) ((hF _ (by omega)).trans h7) rfl ?_
      refine go_iload_n dX9_readsBack_45 rfl ?_
      refine go_aload_n dX9_readsBack_46 rfl ?_
      refine go_iload_n dX9_readsBack_47 rfl ?_
      refine go_iconst (v := nI 4) dX9_readsBack_48 (by decide) ?_
      refine go_iadd dX9_readsBack_49 ?_
      refine go_iload_n dX9_readsBack_50 rfl ?_
      refine go_iadd dX9_readsBack_51 ?_
      refine go_top (y := .int (nI (p + 4 + i))) (by rw [nI_add, nI_add]) ?_
      refine go_iald dX9_readsBack_52 (by omega) ((hF _ (by omega)).trans hG) rfl (by omega) (by omega) ?_
      refine go_iast dX9_readsBack_53 (by omega) h1 rfl (by omega) (by omega) ?_
      refine go_inc (L' := [_, _, _, _]) dX9_readsBack_54 rfl (by decide) rfl ?_
      refine go_goto (tgt := 36) dX9_readsBack_57 (by decide) ?_
      refine ih (i + 1) _ _ (by omega) hset_same (fun j hj => ?_) (hF.set (by omega) (by omega))
      by_cases q : j = i
      · subst q; rw [pk_us]
      · rw [pk_un (by omega)]; exact h2 j (by omega)
set_option maxRecDepth 100000 in
theorem rb_loop2 {d t z p : Nat} {h0 : gH} {G : Nat → Int32} {Q : Option Value → gH → Nat → Prop} (ht : 151 < t) (ht2 : t < 163) (hp : p + 57 ≤ z) (hz : z < 1000) {a k e s r0 r1 r2 r3 r4 u sn rn m : Int32} (h7 : h0 147 = mo m a k e s r0 r1 r2 r3 r4 u sn rn) (hG : h0 t = iA z G)
    (hq : ∀ (h : gH) (F4 F5 : Nat → Int32), h 148 = iA 24 F4 → h 149 = iA 24 F5 → (∀ i, i < 24 → F4 i = G (p + 9 + i) ∧ F5 i = G (p + 33 + i)) → Fr 148 150 h0 h → Q none h 163) :
    ∀ (n i : Nat) (h : gH) (F4 F5 : Nat → Int32), i + n = 24 → h 148 = iA 24 F4 → h 149 = iA 24 F5 → (∀ j, j < i → F4 j = G (p + 9 + j) ∧ F5 j = G (p + 33 + j)) → Fr 148 150 h0 h → Go none RX9 cX9_readsBack 4 none false d 62 [some (.ref 147), some (.ref t), some (.int (nI p)), some (.int (nI i))] [] h 163 0 0 Q := by
  intro n
  induction n with
  | zero =>
    intro i h F4 F5 hi h1 h2 h3 hF
    refine go_iload_n dX9_readsBack_62 rfl ?_
    refine go_bipush (v := nI 24) dX9_readsBack_63 (by decide) ?_
    refine go_icmp_ge (tgt := 102) dX9_readsBack_65 (by decide) (fun c_65 => ?_) (fun c_65 => ?_)
    · skip
      refine go_vret dX9_readsBack_102 rfl ?_
      exact hq h F4 F5 h1 h2 (fun j hj => h3 j (by omega)) hF
    · exact absurd (nI_le (by omega) (by omega)) c_65
  | succ n ih =>
    intro i h F4 F5 hi h1 h2 h3 hF
    refine go_iload_n dX9_readsBack_62 rfl ?_
    refine go_bipush (v := nI 24) dX9_readsBack_63 (by decide) ?_
    refine go_icmp_ge (tgt := 102) dX9_readsBack_65 (by decide) (fun c_65 => ?_) (fun c_65 => ?_)
    · exact absurd c_65 (nI_ge (by omega) (by omega))
    · skip
      refine go_aload_n dX9_readsBack_68 rfl ?_
      refine go_get dX9_readsBack_69 fX9_13 (by omega) ((hF _ (by omega)).trans h7) rfl ?_
      refine go_iload_n dX9_readsBack_72 rfl ?_
      refine go_aload_n dX9_readsBack_73 rfl ?_
      refine go_iload_n dX9_readsBack_74 rfl ?_
      refine go_bipush (v := nI 9) dX9_readsBack_75 (by decide) ?_
      refine go_iadd dX9_readsBack_77 ?_
      refine go_iload_n dX9_readsBack_78 rfl ?_
      refine go_iadd dX9_readsBack_79 ?_
      refine go_top (y := .int (nI (p + 9 + i))) (by rw [nI_add, nI_add]) ?_
      refine go_iald dX9_readsBack_80 (by omega) ((hF _ (by omega)).trans hG) rfl (by omega) (by omega) ?_
      refine go_iast dX9_readsBack_81 (by omega) h1 rfl (by omega) (by omega) ?_
      refine go_aload_n dX9_readsBack_82 rfl ?_
      refine go_get dX9_readsBack_83 fX9_17 (by omega) ((hset_ne (by omega)).trans ((hF _ (by omega)).trans h7)) rfl ?_
      refine go_iload_n dX9_readsBack_86 rfl ?_
      refine go_aload_n dX9_readsBack_87 rfl ?_
      refine go_iload_n dX9_readsBack_88 rfl ?_
      refine go_bipush (v := nI 33) dX9_readsBack_89 (by decide) ?_
      refine go_iadd dX9_readsBack_91 ?_
      refine go_iload_n dX9_readsBack_92 rfl ?_
      refine go_iadd dX9_readsBack_93 ?_
      refine go_top (y := .int (nI (p + 33 + i))) (by rw [nI_add, nI_add]) ?_
      refine go_iald dX9_readsBack_94 (by omega) ((hset_ne (by omega)).trans ((hF _ (by omega)).trans hG)) rfl (by omega) (by omega) ?_
      refine go_iast dX9_readsBack_95 (by omega) ((hset_ne (by omega)).trans h2) rfl (by omega) (by omega) ?_
      refine go_inc (L' := [_, _, _, _]) dX9_readsBack_96 rfl (by decide) rfl ?_
      refine go_goto (tgt := 62) dX9_readsBack_99 (by decide) ?_
      refine ih (i + 1) _ _ _ (by omega) ((hset_ne (by omega)).trans hset_same) hset_same (fun j hj => ?_) ((hF.set (by omega) (by omega)).set (by omega) (by omega))
      by_cases q : j = i
      · subst q; rw [pk_us, pk_us]; exact ⟨rfl, rfl⟩
      · rw [pk_un (by omega), pk_un (by omega)]; exact h3 j (by omega)
set_option maxRecDepth 100000 in
theorem run_readsBack (d : Nat) {t z p : Nat} {h : gH} {c c' : CD} {G : Nat → Int32} {s' u' : Nat} (hw : CW c') (ht : 151 < t) (ht2 : t < 163) (hp : p + 57 ≤ z) (hz : z < 1000) {r0 r1 r2 r3 r4 sn rn : Int32} (h7 : h 147 = mS c s' u' r0 r1 r2 r3 r4 sn rn) (h3 : M3 h c) (hG : h t = iA z G) (hN : NA G p c') : Run d yX9_readsBack cX9_readsBack 4 none [.ref 147, .ref t, .int (nI p)] h 163 0 0 (fun v h' N' => v = none ∧ N' = 163 ∧ h' 147 = mS c' s' u' r0 r1 r2 r3 r4 sn rn ∧ M3 h' c' ∧ Fr 147 151 h h') := by
  obtain ⟨F4, F5, F6, h4, h5, h6, -⟩ := h3
  obtain ⟨g1, g2, g3, g4, ⟨w, v, hE, hEw⟩, ho⟩ := hN
  have h24 := hw.2.1
  have h5o : oK c'.2.2.1 ≤ 5 := by
    cases hq : c'.2.2.1 with
    | none => simp [oK]
    | some o => have := hw.2.2.1 o hq; simpa [oK] using this
  refine Run.of (ini := false) (L := [_, _, _, _]) mX9_readsBack (fun h => by cases h) rfl (Nat.le_of_ble_eq_true rfl) rfl ?_
  refine go_aload_n dX9_readsBack_0 rfl ?_
  refine go_aload_n dX9_readsBack_1 rfl ?_
  refine go_iload_n dX9_readsBack_2 rfl ?_
  refine go_iald dX9_readsBack_3 (by omega) hG rfl (by omega) (by omega) ?_
  refine go_top (y := .int (nI (cP c'.1 100))) (by rw [g1]) ?_
  refine go_put (fs' := [_, _, _, _, _, _, _, _, _, _, _, _, _, _, _, _, _, _, _, _, _, _, _, _, _, _, _, _]) dX9_readsBack_4 fX9_60 (by omega) h7 (Nat.le_of_ble_eq_true rfl) (Or.inl rfl) ⟨_, _, _, rfl, Or.inl rfl⟩ rfl ?_
  refine go_aload_n dX9_readsBack_7 rfl ?_
  refine go_aload_n dX9_readsBack_8 rfl ?_
  refine go_iload_n dX9_readsBack_9 rfl ?_
  refine go_iconst (v := nI 1) dX9_readsBack_10 (by decide) ?_
  refine go_iadd dX9_readsBack_11 ?_
  refine go_top (y := .int (nI (p + 1))) (by rw [nI_add]) ?_
  refine go_iald dX9_readsBack_12 (by omega) ((hset_ne (by omega)).trans hG) rfl (by omega) (by omega) ?_
  refine go_top (y := .int (nI c'.2.2.2.1)) (by rw [g2]) ?_
  refine go_put (fs' := [_, _, _, _, _, _, _, _, _, _, _, _, _, _, _, _, _, _, _, _, _, _, _, _, _, _, _, _]) dX9_readsBack_13 fX9_7 (by omega) hset_same (Nat.le_of_ble_eq_true rfl) (Or.inl rfl) ⟨_, _, _, rfl, Or.inl rfl⟩ rfl ?_
  refine go_aload_n dX9_readsBack_16 rfl ?_
  refine go_aload_n dX9_readsBack_17 rfl ?_
  refine go_iload_n dX9_readsBack_18 rfl ?_
  refine go_iconst (v := nI 2) dX9_readsBack_19 (by decide) ?_
  refine go_iadd dX9_readsBack_20 ?_
  refine go_top (y := .int (nI (p + 2))) (by rw [nI_add]) ?_
  refine go_iald dX9_readsBack_21 (by omega) ((hset_ne (by omega)).trans ((hset_ne (by omega)).trans hG)) rfl (by omega) (by omega) ?_
  refine go_top (y := .int (nI c'.2.2.2.2)) (by rw [g3]) ?_
  refine go_put (fs' := [_, _, _, _, _, _, _, _, _, _, _, _, _, _, _, _, _, _, _, _, _, _, _, _, _, _, _, _]) dX9_readsBack_22 fX9_116 (by omega) hset_same (Nat.le_of_ble_eq_true rfl) (Or.inl rfl) ⟨_, _, _, rfl, Or.inl rfl⟩ rfl ?_
  refine go_aload_n dX9_readsBack_25 rfl ?_
  refine go_aload_n dX9_readsBack_26 rfl ?_
  refine go_iload_n dX9_readsBack_27 rfl ?_
  refine go_iconst (v := nI 3) dX9_readsBack_28 (by decide) ?_
  refine go_iadd dX9_readsBack_29 ?_
  refine go_top (y := .int (nI (p + 3))) (by rw [nI_add]) ?_
  refine go_iald dX9_readsBack_30 (by omega) ((hset_ne (by omega)).trans ((hset_ne (by omega)).trans ((hset_ne (by omega)).trans hG))) rfl (by omega) (by omega) ?_
  refine go_top (y := .int (dI c'.2.2.1)) (by rw [g4]) ?_
  refine go_put (fs' := [_, _, _, _, _, _, _, _, _, _, _, _, _, _, _, _, _, _, _, _, _, _, _, _, _, _, _, _]) dX9_readsBack_31 fX9_119 (by omega) hset_same (Nat.le_of_ble_eq_true rfl) (Or.inl rfl) ⟨_, _, _, rfl, Or.inl rfl⟩ rfl ?_
  rw [hset_hset, hset_hset, hset_hset]
  refine go_iconst (v := nI 0) dX9_readsBack_34 (by decide) ?_
  refine go_istore_n (L' := [_, _, _, _]) dX9_readsBack_35 rfl (by decide) rfl ?_
  generalize hh : hset h 147 _ = h1
  have k7 : h1 147 = mS c' s' u' r0 r1 r2 r3 r4 sn rn := by rw [← hh]; exact hset_same
  have kF : Fr 147 151 h h1 := by rw [← hh]; exact Fr.rf.set (by omega) (by omega)
  have kk : ∀ x, x ≠ 147 → h1 x = h x := fun x hx => by rw [← hh]; exact hset_ne hx
  refine rb_loop1 ht ht2 hp hz k7 ((kk t (by omega)).trans hG) (fun h2 F6' a1 a2 a3 => ?_) 5 0 h1 F6 (by omega) ((kk _ (by omega)).trans h6) (fun j hj => absurd hj (by omega)) Fr.rf
  refine rb_loop2 ht ht2 hp hz ((a3 _ (by omega)).trans k7) ((a3 t (by omega)).trans ((kk t (by omega)).trans hG)) (fun h3 F4' F5' b1 b2 b3 b4 => ?_) 24 0 h2 F4 F5 (by omega) ((a3 _ (by omega)).trans ((kk _ (by omega)).trans h4)) ((a3 _ (by omega)).trans ((kk _ (by omega)).trans h5)) (fun j hj => absurd hj (by omega)) Fr.rf
  refine ⟨rfl, rfl, (b4 _ (by omega)).trans ((a3 _ (by omega)).trans k7), ⟨F4', F5', F6', b1, b2, (b4 _ (by omega)).trans a1, ⟨w, v, hE, fun i hi => ⟨?_, ?_⟩⟩, fun i hi => ?_⟩, (kF.trans (a3.wide (by omega) (by omega))).trans (b4.wide (by omega) (by omega))⟩
  · rw [(b3 i (by omega)).1]; exact (hEw i hi).1
  · rw [(b3 i (by omega)).2]; exact (hEw i hi).2
  · rw [a2 i (by omega)]; exact ho i hi
theorem NA.cong {G G' : Nat → Int32} {p p' : Nat} {c : CD} (hw : CW c) (q : NA G p c) (h : ∀ i, i < 57 → G' (p' + i) = G (p + i)) : NA G' p' c := by
  obtain ⟨g1, g2, g3, g4, ⟨w, v, hE, hEw⟩, ho⟩ := q
  have h24 := hw.2.1
  have h5o : oK c.2.2.1 ≤ 5 := by
    cases hq : c.2.2.1 with
    | none => simp [oK]
    | some o => have := hw.2.2.1 o hq; simpa [oK] using this
  refine ⟨(h 0 (by omega)).trans g1, (h 1 (by omega)).trans g2, (h 2 (by omega)).trans g3, (h 3 (by omega)).trans g4, ⟨w, v, hE, fun i hi => ⟨?_, ?_⟩⟩, fun i hi => ?_⟩
  · have := h (9 + i) (by omega)
    rw [← Nat.add_assoc, ← Nat.add_assoc] at this
    exact this.trans (hEw i hi).1
  · have := h (33 + i) (by omega)
    rw [← Nat.add_assoc, ← Nat.add_assoc] at this
    exact this.trans (hEw i hi).2
  · have := h (4 + i) (by omega)
    rw [← Nat.add_assoc, ← Nat.add_assoc] at this
    exact this.trans (ho i hi)
set_option maxRecDepth 100000 in
theorem nt_loop {d : Nat} {h0 : gH} {G0 : Nat → Int32} {Q : Option Value → gH → Nat → Prop} {a k e s r0 r1 r2 r3 r4 u sn rn m : Int32} (h7 : h0 147 = mo m a k e s r0 r1 r2 r3 r4 u sn rn)
    (hq : ∀ (G : Nat → Int32) (w : Option Value), (∀ i, i < 513 → G i = G0 (i + 57)) → Go none RX9 cX9_notes 2 none false d 39 [some (.ref 147), w] [] (hset h0 154 (iA 570 G)) 163 0 0 Q) :
    ∀ (n i : Nat) (G : Nat → Int32), i + n = 513 → (∀ j, j < i → G j = G0 (j + 57)) → (∀ j, i ≤ j → G j = G0 j) → Go none RX9 cX9_notes 2 none false d 11 [some (.ref 147), some (.int (nI i))] [] (hset h0 154 (iA 570 G)) 163 0 0 Q := by
  intro n
  induction n with
  | zero =>
    intro i G hi h1 h2
    refine go_iload_n dX9_notes_11 rfl ?_
    refine go_sipush (v := nI 513) dX9_notes_12 (by decide) ?_
    refine go_icmp_ge (tgt := 39) dX9_notes_15 (by decide) (fun c_15 => ?_) (fun c_15 => ?_)
    · skip
      exact hq G _ (fun j hj => h1 j (by omega))
    · exact absurd (nI_le (by omega) (by omega)) c_15
  | succ n ih =>
    intro i G hi h1 h2
    refine go_iload_n dX9_notes_11 rfl ?_
    refine go_sipush (v := nI 513) dX9_notes_12 (by decide) ?_
    refine go_icmp_ge (tgt := 39) dX9_notes_15 (by decide) (fun c_15 => ?_) (fun c_15 => ?_)
    · exact absurd c_15 (nI_ge (by omega) (by omega))
    · skip
      refine go_aload_n dX9_notes_18 rfl ?_
      refine go_get dX9_notes_19 fX9_32 (by omega) ((hset_ne (by omega)).trans h7) rfl ?_
      refine go_iload_n dX9_notes_22 rfl ?_
      refine go_aload_n dX9_notes_23 rfl ?_
      refine go_get dX9_notes_24 fX9_32 (by omega) ((hset_ne (by omega)).trans h7) rfl ?_
      refine go_iload_n dX9_notes_27 rfl ?_
      refine go_bipush (v := nI 57) dX9_notes_28 (by decide) ?_
      refine go_iadd dX9_notes_30 ?_
      refine go_top (y := .int (nI (i + 57))) (by rw [nI_add]) ?_
      refine go_iald dX9_notes_31 (by omega) hset_same rfl (by omega) (by omega) ?_
      refine go_iast dX9_notes_32 (by omega) hset_same rfl (by omega) (by omega) ?_
      rw [hset_hset]
      refine go_inc (L' := [_, _]) dX9_notes_33 rfl (by decide) rfl ?_
      refine go_goto (tgt := 11) dX9_notes_36 (by decide) ?_
      refine ih (i + 1) _ (by omega) (fun j hj => ?_) (fun j hj => ?_)
      · by_cases q : j = i
        · subst q; rw [pk_us]; exact h2 _ (by omega)
        · rw [pk_un q]; exact h1 j (by omega)
      · rw [pk_un (by omega)]; exact h2 j (by omega)
