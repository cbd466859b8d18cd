/-! ===== writes, readsBack, notes ===== -/
/-- cell t holds the array G of z ints -/
abbrev iA (z : Nat) (G : Nat → Int32) : gC := .inl (0, z, .inl G)
set_option maxRecDepth 100000 in
theorem wr_loop2 {d t z p : Nat} {h0 : gH} {c : CD} {F4 F5 : Nat → Int32} {o : gC} {Q : Option Value → gH → Nat → Prop} (ht : 151 < t) (ht2 : t < 163) (hp : p + 57 ≤ z) (hz : z < 1000) {a k e s r0 r1 r2 r3 r4 u sn rn m : Int32} (h7 : h0 147 = mo m a k e s r0 r1 r2 r3 r4 u sn rn) (h4 : h0 148 = iA 24 F4) (h5 : h0 149 = iA 24 F5) {G0 : Nat → Int32}
    (hq : ∀ G : Nat → Int32, (∀ j, j < p + 9 ∨ p + 57 ≤ j → G j = G0 j) → (∀ i, i < 24 → G (p + 9 + i) = F4 i ∧ G (p + 33 + i) = F5 i) → Q none (hset h0 t (iA z G)) 163) :
    ∀ (n i : Nat) (G : Nat → Int32), i + n = 24 → (∀ j, j < p + 9 ∨ p + 57 ≤ j → G j = G0 j) → (∀ j, j < i → G (p + 9 + j) = F4 j ∧ G (p + 33 + j) = F5 j) → Go none RX9 cX9_writes 4 none false d 62 [some (.ref 147), some (.ref t), some (.int (nI p)), some (.int (nI i))] [] (hset h0 t (iA z G)) 163 0 0 Q := by
  intro n
  induction n with
  | zero =>
    intro i G hi h1 h2
    refine go_iload_n dX9_writes_62 rfl ?_
    refine go_bipush (v := nI 24) dX9_writes_63 (by decide) ?_
    refine go_icmp_ge (tgt := 102) dX9_writes_65 (by decide) (fun c_65 => ?_) (fun c_65 => ?_)
    · skip
      refine go_vret dX9_writes_102 rfl ?_
      exact hq G h1 (fun j hj => h2 j (by omega))
    · exact absurd (nI_le (by omega) (by omega)) c_65
  | succ n ih =>
    intro i G hi h1 h2
    refine go_iload_n dX9_writes_62 rfl ?_
    refine go_bipush (v := nI 24) dX9_writes_63 (by decide) ?_
    refine go_icmp_ge (tgt := 102) dX9_writes_65 (by decide) (fun c_65 => ?_) (fun c_65 => ?_)
    · exact absurd c_65 (nI_ge (by omega) (by omega))
    · skip
      refine go_aload_n dX9_writes_68 rfl ?_
      refine go_iload_n dX9_writes_69 rfl ?_
      refine go_bipush (v := nI 9) dX9_writes_70 (by decide) ?_
      refine go_iadd dX9_writes_72 ?_
      refine go_iload_n dX9_writes_73 rfl ?_
      refine go_iadd dX9_writes_74 ?_
      refine go_top (y := .int (nI (p + 9 + i))) (by rw [nI_add, nI_add]) ?_
      refine go_aload_n dX9_writes_75 rfl ?_
      refine go_get dX9_writes_76 fX9_13 (by omega) ((hset_ne (by omega)).trans h7) rfl ?_
      refine go_iload_n dX9_writes_79 rfl ?_
      refine go_iald dX9_writes_80 (by omega) ((hset_ne (by omega)).trans h4) rfl (by omega) (by omega) ?_
      refine go_iast dX9_writes_81 (by omega) hset_same rfl (by omega) (by omega) ?_
      rw [hset_hset]
      refine go_aload_n dX9_writes_82 rfl ?_
      refine go_iload_n dX9_writes_83 rfl ?_
      refine go_bipush (v := nI 33) dX9_writes_84 (by decide) ?_
      refine go_iadd dX9_writes_86 ?_
      refine go_iload_n dX9_writes_87 rfl ?_
      refine go_iadd dX9_writes_88 ?_
      refine go_top (y := .int (nI (p + 33 + i))) (by rw [nI_add, nI_add]) ?_
      refine go_aload_n dX9_writes_89 rfl ?_
      refine go_get dX9_writes_90 fX9_17 (by omega) ((hset_ne (by omega)).trans h7) rfl ?_
      refine go_iload_n dX9_writes_93 rfl ?_
      refine go_iald dX9_writes_94 (by omega) ((hset_ne (by omega)).trans h5) rfl (by omega) (by omega) ?_
      refine go_iast dX9_writes_95 (by omega) hset_same rfl (by omega) (by omega) ?_
      rw [hset_hset]
      refine go_inc (L' := [_, _, _, _]) dX9_writes_96 rfl (by decide) rfl ?_
      refine go_goto (tgt := 62) dX9_writes_99 (by decide) ?_
      refine ih (i + 1) _ (by omega) (fun j hj => ?_) (fun j hj => ⟨?_, ?_⟩)
      · rw [pk_un (by omega), pk_un (by omega)]; exact h1 j hj
      · by_cases q : j = i
        · subst q; rw [pk_un (by omega), pk_us]
        · rw [pk_un (by omega), pk_un (by omega)]; exact (h2 j (by omega)).1
      · by_cases q : j = i
        · subst q; rw [pk_us]
        · rw [pk_un (by omega), pk_un (by omega)]; exact (h2 j (by omega)).2
set_option maxRecDepth 100000 in
theorem wr_loop1 {d t z p : Nat} {h0 : gH} {c : CD} {F6 : Nat → Int32} {Q : Option Value → gH → Nat → Prop} (ht : 151 < t) (ht2 : t < 163) (hp : p + 57 ≤ z) (hz : z < 1000) {a k e s r0 r1 r2 r3 r4 u sn rn m : Int32} (h7 : h0 147 = mo m a k e s r0 r1 r2 r3 r4 u sn rn) (h6 : h0 150 = iA 5 F6) {G0 : Nat → Int32}
    (hq : ∀ G : Nat → Int32, (∀ j, j < p + 4 ∨ p + 9 ≤ j → G j = G0 j) → (∀ i, i < 5 → G (p + 4 + i) = F6 i) → Go none RX9 cX9_writes 4 none false d 62 [some (.ref 147), some (.ref t), some (.int (nI p)), some (.int (nI 0))] [] (hset h0 t (iA z G)) 163 0 0 Q) :
    ∀ (n i : Nat) (G : Nat → Int32), i + n = 5 → (∀ j, j < p + 4 ∨ p + 9 ≤ j → G j = G0 j) → (∀ j, j < i → G (p + 4 + j) = F6 j) → Go none RX9 cX9_writes 4 none false d 36 [some (.ref 147), some (.ref t), some (.int (nI p)), some (.int (nI i))] [] (hset h0 t (iA z G)) 163 0 0 Q := by
  intro n
  induction n with
  | zero =>
    intro i G hi h1 h2
    refine go_iload_n dX9_writes_36 rfl ?_
    refine go_iconst (v := nI 5) dX9_writes_37 (by decide) ?_
    refine go_icmp_ge (tgt := 60) dX9_writes_38 (by decide) (fun c_38 => ?_) (fun c_38 => ?_)
    · skip
      refine go_iconst (v := nI 0) dX9_writes_60 (by decide) ?_
      refine go_istore_n (L' := [_, _, _, _]) dX9_writes_61 rfl (by decide) rfl ?_
      exact hq G h1 (fun j hj => h2 j (by omega))
    · exact absurd (nI_le (by omega) (by omega)) c_38
  | succ n ih =>
    intro i G hi h1 h2
    refine go_iload_n dX9_writes_36 rfl ?_
    refine go_iconst (v := nI 5) dX9_writes_37 (by decide) ?_
    refine go_icmp_ge (tgt := 60) dX9_writes_38 (by decide) (fun c_38 => ?_) (fun c_38 => ?_)
    · exact absurd c_38 (nI_ge (by omega) (by omega))
    · skip
      refine go_aload_n dX9_writes_41 rfl ?_
      refine go_iload_n dX9_writes_42 rfl ?_
      refine go_iconst (v := nI 4) dX9_writes_43 (by decide) ?_
      refine go_iadd dX9_writes_44 ?_
      refine go_iload_n dX9_writes_45 rfl ?_
      refine go_iadd dX9_writes_46 ?_
      refine go_top (y := .int (nI (p + 4 + i))) (by rw [nI_add, nI_add]) ?_
      refine go_aload_n dX9_writes_47 rfl ?_
      refine go_get dX9_writes_48 fX9_20 (by omega) ((hset_ne (by omega)).trans h7) rfl ?_
      refine go_iload_n dX9_writes_51 rfl ?_
      refine go_iald dX9_writes_52 (by omega) ((hset_ne (by omega)).trans h6) rfl (by omega) (by omega) ?_
      refine go_iast dX9_writes_53 (by omega) hset_same rfl (by omega) (by omega) ?_
      rw [hset_hset]
      refine go_inc (L' := [_, _, _, _]) dX9_writes_54 rfl (by decide) rfl ?_
      refine go_goto (tgt := 36) dX9_writes_57 (by decide) ?_
      refine ih (i + 1) _ (by omega) (fun j hj => ?_) (fun j hj => ?_)
      · rw [pk_un (by omega)]; exact h1 j hj
      · by_cases q : j = i
        · subst q; rw [pk_us]
        · rw [pk_un (by omega)]; exact h2 j (by omega)
set_option maxRecDepth 100000 in
theorem run_writes (d : Nat) {t z p : Nat} {h : gH} {c : CD} {G0 : Nat → Int32} {s' u' : Nat} (hw : CW c) (ht : 151 < t) (ht2 : t < 163) (hp : p + 57 ≤ z) (hz : z < 1000) {r0 r1 r2 r3 r4 sn rn : Int32} (h7 : h 147 = mS c s' u' r0 r1 r2 r3 r4 sn rn) (h3 : M3 h c) (hG : h t = iA z G0) : Run d yX9_writes cX9_writes 4 none [.ref 147, .ref t, .int (nI p)] h 163 0 0 (fun v h' N' => v = none ∧ N' = 163 ∧ ∃ G, h' = hset h t (iA z G) ∧ NA G p c ∧ ∀ j, j < p ∨ p + 57 ≤ j → G j = G0 j) := by
  obtain ⟨F4, F5, F6, h4, h5, h6, ⟨w, v, hE, hEw⟩, ho⟩ := h3
  have h24 := hw.2.1
  have h5o : oK c.2.2.1 ≤ 5 := by
    cases hq : c.2.2.1 with
    | none => simp [oK]
    | some o => have := hw.2.2.1 o hq; simpa [oK] using this
  refine Run.of (ini := false) (L := [_, _, _, _]) mX9_writes (fun h => by cases h) rfl (Nat.le_of_ble_eq_true rfl) rfl ?_
  refine go_aload_n dX9_writes_0 rfl ?_
  refine go_iload_n dX9_writes_1 rfl ?_
  refine go_aload_n dX9_writes_2 rfl ?_
  refine go_get dX9_writes_3 fX9_60 (by omega) h7 rfl ?_
  refine go_iast dX9_writes_6 (by omega) hG rfl (by omega) (by omega) ?_
  refine go_aload_n dX9_writes_7 rfl ?_
  refine go_iload_n dX9_writes_8 rfl ?_
  refine go_iconst (v := nI 1) dX9_writes_9 (by decide) ?_
  refine go_iadd dX9_writes_10 ?_
  refine go_top (y := .int (nI (p + 1))) (by rw [nI_add]) ?_
  refine go_aload_n dX9_writes_11 rfl ?_
  refine go_get dX9_writes_12 fX9_7 (by omega) ((hset_ne (by omega)).trans h7) rfl ?_
  refine go_iast dX9_writes_15 (by omega) hset_same rfl (by omega) (by omega) ?_
  rw [hset_hset]
  refine go_aload_n dX9_writes_16 rfl ?_
  refine go_iload_n dX9_writes_17 rfl ?_
  refine go_iconst (v := nI 2) dX9_writes_18 (by decide) ?_
  refine go_iadd dX9_writes_19 ?_
  refine go_top (y := .int (nI (p + 2))) (by rw [nI_add]) ?_
  refine go_aload_n dX9_writes_20 rfl ?_
  refine go_get dX9_writes_21 fX9_116 (by omega) ((hset_ne (by omega)).trans h7) rfl ?_
  refine go_iast dX9_writes_24 (by omega) hset_same rfl (by omega) (by omega) ?_
  rw [hset_hset]
  refine go_aload_n dX9_writes_25 rfl ?_
  refine go_iload_n dX9_writes_26 rfl ?_
  refine go_iconst (v := nI 3) dX9_writes_27 (by decide) ?_
  refine go_iadd dX9_writes_28 ?_
  refine go_top (y := .int (nI (p + 3))) (by rw [nI_add]) ?_
  refine go_aload_n dX9_writes_29 rfl ?_
  refine go_get dX9_writes_30 fX9_119 (by omega) ((hset_ne (by omega)).trans h7) rfl ?_
  refine go_iast dX9_writes_33 (by omega) hset_same rfl (by omega) (by omega) ?_
  rw [hset_hset]
  refine go_iconst (v := nI 0) dX9_writes_34 (by decide) ?_
  refine go_istore_n (L' := [_, _, _, _]) dX9_writes_35 rfl (by decide) rfl ?_
  refine wr_loop1 (c := c) ht ht2 hp hz h7 h6 (fun G1 a1 a2 => ?_) 5 0 _ (by omega) (fun j hj => rfl) (fun j hj => absurd hj (by omega))
  refine wr_loop2 (c := c) (o := h 0) ht ht2 hp hz h7 h4 h5 (fun G2 b1 b2 => ?_) 24 0 _ (by omega) (fun j hj => rfl) (fun j hj => absurd hj (by omega))
  refine ⟨rfl, rfl, G2, rfl, ⟨?_, ?_, ?_, ?_, ⟨w, v, hE, fun i hi => ⟨?_, ?_⟩⟩, fun i hi => ?_⟩, fun j hj => ?_⟩
  · rw [b1 p (by omega), a1 p (by omega), pk_un (by omega), pk_un (by omega), pk_un (by omega), pk_us]
  · rw [b1 _ (by omega), a1 _ (by omega), pk_un (by omega), pk_un (by omega), pk_us]
  · rw [b1 _ (by omega), a1 _ (by omega), pk_un (by omega), pk_us]
  · rw [b1 _ (by omega), a1 _ (by omega), pk_us]
  · simp only; rw [(b2 i (by omega)).1]; exact (hEw i hi).1
  · simp only; rw [(b2 i (by omega)).2]; exact (hEw i hi).2
  · simp only; rw [b1 _ (by omega), a2 i (by omega)]; exact ho i hi
  · rw [b1 j (by omega), a1 j (by omega), pk_un (by omega), pk_un (by omega), pk_un (by omega), pk_un (by omega)]
