/-! ===== map: the reference's side ===== -/
set_option maxRecDepth 100000 in
theorem mt_c {h : gH} {it : Int32} {w2 : Option Value} {G : Nat → Int32} {m a k e s r0 r1 r2 r3 r4 u sn rn' : Int32} {Q : Option Value → gH → Nat → Prop} (h7 : h 147 = mo m a k e s r0 r1 r2 r3 r4 u sn rn') (hG : h 155 = iA 116 G) (hq : ∀ (h' : gH) (G' : Nat → Int32), h' 147 = mo m a k e s r0 r1 r2 r3 r4 (nI 0) sn rn' → h' 155 = iA 116 G' → G' 0 = 0 → G' 58 = 0 → (∀ x, x ≠ 147 → x ≠ 155 → h' x = h x) → Q (some (.int it)) h' 163) : Go none RX9 cX9_map 3 (some .int) false 8 161 [some (.ref 147), some (.int it), w2] [] h 163 0 0 Q := by
  refine go_aload_n dX9_map_161 rfl ?_
  refine go_iconst (v := nI 0) dX9_map_162 (by decide) ?_
  refine go_put (fs' := [_, _, _, _, _, _, _, _, _, _, _, _, _, _, _, _, _, _, _, _, _, _, _, _, _, _, _, _]) dX9_map_163 fX9_122 (by omega) h7 (Nat.le_of_ble_eq_true rfl) (Or.inl rfl) ⟨_, _, _, rfl, Or.inl rfl⟩ rfl ?_
  refine go_aload_n dX9_map_166 rfl ?_
  refine go_get dX9_map_167 fX9_35 (by omega) hset_same rfl ?_
  refine go_iconst (v := nI 0) dX9_map_170 (by decide) ?_
  refine go_iconst (v := nI 0) dX9_map_171 (by decide) ?_
  refine go_iast dX9_map_172 (by omega) ((hset_ne (by omega)).trans hG) rfl (by omega) (by omega) ?_
  refine go_aload_n dX9_map_173 rfl ?_
  refine go_get dX9_map_174 fX9_35 (by omega) ((hset_ne (by omega)).trans hset_same) rfl ?_
  refine go_bipush (v := nI 58) dX9_map_177 (by decide) ?_
  refine go_iconst (v := nI 0) dX9_map_179 (by decide) ?_
  refine go_iast dX9_map_180 (by omega) hset_same rfl (by omega) (by omega) ?_
  rw [hset_hset]
  refine go_iload_n dX9_map_181 rfl ?_
  refine go_iret dX9_map_182 rfl ?_
  exact hq _ _ ((hset_ne (by omega)).trans hset_same) hset_same (by rw [pk_un (by omega), pk_us]; rfl) pk_us (fun x q1 q2 => by rw [hset_ne q2, hset_ne q1])
set_option maxRecDepth 100000 in
theorem mt_loop {h0 : gH} {it : Int32} {n : Nat} {RW RV : Nat → Int32} {a k e s r0 r1 r2 r3 r4 u sn rn' : Int32} {Q : Option Value → gH → Nat → Prop} (hn : n ≤ 24) (h7 : h0 147 = mo (nI n) a k e s r0 r1 r2 r3 r4 u sn rn') (hW : h0 152 = iA 24 RW) (hV : h0 153 = iA 24 RV)
    (hq : ∀ (h : gH) (F4 F5 : Nat → Int32) (w2 : Option Value), h 148 = iA 24 F4 → h 149 = iA 24 F5 → (∀ i, i < n → F4 i = RW i ∧ F5 i = RV i) → (∀ x, x ≠ 148 → x ≠ 149 → h x = h0 x) → Go none RX9 cX9_map 3 (some .int) false 8 161 [some (.ref 147), some (.int it), w2] [] h 163 0 0 Q) :
    ∀ (mm i : Nat) (h : gH) (F4 F5 : Nat → Int32), i + mm = n → h 148 = iA 24 F4 → h 149 = iA 24 F5 → (∀ j, j < i → F4 j = RW j ∧ F5 j = RV j) → (∀ x, x ≠ 148 → x ≠ 149 → h x = h0 x) → Go none RX9 cX9_map 3 (some .int) false 8 123 [some (.ref 147), some (.int it), some (.int (nI i))] [] h 163 0 0 Q := by
  intro mm
  induction mm with
  | zero =>
    intro i h F4 F5 hi h4 h5 hF hk
    have h7' := (hk 147 (by omega) (by omega)).trans h7
    have ei : i = n := by omega
    subst ei
    refine go_iload_n dX9_map_123 rfl ?_
    refine go_aload_n dX9_map_124 rfl ?_
    refine go_get dX9_map_125 fX9_60 (by omega) h7' rfl ?_
    refine go_icmp_ge (tgt := 161) dX9_map_128 (by decide) (fun c_128 => ?_) (fun c_128 => ?_)
    · skip
      exact hq h F4 F5 _ h4 h5 hF hk
    · exact absurd (nI_le (Nat.le_refl _) (by omega)) c_128
  | succ mm ih =>
    intro i h F4 F5 hi h4 h5 hF hk
    have h7' := (hk 147 (by omega) (by omega)).trans h7
    refine go_iload_n dX9_map_123 rfl ?_
    refine go_aload_n dX9_map_124 rfl ?_
    refine go_get dX9_map_125 fX9_60 (by omega) h7' rfl ?_
    refine go_icmp_ge (tgt := 161) dX9_map_128 (by decide) (fun c_128 => ?_) (fun c_128 => ?_)
    · exact absurd c_128 (nI_ge (by omega) (by omega))
    · skip
      refine go_aload_n dX9_map_131 rfl ?_
      refine go_get dX9_map_132 fX9_13 (by omega) h7' rfl ?_
      refine go_iload_n dX9_map_135 rfl ?_
      refine go_aload_n dX9_map_136 rfl ?_
      refine go_get dX9_map_137 fX9_26 (by omega) h7' rfl ?_
      refine go_iload_n dX9_map_140 rfl ?_
      refine go_iald dX9_map_141 (by omega) ((hk _ (by omega) (by omega)).trans hW) rfl (by omega) (by omega) ?_
      refine go_iast dX9_map_142 (by omega) h4 rfl (by omega) (by omega) ?_
      refine go_aload_n dX9_map_143 rfl ?_
      refine go_get dX9_map_144 fX9_17 (by omega) ((hset_ne (by omega)).trans h7') rfl ?_
      refine go_iload_n dX9_map_147 rfl ?_
      refine go_aload_n dX9_map_148 rfl ?_
      refine go_get dX9_map_149 fX9_29 (by omega) ((hset_ne (by omega)).trans h7') rfl ?_
      refine go_iload_n dX9_map_152 rfl ?_
      refine go_iald dX9_map_153 (by omega) ((hset_ne (by omega)).trans ((hk _ (by omega) (by omega)).trans hV)) rfl (by omega) (by omega) ?_
      refine go_iast dX9_map_154 (by omega) ((hset_ne (by omega)).trans h5) rfl (by omega) (by omega) ?_
      refine go_inc (L' := [_, _, _]) dX9_map_155 rfl (by decide) rfl ?_
      refine go_goto (tgt := 123) dX9_map_158 (by decide) ?_
      refine ih (i + 1) _ _ _ (by omega) ((hset_ne (by omega)).trans hset_same) hset_same (fun j hj => ?_) (fun x q1 q2 => by rw [hset_ne q2, hset_ne q1]; exact hk x q1 q2)
      by_cases q : j = i
      · subst q; exact ⟨pk_us, pk_us⟩
      · rw [pk_un q, pk_un q]; exact hF j (by omega)
set_option maxRecDepth 100000 in
theorem mt_b {h : gH} {it : Int32} {C : Nat} {cb : Bool} {w2 : Option Value} {m a k e s r0 r1 r2 r4 u sn rn' : Int32} {Q : Option Value → gH → Nat → Prop} (hC : C ≤ 999) (hc : cb = false → C = 0) (h7 : h 147 = mo m a k e s r0 r1 r2 (if cb = true then nI C else -9) r4 u sn rn') (hq : ∀ h', h' 147 = mo m a (nI C) 0 s r0 r1 r2 (if cb = true then nI C else -9) r4 u sn rn' → (∀ x, x ≠ 147 → h' x = h x) → Go none RX9 cX9_map 3 (some .int) false 8 123 [some (.ref 147), some (.int it), some (.int (nI 0))] [] h' 163 0 0 Q) : Go none RX9 cX9_map 3 (some .int) false 8 95 [some (.ref 147), some (.int it), w2] [] h 163 0 0 Q := by
  cases cb with
  | true =>
    refine go_aload_n dX9_map_95 rfl ?_
    refine go_aload_n dX9_map_96 rfl ?_
    refine go_get dX9_map_97 fX9_101 (by omega) h7 rfl ?_
    refine go_bipush (v := (-9)) dX9_map_100 (by decide) ?_
    refine go_icmp_ne (tgt := 109) dX9_map_102 (by decide) (fun c_102 => ?_) (fun c_102 => ?_)
    · skip
      refine go_aload_n dX9_map_109 rfl ?_
      refine go_get dX9_map_110 fX9_101 (by omega) h7 rfl ?_
      refine go_put (fs' := [_, _, _, _, _, _, _, _, _, _, _, _, _, _, _, _, _, _, _, _, _, _, _, _, _, _, _, _]) dX9_map_113 fX9_116 (by omega) h7 (Nat.le_of_ble_eq_true rfl) (Or.inl rfl) ⟨_, _, _, rfl, Or.inl rfl⟩ rfl ?_
      refine go_aload_n dX9_map_116 rfl ?_
      refine go_iconst (v := nI 0) dX9_map_117 (by decide) ?_
      refine go_put (fs' := [_, _, _, _, _, _, _, _, _, _, _, _, _, _, _, _, _, _, _, _, _, _, _, _, _, _, _, _]) dX9_map_118 fX9_119 (by omega) hset_same (Nat.le_of_ble_eq_true rfl) (Or.inl rfl) ⟨_, _, _, rfl, Or.inl rfl⟩ rfl ?_
      refine go_iconst (v := nI 0) dX9_map_121 (by decide) ?_
      refine go_istore_n (L' := [_, _, _]) dX9_map_122 rfl (by decide) rfl ?_
      rw [hset_hset]
      exact hq _ hset_same (fun x hx => hset_ne hx)
    · exact absurd (Decidable.not_not.mp c_102) (show ¬ nI C = -9 from nI_ne_m9 (by omega))
  | false =>
    have hC0 := hc rfl
    subst hC0
    refine go_aload_n dX9_map_95 rfl ?_
    refine go_aload_n dX9_map_96 rfl ?_
    refine go_get dX9_map_97 fX9_101 (by omega) h7 rfl ?_
    refine go_bipush (v := (-9)) dX9_map_100 (by decide) ?_
    refine go_icmp_ne (tgt := 109) dX9_map_102 (by decide) (fun c_102 => ?_) (fun c_102 => ?_)
    · exact absurd rfl c_102
    · skip
      refine go_iconst (v := nI 0) dX9_map_105 (by decide) ?_
      refine go_goto (tgt := 113) dX9_map_106 (by decide) ?_
      refine go_put (fs' := [_, _, _, _, _, _, _, _, _, _, _, _, _, _, _, _, _, _, _, _, _, _, _, _, _, _, _, _]) dX9_map_113 fX9_116 (by omega) h7 (Nat.le_of_ble_eq_true rfl) (Or.inl rfl) ⟨_, _, _, rfl, Or.inl rfl⟩ rfl ?_
      refine go_aload_n dX9_map_116 rfl ?_
      refine go_iconst (v := nI 0) dX9_map_117 (by decide) ?_
      refine go_put (fs' := [_, _, _, _, _, _, _, _, _, _, _, _, _, _, _, _, _, _, _, _, _, _, _, _, _, _, _, _]) dX9_map_118 fX9_119 (by omega) hset_same (Nat.le_of_ble_eq_true rfl) (Or.inl rfl) ⟨_, _, _, rfl, Or.inl rfl⟩ rfl ?_
      refine go_iconst (v := nI 0) dX9_map_121 (by decide) ?_
      refine go_istore_n (L' := [_, _, _]) dX9_map_122 rfl (by decide) rfl ?_
      rw [hset_hset]
      exact hq _ hset_same (fun x hx => hset_ne hx)
set_option maxRecDepth 100000 in
theorem mt_a {h : gH} {it : Int32} {pb K : Nat} {kb : Bool} {w2 : Option Value} {m a k e s r0 r3 r4 u sn rn' : Int32} {Q : Option Value → gH → Nat → Prop} (hK : 1 ≤ K ∧ K ≤ 6) (hk : kb = false → K = 3) (h7 : h 147 = mo m a k e s r0 (nI pb) (if kb = true then nI K else 0) r3 r4 u sn rn') (hq : ∀ h', h' 147 = mo (nI pb) (nI K) k e (nI 0) r0 (nI pb) (if kb = true then nI K else 0) r3 r4 u sn rn' → (∀ x, x ≠ 147 → h' x = h x) → Go none RX9 cX9_map 3 (some .int) false 8 95 [some (.ref 147), some (.int it), w2] [] h' 163 0 0 Q) : Go none RX9 cX9_map 3 (some .int) false 8 63 [some (.ref 147), some (.int it), w2] [] h 163 0 0 Q := by
  cases kb with
  | true =>
    refine go_aload_n dX9_map_63 rfl ?_
    refine go_iconst (v := nI 0) dX9_map_64 (by decide) ?_
    refine go_put (fs' := [_, _, _, _, _, _, _, _, _, _, _, _, _, _, _, _, _, _, _, _, _, _, _, _, _, _, _, _]) dX9_map_65 fX9_67 (by omega) h7 (Nat.le_of_ble_eq_true rfl) (Or.inl rfl) ⟨_, _, _, rfl, Or.inl rfl⟩ rfl ?_
    refine go_aload_n dX9_map_68 rfl ?_
    refine go_aload_n dX9_map_69 rfl ?_
    refine go_get dX9_map_70 fX9_83 (by omega) hset_same rfl ?_
    refine go_put (fs' := [_, _, _, _, _, _, _, _, _, _, _, _, _, _, _, _, _, _, _, _, _, _, _, _, _, _, _, _]) dX9_map_73 fX9_60 (by omega) hset_same (Nat.le_of_ble_eq_true rfl) (Or.inl rfl) ⟨_, _, _, rfl, Or.inl rfl⟩ rfl ?_
    refine go_aload_n dX9_map_76 rfl ?_
    refine go_aload_n dX9_map_77 rfl ?_
    refine go_get dX9_map_78 fX9_98 (by omega) hset_same rfl ?_
    refine go_if_ne (tgt := 88) dX9_map_81 (by decide) (fun c_81 => ?_) (fun c_81 => ?_)
    · skip
      refine go_aload_n dX9_map_88 rfl ?_
      refine go_get dX9_map_89 fX9_98 (by omega) hset_same rfl ?_
      refine go_put (fs' := [_, _, _, _, _, _, _, _, _, _, _, _, _, _, _, _, _, _, _, _, _, _, _, _, _, _, _, _]) dX9_map_92 fX9_7 (by omega) hset_same (Nat.le_of_ble_eq_true rfl) (Or.inl rfl) ⟨_, _, _, rfl, Or.inl rfl⟩ rfl ?_
      rw [hset_hset, hset_hset]
      exact hq _ hset_same (fun x hx => hset_ne hx)
    · exact absurd (Decidable.not_not.mp c_81) (show ¬ nI K = 0 from nI_ne0 (by omega) (by omega))
  | false =>
    have hK0 := hk rfl
    subst hK0
    refine go_aload_n dX9_map_63 rfl ?_
    refine go_iconst (v := nI 0) dX9_map_64 (by decide) ?_
    refine go_put (fs' := [_, _, _, _, _, _, _, _, _, _, _, _, _, _, _, _, _, _, _, _, _, _, _, _, _, _, _, _]) dX9_map_65 fX9_67 (by omega) h7 (Nat.le_of_ble_eq_true rfl) (Or.inl rfl) ⟨_, _, _, rfl, Or.inl rfl⟩ rfl ?_
    refine go_aload_n dX9_map_68 rfl ?_
    refine go_aload_n dX9_map_69 rfl ?_
    refine go_get dX9_map_70 fX9_83 (by omega) hset_same rfl ?_
    refine go_put (fs' := [_, _, _, _, _, _, _, _, _, _, _, _, _, _, _, _, _, _, _, _, _, _, _, _, _, _, _, _]) dX9_map_73 fX9_60 (by omega) hset_same (Nat.le_of_ble_eq_true rfl) (Or.inl rfl) ⟨_, _, _, rfl, Or.inl rfl⟩ rfl ?_
    refine go_aload_n dX9_map_76 rfl ?_
    refine go_aload_n dX9_map_77 rfl ?_
    refine go_get dX9_map_78 fX9_98 (by omega) hset_same rfl ?_
    refine go_if_ne (tgt := 88) dX9_map_81 (by decide) (fun c_81 => ?_) (fun c_81 => ?_)
    · exact absurd rfl c_81
    · skip
      refine go_iconst (v := nI 3) dX9_map_84 (by decide) ?_
      refine go_goto (tgt := 92) dX9_map_85 (by decide) ?_
      refine go_put (fs' := [_, _, _, _, _, _, _, _, _, _, _, _, _, _, _, _, _, _, _, _, _, _, _, _, _, _, _, _]) dX9_map_92 fX9_7 (by omega) hset_same (Nat.le_of_ble_eq_true rfl) (Or.inl rfl) ⟨_, _, _, rfl, Or.inl rfl⟩ rfl ?_
      rw [hset_hset, hset_hset]
      exact hq _ hset_same (fun x hx => hset_ne hx)
set_option maxRecDepth 100000 in
theorem mp_loop {t : TX} {h0 : gH} {m a k e u sn rn' : Int32} {o : Nat ⊕ PS} {Q : Option Value → gH → Nat → Prop} (hTT : TT h0 t)
    (hqf : ∀ (r : Nat) (h' : gH), o = .inl r → (∃ r1 r2 r3 r4, h' 147 = mo m a k e (nI t.1) (nI r) r1 r2 r3 r4 u sn rn') → (∃ RW RV, h' 152 = iA 24 RW ∧ h' 153 = iA 24 RV) → (∀ x, x ≠ 147 → x ≠ 152 → x ≠ 153 → h' x = h0 x) → Q (some (.int (-10 - nI r))) h' 163)
    (hqs : ∀ (s : PS) (h' : gH) (w2 : Option Value), o = .inr s → s.1 = 0 → MRd h' t m a k e u sn rn' t.1 s → PO t.1 s → (∀ x, x ≠ 147 → x ≠ 152 → x ≠ 153 → h' x = h0 x) → Go none RX9 cX9_map 3 (some .int) false 8 63 [some (.ref 147), some (.int (nI s.2.1)), w2] [] h' 163 0 0 Q) :
    ∀ (n q : Nat) (h : gH) (s : PS) (w2 : Option Value), t.1 ≤ q + n → q ≤ t.1 → (t.1 ≤ q ∨ ¬ t.2 q = 32) → s.1 = 0 → MRd h t m a k e u sn rn' q s → PO q s → (∀ x, x ≠ 147 → x ≠ 152 → x ≠ 153 → h x = h0 x) → o = rd t q s → Go none RX9 cX9_map 3 (some .int) false 8 27 [some (.ref 147), some (.int (nI s.2.1)), w2] [] h 163 0 0 Q := by
  have ht := hTT.2.1
  intro n
  induction n with
  | zero =>
    intro q h s w2 hn hq h32 hs hM hO hk ho
    have e : q = t.1 := by omega
    subst e
    obtain ⟨aw, it, pb, kb, cb, ro, ce, f, K, C⟩ := s
    obtain ⟨r4, RW, RV, w, v, h7, -⟩ := id hM
    refine go_aload_n dX9_map_27 rfl ?_
    refine go_get dX9_map_28 fX9_70 (by omega) h7 rfl ?_
    refine go_aload_n dX9_map_31 rfl ?_
    refine go_get dX9_map_32 fX9_67 (by omega) h7 rfl ?_
    refine go_icmp_ge (tgt := 63) dX9_map_35 (by decide) (fun c_35 => ?_) (fun c_35 => ?_)
    · skip
      exact hqs _ h _ (by rw [ho, rd_end (Nat.le_refl _), if_pos hs]) hs hM hO hk
    · exact absurd (nI_le (Nat.le_refl _) (by omega)) c_35
  | succ n ih =>
    intro q h s w2 hn hq h32 hs hM hO hk ho
    obtain ⟨aw, it, pb, kb, cb, ro, ce, f, K, C⟩ := s
    have hs : aw = 0 := hs
    subst hs
    obtain ⟨r4, RW, RV, w, v, h7, -⟩ := id hM
    by_cases hqt : q < t.1
    · have hTT1 : TT h t := hTT.ag (hk _ (by omega) (by omega) (by omega))
      have NEXT : ∀ (h1 : gH) (p' : Nat) (s' : PS), (∀ x, x ≠ 147 → x ≠ 152 → x ≠ 153 → h1 x = h x) → q < p' → p' ≤ t.1 → rd t q (0, it, pb, kb, cb, ro, ce, f, K, C) = rd t p' s' → s'.1 = 0 → s'.2.1 = it + 1 → MRd h1 t m a k e u sn rn' p' s' → PO p' s' → Go none RX9 cX9_map 3 (some .int) false 8 42 [some (.ref 147), some (.int (nI it)), w2] [.int 1] h1 163 0 0 Q := by
        intro h1 p' s' z2 z3 z4 z5 z6 z7 z8 z9
        obtain ⟨aw', it', pb', kb', cb', ro', ce', f', K', C'⟩ := s'
        have z7 : it' = it + 1 := z7
        subst z7
        obtain ⟨r4', RW', RV', w', v', l7, l1, l2, l3⟩ := id z8
        obtain ⟨⟨T, t1, t2⟩, t3, t4⟩ := hTT1.ag (z2 _ (by omega) (by omega) (by omega))
        refine go_if_ne (tgt := 53) dX9_map_42 (by decide) (fun c_42 => ?_) (fun c_42 => ?_)
        · skip
          refine go_inc (L' := [_, _, _]) dX9_map_53 rfl (by decide) rfl ?_
          refine go_aload_n dX9_map_56 rfl ?_
          refine go_iv dX9_map_57 mX9_skip iX9_77 (run_skip 6 l7 t1 t2 t3 t4 z4) rfl rfl (by omega) l7 rfl (Nat.le_of_ble_eq_true rfl) (Nat.zero_le _) (Nat.zero_le _) (fun v_57 h_57 n_57 q_57 => ?_)
          obtain ⟨rfl, rfl, n7, nk⟩ := q_57
          refine go_goto (tgt := 27) dX9_map_60 (by decide) ?_
          refine ih (sk t p') _ (aw', it + 1, pb', kb', cb', ro', ce', f', K', C') w2 (by have := sk_ge t p'; omega) (sk_le z4) (sk_end t p') z6 ⟨r4', RW', RV', w', v', n7, (nk _ (by omega)).trans l1, (nk _ (by omega)).trans l2, l3⟩ (z9.mono (sk_ge t p')) (fun x q1 q2 q3 => (nk x q1).trans ((z2 x q1 q2 q3).trans (hk x q1 q2 q3))) (by rw [ho, z5]; exact rd_sk _ _ (Nat.le_refl _))
        · exact absurd (by decide) c_42
      refine go_aload_n dX9_map_27 rfl ?_
      refine go_get dX9_map_28 fX9_70 (by omega) h7 rfl ?_
      refine go_aload_n dX9_map_31 rfl ?_
      refine go_get dX9_map_32 fX9_67 (by omega) h7 rfl ?_
      refine go_icmp_ge (tgt := 63) dX9_map_35 (by decide) (fun c_35 => ?_) (fun c_35 => ?_)
      · exact absurd c_35 (nI_ge hqt (by omega))
      · skip
        refine go_aload_n dX9_map_38 rfl ?_
        refine go_iv dX9_map_39 mX9_readsItem iX9_113 (run_readsItem 3 hTT1 hqt (by omega) hM hO) rfl rfl (by omega) h7 rfl (Nat.le_of_ble_eq_true rfl) (Nat.zero_le _) (Nat.zero_le _) (fun v_39 h_39 n_39 q_39 => ?_)
        obtain ⟨z1, z2, ⟨rfl, p', s', z3, z4, z5, z6, z7, z8, z9⟩ | ⟨rfl, r, z3, z4, z5, z6⟩⟩ := q_39
        · subst z1
          exact NEXT h_39 p' s' z2 z3 z4 z5 z6 z7 z8 z9
        · subst z1
          obtain ⟨y1, y2, y3, y4, l7⟩ := z5
          refine go_if_ne (tgt := 53) dX9_map_42 (by decide) (fun c => absurd rfl c) (fun c => ?_)
          refine go_bipush (v := (-10)) dX9_map_45 (by decide) ?_
          refine go_aload_n dX9_map_47 rfl ?_
          refine go_get dX9_map_48 fX9_70 (by omega) l7 rfl ?_
          refine go_isub dX9_map_51 ?_
          exact go_iret dX9_map_52 rfl (hqf r _ (ho.trans z3) ⟨y1, y2, y3, y4, l7⟩ z6 (fun x q1 q2 q3 => (z2 x q1 q2 q3).trans (hk x q1 q2 q3)))
    · have e : q = t.1 := by omega
      subst e
      refine go_aload_n dX9_map_27 rfl ?_
      refine go_get dX9_map_28 fX9_70 (by omega) h7 rfl ?_
      refine go_aload_n dX9_map_31 rfl ?_
      refine go_get dX9_map_32 fX9_67 (by omega) h7 rfl ?_
      refine go_icmp_ge (tgt := 63) dX9_map_35 (by decide) (fun c_35 => ?_) (fun c_35 => ?_)
      · skip
        exact hqs _ h _ (by rw [ho, rd_end (Nat.le_refl _)]; rfl) rfl hM hO hk
      · exact absurd (nI_le (Nat.le_refl _) (by omega)) c_35
set_option maxRecDepth 100000 in
theorem m_map {h : gH} {s : SD} (hw : SW s) (hS : MS h s) : Run 8 yX9_map cX9_map 3 (some .int) [.ref 147] h 163 0 0 (fun v h' N' => v = some (.int (mapS s).1) ∧ N' = 163 ∧ MS h' (mapS s).2 ∧ Fr 147 163 h h') := by
  obtain ⟨⟨r0, r1, r2, r3, r4, sn, rn, h7⟩, ⟨F4, F5, F6, q4, q5, q6, hMA⟩, ⟨T, t1, t2⟩, ⟨GU, u0, u1⟩, ⟨G, g0, g1⟩, hX⟩ := id hS
  obtain ⟨xa, xb, xc, xd, xe, xf, xg, xx, xy, x1, x2, x3, x4, x5, x6, x7, x8, x9⟩ := id hX
  have ht := hw.2.2.2.2.1
  have hb := hw.2.2.2.2.2
  have hEN0 : EN (fun _ => none) 0 (fun _ => 0) (fun _ => 0) := ⟨fun i hi => absurd hi (by omega), fun i j hi => absurd hi (by omega), fun x hx hf => absurd rfl hf⟩
  refine Run.of (ini := false) (L := [_, _, _]) mX9_map (fun h => by cases h) rfl (Nat.le_of_ble_eq_true rfl) rfl ?_
  refine go_aload_n dX9_map_0 rfl ?_
  refine go_iconst (v := nI 0) dX9_map_1 (by decide) ?_
  refine go_put (fs' := [_, _, _, _, _, _, _, _, _, _, _, _, _, _, _, _, _, _, _, _, _, _, _, _, _, _, _, _]) dX9_map_2 fX9_70 (by omega) h7 (Nat.le_of_ble_eq_true rfl) (Or.inl rfl) ⟨_, _, _, rfl, Or.inl rfl⟩ rfl ?_
  refine go_aload_n dX9_map_5 rfl ?_
  refine go_iconst (v := nI 0) dX9_map_6 (by decide) ?_
  refine go_put (fs' := [_, _, _, _, _, _, _, _, _, _, _, _, _, _, _, _, _, _, _, _, _, _, _, _, _, _, _, _]) dX9_map_7 fX9_83 (by omega) hset_same (Nat.le_of_ble_eq_true rfl) (Or.inl rfl) ⟨_, _, _, rfl, Or.inl rfl⟩ rfl ?_
  refine go_aload_n dX9_map_10 rfl ?_
  refine go_iconst (v := nI 0) dX9_map_11 (by decide) ?_
  refine go_put (fs' := [_, _, _, _, _, _, _, _, _, _, _, _, _, _, _, _, _, _, _, _, _, _, _, _, _, _, _, _]) dX9_map_12 fX9_98 (by omega) hset_same (Nat.le_of_ble_eq_true rfl) (Or.inl rfl) ⟨_, _, _, rfl, Or.inl rfl⟩ rfl ?_
  refine go_aload_n dX9_map_15 rfl ?_
  refine go_bipush (v := (-9)) dX9_map_16 (by decide) ?_
  refine go_put (fs' := [_, _, _, _, _, _, _, _, _, _, _, _, _, _, _, _, _, _, _, _, _, _, _, _, _, _, _, _]) dX9_map_18 fX9_101 (by omega) hset_same (Nat.le_of_ble_eq_true rfl) (Or.inl rfl) ⟨_, _, _, rfl, Or.inl rfl⟩ rfl ?_
  rw [hset_hset, hset_hset, hset_hset]
  generalize hh : hset h 147 _ = h1
  have k7 : h1 147 = mo (nI (cP s.1.1 100)) (nI s.1.2.2.2.1) (nI s.1.2.2.2.2) (dI s.1.2.2.1) (nI s.2.2.2.1) (nI 0) (nI 0) 0 (-9) r4 (nI s.2.1.1) sn rn := by rw [← hh]; exact hset_same
  have kk : ∀ x, x ≠ 147 → h1 x = h x := fun x hx => by rw [← hh]; exact hset_ne hx
  refine go_iconst (v := nI 0) dX9_map_21 (by decide) ?_
  refine go_istore_n (L' := [_, _, _]) dX9_map_22 rfl (by decide) rfl ?_
  refine go_aload_n dX9_map_23 rfl ?_
  refine go_iv dX9_map_24 mX9_skip iX9_77 (run_skip (t := s.2.2.2) 6 k7 ((kk _ (by omega)).trans t1) t2 ht hb (Nat.zero_le _)) rfl rfl (by omega) k7 rfl (Nat.le_of_ble_eq_true rfl) (Nat.zero_le _) (Nat.zero_le _) (fun v_24 h_24 n_24 q_24 => ?_)
  obtain ⟨rfl, rfl, l7, lk⟩ := q_24
  have hg : ∀ x, x ≠ 147 → h_24 x = h x := fun x hx => (lk x hx).trans (kk x hx)
  refine mp_loop (t := s.2.2.2) (o := rd s.2.2.2 0 ps0) ⟨⟨T, (hg _ (by omega)).trans t1, t2⟩, ht, hb⟩ (fun r h' er hz1 hz2 nk => ?_) (fun st h' w2 er es hM hO nk => ?_) s.2.2.2.1 (sk s.2.2.2 0) h_24 ps0 _ (by omega) (sk_le (Nat.zero_le _)) (sk_end _ _) rfl ⟨r4, xa, xb, fun _ => 0, fun _ => 0, l7, (hg _ (by omega)).trans x1, (hg _ (by omega)).trans x2, hEN0, fun i hi => absurd hi (by omega), fun _ => rfl, fun _ => rfl⟩ (PO.zero.mono (Nat.zero_le _)) (fun x q1 q2 q3 => rfl) (rd_sk _ _ (Nat.le_refl _))
  · obtain ⟨y1, y2, y3, y4, n7⟩ := hz1
    obtain ⟨RW, RV, n1, n2⟩ := hz2
    have e : mapS s = (-10 - nI r, s) := by unfold mapS; rw [er]
    rw [e]
    have ng : ∀ x, x ≠ 147 → x ≠ 152 → x ≠ 153 → h' x = h x := fun x q1 q2 q3 => (nk x q1 q2 q3).trans (hg x q1)
    exact ⟨rfl, rfl, ⟨⟨_, y1, y2, y3, y4, sn, rn, n7⟩, ⟨F4, F5, F6, (ng _ (by omega) (by omega) (by omega)).trans q4, (ng _ (by omega) (by omega) (by omega)).trans q5, (ng _ (by omega) (by omega) (by omega)).trans q6, hMA⟩, ⟨T, (ng _ (by omega) (by omega) (by omega)).trans t1, t2⟩, ⟨GU, (ng _ (by omega) (by omega) (by omega)).trans u0, u1⟩, ⟨G, (ng _ (by omega) (by omega) (by omega)).trans g0, g1⟩, ⟨RW, RV, xc, xd, xe, xf, xg, xx, xy, n1, n2, (ng _ (by omega) (by omega) (by omega)).trans x3, (ng _ (by omega) (by omega) (by omega)).trans x4, (ng _ (by omega) (by omega) (by omega)).trans x5, (ng _ (by omega) (by omega) (by omega)).trans x6, (ng _ (by omega) (by omega) (by omega)).trans x7, (ng _ (by omega) (by omega) (by omega)).trans x8, (ng _ (by omega) (by omega) (by omega)).trans x9⟩⟩, fun x hx => ng x (by omega) (by omega) (by omega)⟩
  · obtain ⟨aw, it, pb, kb, cb, ro, ce, f, K, C⟩ := st
    have e : mapS s = (nI it, ((f, fun _ => 0, none, K, C), (0, s.2.1.2), (s.2.2.1.1, fun _ => false), (0, s.2.2.2.2))) := by unfold mapS; rw [er]
    rw [e]
    obtain ⟨p1, p2, p3, p4, p5, p6, p7, p8, p9⟩ := hO
    obtain ⟨y4, RW, RV, w, v, n7, n1, n2, n3, n4, n5, n6⟩ := hM
    have ng : ∀ x, x ≠ 147 → x ≠ 152 → x ≠ 153 → h' x = h x := fun x q1 q2 q3 => (nk x q1 q2 q3).trans (hg x q1)
    refine mt_a p6 n5 n7 (fun h2 a7 ak => ?_)
    refine mt_b p7 n6 a7 (fun h3 b7 bk => ?_)
    have ab : ∀ x, x ≠ 147 → h3 x = h' x := fun x hx => (bk x hx).trans (ak x hx)
    refine mt_loop (RW := RW) (RV := RV) p3 b7 ((ab _ (by omega)).trans n1) ((ab _ (by omega)).trans n2) (fun h4 F4' F5' w2' c1 c2 c3 ck => ?_) pb 0 h3 F4 F5 (by omega) ((ab _ (by omega)).trans ((ng _ (by omega) (by omega) (by omega)).trans q4)) ((ab _ (by omega)).trans ((ng _ (by omega) (by omega) (by omega)).trans q5)) (fun j hj => absurd hj (by omega)) (fun x q1 q2 => rfl)
    refine mt_c ((ck _ (by omega) (by omega)).trans b7) ((ck _ (by omega) (by omega)).trans ((ab _ (by omega)).trans ((ng _ (by omega) (by omega) (by omega)).trans g0))) (fun h5 G' d7 d1 d2 d3 dk => ?_)
    have fg : ∀ x, x ≠ 147 → x ≠ 152 → x ≠ 153 → x ≠ 148 → x ≠ 149 → x ≠ 155 → h5 x = h x := fun x z1 z2 z3 z4 z5 z6 => (dk x z1 z6).trans ((ck x z4 z5).trans ((ab x z1).trans (ng x z1 z2 z3)))
    have fh : ∀ x, x ≠ 147 → x ≠ 148 → x ≠ 149 → x ≠ 155 → h5 x = h' x := fun x z1 z4 z5 z6 => (dk x z1 z6).trans ((ck x z4 z5).trans (ab x z1))
    have hcnt := n3.cnt
    refine ⟨rfl, rfl, ⟨⟨nI s.2.2.2.1, nI pb, (if kb = true then nI K else 0), (if cb = true then nI C else -9), y4, sn, rn, ?_⟩, ⟨F4', F5', F6, (dk _ (by omega) (by omega)).trans c1, (dk _ (by omega) (by omega)).trans c2, (fg _ (by omega) (by omega) (by omega) (by omega) (by omega) (by omega)).trans q6, ⟨w, v, ?_, fun i hi => ?_⟩, fun i hi => absurd hi (Nat.not_lt_zero _)⟩, ⟨T, (fg _ (by omega) (by omega) (by omega) (by omega) (by omega) (by omega)).trans t1, fun i hi => absurd hi (Nat.not_lt_zero _)⟩, ⟨GU, (fg _ (by omega) (by omega) (by omega) (by omega) (by omega) (by omega)).trans u0, fun i hi => absurd hi (Nat.not_lt_zero _)⟩, ⟨G', d1, fun i hi => ⟨?_, fun z => by cases z⟩⟩, ⟨RW, RV, xc, xd, xe, xf, xg, xx, xy, (fh _ (by omega) (by omega) (by omega) (by omega)).trans n1, (fh _ (by omega) (by omega) (by omega) (by omega)).trans n2, (fg _ (by omega) (by omega) (by omega) (by omega) (by omega) (by omega)).trans x3, (fg _ (by omega) (by omega) (by omega) (by omega) (by omega) (by omega)).trans x4, (fg _ (by omega) (by omega) (by omega) (by omega) (by omega) (by omega)).trans x5, (fg _ (by omega) (by omega) (by omega) (by omega) (by omega) (by omega)).trans x6, (fg _ (by omega) (by omega) (by omega) (by omega) (by omega) (by omega)).trans x7, (fg _ (by omega) (by omega) (by omega) (by omega) (by omega) (by omega)).trans x8, (fg _ (by omega) (by omega) (by omega) (by omega) (by omega) (by omega)).trans x9⟩⟩, fun x hx => fg x (by omega) (by omega) (by omega) (by omega) (by omega) (by omega)⟩
    · show _ = mo (nI (cP f 100)) _ _ _ _ _ _ _ _ _ _ _ _
      rw [hcnt]; exact d7
    · show EN f (cP f 100) w v
      rw [hcnt]; exact n3
    · have hi : i < cP f 100 := hi
      rw [hcnt] at hi
      rw [(c3 i hi).1, (c3 i hi).2]; exact n4 i hi
    · rcases (show i = 0 ∨ i = 1 by omega) with rfl | rfl
      · exact d2
      · exact d3
