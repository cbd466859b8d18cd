/-! ===== begin, read, map: the class's side ===== -/
theorem rd_le {t : TX} : ∀ (n p : Nat) (s : PS) (q : Nat), p ≤ t.1 → rdE t n p s = .inl q → q ≤ t.1
  | 0, p, s, q, hp, h => by rw [rdE] at h; cases h; exact hp
  | n + 1, p, s, q, hp, h => by
    rw [rdE] at h
    split at h
    · split at h
      · cases h
      · cases h; exact Nat.le_refl _
    · split at h
      · exact rd_le n (p + 1) s q (by omega) h
      · cases hq : tok t p s with
        | none => rw [hq] at h; cases h; omega
        | some z =>
          rw [hq] at h
          exact rd_le n z.1 z.2 q (tok_le (by omega) (show tok t p s = some (z.1, z.2) from hq)) h
theorem run_begin (d : Nat) {h : gH} {t : TX} (hM : Mt h t.1 t.2) : Run (d + 2) yX4_begin cX4_begin 1 none [.ref 44] h 163 0 0 (fun v h' N' => v = none ∧ N' = 163 ∧ Mr h' t ps0 ∧ Fr 44 49 h h') := by
  obtain ⟨F, x3, x4, x5, x6, x7, x8, x9, c, m0, m1, m2, m3⟩ := hM
  obtain ⟨FC, GC, g0, g1, g2, gf, gg⟩ := id m2
  refine Run.of (ini := false) (L := [_]) mX4_begin (fun h => by cases h) rfl (Nat.le_of_ble_eq_true rfl) rfl ?_
  refine go_aload_n dX4_begin_0 rfl ?_
  refine go_get dX4_begin_1 fX4_18 (by omega) m0 rfl ?_
  refine go_iv dX4_begin_4 mX0_empty iX4_43 (run_empty d (i := 46) (by omega) g0 g1 g2 gg) rfl rfl (by omega) g0 rfl (Nat.le_of_ble_eq_true rfl) (Nat.zero_le _) (Nat.zero_le _) (fun v_4 h_4 n_4 q_4 => ?_)
  obtain ⟨rfl, rfl, hC1, hF1⟩ := q_4
  have n0 := (hF1 44 (by omega)).trans m0
  refine go_aload_n dX4_begin_7 rfl ?_
  refine go_iconst (v := nI 0) dX4_begin_8 (by decide) ?_
  refine go_put (fs' := [_, _, _, _, _, _, _, _, _, _]) dX4_begin_9 fX4_37 (by omega) n0 (Nat.le_of_ble_eq_true rfl) (Or.inl rfl) ⟨_, _, _, rfl, Or.inl rfl⟩ rfl ?_
  refine go_aload_n dX4_begin_12 rfl ?_
  refine go_iconst (v := nI 0) dX4_begin_13 (by decide) ?_
  refine go_put (fs' := [_, _, _, _, _, _, _, _, _, _]) dX4_begin_14 fX4_40 (by omega) hset_same (Nat.le_of_ble_eq_true rfl) (Or.inl rfl) ⟨_, _, _, rfl, Or.inl rfl⟩ rfl ?_
  refine go_aload_n dX4_begin_17 rfl ?_
  refine go_iconst (v := nI 0) dX4_begin_18 (by decide) ?_
  refine go_put (fs' := [_, _, _, _, _, _, _, _, _, _]) dX4_begin_19 fX4_46 (by omega) hset_same (Nat.le_of_ble_eq_true rfl) (Or.inl rfl) ⟨_, _, _, rfl, Or.inl rfl⟩ rfl ?_
  refine go_aload_n dX4_begin_22 rfl ?_
  refine go_iconst (v := nI 0) dX4_begin_23 (by decide) ?_
  refine go_put (fs' := [_, _, _, _, _, _, _, _, _, _]) dX4_begin_24 fX4_49 (by omega) hset_same (Nat.le_of_ble_eq_true rfl) (Or.inr ⟨rfl, by decide⟩) ⟨_, _, _, rfl, Or.inl rfl⟩ rfl ?_
  refine go_aload_n dX4_begin_27 rfl ?_
  refine go_iconst (v := nI 0) dX4_begin_28 (by decide) ?_
  refine go_put (fs' := [_, _, _, _, _, _, _, _, _, _]) dX4_begin_29 fX4_53 (by omega) hset_same (Nat.le_of_ble_eq_true rfl) (Or.inr ⟨rfl, by decide⟩) ⟨_, _, _, rfl, Or.inl rfl⟩ rfl ?_
  refine go_vret dX4_begin_32 rfl ?_
  rw [hset_hset, hset_hset, hset_hset, hset_hset]
  exact ⟨rfl, rfl, ⟨F, x8, x9, hset_same, (hset_ne (by omega)).trans ((hF1 45 (by omega)).trans m1), m3, hC1.kept (hset_ne (by omega)) (hset_ne (by omega)) (hset_ne (by omega)), (fun z => by cases z), (fun z => by cases z)⟩, (hF1.wide (by omega) (by omega)).set (by omega) (by omega)⟩
def RDP (t : TX) (h : gH) (o : Nat ⊕ PS) (v : Option Value) (h' : gH) (N' : Nat) : Prop := N' = 163 ∧ Fr 44 49 h h' ∧ Mt h' t.1 t.2 ∧ (∀ q, o = .inl q → v = some (.int (-10 - nI q))) ∧ ∀ s', o = .inr s' → v = some (.int (nI s'.2.1)) ∧ Mr h' t s' ∧ PO t.1 s'
theorem RDP.l {t : TX} {h h' : gH} {o : Nat ⊕ PS} {q : Nat} (e : o = .inl q) (hF : Fr 44 49 h h') (hM : Mt h' t.1 t.2) : RDP t h o (some (.int (-10 - nI q))) h' 163 := ⟨rfl, hF, hM, (fun q' z => by rw [e] at z; cases z; rfl), (fun s' z => by rw [e] at z; cases z)⟩
theorem RDP.r {t : TX} {h h' : gH} {o : Nat ⊕ PS} {s : PS} (e : o = .inr s) (hF : Fr 44 49 h h') (hM : Mr h' t s) (hO : PO t.1 s) : RDP t h o (some (.int (nI s.2.1))) h' 163 := ⟨rfl, hF, hM.mt, (fun q' z => by rw [e] at z; cases z), (fun s' z => by rw [e] at z; cases z; exact ⟨rfl, hM, hO⟩)⟩
set_option maxRecDepth 100000 in
theorem read_end {d n : Nat} {h0 h : gH} {t : TX} {s : PS} {w3 : Option Value} (hF : Fr 44 49 h0 h) (hO : PO t.1 s) (hM : Mr h t s) : Go none RX4 cX4_read 4 (some .int) false d 73 [some (.ref 44), some (.int (nI t.1)), some (.int (nI n)), w3] [] h 163 0 0 (RDP t h0 (rd t t.1 s)) := by
  obtain ⟨aw, it, pb, kb, cb, ro, ce, f, K, C⟩ := s
  obtain ⟨F', y8, y9, k0, k1, k2, -⟩ := id hM
  obtain ⟨o1, -⟩ := id hO
  have e := rd_end (t := t) (p := t.1) (s := (aw, it, pb, kb, cb, ro, ce, f, K, C)) (Nat.le_refl _)
  rw [e]
  refine go_aload_n dX4_read_73 rfl ?_
  refine go_get dX4_read_74 fX4_37 (by omega) k0 rfl ?_
  refine go_if_ne (tgt := 87) dX4_read_77 (by decide) (fun c_77 => ?_) (fun c_77 => ?_)
  · skip
    have z : ¬ aw = 0 := fun z => c_77 (by rw [z]; rfl)
    refine go_bipush (v := (-10)) dX4_read_87 (by decide) ?_
    refine go_aload_n dX4_read_89 rfl ?_
    refine go_get dX4_read_90 fX4_22 (by omega) k0 rfl ?_
    refine go_isub dX4_read_93 ?_
    refine go_iret dX4_read_94 rfl ?_
    first | (rw [if_neg z]; exact RDP.l rfl hF hM.mt) | (rw [if_pos z]; exact RDP.r (s := (aw, it, pb, kb, cb, ro, ce, f, K, C)) rfl hF hM hO)
  · skip
    have z : aw = 0 := (nI_eq (b := 0) (by omega) (by decide)).mp (Decidable.not_not.mp c_77)
    refine go_aload_n dX4_read_80 rfl ?_
    refine go_get dX4_read_81 fX4_40 (by omega) k0 rfl ?_
    refine go_goto (tgt := 94) dX4_read_84 (by decide) ?_
    refine go_iret dX4_read_94 rfl ?_
    first | (rw [if_neg z]; exact RDP.l rfl hF hM.mt) | (rw [if_pos z]; exact RDP.r (s := (aw, it, pb, kb, cb, ro, ce, f, K, C)) rfl hF hM hO)
set_option maxRecDepth 100000 in
theorem read_loop {d : Nat} {h0 : gH} {t : TX} (ht : t.1 ≤ 150) (hb : ∀ i, i < t.1 → t.2 i ≤ 255) : ∀ (m p n : Nat) (h : gH) (s : PS) (w3 : Option Value), t.1 ≤ p + m → p ≤ t.1 → n ≤ p → Fr 44 49 h0 h → PO p s → Mr h t s → Go none RX4 cX4_read 4 (some .int) false (d + 5) 8 [some (.ref 44), some (.int (nI p)), some (.int (nI n)), w3] [] h 163 0 0 (RDP t h0 (rd t p s)) := by
  intro m
  induction m with
  | zero =>
    intro p n h s w3 hm hp hn hF hO hM
    have e : p = t.1 := by omega
    subst e
    obtain ⟨F, x3, x4, x5, x6, x7, x8, x9, c, k0, k1, -, k2⟩ := id hM.mt
    refine go_iload_n dX4_read_8 rfl ?_
    refine go_sipush (v := nI 150) dX4_read_9 (by decide) ?_
    refine go_icmp_ge (tgt := 73) dX4_read_12 (by decide) (fun c_12 => ?_) (fun c_12 => ?_)
    · skip
      exact read_end hF hO hM
    · skip
      refine go_iload_n dX4_read_15 rfl ?_
      refine go_aload_n dX4_read_16 rfl ?_
      refine go_get dX4_read_17 fX4_22 (by omega) k0 rfl ?_
      refine go_icmp_ge (tgt := 73) dX4_read_20 (by decide) (fun c_20 => ?_) (fun c_20 => ?_)
      · skip
        exact read_end hF hO hM
      · exact absurd (nI_le (Nat.le_refl _) (by omega)) c_20
  | succ m ih =>
    intro p n h s w3 hm hp hn hF hO hM
    obtain ⟨F, x3, x4, x5, x6, x7, x8, x9, c, k0, k1, -, k2⟩ := id hM.mt
    by_cases hpt : p < t.1
    · have hbp := hb p hpt
      have htl : te t p ≤ t.1 := by
        unfold te
        split
        · omega
        · split
          · exact rn_le (by omega)
          · exact rn_le (by omega)
      have KK : ∀ (h' : gH) (n' : Nat) (w : Option Value), ¬ t.2 p = 32 → ((tok t p s).map (fun q => q.2)).isSome = true → Fr 44 49 h h' → (∀ s', (tok t p s).map (fun q => q.2) = some s' → Mr h' t s') → n' ≤ p + 1 → Go none RX4 cX4_read 4 (some .int) false (d + 5) 8 [some (.ref 44), some (.int (nI (te t p))), some (.int (nI n')), w] [] h' 163 0 0 (RDP t h0 (rd t p s)) := by
        intro h' n' w c1 c3 tF tS hn'
        cases hq : tok t p s with
        | none => rw [hq] at c3; cases c3
        | some z =>
          have hz : tok t p s = some (z.1, z.2) := hq
          have hze := tok_te hz
          have hzl := tok_lt hpt hz
          rw [rd_tok hpt c1 hz, ← hze]
          exact ih z.1 n' _ z.2 _ (by omega) (by omega) (by omega) (hF.trans tF) (PO_tok hpt hO hz) (tS z.2 (by rw [hq]; rfl))
      refine go_iload_n dX4_read_8 rfl ?_
      refine go_sipush (v := nI 150) dX4_read_9 (by decide) ?_
      refine go_icmp_ge (tgt := 73) dX4_read_12 (by decide) (fun c_12 => ?_) (fun c_12 => ?_)
      · exact absurd c_12 (nI_ge (by omega) (by omega))
      · skip
        refine go_iload_n dX4_read_15 rfl ?_
        refine go_aload_n dX4_read_16 rfl ?_
        refine go_get dX4_read_17 fX4_22 (by omega) k0 rfl ?_
        refine go_icmp_ge (tgt := 73) dX4_read_20 (by decide) (fun c_20 => ?_) (fun c_20 => ?_)
        · exact absurd c_20 (nI_ge (by omega) (by omega))
        · skip
          refine go_aload_n dX4_read_23 rfl ?_
          refine go_get dX4_read_24 fX4_9 (by omega) k0 rfl ?_
          refine go_iload_n dX4_read_27 rfl ?_
          refine go_iald dX4_read_28 (by omega) k1 rfl (by omega) (by omega) ?_
          refine go_top (y := .int (nI (t.2 p))) (by rw [k2 _ hpt]) ?_
          refine go_bipush (v := nI 32) dX4_read_29 (by decide) ?_
          refine go_icmp_ne (tgt := 40) dX4_read_31 (by decide) (fun c_31 => ?_) (fun c_31 => ?_)
          · skip
            have c1 : ¬ t.2 p = 32 := fun z => c_31 (by rw [z])
            refine go_aload_n dX4_read_40 rfl ?_
            refine go_iload_n dX4_read_41 rfl ?_
            refine go_iv dX4_read_42 mX4_tokenEnd iX4_29 (run_tokenEnd (d + 3) k0 k1 k2 ht hb hpt) rfl rfl (by omega) k0 rfl (Nat.le_of_ble_eq_true rfl) (Nat.zero_le _) (Nat.zero_le _) (fun v_42 h_42 n_42 q_42 => ?_)
            obtain ⟨rfl, rfl, rfl⟩ := q_42
            refine go_istore_n (L' := [_, _, _, _]) dX4_read_45 rfl (by decide) rfl ?_
            refine go_iload_n dX4_read_46 rfl ?_
            refine go_iload_n dX4_read_47 rfl ?_
            refine go_icmp_eq (tgt := 60) dX4_read_48 (by decide) (fun c_48 => ?_) (fun c_48 => ?_)
            · skip
              have c2 : te t p = p := (nI_eq (by omega) (by omega)).mp c_48
              refine go_bipush (v := (-10)) dX4_read_60 (by decide) ?_
              refine go_iload_n dX4_read_62 rfl ?_
              refine go_isub dX4_read_63 ?_
              refine go_iret dX4_read_64 rfl ?_
              first | exact RDP.l (rd_no hpt c1 (by cases hq : tok t p s with | none => rfl | some z => exact absurd ((tok_te (show tok t p s = some (z.1, z.2) from hq)).trans c2) (by have := tok_lt hpt (show tok t p s = some (z.1, z.2) from hq); omega))) hF hM.mt | (have hn0 : tok t p s = none := (by cases hq : tok t p s with | none => rfl | some z => rw [hq] at c3; cases c3); exact RDP.l (rd_no hpt c1 hn0) (by rw [tN (by rw [hn0]; rfl)]; exact hF) (by rw [tN (by rw [hn0]; rfl)]; exact hM.mt))
            · skip
              have c2 : te t p ≠ p := fun z => c_48 (by rw [z])
              refine go_aload_n dX4_read_51 rfl ?_
              refine go_iload_n dX4_read_52 rfl ?_
              refine go_iload_n dX4_read_53 rfl ?_
              refine go_iv dX4_read_54 mX4_takes iX4_33 (run_takes d ht hb hpt c2 hO hM) rfl rfl (by omega) k0 rfl (Nat.le_of_ble_eq_true rfl) (Nat.zero_le _) (Nat.zero_le _) (fun v_54 h_54 n_54 q_54 => ?_)
              obtain ⟨rfl, rfl, tF, tN, tS⟩ := q_54
              refine go_if_ne (tgt := 65) dX4_read_57 (by decide) (fun c_57 => ?_) (fun c_57 => ?_)
              · skip
                have c3 := bI_ne.mp c_57
                refine go_iload_n dX4_read_65 rfl ?_
                refine go_istore_n (L' := [_, _, _, _]) dX4_read_66 rfl (by decide) rfl ?_
                refine go_inc (L' := [_, _, _, _]) dX4_read_67 rfl (by decide) rfl ?_
                refine go_goto (tgt := 8) dX4_read_70 (by decide) ?_
                first | (rw [rd_blank hpt c1]; exact ih (p + 1) (n + 1) _ s _ (by omega) (by omega) (by omega) hF (hO.mono (by omega)) hM) | exact KK _ (n + 1) _ c1 c3 tF tS (by omega)
              · skip
                have c3 : ((tok t p s).map (fun q => q.2)).isSome = false := bI_eq.mp (Decidable.not_not.mp c_57)
                refine go_bipush (v := (-10)) dX4_read_60 (by decide) ?_
                refine go_iload_n dX4_read_62 rfl ?_
                refine go_isub dX4_read_63 ?_
                refine go_iret dX4_read_64 rfl ?_
                first | exact RDP.l (rd_no hpt c1 (by cases hq : tok t p s with | none => rfl | some z => exact absurd ((tok_te (show tok t p s = some (z.1, z.2) from hq)).trans c2) (by have := tok_lt hpt (show tok t p s = some (z.1, z.2) from hq); omega))) hF hM.mt | (have hn0 : tok t p s = none := (by cases hq : tok t p s with | none => rfl | some z => rw [hq] at c3; cases c3); exact RDP.l (rd_no hpt c1 hn0) (by rw [tN (by rw [hn0]; rfl)]; exact hF) (by rw [tN (by rw [hn0]; rfl)]; exact hM.mt))
          · skip
            have c1 : t.2 p = 32 := (nI_eq (by omega) (by decide)).mp (Decidable.not_not.mp c_31)
            refine go_inc (L' := [_, _, _, _]) dX4_read_34 rfl (by decide) rfl ?_
            refine go_goto (tgt := 67) dX4_read_37 (by decide) ?_
            refine go_inc (L' := [_, _, _, _]) dX4_read_67 rfl (by decide) rfl ?_
            refine go_goto (tgt := 8) dX4_read_70 (by decide) ?_
            first | (rw [rd_blank hpt c1]; exact ih (p + 1) (n + 1) _ s _ (by omega) (by omega) (by omega) hF (hO.mono (by omega)) hM) | exact KK _ (n + 1) _ c1 c3 tF tS (by omega)
    · have e : p = t.1 := by omega
      subst e
      refine go_iload_n dX4_read_8 rfl ?_
      refine go_sipush (v := nI 150) dX4_read_9 (by decide) ?_
      refine go_icmp_ge (tgt := 73) dX4_read_12 (by decide) (fun c_12 => ?_) (fun c_12 => ?_)
      · skip
        exact read_end hF hO hM
      · skip
        refine go_iload_n dX4_read_15 rfl ?_
        refine go_aload_n dX4_read_16 rfl ?_
        refine go_get dX4_read_17 fX4_22 (by omega) k0 rfl ?_
        refine go_icmp_ge (tgt := 73) dX4_read_20 (by decide) (fun c_20 => ?_) (fun c_20 => ?_)
        · skip
          exact read_end hF hO hM
        · exact absurd (nI_le (Nat.le_refl _) (by omega)) c_20
theorem run_read (d : Nat) {h : gH} {t : TX} (ht : t.1 ≤ 150) (hb : ∀ i, i < t.1 → t.2 i ≤ 255) (hM : Mt h t.1 t.2) : Run (d + 5) yX4_read cX4_read 4 (some .int) [.ref 44] h 163 0 0 (RDP t h (rd t 0 ps0)) := by
  obtain ⟨F, x3, x4, x5, x6, x7, x8, x9, c, m0, -⟩ := id hM
  refine Run.of (ini := false) (L := [_, _, _, _]) mX4_read (fun h => by cases h) rfl (Nat.le_of_ble_eq_true rfl) rfl ?_
  refine go_aload_n dX4_read_0 rfl ?_
  refine go_iv dX4_read_1 mX4_begin iX4_26 (run_begin (d + 2) hM) rfl rfl (by omega) m0 rfl (Nat.le_of_ble_eq_true rfl) (Nat.zero_le _) (Nat.zero_le _) (fun v_1 h_1 n_1 q_1 => ?_)
  obtain ⟨rfl, rfl, hR1, hF1⟩ := q_1
  refine go_iconst (v := nI 0) dX4_read_4 (by decide) ?_
  refine go_istore_n (L' := [_, _, _, _]) dX4_read_5 rfl (by decide) rfl ?_
  refine go_iconst (v := nI 0) dX4_read_6 (by decide) ?_
  refine go_istore_n (L' := [_, _, _, _]) dX4_read_7 rfl (by decide) rfl ?_
  exact read_loop ht hb t.1 0 0 _ ps0 _ (by omega) (by omega) (by omega) hF1 PO.zero hR1
set_option maxRecDepth 100000 in
theorem fault_neg {q : Nat} (hq : q ≤ 150) : ¬ (0 : Int32) ≤ -10 - nI q := by
  have key : ∀ q, q < 151 → ¬ (0 : Int32) ≤ -10 - nI q := by decide
  exact key q (by omega)
set_option maxRecDepth 100000 in
theorem mk_loop {it : Int32} {h0 : gH} {Q : Option Value → gH → Nat → Prop} (ho : Ob h0)
    (hq : ∀ (h : gH) (KF : Nat → Int32) (w : Option Value), h 43 = .inl (2, 2, .inl KF) → (∀ j, j < 2 → KF j = 0) → Fr 43 44 h0 h → Go none RX8 cX8_map 3 (some .int) false 8 63 [some (.ref 0), some (.int it), w] [] h 163 0 0 Q) :
    ∀ (m i : Nat) (h : gH) (KF : Nat → Int32), i + m = 2 → h 43 = .inl (2, 2, .inl KF) → (∀ j, j < i → KF j = 0) → Fr 43 44 h0 h → Go none RX8 cX8_map 3 (some .int) false 8 45 [some (.ref 0), some (.int it), some (.int (nI i))] [] h 163 0 0 Q := by
  intro m
  induction m with
  | zero =>
    intro i h KF hi hK hz hF
    refine go_iload_n dX8_map_45 rfl ?_
    refine go_iconst (v := nI 2) dX8_map_46 (by decide) ?_
    refine go_icmp_ge (tgt := 63) dX8_map_47 (by decide) (fun c_47 => ?_) (fun c_47 => ?_)
    · skip
      exact hq h KF _ hK (fun j hj => hz j (by omega)) hF
    · exact absurd (nI_le (by omega) (by omega)) c_47
  | succ m ih =>
    intro i h KF hi hK hz hF
    refine go_iload_n dX8_map_45 rfl ?_
    refine go_iconst (v := nI 2) dX8_map_46 (by decide) ?_
    refine go_icmp_ge (tgt := 63) dX8_map_47 (by decide) (fun c_47 => ?_) (fun c_47 => ?_)
    · exact absurd c_47 (nI_ge (by omega) (by omega))
    · skip
      refine go_aload_n dX8_map_50 rfl ?_
      refine go_get dX8_map_51 fX8_27 (by omega) ((hF 0 (by omega)).trans ho) rfl ?_
      refine go_iload_n dX8_map_54 rfl ?_
      refine go_iconst (v := nI 0) dX8_map_55 (by decide) ?_
      refine go_zast dX8_map_56 (by omega) hK rfl (by omega) (by omega) (by decide) ?_
      refine go_inc (L' := [_, _, _]) dX8_map_57 rfl (by decide) rfl ?_
      refine go_goto (tgt := 45) dX8_map_60 (by decide) ?_
      refine ih (i + 1) _ _ (by omega) hset_same (fun j hj => ?_) (hF.set (by omega) (by omega))
      by_cases e : j = i
      · subst e; exact pk_us
      · rw [pk_un e]; exact hz j (by omega)
set_option maxRecDepth 100000 in
theorem mk_tail {it : Int32} {h : gH} {c : CD} {l cu le ta : Bool} {w : Option Value} {Q : Option Value → gH → Nat → Prop} (ho : Ob h) (hP : Pa h c l cu le ta) (hq : ∀ h', (∀ c', Pa h' c' false false false false) → Fr 49 50 h h' → Q (some (.int it)) h' 163) : Go none RX8 cX8_map 3 (some .int) false 8 63 [some (.ref 0), some (.int it), w] [] h 163 0 0 Q := by
  refine go_aload_n dX8_map_63 rfl ?_
  refine go_get dX8_map_64 fX8_43 (by omega) ho rfl ?_
  refine go_iv dX8_map_67 mX6_forget iX8_66 (run_pforget 7 (by omega) hP) rfl rfl (by omega) hP.1 rfl (Nat.le_of_ble_eq_true rfl) (Nat.zero_le _) (Nat.zero_le _) (fun v_67 h_67 n_67 q_67 => ?_)
  obtain ⟨rfl, rfl, hP2, hF2⟩ := q_67
  refine go_iload_n dX8_map_70 rfl ?_
  refine go_iret dX8_map_71 rfl ?_
  exact hq _ hP2 hF2
set_option maxRecDepth 100000 in
theorem c_map {h : gH} {s : SD} (hw : SW s) (hS : CS h s) : Run 8 yX8_map cX8_map 3 (some .int) [.ref 0] h 163 0 0 (fun v h' N' => v = some (.int (mapS s).1) ∧ N' = 163 ∧ CS h' (mapS s).2 ∧ Fr 0 147 h h') := by
  obtain ⟨o, hC, ⟨nx, H, hx, hH, hU⟩, ⟨⟨R, r0, r1⟩, i1, KF, kk0, kk1⟩, hM, l, cu, le, ta, hP⟩ := id hS
  obtain ⟨F, x3, x4, x5, x6, x7, x8, x9, c, m0, -⟩ := id hM
  have ht := hw.2.2.2.2.1
  refine Run.of (ini := false) (L := [_, _, _]) mX8_map (fun h => by cases h) rfl (Nat.le_of_ble_eq_true rfl) rfl ?_
  cases hr : rd s.2.2.2 0 ps0 with
  | inl q =>
    have e : mapS s = (-10 - nI q, s) := by unfold mapS; rw [hr]
    have hq := rd_le _ _ _ _ (Nat.zero_le _) hr
    rw [e]
    refine go_aload_n dX8_map_0 rfl ?_
    refine go_get dX8_map_1 fX8_34 (by omega) o rfl ?_
    refine go_iv dX8_map_4 mX4_read iX8_55 (run_read 2 ht hw.2.2.2.2.2 hM) rfl rfl (by omega) m0 rfl (Nat.le_of_ble_eq_true rfl) (Nat.zero_le _) (Nat.zero_le _) (fun v_4 h_4 n_4 q_4 => ?_)
    obtain ⟨rfl, tF, tM, tl, -⟩ := q_4
    have hv := tl q hr
    subst hv
    refine go_istore_n (L' := [_, _, _]) dX8_map_7 rfl (by decide) rfl ?_
    refine go_iload_n dX8_map_8 rfl ?_
    refine go_if_ge (tgt := 14) dX8_map_9 (by decide) (fun c_9 => ?_) (fun c_9 => ?_)
    · exact absurd c_9 (fault_neg (by omega))
    · skip
      refine go_iload_n dX8_map_12 rfl ?_
      refine go_iret dX8_map_13 rfl ?_
      exact ⟨rfl, rfl, ⟨(tF 0 (by omega)).trans o, hC.fr tF (by omega), HU.fr ⟨nx, H, hx, hH, hU⟩ tF (by omega), Im.fr ⟨⟨R, r0, r1⟩, i1, KF, kk0, kk1⟩ tF (by omega), tM, PaE.fr ⟨l, cu, le, ta, hP⟩ tF (by omega)⟩, tF.wide (by omega) (by omega)⟩
  | inr st =>
    obtain ⟨aw, it, pb, kb, cb, ro, ce, f, K, C⟩ := st
    have e : mapS s = (nI it, ((f, fun _ => 0, none, K, C), (0, s.2.1.2), (s.2.2.1.1, fun _ => false), (0, s.2.2.2.2))) := by unfold mapS; rw [hr]
    rw [e]
    refine go_aload_n dX8_map_0 rfl ?_
    refine go_get dX8_map_1 fX8_34 (by omega) o rfl ?_
    refine go_iv dX8_map_4 mX4_read iX8_55 (run_read 2 ht hw.2.2.2.2.2 hM) rfl rfl (by omega) m0 rfl (Nat.le_of_ble_eq_true rfl) (Nat.zero_le _) (Nat.zero_le _) (fun v_4 h_4 n_4 q_4 => ?_)
    obtain ⟨rfl, tF, tM, -, tr⟩ := q_4
    obtain ⟨hv, hR, hO⟩ := tr _ hr
    subst hv
    obtain ⟨F2, y8, y9, n0, n1, n2, n3, -⟩ := id hR
    have o1 := (tF 0 (by omega)).trans o
    have hC1 := hC.fr tF (by omega)
    obtain ⟨FA, GA, a0, -⟩ := id hC1
    have hit := hO.2.1
    refine go_istore_n (L' := [_, _, _]) dX8_map_7 rfl (by decide) rfl ?_
    refine go_iload_n dX8_map_8 rfl ?_
    refine go_if_ge (tgt := 14) dX8_map_9 (by decide) (fun c_9 => ?_) (fun c_9 => ?_)
    · skip
      refine go_aload_n dX8_map_14 rfl ?_
      refine go_get dX8_map_15 fX8_10 (by omega) o1 rfl ?_
      refine go_aload_n dX8_map_18 rfl ?_
      refine go_get dX8_map_19 fX8_34 (by omega) o1 rfl ?_
      refine go_get dX8_map_22 fX8_59 (by omega) n0 rfl ?_
      refine go_iv dX8_map_25 mX0_become iX8_60 (run_become 6 (i := 1) (j := 46) (by omega) (by omega) (by omega) hC1 n3) rfl rfl (by omega) a0 rfl (Nat.le_of_ble_eq_true rfl) (Nat.zero_le _) (Nat.zero_le _) (fun v_25 h_25 n_25 q_25 => ?_)
      obtain ⟨rfl, rfl, hC2, hF2⟩ := q_25
      refine go_aload_n dX8_map_28 rfl ?_
      refine go_get dX8_map_29 fX8_34 (by omega) ((hF2 0 (by omega)).trans o1) rfl ?_
      refine go_iconst (v := nI 0) dX8_map_32 (by decide) ?_
      refine go_put (fs' := [_, _, _, _, _, _, _, _, _, _]) dX8_map_33 fX8_51 (by omega) ((hF2 44 (by omega)).trans n0) (Nat.le_of_ble_eq_true rfl) (Or.inl rfl) ⟨_, _, _, rfl, Or.inl rfl⟩ rfl ?_
      generalize hh : hset h_25 44 _ = h3
      have e44 : h3 44 = .inr (4, [.ref 45, .ref 46, .int (nI 0), .int (nI aw), .int (nI it), .int (nI pb), .int (bI kb), .int (bI cb), .int y8, .int y9]) := by rw [← hh]; exact hset_same
      have f3 : Fr 44 45 h_25 h3 := by rw [← hh]; exact Fr.rf.set (by omega) (by omega)
      have o3 := (f3 0 (by omega)).trans ((hF2 0 (by omega)).trans o1)
      have hH3 : Hs h3 nx s.2.1.1 H := ((hH.fr tF (by omega)).fr hF2 (by omega)).fr f3 (by omega)
      obtain ⟨RH, u0, -⟩ := id hH3
      refine go_aload_n dX8_map_36 rfl ?_
      refine go_get dX8_map_37 fX8_19 (by omega) o3 rfl ?_
      refine go_iv dX8_map_40 mX1_forget iX8_63 (run_hforget 7 (by omega) hH3) rfl rfl (by omega) u0 rfl (Nat.le_of_ble_eq_true rfl) (Nat.zero_le _) (Nat.zero_le _) (fun v_40 h_40 n_40 q_40 => ?_)
      obtain ⟨rfl, rfl, hH4, hF4⟩ := q_40
      have o4 := (hF4 0 (by omega)).trans o3
      have kk4 : h_40 43 = .inl (2, 2, .inl KF) := (hF4 _ (by omega)).trans ((f3 _ (by omega)).trans ((hF2 _ (by omega)).trans ((tF _ (by omega)).trans kk0)))
      refine go_iconst (v := nI 0) dX8_map_43 (by decide) ?_
      refine go_istore_n (L' := [_, _, _]) dX8_map_44 rfl (by decide) rfl ?_
      have hP4 := (((hP.fr tF (by omega)).fr hF2 (by omega)).fr f3 (by omega)).fr hF4 (by omega)
      refine mk_loop o4 (fun h5 KF5 w5 b1 b2 hF5 => ?_) 2 0 _ KF (by omega) kk4 (fun j hj => absurd hj (by omega)) Fr.rf
      refine mk_tail ((hF5 0 (by omega)).trans o4) (hP4.fr hF5 (by omega)) (fun h6 hP6 hF6 => ?_)
      have g : ∀ x, x ≠ 1 → x ≠ 2 → x ≠ 3 → x ≠ 44 → x ≠ 4 → x ≠ 43 → x ≠ 49 → h6 x = h_4 x := fun x q1 q2 q3 q4 q5 q6 q7 => (hF6 x (by omega)).trans ((hF5 x (by omega)).trans ((hF4 x (by omega)).trans ((f3 x (by omega)).trans (hF2 x (by omega)))))
      refine ⟨rfl, rfl, ⟨(hF6 0 (by omega)).trans ((hF5 0 (by omega)).trans o4), (((hC2.fr f3 (by omega)).fr hF4 (by omega)).fr hF5 (by omega)).fr hF6 (by omega), ⟨nx, H, hx, (hH4.fr hF5 (by omega)).fr hF6 (by omega), fun i hi => absurd hi (Nat.not_lt_zero _)⟩, ⟨⟨R, (g _ (by omega) (by omega) (by omega) (by omega) (by omega) (by omega) (by omega)).trans ((tF _ (by omega)).trans r0), r1⟩, fun i hi => (((((i1 i hi).fr tF (by omega)).fr hF2 (by omega)).fr f3 (by omega)).fr hF4 (by omega)).fr hF5 (by omega) |>.fr hF6 (by omega), KF5, (hF6 _ (by omega)).trans b1, fun i hi => b2 i hi⟩, ⟨F2, _, _, _, _, _, _, _, (f, fun _ => 0, none, K, C), (hF6 _ (by omega)).trans ((hF5 _ (by omega)).trans ((hF4 _ (by omega)).trans e44)), (g _ (by omega) (by omega) (by omega) (by omega) (by omega) (by omega) (by omega)).trans n1, n3.kept (g _ (by omega) (by omega) (by omega) (by omega) (by omega) (by omega) (by omega)) (g _ (by omega) (by omega) (by omega) (by omega) (by omega) (by omega) (by omega)) (g _ (by omega) (by omega) (by omega) (by omega) (by omega) (by omega) (by omega)), fun i hi => absurd hi (Nat.not_lt_zero _)⟩, ⟨_, _, _, _, hP6 _⟩⟩, fun x hx => ?_⟩
      rw [g x (by omega) (by omega) (by omega) (by omega) (by omega) (by omega) (by omega)]
      exact tF x (by omega)
    · exact absurd (show (0 : Int32) ≤ nI it from nI_pos' (by omega)) c_9
