/-! ===== readsItem: the reference's side ===== -/
def alo (t : TX) (q : Nat) : Bool := decide (¬ (q + 1 < t.1 ∧ isL (t.2 (q + 1)) = true))
theorem rn_alo {t : TX} {q : Nat} (hq : q < t.1) (hl : isL (t.2 q) = true) : rn isL t q = q + 1 ↔ alo t q = true := by
  rw [rn_step hq hl]
  unfold alo
  rw [decide_eq_true_iff]
  constructor
  · intro z y
    have := rn_gt y.1 y.2
    omega
  · intro z
    exact rn_stop z
theorem rd_letter_y {t : TX} {q : Nat} {s s' : PS} (hq : q < t.1) (hl : isL (t.2 q) = true) (ha : alo t q = true) (hs : tkL s (t.2 q) = some s') : rd t q s = rd t (q + 1) s' := by
  have h32 : ¬ t.2 q = 32 := fun z => by rw [z] at hl; cases hl
  refine rd_tok hq h32 ?_
  unfold tok
  rw [if_pos hl, if_pos ((rn_alo hq hl).mpr ha), hs]
  rfl
theorem rd_letter_n {t : TX} {q : Nat} {s : PS} (hq : q < t.1) (hl : isL (t.2 q) = true) (h : ¬ alo t q = true ∨ tkL s (t.2 q) = none) : rd t q s = .inl q := by
  have h32 : ¬ t.2 q = 32 := fun z => by rw [z] at hl; cases hl
  refine rd_no hq h32 ?_
  unfold tok
  rw [if_pos hl]
  rcases h with z | z
  · rw [if_neg (fun y => z ((rn_alo hq hl).mp y))]
  · rw [z]
    split <;> rfl
theorem rd_other {t : TX} {q it pb ro ce K C : Nat} {kb cb : Bool} {f : Nat → Option Nat} (hq : q < t.1) (h32 : ¬ t.2 q = 32) (h1 : t.2 q ≠ 112) (h2 : t.2 q ≠ 107) (h3 : t.2 q ≠ 99) : rd t q (0, it, pb, kb, cb, ro, ce, f, K, C) = .inl q := by
  refine rd_no hq h32 ?_
  have e : tkL (0, it, pb, kb, cb, ro, ce, f, K, C) (t.2 q) = none := by simp only [tkL, if_neg h1, if_neg h2, if_neg h3, if_true]
  unfold tok
  split
  · rw [e]; split <;> rfl
  · split
    · cases numT t q (rn isD t q) <;> rfl
    · split <;> rfl
set_option maxRecDepth 100000 in
theorem ri45 {d : Nat} {t : TX} {h : gH} {m a k e u sn rn' : Int32} {q it pb ro ce K C : Nat} {kb cb : Bool} {f : Nat → Option Nat} (hTT : TT h t) (hq : q < t.1) (h32 : ¬ t.2 q = 32) (hM : MRd h t m a k e u sn rn' q (0, it, pb, kb, cb, ro, ce, f, K, C)) (hO : PO q (0, it, pb, kb, cb, ro, ce, f, K, C)) : Go none RX9 cX9_readsItem 4 (some .boolean) false (d + 4) 45 [some (.ref 147), some (.int (nI (t.2 q))), some (.int (bI (alo t q))), none] [] h 163 0 0 (RIP t h m a k e u sn rn' q it (rd t q (0, it, pb, kb, cb, ro, ce, f, K, C))) := by
  have hbq := hTT.2.2 q hq
  obtain ⟨r4, RW, RV, w, v, h7, hW, hV, hE, hEw, hk, hc⟩ := hM
  obtain ⟨o1, o2, o3, o4, o5, o6, o7, o8, o9⟩ := id hO
  have fail : rd t q (0, it, pb, kb, cb, ro, ce, f, K, C) = .inl q → RIP t h m a k e u sn rn' q it (rd t q (0, it, pb, kb, cb, ro, ce, f, K, C)) (some (.int 0)) h 163 := fun z => by
    rw [z]
    exact ⟨rfl, fun x _ _ _ => rfl, Or.inr ⟨rfl, q, rfl, by omega, ⟨_, _, _, _, h7⟩, RW, RV, hW, hV⟩⟩
  by_cases e1 : t.2 q = 112
  · have hl : isL (t.2 q) = true := by rw [e1]; rfl
    have hb : tkL (0, it, pb, kb, cb, ro, ce, f, K, C) (t.2 q) = if pb < 24 then some (1, it, pb + 1, kb, cb, ro, ce, f, K, C) else none := by rw [e1]; rfl
    rw [show nI (t.2 q) = nI 112 by rw [e1]]
    by_cases c1 : pb < 24
    · have hs : tkL (0, it, pb, kb, cb, ro, ce, f, K, C) (t.2 q) = some (1, it, pb + 1, kb, cb, ro, ce, f, K, C) := by rw [hb, if_pos c1]
      refine go_iload_n dX9_readsItem_45 rfl ?_
      refine go_bipush (v := nI 112) dX9_readsItem_46 (by decide) ?_
      refine go_icmp_ne (tgt := 68) dX9_readsItem_48 (by decide) (fun c_48 => ?_) (fun c_48 => ?_)
      · exact absurd rfl c_48
      · skip
        refine go_aload_n dX9_readsItem_51 rfl ?_
        refine go_get dX9_readsItem_52 fX9_83 (by omega) h7 rfl ?_
        refine go_bipush (v := nI 24) dX9_readsItem_55 (by decide) ?_
        refine go_icmp_ge (tgt := 64) dX9_readsItem_57 (by decide) (fun c_57 => ?_) (fun c_57 => ?_)
        · exact absurd c_57 (nI_ge (by omega) (by omega))
        · skip
          refine go_iconst (v := nI 1) dX9_readsItem_60 (by decide) ?_
          refine go_goto (tgt := 109) dX9_readsItem_61 (by decide) ?_
          refine go_istore_n (L' := [_, _, _, _]) dX9_readsItem_109 rfl (by decide) rfl ?_
          refine go_iload_n dX9_readsItem_110 rfl ?_
          refine go_if_eq (tgt := 118) dX9_readsItem_111 (by decide) (fun c_111 => ?_) (fun c_111 => ?_)
          · skip
            have c2 : ¬ alo t q = true := by rw [bI_eq.mp c_111]; decide
            refine go_iconst (v := nI 0) dX9_readsItem_118 (by decide) ?_
            refine go_zret dX9_readsItem_119 rfl (by first | exact Or.inl rfl | exact Or.inr rfl | exact bI01 _) ?_
            exact fail (rd_letter_n hq hl (Or.inl c2))
          · skip
            have c2 : alo t q = true := bI_ne.mp c_111
            refine go_iload_n dX9_readsItem_114 rfl ?_
            refine go_if_ne (tgt := 120) dX9_readsItem_115 (by decide) (fun c_115 => ?_) (fun c_115 => ?_)
            · skip
              refine go_aload_n dX9_readsItem_120 rfl ?_
              refine go_dup dX9_readsItem_121 rfl ?_
              refine go_get dX9_readsItem_122 fX9_70 (by omega) h7 rfl ?_
              refine go_iconst (v := nI 1) dX9_readsItem_125 (by decide) ?_
              refine go_iadd dX9_readsItem_126 ?_
              refine go_top (y := .int (nI (q + 1))) (by rw [nI_add]) ?_
              refine go_put (fs' := [_, _, _, _, _, _, _, _, _, _, _, _, _, _, _, _, _, _, _, _, _, _, _, _, _, _, _, _]) dX9_readsItem_127 fX9_70 (by omega) h7 (Nat.le_of_ble_eq_true rfl) (Or.inl rfl) ⟨_, _, _, rfl, Or.inl rfl⟩ rfl ?_
              refine go_iload_n dX9_readsItem_130 rfl ?_
              refine go_bipush (v := nI 112) dX9_readsItem_131 (by decide) ?_
              refine go_icmp_ne (tgt := 143) dX9_readsItem_133 (by decide) (fun c_133 => ?_) (fun c_133 => ?_)
              · exact absurd rfl c_133
              · skip
                rw [rd_letter_y hq hl c2 hs]
                refine go_aload_n dX9_readsItem_136 rfl ?_
                refine go_iv dX9_readsItem_137 mX9_readsPlace iX9_104 (run_readsPlace d (w := w) (v := v) (hTT.ag (hset_ne (by omega))) (show q + 1 ≤ t.1 by omega) c1 hset_same ((hset_ne (by omega)).trans hW) ((hset_ne (by omega)).trans hV) hE hEw hk hc ((PO_L hO hs).mono (by omega))) rfl rfl (by omega) hset_same rfl (Nat.le_of_ble_eq_true rfl) (Nat.zero_le _) (Nat.zero_le _) (fun v_137 h_137 n_137 q_137 => ?_)
                refine go_goto (tgt := 160) dX9_readsItem_140 (by decide) ?_
                obtain ⟨z1, z2, ⟨rfl, p', s', z3, z4⟩ | ⟨rfl, z3⟩⟩ := q_137
                · subst z1; exact go_zret dX9_readsItem_160 rfl (Or.inr rfl) ⟨rfl, fun x q1 q2 q3 => (z2 x q1 q2 q3).trans (hset_ne q1), Or.inl ⟨rfl, p', s', by omega, z4⟩⟩
                · subst z1; exact go_zret dX9_readsItem_160 rfl (Or.inl rfl) ⟨rfl, fun x q1 q2 q3 => (z2 x q1 q2 q3).trans (hset_ne q1), Or.inr ⟨rfl, z3⟩⟩
            · exact absurd (by decide) c_115
    · skip
      refine go_iload_n dX9_readsItem_45 rfl ?_
      refine go_bipush (v := nI 112) dX9_readsItem_46 (by decide) ?_
      refine go_icmp_ne (tgt := 68) dX9_readsItem_48 (by decide) (fun c_48 => ?_) (fun c_48 => ?_)
      · exact absurd rfl c_48
      · skip
        refine go_aload_n dX9_readsItem_51 rfl ?_
        refine go_get dX9_readsItem_52 fX9_83 (by omega) h7 rfl ?_
        refine go_bipush (v := nI 24) dX9_readsItem_55 (by decide) ?_
        refine go_icmp_ge (tgt := 64) dX9_readsItem_57 (by decide) (fun c_57 => ?_) (fun c_57 => ?_)
        · skip
          refine go_iconst (v := nI 0) dX9_readsItem_64 (by decide) ?_
          refine go_goto (tgt := 109) dX9_readsItem_65 (by decide) ?_
          refine go_istore_n (L' := [_, _, _, _]) dX9_readsItem_109 rfl (by decide) rfl ?_
          refine go_iload_n dX9_readsItem_110 rfl ?_
          refine go_if_eq (tgt := 118) dX9_readsItem_111 (by decide) (fun c_111 => ?_) (fun c_111 => ?_)
          · skip
            refine go_iconst (v := nI 0) dX9_readsItem_118 (by decide) ?_
            refine go_zret dX9_readsItem_119 rfl (by first | exact Or.inl rfl | exact Or.inr rfl | exact bI01 _) ?_
            exact fail (rd_letter_n hq hl (Or.inr (by rw [hb, if_neg c1])))
          · skip
            refine go_iload_n dX9_readsItem_114 rfl ?_
            refine go_if_ne (tgt := 120) dX9_readsItem_115 (by decide) (fun c_115 => ?_) (fun c_115 => ?_)
            · exact absurd rfl c_115
            · skip
              refine go_iconst (v := nI 0) dX9_readsItem_118 (by decide) ?_
              refine go_zret dX9_readsItem_119 rfl (by first | exact Or.inl rfl | exact Or.inr rfl | exact bI01 _) ?_
              exact fail (rd_letter_n hq hl (Or.inr (by rw [hb, if_neg c1])))
        · exact absurd (nI_le (by omega) (by omega)) c_57
  · by_cases e2 : t.2 q = 107
    · have hl : isL (t.2 q) = true := by rw [e2]; rfl
      have hb : tkL (0, it, pb, kb, cb, ro, ce, f, K, C) (t.2 q) = if kb = true then none else some (4, it, pb, true, cb, ro, ce, f, K, C) := by rw [e2]; rfl
      rw [show nI (t.2 q) = nI 107 by rw [e2]]
      cases kb with
      | true =>
        refine go_iload_n dX9_readsItem_45 rfl ?_
        refine go_bipush (v := nI 112) dX9_readsItem_46 (by decide) ?_
        refine go_icmp_ne (tgt := 68) dX9_readsItem_48 (by decide) (fun c_48 => ?_) (fun c_48 => ?_)
        · skip
          refine go_iload_n dX9_readsItem_68 rfl ?_
          refine go_bipush (v := nI 107) dX9_readsItem_69 (by decide) ?_
          refine go_icmp_ne (tgt := 89) dX9_readsItem_71 (by decide) (fun c_71 => ?_) (fun c_71 => ?_)
          · exact absurd rfl c_71
          · skip
            refine go_aload_n dX9_readsItem_74 rfl ?_
            refine go_get dX9_readsItem_75 fX9_98 (by omega) h7 rfl ?_
            refine go_if_ne (tgt := 85) dX9_readsItem_78 (by decide) (fun c_78 => ?_) (fun c_78 => ?_)
            · skip
              refine go_iconst (v := nI 0) dX9_readsItem_85 (by decide) ?_
              refine go_goto (tgt := 109) dX9_readsItem_86 (by decide) ?_
              refine go_istore_n (L' := [_, _, _, _]) dX9_readsItem_109 rfl (by decide) rfl ?_
              refine go_iload_n dX9_readsItem_110 rfl ?_
              refine go_if_eq (tgt := 118) dX9_readsItem_111 (by decide) (fun c_111 => ?_) (fun c_111 => ?_)
              · skip
                refine go_iconst (v := nI 0) dX9_readsItem_118 (by decide) ?_
                refine go_zret dX9_readsItem_119 rfl (by first | exact Or.inl rfl | exact Or.inr rfl | exact bI01 _) ?_
                exact fail (rd_letter_n hq hl (Or.inr hb))
              · skip
                refine go_iload_n dX9_readsItem_114 rfl ?_
                refine go_if_ne (tgt := 120) dX9_readsItem_115 (by decide) (fun c_115 => ?_) (fun c_115 => ?_)
                · exact absurd rfl c_115
                · skip
                  refine go_iconst (v := nI 0) dX9_readsItem_118 (by decide) ?_
                  refine go_zret dX9_readsItem_119 rfl (by first | exact Or.inl rfl | exact Or.inr rfl | exact bI01 _) ?_
                  exact fail (rd_letter_n hq hl (Or.inr hb))
            · exact absurd (Decidable.not_not.mp c_78) (show ¬ nI K = 0 from nI_ne0 (by omega) (by omega))
        · exact absurd (by decide) c_48
      | false =>
        refine go_iload_n dX9_readsItem_45 rfl ?_
        refine go_bipush (v := nI 112) dX9_readsItem_46 (by decide) ?_
        refine go_icmp_ne (tgt := 68) dX9_readsItem_48 (by decide) (fun c_48 => ?_) (fun c_48 => ?_)
        · skip
          refine go_iload_n dX9_readsItem_68 rfl ?_
          refine go_bipush (v := nI 107) dX9_readsItem_69 (by decide) ?_
          refine go_icmp_ne (tgt := 89) dX9_readsItem_71 (by decide) (fun c_71 => ?_) (fun c_71 => ?_)
          · exact absurd rfl c_71
          · skip
            refine go_aload_n dX9_readsItem_74 rfl ?_
            refine go_get dX9_readsItem_75 fX9_98 (by omega) h7 rfl ?_
            refine go_if_ne (tgt := 85) dX9_readsItem_78 (by decide) (fun c_78 => ?_) (fun c_78 => ?_)
            · exact absurd rfl c_78
            · skip
              refine go_iconst (v := nI 1) dX9_readsItem_81 (by decide) ?_
              refine go_goto (tgt := 109) dX9_readsItem_82 (by decide) ?_
              refine go_istore_n (L' := [_, _, _, _]) dX9_readsItem_109 rfl (by decide) rfl ?_
              refine go_iload_n dX9_readsItem_110 rfl ?_
              refine go_if_eq (tgt := 118) dX9_readsItem_111 (by decide) (fun c_111 => ?_) (fun c_111 => ?_)
              · skip
                have c2 : ¬ alo t q = true := by rw [bI_eq.mp c_111]; decide
                refine go_iconst (v := nI 0) dX9_readsItem_118 (by decide) ?_
                refine go_zret dX9_readsItem_119 rfl (by first | exact Or.inl rfl | exact Or.inr rfl | exact bI01 _) ?_
                exact fail (rd_letter_n hq hl (Or.inl c2))
              · skip
                have c2 : alo t q = true := bI_ne.mp c_111
                refine go_iload_n dX9_readsItem_114 rfl ?_
                refine go_if_ne (tgt := 120) dX9_readsItem_115 (by decide) (fun c_115 => ?_) (fun c_115 => ?_)
                · skip
                  refine go_aload_n dX9_readsItem_120 rfl ?_
                  refine go_dup dX9_readsItem_121 rfl ?_
                  refine go_get dX9_readsItem_122 fX9_70 (by omega) h7 rfl ?_
                  refine go_iconst (v := nI 1) dX9_readsItem_125 (by decide) ?_
                  refine go_iadd dX9_readsItem_126 ?_
                  refine go_top (y := .int (nI (q + 1))) (by rw [nI_add]) ?_
                  refine go_put (fs' := [_, _, _, _, _, _, _, _, _, _, _, _, _, _, _, _, _, _, _, _, _, _, _, _, _, _, _, _]) dX9_readsItem_127 fX9_70 (by omega) h7 (Nat.le_of_ble_eq_true rfl) (Or.inl rfl) ⟨_, _, _, rfl, Or.inl rfl⟩ rfl ?_
                  refine go_iload_n dX9_readsItem_130 rfl ?_
                  refine go_bipush (v := nI 112) dX9_readsItem_131 (by decide) ?_
                  refine go_icmp_ne (tgt := 143) dX9_readsItem_133 (by decide) (fun c_133 => ?_) (fun c_133 => ?_)
                  · skip
                    refine go_iload_n dX9_readsItem_143 rfl ?_
                    refine go_bipush (v := nI 107) dX9_readsItem_144 (by decide) ?_
                    refine go_icmp_ne (tgt := 156) dX9_readsItem_146 (by decide) (fun c_146 => ?_) (fun c_146 => ?_)
                    · exact absurd rfl c_146
                    · skip
                      rw [rd_letter_y hq hl c2 hb]
                      refine go_aload_n dX9_readsItem_149 rfl ?_
                      refine go_iv dX9_readsItem_150 mX9_readsAsked iX9_107 (run_readsAsked d (w := w) (v := v) (hTT.ag (hset_ne (by omega))) (show q + 1 ≤ t.1 by omega) hset_same ((hset_ne (by omega)).trans hW) ((hset_ne (by omega)).trans hV) hE hEw hc ((PO_L hO hb).mono (by omega))) rfl rfl (by omega) hset_same rfl (Nat.le_of_ble_eq_true rfl) (Nat.zero_le _) (Nat.zero_le _) (fun v_150 h_150 n_150 q_150 => ?_)
                      refine go_goto (tgt := 160) dX9_readsItem_153 (by decide) ?_
                      obtain ⟨z1, z2, ⟨rfl, p', s', z3, z4⟩ | ⟨rfl, z3⟩⟩ := q_150
                      · subst z1; exact go_zret dX9_readsItem_160 rfl (Or.inr rfl) ⟨rfl, fun x q1 q2 q3 => (z2 x q1 q2 q3).trans (hset_ne q1), Or.inl ⟨rfl, p', s', by omega, z4⟩⟩
                      · subst z1; exact go_zret dX9_readsItem_160 rfl (Or.inl rfl) ⟨rfl, fun x q1 q2 q3 => (z2 x q1 q2 q3).trans (hset_ne q1), Or.inr ⟨rfl, z3⟩⟩
                  · exact absurd (by decide) c_133
                · exact absurd (by decide) c_115
        · exact absurd (by decide) c_48
    · by_cases e3 : t.2 q = 99
      · have hl : isL (t.2 q) = true := by rw [e3]; rfl
        have hb : tkL (0, it, pb, kb, cb, ro, ce, f, K, C) (t.2 q) = if cb = true then none else some (5, it, pb, kb, true, ro, ce, f, K, C) := by rw [e3]; rfl
        rw [show nI (t.2 q) = nI 99 by rw [e3]]
        cases cb with
        | true =>
          refine go_iload_n dX9_readsItem_45 rfl ?_
          refine go_bipush (v := nI 112) dX9_readsItem_46 (by decide) ?_
          refine go_icmp_ne (tgt := 68) dX9_readsItem_48 (by decide) (fun c_48 => ?_) (fun c_48 => ?_)
          · skip
            refine go_iload_n dX9_readsItem_68 rfl ?_
            refine go_bipush (v := nI 107) dX9_readsItem_69 (by decide) ?_
            refine go_icmp_ne (tgt := 89) dX9_readsItem_71 (by decide) (fun c_71 => ?_) (fun c_71 => ?_)
            · skip
              refine go_iload_n dX9_readsItem_89 rfl ?_
              refine go_bipush (v := nI 99) dX9_readsItem_90 (by decide) ?_
              refine go_icmp_ne (tgt := 108) dX9_readsItem_92 (by decide) (fun c_92 => ?_) (fun c_92 => ?_)
              · exact absurd rfl c_92
              · skip
                refine go_aload_n dX9_readsItem_95 rfl ?_
                refine go_get dX9_readsItem_96 fX9_101 (by omega) h7 rfl ?_
                refine go_bipush (v := (-9)) dX9_readsItem_99 (by decide) ?_
                refine go_icmp_ne (tgt := 108) dX9_readsItem_101 (by decide) (fun c_101 => ?_) (fun c_101 => ?_)
                · skip
                  refine go_iconst (v := nI 0) dX9_readsItem_108 (by decide) ?_
                  refine go_istore_n (L' := [_, _, _, _]) dX9_readsItem_109 rfl (by decide) rfl ?_
                  refine go_iload_n dX9_readsItem_110 rfl ?_
                  refine go_if_eq (tgt := 118) dX9_readsItem_111 (by decide) (fun c_111 => ?_) (fun c_111 => ?_)
                  · skip
                    refine go_iconst (v := nI 0) dX9_readsItem_118 (by decide) ?_
                    refine go_zret dX9_readsItem_119 rfl (by first | exact Or.inl rfl | exact Or.inr rfl | exact bI01 _) ?_
                    exact fail (rd_letter_n hq hl (Or.inr hb))
                  · skip
                    refine go_iload_n dX9_readsItem_114 rfl ?_
                    refine go_if_ne (tgt := 120) dX9_readsItem_115 (by decide) (fun c_115 => ?_) (fun c_115 => ?_)
                    · exact absurd rfl c_115
                    · skip
                      refine go_iconst (v := nI 0) dX9_readsItem_118 (by decide) ?_
                      refine go_zret dX9_readsItem_119 rfl (by first | exact Or.inl rfl | exact Or.inr rfl | exact bI01 _) ?_
                      exact fail (rd_letter_n hq hl (Or.inr hb))
                · exact absurd (Decidable.not_not.mp c_101) (show ¬ nI C = -9 from nI_ne_m9 (by omega))
            · exact absurd (by decide) c_71
          · exact absurd (by decide) c_48
        | false =>
          refine go_iload_n dX9_readsItem_45 rfl ?_
          refine go_bipush (v := nI 112) dX9_readsItem_46 (by decide) ?_
          refine go_icmp_ne (tgt := 68) dX9_readsItem_48 (by decide) (fun c_48 => ?_) (fun c_48 => ?_)
          · skip
            refine go_iload_n dX9_readsItem_68 rfl ?_
            refine go_bipush (v := nI 107) dX9_readsItem_69 (by decide) ?_
            refine go_icmp_ne (tgt := 89) dX9_readsItem_71 (by decide) (fun c_71 => ?_) (fun c_71 => ?_)
            · skip
              refine go_iload_n dX9_readsItem_89 rfl ?_
              refine go_bipush (v := nI 99) dX9_readsItem_90 (by decide) ?_
              refine go_icmp_ne (tgt := 108) dX9_readsItem_92 (by decide) (fun c_92 => ?_) (fun c_92 => ?_)
              · exact absurd rfl c_92
              · skip
                refine go_aload_n dX9_readsItem_95 rfl ?_
                refine go_get dX9_readsItem_96 fX9_101 (by omega) h7 rfl ?_
                refine go_bipush (v := (-9)) dX9_readsItem_99 (by decide) ?_
                refine go_icmp_ne (tgt := 108) dX9_readsItem_101 (by decide) (fun c_101 => ?_) (fun c_101 => ?_)
                · exact absurd rfl c_101
                · skip
                  refine go_iconst (v := nI 1) dX9_readsItem_104 (by decide) ?_
                  refine go_goto (tgt := 109) dX9_readsItem_105 (by decide) ?_
                  refine go_istore_n (L' := [_, _, _, _]) dX9_readsItem_109 rfl (by decide) rfl ?_
                  refine go_iload_n dX9_readsItem_110 rfl ?_
                  refine go_if_eq (tgt := 118) dX9_readsItem_111 (by decide) (fun c_111 => ?_) (fun c_111 => ?_)
                  · skip
                    have c2 : ¬ alo t q = true := by rw [bI_eq.mp c_111]; decide
                    refine go_iconst (v := nI 0) dX9_readsItem_118 (by decide) ?_
                    refine go_zret dX9_readsItem_119 rfl (by first | exact Or.inl rfl | exact Or.inr rfl | exact bI01 _) ?_
                    exact fail (rd_letter_n hq hl (Or.inl c2))
                  · skip
                    have c2 : alo t q = true := bI_ne.mp c_111
                    refine go_iload_n dX9_readsItem_114 rfl ?_
                    refine go_if_ne (tgt := 120) dX9_readsItem_115 (by decide) (fun c_115 => ?_) (fun c_115 => ?_)
                    · skip
                      refine go_aload_n dX9_readsItem_120 rfl ?_
                      refine go_dup dX9_readsItem_121 rfl ?_
                      refine go_get dX9_readsItem_122 fX9_70 (by omega) h7 rfl ?_
                      refine go_iconst (v := nI 1) dX9_readsItem_125 (by decide) ?_
                      refine go_iadd dX9_readsItem_126 ?_
                      refine go_top (y := .int (nI (q + 1))) (by rw [nI_add]) ?_
                      refine go_put (fs' := [_, _, _, _, _, _, _, _, _, _, _, _, _, _, _, _, _, _, _, _, _, _, _, _, _, _, _, _]) dX9_readsItem_127 fX9_70 (by omega) h7 (Nat.le_of_ble_eq_true rfl) (Or.inl rfl) ⟨_, _, _, rfl, Or.inl rfl⟩ rfl ?_
                      refine go_iload_n dX9_readsItem_130 rfl ?_
                      refine go_bipush (v := nI 112) dX9_readsItem_131 (by decide) ?_
                      refine go_icmp_ne (tgt := 143) dX9_readsItem_133 (by decide) (fun c_133 => ?_) (fun c_133 => ?_)
                      · skip
                        refine go_iload_n dX9_readsItem_143 rfl ?_
                        refine go_bipush (v := nI 107) dX9_readsItem_144 (by decide) ?_
                        refine go_icmp_ne (tgt := 156) dX9_readsItem_146 (by decide) (fun c_146 => ?_) (fun c_146 => ?_)
                        · skip
                          rw [rd_letter_y hq hl c2 hb]
                          refine go_aload_n dX9_readsItem_156 rfl ?_
                          refine go_iv dX9_readsItem_157 mX9_readsCost iX9_110 (run_readsCost d (w := w) (v := v) (hTT.ag (hset_ne (by omega))) (show q + 1 ≤ t.1 by omega) hset_same ((hset_ne (by omega)).trans hW) ((hset_ne (by omega)).trans hV) hE hEw hk ((PO_L hO hb).mono (by omega))) rfl rfl (by omega) hset_same rfl (Nat.le_of_ble_eq_true rfl) (Nat.zero_le _) (Nat.zero_le _) (fun v_157 h_157 n_157 q_157 => ?_)
                          obtain ⟨z1, z2, ⟨rfl, p', s', z3, z4⟩ | ⟨rfl, z3⟩⟩ := q_157
                          · subst z1; exact go_zret dX9_readsItem_160 rfl (Or.inr rfl) ⟨rfl, fun x q1 q2 q3 => (z2 x q1 q2 q3).trans (hset_ne q1), Or.inl ⟨rfl, p', s', by omega, z4⟩⟩
                          · subst z1; exact go_zret dX9_readsItem_160 rfl (Or.inl rfl) ⟨rfl, fun x q1 q2 q3 => (z2 x q1 q2 q3).trans (hset_ne q1), Or.inr ⟨rfl, z3⟩⟩
                        · exact absurd (by decide) c_146
                      · exact absurd (by decide) c_133
                    · exact absurd (by decide) c_115
            · exact absurd (by decide) c_71
          · exact absurd (by decide) c_48
      · skip
        refine go_iload_n dX9_readsItem_45 rfl ?_
        refine go_bipush (v := nI 112) dX9_readsItem_46 (by decide) ?_
        refine go_icmp_ne (tgt := 68) dX9_readsItem_48 (by decide) (fun c_48 => ?_) (fun c_48 => ?_)
        · skip
          refine go_iload_n dX9_readsItem_68 rfl ?_
          refine go_bipush (v := nI 107) dX9_readsItem_69 (by decide) ?_
          refine go_icmp_ne (tgt := 89) dX9_readsItem_71 (by decide) (fun c_71 => ?_) (fun c_71 => ?_)
          · skip
            refine go_iload_n dX9_readsItem_89 rfl ?_
            refine go_bipush (v := nI 99) dX9_readsItem_90 (by decide) ?_
            refine go_icmp_ne (tgt := 108) dX9_readsItem_92 (by decide) (fun c_92 => ?_) (fun c_92 => ?_)
            · skip
              refine go_iconst (v := nI 0) dX9_readsItem_108 (by decide) ?_
              refine go_istore_n (L' := [_, _, _, _]) dX9_readsItem_109 rfl (by decide) rfl ?_
              refine go_iload_n dX9_readsItem_110 rfl ?_
              refine go_if_eq (tgt := 118) dX9_readsItem_111 (by decide) (fun c_111 => ?_) (fun c_111 => ?_)
              · skip
                refine go_iconst (v := nI 0) dX9_readsItem_118 (by decide) ?_
                refine go_zret dX9_readsItem_119 rfl (by first | exact Or.inl rfl | exact Or.inr rfl | exact bI01 _) ?_
                exact fail (rd_other hq h32 e1 e2 e3)
              · skip
                refine go_iload_n dX9_readsItem_114 rfl ?_
                refine go_if_ne (tgt := 120) dX9_readsItem_115 (by decide) (fun c_115 => ?_) (fun c_115 => ?_)
                · exact absurd rfl c_115
                · skip
                  refine go_iconst (v := nI 0) dX9_readsItem_118 (by decide) ?_
                  refine go_zret dX9_readsItem_119 rfl (by first | exact Or.inl rfl | exact Or.inr rfl | exact bI01 _) ?_
                  exact fail (rd_other hq h32 e1 e2 e3)
            · exact absurd ((nI_eq (by omega) (by omega)).mp (Decidable.not_not.mp c_92)) e3
          · exact absurd ((nI_eq (by omega) (by omega)).mp (Decidable.not_not.mp c_71)) e2
        · exact absurd ((nI_eq (by omega) (by omega)).mp (Decidable.not_not.mp c_48)) e1
set_option maxRecDepth 100000 in
theorem run_readsItem (d : Nat) {t : TX} {h : gH} {m a k e u sn rn' : Int32} {q it pb ro ce K C : Nat} {kb cb : Bool} {f : Nat → Option Nat} (hTT : TT h t) (hq : q < t.1) (h32 : ¬ t.2 q = 32) (hM : MRd h t m a k e u sn rn' q (0, it, pb, kb, cb, ro, ce, f, K, C)) (hO : PO q (0, it, pb, kb, cb, ro, ce, f, K, C)) : Run (d + 4) yX9_readsItem cX9_readsItem 4 (some .boolean) [.ref 147] h 163 0 0 (RIP t h m a k e u sn rn' q it (rd t q (0, it, pb, kb, cb, ro, ce, f, K, C))) := by
  obtain ⟨⟨T, t1, t2⟩, t3, t4⟩ := id hTT
  obtain ⟨r4, RW, RV, w, v, h7, -⟩ := id hM
  have hbq := t4 q hq
  have hh : hereI t q = nI (t.2 q) := if_pos hq
  refine Run.of (ini := false) (L := [_, _, _, _]) mX9_readsItem (fun h => by cases h) rfl (Nat.le_of_ble_eq_true rfl) rfl ?_
  refine go_aload_n dX9_readsItem_0 rfl ?_
  refine go_iv dX9_readsItem_1 mX9_here iX9_73 (run_here (d + 3) h7 t1 t2 t3 (by omega)) rfl rfl (by omega) h7 rfl (Nat.le_of_ble_eq_true rfl) (Nat.zero_le _) (Nat.zero_le _) (fun v_1 h_1 n_1 q_1 => ?_)
  obtain ⟨rfl, rfl, rfl⟩ := q_1
  rw [hh]
  refine go_istore_n (L' := [_, _, _, _]) dX9_readsItem_4 rfl (by decide) rfl ?_
  refine go_aload_n dX9_readsItem_5 rfl ?_
  refine go_get dX9_readsItem_6 fX9_70 (by omega) h7 rfl ?_
  refine go_iconst (v := nI 1) dX9_readsItem_9 (by decide) ?_
  refine go_iadd dX9_readsItem_10 ?_
  refine go_top (y := .int (nI (q + 1))) (by rw [nI_add]) ?_
  refine go_aload_n dX9_readsItem_11 rfl ?_
  refine go_get dX9_readsItem_12 fX9_67 (by omega) h7 rfl ?_
  refine go_icmp_ge (tgt := 39) dX9_readsItem_15 (by decide) (fun c_15 => ?_) (fun c_15 => ?_)
  · skip
    have c1 : ¬ q + 1 < t.1 := by have := (nI_leI (by omega) (by omega)).mp c_15; omega
    have ea : alo t q = true := decide_eq_true (fun z => c1 z.1)
    refine go_iconst (v := nI 1) dX9_readsItem_39 (by decide) ?_
    refine go_goto (tgt := 44) dX9_readsItem_40 (by decide) ?_
    refine go_istore_n (L' := [_, _, _, _]) dX9_readsItem_44 rfl (by decide) rfl ?_
    have K0 := ri45 (d := d) hTT hq h32 hM hO
    rw [ea] at K0
    exact K0
  · skip
    have c1 : q + 1 < t.1 := by have := mt (nI_leI (a := t.1) (b := q + 1) (by omega) (by omega)).mpr c_15; omega
    have hb1 := t4 (q + 1) c1
    refine go_aload_n dX9_readsItem_18 rfl ?_
    refine go_get dX9_readsItem_19 fX9_23 (by omega) h7 rfl ?_
    refine go_aload_n dX9_readsItem_22 rfl ?_
    refine go_get dX9_readsItem_23 fX9_70 (by omega) h7 rfl ?_
    refine go_iconst (v := nI 1) dX9_readsItem_26 (by decide) ?_
    refine go_iadd dX9_readsItem_27 ?_
    refine go_top (y := .int (nI (q + 1))) (by rw [nI_add]) ?_
    refine go_iald dX9_readsItem_28 (by omega) t1 rfl (by omega) (by omega) ?_
    refine go_top (y := .int (nI (t.2 (q + 1)))) (by rw [t2 _ c1]) ?_
    refine go_bipush (v := nI 97) dX9_readsItem_29 (by decide) ?_
    refine go_bipush (v := nI 122) dX9_readsItem_31 (by decide) ?_
    refine go_is dX9_readsItem_33 mX9_in iX9_63 (run_in (d + 3) (lo := 97) (hi := 122) (nI (t.2 (q + 1))) (by decide) (by decide)) rfl rfl (Nat.le_of_ble_eq_true rfl) (Nat.zero_le _) (Nat.zero_le _) (fun v_33 h_33 n_33 q_33 => ?_)
    obtain ⟨rfl, rfl, rfl⟩ := q_33
    refine go_if_ne (tgt := 43) dX9_readsItem_36 (by decide) (fun c_36 => ?_) (fun c_36 => ?_)
    · skip
      have c2 : isL (t.2 (q + 1)) = true := by have := bI_ne.mp c_36; rw [rI_n (by omega)] at this; exact this
      have ea : alo t q = false := decide_eq_false (fun z => z ⟨c1, c2⟩)
      refine go_iconst (v := nI 0) dX9_readsItem_43 (by decide) ?_
      refine go_istore_n (L' := [_, _, _, _]) dX9_readsItem_44 rfl (by decide) rfl ?_
      have K0 := ri45 (d := d) hTT hq h32 hM hO
      rw [ea] at K0
      exact K0
    · skip
      have c2 : ¬ isL (t.2 (q + 1)) = true := by have := bI_eq.mp (Decidable.not_not.mp c_36); rw [rI_n (by omega)] at this; intro z; have z2 : decide (97 ≤ t.2 (q + 1) ∧ t.2 (q + 1) ≤ 122) = true := z; rw [this] at z2; cases z2
      have ea : alo t q = true := decide_eq_true (fun z => c2 z.2)
      refine go_iconst (v := nI 1) dX9_readsItem_39 (by decide) ?_
      refine go_goto (tgt := 44) dX9_readsItem_40 (by decide) ?_
      refine go_istore_n (L' := [_, _, _, _]) dX9_readsItem_44 rfl (by decide) rfl ?_
      have K0 := ri45 (d := d) hTT hq h32 hM hO
      rw [ea] at K0
      exact K0
