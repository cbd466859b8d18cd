/-! ===== number, isTold: the reference's side ===== -/
set_option maxRecDepth 100000 in
theorem num_tail {d lo hi n q v : Nat} {h : gH} {t : TX} {T : Nat → Int32} {m a k e r1 r2 r3 r4 u sn rn' : Int32} (h7 : h 147 = mo m a k e (nI t.1) (nI q) r1 r2 r3 r4 u sn rn') (hT : h 151 = iA 150 T) (hTx : ∀ i, i < t.1 → T i = nI (t.2 i)) (ht : t.1 ≤ 150) (hb : ∀ i, i < t.1 → t.2 i ≤ 255) (hq : q ≤ t.1) (hlo : lo < 2 ^ 31) (hhi : hi < 2 ^ 31) (hn : rn isD t q = q + n) (hnt : q + n ≤ t.1) (hv : v = nvl t q (min n 3)) (hv9 : v < 1000) : Go none RX9 cX9_number 5 (some .boolean) false (d + 2) 81 [some (.ref 147), some (.int (nI lo)), some (.int (nI hi)), some (.int (nI n)), some (.int (nI v))] [] h 163 0 0 (fun r h' N' => N' = 163 ∧ (∀ x, x ≠ 147 → h' x = h x) ∧ ((∃ x, numO t q = some x ∧ (lo ≤ x ∧ x ≤ hi) ∧ x < 1000 ∧ r = some (.int 1) ∧ h' 147 = mo m a k e (nI t.1) (nI (rn isD t q)) r1 r2 r3 (nI x) u sn rn') ∨ ((∀ x, numO t q = some x → ¬ (lo ≤ x ∧ x ≤ hi)) ∧ r = some (.int 0) ∧ h' = h))) := by
  have hO : numO t q = if n = 0 then none else if 3 < n ∨ (t.2 q = 48 ∧ 1 < n) then none else some (nvl t q n) := by
    unfold numO numT
    rw [hn, show q + n - q = n by omega]
    by_cases z : n = 0
    · rw [if_pos (by omega), if_pos z]
    · rw [if_neg (by omega), if_neg z]
  refine go_iload_n dX9_number_81 rfl ?_
  refine go_iconst (v := nI 1) dX9_number_82 (by decide) ?_
  refine go_iconst (v := nI 3) dX9_number_83 (by decide) ?_
  refine go_is dX9_number_84 mX9_in iX9_63 (run_in (d + 1) (lo := 1) (hi := 3) (nI n) (by decide) (by decide)) rfl rfl (Nat.le_of_ble_eq_true rfl) (Nat.zero_le _) (Nat.zero_le _) (fun v_84 h_84 n_84 q_84 => ?_)
  obtain ⟨rfl, rfl, rfl⟩ := q_84
  refine go_if_eq (tgt := 114) dX9_number_87 (by decide) (fun c_87 => ?_) (fun c_87 => ?_)
  · skip
    have c1 : ¬ (1 ≤ n ∧ n ≤ 3) := by have := bI_eq.mp c_87; rw [rI_n (by omega)] at this; exact of_decide_eq_false this
    refine go_iconst (v := nI 0) dX9_number_114 (by decide) ?_
    refine go_zret dX9_number_115 rfl (by first | exact Or.inl rfl | exact Or.inr rfl | exact bI01 _) ?_
    refine ⟨rfl, fun x hx => rfl, Or.inr ⟨fun x hx => ?_, rfl, rfl⟩⟩
    rw [hO] at hx
    first | (rw [if_neg (by omega), if_neg (by omega)] at hx; cases hx; rw [← hvn]; exact c4) | (by_cases z : n = 0; (rw [if_pos z] at hx; cases hx); (rw [if_neg z, if_pos (by omega)] at hx; cases hx))
  · skip
    have c1 : 1 ≤ n ∧ n ≤ 3 := by have := bI_ne.mp c_87; rw [rI_n (by omega)] at this; exact of_decide_eq_true this
    have hvn : v = nvl t q n := by rw [hv, show min n 3 = n by omega]
    refine go_iload_n dX9_number_90 rfl ?_
    refine go_iconst (v := nI 1) dX9_number_91 (by decide) ?_
    refine go_icmp_le (tgt := 104) dX9_number_92 (by decide) (fun c_92 => ?_) (fun c_92 => ?_)
    · skip
      have c2 : ¬ 1 < n := by have := (nI_leI (by omega) (by omega)).mp c_92; omega
      refine go_iload dX9_number_104 rfl ?_
      refine go_iload_n dX9_number_106 rfl ?_
      refine go_iload_n dX9_number_107 rfl ?_
      refine go_is dX9_number_108 mX9_in iX9_63 (run_in (d + 1) (lo := lo) (hi := hi) (nI v) hlo hhi) rfl rfl (Nat.le_of_ble_eq_true rfl) (Nat.zero_le _) (Nat.zero_le _) (fun v_108 h_108 n_108 q_108 => ?_)
      obtain ⟨rfl, rfl, rfl⟩ := q_108
      refine go_if_ne (tgt := 116) dX9_number_111 (by decide) (fun c_111 => ?_) (fun c_111 => ?_)
      · skip
        have c4 : lo ≤ v ∧ v ≤ hi := by have := bI_ne.mp c_111; rw [rI_n (by omega)] at this; exact of_decide_eq_true this
        refine go_aload_n dX9_number_116 rfl ?_
        refine go_iload dX9_number_117 rfl ?_
        refine go_put (fs' := [_, _, _, _, _, _, _, _, _, _, _, _, _, _, _, _, _, _, _, _, _, _, _, _, _, _, _, _]) dX9_number_119 fX9_80 (by omega) h7 (Nat.le_of_ble_eq_true rfl) (Or.inl rfl) ⟨_, _, _, rfl, Or.inl rfl⟩ rfl ?_
        refine go_aload_n dX9_number_122 rfl ?_
        refine go_dup dX9_number_123 rfl ?_
        refine go_get dX9_number_124 fX9_70 (by omega) hset_same rfl ?_
        refine go_iload_n dX9_number_127 rfl ?_
        refine go_iadd dX9_number_128 ?_
        refine go_top (y := .int (nI (rn isD t q))) (by rw [nI_add, hn]) ?_
        refine go_put (fs' := [_, _, _, _, _, _, _, _, _, _, _, _, _, _, _, _, _, _, _, _, _, _, _, _, _, _, _, _]) dX9_number_129 fX9_70 (by omega) hset_same (Nat.le_of_ble_eq_true rfl) (Or.inl rfl) ⟨_, _, _, rfl, Or.inl rfl⟩ rfl ?_
        rw [hset_hset]
        refine go_iconst (v := nI 1) dX9_number_132 (by decide) ?_
        refine go_zret dX9_number_133 rfl (by first | exact Or.inl rfl | exact Or.inr rfl | exact bI01 _) ?_
        refine ⟨rfl, fun x hx => hset_ne hx, Or.inl ⟨v, ?_, c4, hv9, rfl, hset_same⟩⟩
        rw [hO, if_neg (by omega), if_neg (by omega), hvn]
      · skip
        have c4 : ¬ (lo ≤ v ∧ v ≤ hi) := by have := bI_eq.mp (Decidable.not_not.mp c_111); rw [rI_n (by omega)] at this; exact of_decide_eq_false this
        refine go_iconst (v := nI 0) dX9_number_114 (by decide) ?_
        refine go_zret dX9_number_115 rfl (by first | exact Or.inl rfl | exact Or.inr rfl | exact bI01 _) ?_
        refine ⟨rfl, fun x hx => rfl, Or.inr ⟨fun x hx => ?_, rfl, rfl⟩⟩
        rw [hO] at hx
        first | (rw [if_neg (by omega), if_neg (by omega)] at hx; cases hx; rw [← hvn]; exact c4) | (by_cases z : n = 0; (rw [if_pos z] at hx; cases hx); (rw [if_neg z, if_pos (by omega)] at hx; cases hx))
    · skip
      have c2 : 1 < n := by have := mt (nI_leI (a := n) (b := 1) (by omega) (by omega)).mpr c_92; omega
      refine go_aload_n dX9_number_95 rfl ?_
      refine go_iv dX9_number_96 mX9_here iX9_73 (run_here (d + 1) h7 hT hTx ht hq) rfl rfl (by omega) h7 rfl (Nat.le_of_ble_eq_true rfl) (Nat.zero_le _) (Nat.zero_le _) (fun v_96 h_96 n_96 q_96 => ?_)
      obtain ⟨rfl, rfl, rfl⟩ := q_96
      refine go_bipush (v := nI 48) dX9_number_99 (by decide) ?_
      refine go_icmp_eq (tgt := 114) dX9_number_101 (by decide) (fun c_101 => ?_) (fun c_101 => ?_)
      · skip
        have c3 := ((hereI_eq hb (by omega)).mp c_101).2
        refine go_iconst (v := nI 0) dX9_number_114 (by decide) ?_
        refine go_zret dX9_number_115 rfl (by first | exact Or.inl rfl | exact Or.inr rfl | exact bI01 _) ?_
        refine ⟨rfl, fun x hx => rfl, Or.inr ⟨fun x hx => ?_, rfl, rfl⟩⟩
        rw [hO] at hx
        first | (rw [if_neg (by omega), if_neg (by omega)] at hx; cases hx; rw [← hvn]; exact c4) | (by_cases z : n = 0; (rw [if_pos z] at hx; cases hx); (rw [if_neg z, if_pos (by omega)] at hx; cases hx))
      · skip
        have c3 : ¬ t.2 q = 48 := fun z => c_101 ((hereI_eq hb (by omega)).mpr ⟨by omega, z⟩)
        refine go_iload dX9_number_104 rfl ?_
        refine go_iload_n dX9_number_106 rfl ?_
        refine go_iload_n dX9_number_107 rfl ?_
        refine go_is dX9_number_108 mX9_in iX9_63 (run_in (d + 1) (lo := lo) (hi := hi) (nI v) hlo hhi) rfl rfl (Nat.le_of_ble_eq_true rfl) (Nat.zero_le _) (Nat.zero_le _) (fun v_108 h_108 n_108 q_108 => ?_)
        obtain ⟨rfl, rfl, rfl⟩ := q_108
        refine go_if_ne (tgt := 116) dX9_number_111 (by decide) (fun c_111 => ?_) (fun c_111 => ?_)
        · skip
          have c4 : lo ≤ v ∧ v ≤ hi := by have := bI_ne.mp c_111; rw [rI_n (by omega)] at this; exact of_decide_eq_true this
          refine go_aload_n dX9_number_116 rfl ?_
          refine go_iload dX9_number_117 rfl ?_
          refine go_put (fs' := [_, _, _, _, _, _, _, _, _, _, _, _, _, _, _, _, _, _, _, _, _, _, _, _, _, _, _, _]) dX9_number_119 fX9_80 (by omega) h7 (Nat.le_of_ble_eq_true rfl) (Or.inl rfl) ⟨_, _, _, rfl, Or.inl rfl⟩ rfl ?_
          refine go_aload_n dX9_number_122 rfl ?_
          refine go_dup dX9_number_123 rfl ?_
          refine go_get dX9_number_124 fX9_70 (by omega) hset_same rfl ?_
          refine go_iload_n dX9_number_127 rfl ?_
          refine go_iadd dX9_number_128 ?_
          refine go_top (y := .int (nI (rn isD t q))) (by rw [nI_add, hn]) ?_
          refine go_put (fs' := [_, _, _, _, _, _, _, _, _, _, _, _, _, _, _, _, _, _, _, _, _, _, _, _, _, _, _, _]) dX9_number_129 fX9_70 (by omega) hset_same (Nat.le_of_ble_eq_true rfl) (Or.inl rfl) ⟨_, _, _, rfl, Or.inl rfl⟩ rfl ?_
          rw [hset_hset]
          refine go_iconst (v := nI 1) dX9_number_132 (by decide) ?_
          refine go_zret dX9_number_133 rfl (by first | exact Or.inl rfl | exact Or.inr rfl | exact bI01 _) ?_
          refine ⟨rfl, fun x hx => hset_ne hx, Or.inl ⟨v, ?_, c4, hv9, rfl, hset_same⟩⟩
          rw [hO, if_neg (by omega), if_neg (by omega), hvn]
        · skip
          have c4 : ¬ (lo ≤ v ∧ v ≤ hi) := by have := bI_eq.mp (Decidable.not_not.mp c_111); rw [rI_n (by omega)] at this; exact of_decide_eq_false this
          refine go_iconst (v := nI 0) dX9_number_114 (by decide) ?_
          refine go_zret dX9_number_115 rfl (by first | exact Or.inl rfl | exact Or.inr rfl | exact bI01 _) ?_
          refine ⟨rfl, fun x hx => rfl, Or.inr ⟨fun x hx => ?_, rfl, rfl⟩⟩
          rw [hO] at hx
          first | (rw [if_neg (by omega), if_neg (by omega)] at hx; cases hx; rw [← hvn]; exact c4) | (by_cases z : n = 0; (rw [if_pos z] at hx; cases hx); (rw [if_neg z, if_pos (by omega)] at hx; cases hx))
set_option maxRecDepth 100000 in
theorem num_loop {d lo hi q : Nat} {h : gH} {t : TX} {T : Nat → Int32} {m a k e r1 r2 r3 r4 u sn rn' : Int32} (h7 : h 147 = mo m a k e (nI t.1) (nI q) r1 r2 r3 r4 u sn rn') (hT : h 151 = iA 150 T) (hTx : ∀ i, i < t.1 → T i = nI (t.2 i)) (ht : t.1 ≤ 150) (hb : ∀ i, i < t.1 → t.2 i ≤ 255) (hq : q ≤ t.1) (hlo : lo < 2 ^ 31) (hhi : hi < 2 ^ 31) : ∀ (mm n v : Nat), q + n + mm = t.1 → rn isD t q = rn isD t (q + n) → v = nvl t q (min n 3) → (∀ i, i < n → isD (t.2 (q + i)) = true) → Go none RX9 cX9_number 5 (some .boolean) false (d + 2) 9 [some (.ref 147), some (.int (nI lo)), some (.int (nI hi)), some (.int (nI n)), some (.int (nI v))] [] h 163 0 0 (fun r h' N' => N' = 163 ∧ (∀ x, x ≠ 147 → h' x = h x) ∧ ((∃ x, numO t q = some x ∧ (lo ≤ x ∧ x ≤ hi) ∧ x < 1000 ∧ r = some (.int 1) ∧ h' 147 = mo m a k e (nI t.1) (nI (rn isD t q)) r1 r2 r3 (nI x) u sn rn') ∨ ((∀ x, numO t q = some x → ¬ (lo ≤ x ∧ x ≤ hi)) ∧ r = some (.int 0) ∧ h' = h))) := by
  have hlt : ∀ n v, v = nvl t q (min n 3) → (∀ i, i < n → isD (t.2 (q + i)) = true) → v < 1000 := by
    intro n v hv hD
    have h1 := nvl_lt (t := t) (p := q) (n := min n 3) (fun i hi => hD i (by omega))
    have h2 : (10 : Nat) ^ (min n 3) ≤ 10 ^ 3 := Nat.pow_le_pow_right (by omega) (by omega)
    omega
  intro mm
  induction mm with
  | zero =>
    intro n v hn hr hv hD
    have hv9 := hlt n v hv hD
    refine go_aload_n dX9_number_9 rfl ?_
    refine go_get dX9_number_10 fX9_70 (by omega) h7 rfl ?_
    refine go_iload_n dX9_number_13 rfl ?_
    refine go_iadd dX9_number_14 ?_
    refine go_top (y := .int (nI (q + n))) (by rw [nI_add]) ?_
    refine go_aload_n dX9_number_15 rfl ?_
    refine go_get dX9_number_16 fX9_67 (by omega) h7 rfl ?_
    refine go_icmp_ge (tgt := 81) dX9_number_19 (by decide) (fun c_19 => ?_) (fun c_19 => ?_)
    · skip
      exact num_tail h7 hT hTx ht hb hq hlo hhi (by rw [hr, rn_stop (by omega)]) (by omega) hv hv9
    · exact absurd (nI_le (by omega) (by omega)) c_19
  | succ mm ih =>
    intro n v hn hr hv hD
    have hv9 := hlt n v hv hD
    have hbn := hb (q + n) (by omega)
    have hT2 := hTx (q + n) (by omega)
    refine go_aload_n dX9_number_9 rfl ?_
    refine go_get dX9_number_10 fX9_70 (by omega) h7 rfl ?_
    refine go_iload_n dX9_number_13 rfl ?_
    refine go_iadd dX9_number_14 ?_
    refine go_top (y := .int (nI (q + n))) (by rw [nI_add]) ?_
    refine go_aload_n dX9_number_15 rfl ?_
    refine go_get dX9_number_16 fX9_67 (by omega) h7 rfl ?_
    refine go_icmp_ge (tgt := 81) dX9_number_19 (by decide) (fun c_19 => ?_) (fun c_19 => ?_)
    · exact absurd c_19 (nI_ge (by omega) (by omega))
    · skip
      refine go_aload_n dX9_number_22 rfl ?_
      refine go_get dX9_number_23 fX9_23 (by omega) h7 rfl ?_
      refine go_aload_n dX9_number_26 rfl ?_
      refine go_get dX9_number_27 fX9_70 (by omega) h7 rfl ?_
      refine go_iload_n dX9_number_30 rfl ?_
      refine go_iadd dX9_number_31 ?_
      refine go_top (y := .int (nI (q + n))) (by rw [nI_add]) ?_
      refine go_iald dX9_number_32 (by omega) hT rfl (by omega) (by omega) ?_
      refine go_top (y := .int (nI (t.2 (q + n)))) (by rw [hT2]) ?_
      refine go_bipush (v := nI 48) dX9_number_33 (by decide) ?_
      refine go_bipush (v := nI 57) dX9_number_35 (by decide) ?_
      refine go_is dX9_number_37 mX9_in iX9_63 (run_in (d + 1) (lo := 48) (hi := 57) (nI (t.2 (q + n))) (by decide) (by decide)) rfl rfl (Nat.le_of_ble_eq_true rfl) (Nat.zero_le _) (Nat.zero_le _) (fun v_37 h_37 n_37 q_37 => ?_)
      obtain ⟨rfl, rfl, rfl⟩ := q_37
      refine go_if_eq (tgt := 81) dX9_number_40 (by decide) (fun c_40 => ?_) (fun c_40 => ?_)
      · skip
        have c1 : isD (t.2 (q + n)) = false := by have := bI_eq.mp c_40; rw [rI_n (by omega)] at this; exact this
        exact num_tail h7 hT hTx ht hb hq hlo hhi (by rw [hr, rn_stop (by rw [c1]; simp)]) (by omega) hv hv9
      · skip
        have c1 : isD (t.2 (q + n)) = true := by have := bI_ne.mp c_40; rw [rI_n (by omega)] at this; exact this
        have hr2 : rn isD t q = rn isD t (q + (n + 1)) := by rw [hr, rn_step (by omega) c1]; rfl
        have hD2 : ∀ i, i < n + 1 → isD (t.2 (q + i)) = true := fun i hi => by by_cases z : i = n; (rw [z]; exact c1); exact hD i (by omega)
        have hdd := of_decide_eq_true c1
        refine go_iload_n dX9_number_43 rfl ?_
        refine go_iconst (v := nI 3) dX9_number_44 (by decide) ?_
        refine go_icmp_ge (tgt := 71) dX9_number_45 (by decide) (fun c_45 => ?_) (fun c_45 => ?_)
        · skip
          have c2 : ¬ n < 3 := by have := (nI_leI (by omega) (by omega)).mp c_45; omega
          refine go_iload dX9_number_71 rfl ?_
          refine go_istore (L' := [_, _, _, _, _]) dX9_number_73 (by decide) rfl ?_
          refine go_inc (L' := [_, _, _, _, _]) dX9_number_75 rfl (by decide) rfl ?_
          refine go_goto (tgt := 9) dX9_number_78 (by decide) ?_
          first | exact ih (n + 1) (nvl t q (n + 1)) (by omega) hr2 (by rw [show min (n + 1) 3 = n + 1 by omega]) hD2 | exact ih (n + 1) v (by omega) hr2 (by rw [hv, show min (n + 1) 3 = min n 3 by omega]) hD2
        · skip
          have c2 : n < 3 := by have := mt (nI_leI (a := 3) (b := n) (by omega) (by omega)).mpr c_45; omega
          refine go_bipush (v := nI 10) dX9_number_48 (by decide) ?_
          refine go_iload dX9_number_50 rfl ?_
          refine go_imul dX9_number_52 ?_
          refine go_aload_n dX9_number_53 rfl ?_
          refine go_get dX9_number_54 fX9_23 (by omega) h7 rfl ?_
          refine go_aload_n dX9_number_57 rfl ?_
          refine go_get dX9_number_58 fX9_70 (by omega) h7 rfl ?_
          refine go_iload_n dX9_number_61 rfl ?_
          refine go_iadd dX9_number_62 ?_
          refine go_top (y := .int (nI (q + n))) (by rw [nI_add]) ?_
          refine go_iald dX9_number_63 (by omega) hT rfl (by omega) (by omega) ?_
          refine go_top (y := .int (nI (t.2 (q + n)))) (by rw [hT2]) ?_
          refine go_iadd dX9_number_64 ?_
          refine go_bipush (v := nI 48) dX9_number_65 (by decide) ?_
          refine go_isub dX9_number_67 ?_
          refine go_top (y := .int (nI (nvl t q (n + 1)))) (by rw [pk_mul, nI_add, nI_sub (by omega), nvl, hv, show min n 3 = n by omega, show 10 * nvl t q n + t.2 (q + n) - 48 = 10 * nvl t q n + (t.2 (q + n) - 48) by omega]) ?_
          refine go_goto (tgt := 73) dX9_number_68 (by decide) ?_
          refine go_istore (L' := [_, _, _, _, _]) dX9_number_73 (by decide) rfl ?_
          refine go_inc (L' := [_, _, _, _, _]) dX9_number_75 rfl (by decide) rfl ?_
          refine go_goto (tgt := 9) dX9_number_78 (by decide) ?_
          first | exact ih (n + 1) (nvl t q (n + 1)) (by omega) hr2 (by rw [show min (n + 1) 3 = n + 1 by omega]) hD2 | exact ih (n + 1) v (by omega) hr2 (by rw [hv, show min (n + 1) 3 = min n 3 by omega]) hD2
theorem run_number (d : Nat) {lo hi p : Nat} {h : gH} {t : TX} {T : Nat → Int32} {m a k e r1 r2 r3 r4 u sn rn' : Int32} (h7 : h 147 = mo m a k e (nI t.1) (nI p) r1 r2 r3 r4 u sn rn') (hT : h 151 = iA 150 T) (hTx : ∀ i, i < t.1 → T i = nI (t.2 i)) (ht : t.1 ≤ 150) (hb : ∀ i, i < t.1 → t.2 i ≤ 255) (hp : p ≤ t.1) (hlo : lo < 2 ^ 31) (hhi : hi < 2 ^ 31) : Run (d + 2) yX9_number cX9_number 5 (some .boolean) [.ref 147, .int (nI lo), .int (nI hi)] h 163 0 0 (fun r h' N' => N' = 163 ∧ (∀ x, x ≠ 147 → h' x = h x) ∧ ((∃ x, numO t (sk t p) = some x ∧ (lo ≤ x ∧ x ≤ hi) ∧ x < 1000 ∧ r = some (.int 1) ∧ h' 147 = mo m a k e (nI t.1) (nI (rn isD t (sk t p))) r1 r2 r3 (nI x) u sn rn') ∨ ((∀ x, numO t (sk t p) = some x → ¬ (lo ≤ x ∧ x ≤ hi)) ∧ r = some (.int 0) ∧ h' 147 = mo m a k e (nI t.1) (nI (sk t p)) r1 r2 r3 r4 u sn rn'))) := by
  have hsl : sk t p ≤ t.1 := rn_le hp
  refine Run.of (ini := false) (L := [_, _, _, _, _]) mX9_number (fun h => by cases h) rfl (Nat.le_of_ble_eq_true rfl) rfl ?_
  refine go_aload_n dX9_number_0 rfl ?_
  refine go_iv dX9_number_1 mX9_skip iX9_77 (run_skip d h7 hT hTx ht hb hp) rfl rfl (by omega) h7 rfl (Nat.le_of_ble_eq_true rfl) (Nat.zero_le _) (Nat.zero_le _) (fun v_1 h_1 n_1 q_1 => ?_)
  obtain ⟨rfl, rfl, k7, kk⟩ := q_1
  refine go_iconst (v := nI 0) dX9_number_4 (by decide) ?_
  refine go_istore_n (L' := [_, _, _, _, _]) dX9_number_5 rfl (by decide) rfl ?_
  refine go_iconst (v := nI 0) dX9_number_6 (by decide) ?_
  refine go_istore (L' := [_, _, _, _, _]) dX9_number_7 (by decide) rfl ?_
  refine go_Q ?_ (num_loop k7 ((kk _ (by omega)).trans hT) hTx ht hb hsl hlo hhi (t.1 - sk t p) 0 0 (by omega) rfl rfl (fun i hi => absurd hi (by omega)))
  rintro r h' N' ⟨a1, a2, a3⟩
  refine ⟨a1, fun x hx => (a2 x hx).trans (kk x hx), ?_⟩
  rcases a3 with z | ⟨z1, z2, z3⟩
  · exact Or.inl z
  · exact Or.inr ⟨z1, z2, by rw [z3]; exact k7⟩
set_option maxRecDepth 100000 in
theorem told_l {d n x : Nat} {h : gH} {w : Nat → Nat} {F : Nat → Int32} {m a k e s r0 r2 r3 r4 u sn rn' : Int32} (h7 : h 147 = mo m a k e s r0 (nI n) r2 r3 r4 u sn rn') (hF : h 152 = iA 24 F) (hn : n ≤ 24) (hw : ∀ i, i < n → F i = nI (w i) ∧ w i < 100) (hx : x < 100) : ∀ (mm i : Nat), i + mm = n → Go none RX9 cX9_isTold 4 (some .boolean) false d 4 [some (.ref 147), some (.int (nI x)), some (.int (bI (oldB w x i))), some (.int (nI i))] [] h 163 0 0 (fun r h' N' => r = some (.int (bI (oldB w x n))) ∧ h' = h ∧ N' = 163) := by
  intro mm
  induction mm with
  | zero =>
    intro i hi
    have e : i = n := by omega
    subst e
    refine go_iload_n dX9_isTold_4 rfl ?_
    refine go_aload_n dX9_isTold_5 rfl ?_
    refine go_get dX9_isTold_6 fX9_83 (by omega) h7 rfl ?_
    refine go_icmp_ge (tgt := 38) dX9_isTold_9 (by decide) (fun c_9 => ?_) (fun c_9 => ?_)
    · skip
      refine go_iload_n dX9_isTold_38 rfl ?_
      refine go_zret dX9_isTold_39 rfl (by first | exact Or.inl rfl | exact Or.inr rfl | exact bI01 _) ?_
      exact ⟨rfl, rfl, rfl⟩
    · exact absurd (nI_le (Nat.le_refl _) (by omega)) c_9
  | succ mm ih =>
    intro i hi
    have hwi := hw i (by omega)
    refine go_iload_n dX9_isTold_4 rfl ?_
    refine go_aload_n dX9_isTold_5 rfl ?_
    refine go_get dX9_isTold_6 fX9_83 (by omega) h7 rfl ?_
    refine go_icmp_ge (tgt := 38) dX9_isTold_9 (by decide) (fun c_9 => ?_) (fun c_9 => ?_)
    · exact absurd c_9 (nI_ge (by omega) (by omega))
    · skip
      refine go_iload_n dX9_isTold_12 rfl ?_
      refine go_if_ne (tgt := 26) dX9_isTold_13 (by decide) (fun c_13 => ?_) (fun c_13 => ?_)
      · skip
        have hb := bI_ne.mp c_13
        refine go_iconst (v := nI 1) dX9_isTold_26 (by decide) ?_
        refine go_goto (tgt := 31) dX9_isTold_27 (by decide) ?_
        refine go_istore_n (L' := [_, _, _, _]) dX9_isTold_31 rfl (by decide) rfl ?_
        refine go_inc (L' := [_, _, _, _]) dX9_isTold_32 rfl (by decide) rfl ?_
        refine go_goto (tgt := 4) dX9_isTold_35 (by decide) ?_
        refine go_eqL ?_ (ih (i + 1) (by omega))
        rw [oldB]
        first | (rw [hb]; rfl) | (rw [hb]; simp [he, bI]; rfl)
      · skip
        have hb : oldB w x i = false := bI_eq.mp (Decidable.not_not.mp c_13)
        refine go_aload_n dX9_isTold_16 rfl ?_
        refine go_get dX9_isTold_17 fX9_26 (by omega) h7 rfl ?_
        refine go_iload_n dX9_isTold_20 rfl ?_
        refine go_iald dX9_isTold_21 (by omega) hF rfl (by omega) (by omega) ?_
        refine go_top (y := .int (nI (w i))) (by rw [hwi.1]) ?_
        refine go_iload_n dX9_isTold_22 rfl ?_
        refine go_icmp_ne (tgt := 30) dX9_isTold_23 (by decide) (fun c_23 => ?_) (fun c_23 => ?_)
        · skip
          have he : ¬ w i = x := fun q => c_23 (by rw [q])
          refine go_iconst (v := nI 0) dX9_isTold_30 (by decide) ?_
          refine go_istore_n (L' := [_, _, _, _]) dX9_isTold_31 rfl (by decide) rfl ?_
          refine go_inc (L' := [_, _, _, _]) dX9_isTold_32 rfl (by decide) rfl ?_
          refine go_goto (tgt := 4) dX9_isTold_35 (by decide) ?_
          refine go_eqL ?_ (ih (i + 1) (by omega))
          rw [oldB]
          first | (rw [hb]; rfl) | (rw [hb]; simp [he, bI]; rfl)
        · skip
          have he : w i = x := (nI_eq (by omega) (by omega)).mp (Decidable.not_not.mp c_23)
          refine go_iconst (v := nI 1) dX9_isTold_26 (by decide) ?_
          refine go_goto (tgt := 31) dX9_isTold_27 (by decide) ?_
          refine go_istore_n (L' := [_, _, _, _]) dX9_isTold_31 rfl (by decide) rfl ?_
          refine go_inc (L' := [_, _, _, _]) dX9_isTold_32 rfl (by decide) rfl ?_
          refine go_goto (tgt := 4) dX9_isTold_35 (by decide) ?_
          refine go_eqL ?_ (ih (i + 1) (by omega))
          rw [oldB]
          first | (rw [hb]; rfl) | (rw [hb]; simp [he, bI]; rfl)
theorem run_isTold (d : Nat) {n x : Nat} {h : gH} {w v : Nat → Nat} {f : Nat → Option Nat} {F : Nat → Int32} {m a k e s r0 r2 r3 r4 u sn rn' : Int32} (h7 : h 147 = mo m a k e s r0 (nI n) r2 r3 r4 u sn rn') (hF : h 152 = iA 24 F) (hn : n ≤ 24) (hE : EN f n w v) (hw : ∀ i, i < n → F i = nI (w i)) (hx : x < 100) : Run d yX9_isTold cX9_isTold 4 (some .boolean) [.ref 147, .int (nI x)] h 163 0 0 (fun r h' N' => r = some (.int (bI (f x).isSome)) ∧ h' = h ∧ N' = 163) := by
  have e : oldB w x n = (f x).isSome := by
    cases hq : f x with
    | none =>
      cases hb : oldB w x n with
      | false => rfl
      | true =>
        obtain ⟨i, h1, h2⟩ := (oldB_iff w x n).mp hb
        have := (hE.1 i h1).2
        rw [h2, hq] at this
        cases this
    | some y =>
      obtain ⟨i, h1, h2⟩ := hE.2.2 x hx (by rw [hq]; simp)
      exact (oldB_iff w x n).mpr ⟨i, h1, h2⟩
  rw [← e]
  refine Run.of (ini := false) (L := [_, _, _, _]) mX9_isTold (fun h => by cases h) rfl (Nat.le_of_ble_eq_true rfl) rfl ?_
  refine go_iconst (v := nI 0) dX9_isTold_0 (by decide) ?_
  refine go_istore_n (L' := [_, _, _, _]) dX9_isTold_1 rfl (by decide) rfl ?_
  refine go_iconst (v := nI 0) dX9_isTold_2 (by decide) ?_
  refine go_istore_n (L' := [_, _, _, _]) dX9_isTold_3 rfl (by decide) rfl ?_
  exact told_l h7 hF hn (fun i hi => ⟨hw i hi, (hE.1 i hi).1⟩) hx n 0 (by omega)
