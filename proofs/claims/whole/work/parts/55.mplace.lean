/-! ===== readsPlace: the reference's side ===== -/
set_option maxRecDepth 100000 in
theorem rp76 {d : Nat} {t : TX} {h0 h : gH} {m a k e u sn rn' : Int32} {p0 p it n x c z K C : Nat} {kb cb : Bool} {f : Nat → Option Nat} {w1 w2 : Option Value} {RW RV : Nat → Int32} {w v : Nat → Nat} (hTT : TT h t) (hp0 : p0 ≤ p) (hp : p ≤ t.1) (hn : n < 24) (hc : c < 100) (hfc : f c = none) (h7 : h 147 = mo m a k e (nI t.1) (nI p) (nI n) (if kb = true then nI K else 0) (if cb = true then nI C else -9) (nI z) u sn rn') (hW : h 152 = iA 24 RW) (hV : h 153 = iA 24 RV) (hE : EN f n w v) (hEw : ∀ i, i < n → RW i = nI (w i) ∧ RV i = nI (v i)) (hk : kb = false → K = 3) (hcb : cb = false → C = 0) (hO : PO p (6, it, n + 1, kb, cb, x, c, setF f c (some z), K, C)) (hkk : ∀ x, x ≠ 147 → x ≠ 152 → x ≠ 153 → h x = h0 x) : Go none RX9 cX9_readsPlace 4 (some .boolean) false (d + 3) 76 [some (.ref 147), w1, w2, some (.int (nI c))] [] h 163 0 0 (RIP t h0 m a k e u sn rn' p0 it (rd t p (6, it, n + 1, kb, cb, x, c, setF f c (some z), K, C))) := by
  have hn2 := hE.new (x := c) (y := z) hc hfc
  refine go_aload_n dX9_readsPlace_76 rfl ?_
  refine go_get dX9_readsPlace_77 fX9_26 (by omega) h7 rfl ?_
  refine go_aload_n dX9_readsPlace_80 rfl ?_
  refine go_get dX9_readsPlace_81 fX9_83 (by omega) h7 rfl ?_
  refine go_iload_n dX9_readsPlace_84 rfl ?_
  refine go_iast dX9_readsPlace_85 (by omega) hW rfl (by omega) (by omega) ?_
  refine go_aload_n dX9_readsPlace_86 rfl ?_
  refine go_get dX9_readsPlace_87 fX9_29 (by omega) ((hset_ne (by omega)).trans h7) rfl ?_
  refine go_aload_n dX9_readsPlace_90 rfl ?_
  refine go_get dX9_readsPlace_91 fX9_83 (by omega) ((hset_ne (by omega)).trans h7) rfl ?_
  refine go_aload_n dX9_readsPlace_94 rfl ?_
  refine go_get dX9_readsPlace_95 fX9_80 (by omega) ((hset_ne (by omega)).trans h7) rfl ?_
  refine go_iast dX9_readsPlace_98 (by omega) ((hset_ne (by omega)).trans hV) rfl (by omega) (by omega) ?_
  refine go_aload_n dX9_readsPlace_99 rfl ?_
  refine go_dup dX9_readsPlace_100 rfl ?_
  refine go_get dX9_readsPlace_101 fX9_83 (by omega) ((hset_ne (by omega)).trans ((hset_ne (by omega)).trans h7)) rfl ?_
  refine go_iconst (v := nI 1) dX9_readsPlace_104 (by decide) ?_
  refine go_iadd dX9_readsPlace_105 ?_
  refine go_top (y := .int (nI (n + 1))) (by rw [nI_add]) ?_
  refine go_put (fs' := [_, _, _, _, _, _, _, _, _, _, _, _, _, _, _, _, _, _, _, _, _, _, _, _, _, _, _, _]) dX9_readsPlace_106 fX9_83 (by omega) ((hset_ne (by omega)).trans ((hset_ne (by omega)).trans h7)) (Nat.le_of_ble_eq_true rfl) (Or.inl rfl) ⟨_, _, _, rfl, Or.inl rfl⟩ rfl ?_
  refine go_aload_n dX9_readsPlace_109 rfl ?_
  refine go_iv dX9_readsPlace_110 mX9_ends iX9_94 (rip_ends d (p0 := p0) (h0 := h0) (hTT.ag ((hset_ne (by omega)).trans ((hset_ne (by omega)).trans (hset_ne (by omega))))) hp0 hp hset_same ((hset_ne (by omega)).trans ((hset_ne (by omega)).trans hset_same)) ((hset_ne (by omega)).trans hset_same) hn2 (fun i hi => by by_cases q : i = n; (subst q; simp only [if_true]; exact ⟨pk_us, pk_us⟩); (simp only [if_neg q]; rw [pk_un q, pk_un q]; exact hEw i (by omega))) hk hcb hO (fun y q1 q2 q3 => by rw [hset_ne q1, hset_ne q3, hset_ne q2]; exact hkk y q1 q2 q3)) rfl rfl (by omega) hset_same rfl (Nat.le_of_ble_eq_true rfl) (Nat.zero_le _) (Nat.zero_le _) (fun v_110 h_110 n_110 q_110 => ?_)
  obtain ⟨z1, z2, ⟨rfl, z3⟩ | ⟨rfl, z3⟩⟩ := q_110
  · subst z1; exact go_zret dX9_readsPlace_113 rfl (Or.inr rfl) ⟨rfl, z2, Or.inl ⟨rfl, z3⟩⟩
  · subst z1; exact go_zret dX9_readsPlace_113 rfl (Or.inl rfl) ⟨rfl, z2, Or.inr ⟨rfl, z3⟩⟩
set_option maxRecDepth 100000 in
theorem rp63 {d : Nat} {t : TX} {h0 h : gH} {m a k e u sn rn' : Int32} {p0 p it n x c K C : Nat} {kb cb : Bool} {f : Nat → Option Nat} {w1 w2 : Option Value} {r4 : Int32} {RW RV : Nat → Int32} {w v : Nat → Nat} (hTT : TT h t) (hp0 : p0 ≤ p) (hp : p ≤ t.1) (hn : n < 24) (hc : c < 100) (hfc : f c = none) (h7 : h 147 = mo m a k e (nI t.1) (nI p) (nI n) (if kb = true then nI K else 0) (if cb = true then nI C else -9) r4 u sn rn') (hW : h 152 = iA 24 RW) (hV : h 153 = iA 24 RV) (hE : EN f n w v) (hEw : ∀ i, i < n → RW i = nI (w i) ∧ RV i = nI (v i)) (hk : kb = false → K = 3) (hcb : cb = false → C = 0) (hO : PO p (3, it, n + 1, kb, cb, x, c, f, K, C)) (hkk : ∀ x, x ≠ 147 → x ≠ 152 → x ≠ 153 → h x = h0 x) : Go none RX9 cX9_readsPlace 4 (some .boolean) false (d + 3) 63 [some (.ref 147), w1, w2, some (.int (nI c))] [] h 163 0 0 (RIP t h0 m a k e u sn rn' p0 it (rd t p (3, it, n + 1, kb, cb, x, c, f, K, C))) := by
  obtain ⟨⟨T, t1, t2⟩, t3, t4⟩ := id hTT
  refine go_aload_n dX9_readsPlace_63 rfl ?_
  refine go_iconst (v := nI 0) dX9_readsPlace_64 (by decide) ?_
  refine go_sipush (v := nI 999) dX9_readsPlace_65 (by decide) ?_
  refine go_iv dX9_readsPlace_68 mX9_number iX9_86 (run_number (d := d) (lo := 0) (hi := 999) h7 t1 t2 t3 t4 hp (by decide) (by decide)) rfl rfl (by omega) h7 rfl (Nat.le_of_ble_eq_true rfl) (Nat.zero_le _) (Nat.zero_le _) (fun v_68 h_68 n_68 q_68 => ?_)
  obtain ⟨rfl, kk, hz⟩ := q_68
  rcases hz with ⟨z, hx1, hx2, hx3, rfl, k7⟩ | ⟨hx1, rfl, k7⟩
  · have hs : tkN (3, it, n + 1, kb, cb, x, c, f, K, C) z = some (6, it, n + 1, kb, cb, x, c, setF f c (some z), K, C) := if_pos hx2.2
    have hgt := numO_gt hx1
    have hge := sk_ge t p
    have hrl := rn_le (P := isD) (sk_le hp)
    rw [rd_num_y (by omega) (by omega) hx1 hs]
    refine go_if_ne (tgt := 76) dX9_readsPlace_71 (by decide) (fun c_7 => ?_) (fun c_7 => absurd (by decide) c_7)
    exact rp76 (hTT.ag (kk _ (by omega))) (by omega) hrl hn hc hfc k7 ((kk _ (by omega)).trans hW) ((kk _ (by omega)).trans hV) hE hEw hk hcb ((PO_N hO hs).mono (by omega)) (fun y q1 q2 q3 => (kk y q1).trans (hkk y q1 q2 q3))
  · have hn : rd t p (3, it, n + 1, kb, cb, x, c, f, K, C) = .inl (sk t p) := rd_num_n hp (by omega) (by omega) (bind_no hx1 (fun x hx => if_neg (fun z => hx ⟨Nat.zero_le _, z⟩)))
    rw [hn]
    refine go_if_ne (tgt := 76) dX9_readsPlace_71 (by decide) (fun c_7 => absurd rfl c_7) (fun c_7 => ?_)
    refine go_iconst (v := nI 0) dX9_readsPlace_74 (by decide) ?_
    exact go_zret dX9_readsPlace_75 rfl (Or.inl rfl) ⟨rfl, fun x q1 q2 q3 => (kk x q1).trans (hkk x q1 q2 q3), Or.inr ⟨rfl, _, rfl, sk_le hp, ⟨_, _, _, _, k7⟩, RW, RV, (kk _ (by omega)).trans hW, (kk _ (by omega)).trans hV⟩⟩
set_option maxRecDepth 100000 in
theorem rp38 {d : Nat} {t : TX} {h0 h : gH} {m a k e u sn rn' : Int32} {p0 p q it n x y ce K C : Nat} {kb cb : Bool} {f : Nat → Option Nat} {RW RV : Nat → Int32} {w v : Nat → Nat} (hTT : TT h t) (hp0 : p0 ≤ p) (hp : p ≤ t.1) (hn : n < 24) (hq : sk t p = q) (hx9 : x ≤ 9) (hy9 : y ≤ 9) (hy : numO t q = some y) (h7 : h 147 = mo m a k e (nI t.1) (nI (rn isD t q)) (nI n) (if kb = true then nI K else 0) (if cb = true then nI C else -9) (nI y) u sn rn') (hW : h 152 = iA 24 RW) (hV : h 153 = iA 24 RV) (hE : EN f n w v) (hEw : ∀ i, i < n → RW i = nI (w i) ∧ RV i = nI (v i)) (hk : kb = false → K = 3) (hcb : cb = false → C = 0) (hO : PO p (2, it, n + 1, kb, cb, x, ce, f, K, C)) (hkk : ∀ x, x ≠ 147 → x ≠ 152 → x ≠ 153 → h x = h0 x) : Go none RX9 cX9_readsPlace 4 (some .boolean) false (d + 3) 38 [some (.ref 147), some (.int (nI x)), some (.int (nI q)), none] [] h 163 0 0 (RIP t h0 m a k e u sn rn' p0 it (rd t p (2, it, n + 1, kb, cb, x, ce, f, K, C))) := by
  have hgt := numO_gt hy
  have hge := sk_ge t p
  have hql := sk_le hp
  have hrl := rn_le (P := isD) hql
  rw [hq] at hge hql hrl
  refine go_bipush (v := nI 10) dX9_readsPlace_38 (by decide) ?_
  refine go_iload_n dX9_readsPlace_40 rfl ?_
  refine go_imul dX9_readsPlace_41 ?_
  refine go_aload_n dX9_readsPlace_42 rfl ?_
  refine go_get dX9_readsPlace_43 fX9_80 (by omega) h7 rfl ?_
  refine go_iadd dX9_readsPlace_46 ?_
  refine go_top (y := .int (nI (10 * x + y))) (by rw [pk_mul, nI_add]) ?_
  refine go_istore_n (L' := [_, _, _, _]) dX9_readsPlace_47 rfl (by decide) rfl ?_
  refine go_aload_n dX9_readsPlace_48 rfl ?_
  refine go_iload_n dX9_readsPlace_49 rfl ?_
  refine go_iv dX9_readsPlace_50 mX9_isTold iX9_90 (run_isTold (d + 2) h7 hW (by omega) hE (fun i hi => (hEw i hi).1) (show 10 * x + y < 100 by omega)) rfl rfl (by omega) h7 rfl (Nat.le_of_ble_eq_true rfl) (Nat.zero_le _) (Nat.zero_le _) (fun v_50 h_50 n_50 q_50 => ?_)
  obtain ⟨rfl, rfl, rfl⟩ := q_50
  refine go_if_eq (tgt := 63) dX9_readsPlace_53 (by decide) (fun c_53 => ?_) (fun c_53 => ?_)
  · skip
    have c1 : f (10 * x + y) = none := by have := bI_eq.mp c_53; cases hf : f (10 * x + y) with | none => rfl | some z => rw [hf] at this; cases this
    have hs : tkN (2, it, n + 1, kb, cb, x, ce, f, K, C) y = some (3, it, n + 1, kb, cb, x, 10 * x + y, f, K, C) := if_pos ⟨hy9, c1⟩
    rw [rd_num_y (by omega) (by omega) (by rw [hq]; exact hy) hs, hq]
    exact rp63 hTT (by omega) hrl hn (by omega) c1 h7 hW hV hE hEw hk hcb ((PO_N hO hs).mono (by omega)) hkk
  · skip
    have c1 : ¬ f (10 * x + y) = none := by have := bI_ne.mp c_53; intro z; rw [z] at this; cases this
    refine go_aload_n dX9_readsPlace_56 rfl ?_
    refine go_iload_n dX9_readsPlace_57 rfl ?_
    refine go_put (fs' := [_, _, _, _, _, _, _, _, _, _, _, _, _, _, _, _, _, _, _, _, _, _, _, _, _, _, _, _]) dX9_readsPlace_58 fX9_70 (by omega) h7 (Nat.le_of_ble_eq_true rfl) (Or.inl rfl) ⟨_, _, _, rfl, Or.inl rfl⟩ rfl ?_
    refine go_iconst (v := nI 0) dX9_readsPlace_61 (by decide) ?_
    refine go_zret dX9_readsPlace_62 rfl (by first | exact Or.inl rfl | exact Or.inr rfl | exact bI01 _) ?_
    have hn : rd t p (2, it, n + 1, kb, cb, x, ce, f, K, C) = .inl (sk t p) := rd_num_n hp (by omega) (by omega) (by rw [hq, hy]; exact if_neg (fun z => c1 z.2))
    rw [hn, hq]
    exact ⟨rfl, fun x q1 q2 q3 => (hset_ne q1).trans (hkk x q1 q2 q3), Or.inr ⟨rfl, q, rfl, hql, ⟨_, _, _, _, hset_same⟩, RW, RV, (hset_ne (by omega)).trans hW, (hset_ne (by omega)).trans hV⟩⟩
set_option maxRecDepth 100000 in
theorem rp12 {d : Nat} {t : TX} {h0 h : gH} {m a k e u sn rn' : Int32} {p0 p it n x ce K C : Nat} {kb cb : Bool} {f : Nat → Option Nat} {RW RV : Nat → Int32} {w v : Nat → Nat} (hTT : TT h t) (hp0 : p0 ≤ p) (hp : p ≤ t.1) (hn : n < 24) (hx9 : x ≤ 9) (h7 : h 147 = mo m a k e (nI t.1) (nI p) (nI n) (if kb = true then nI K else 0) (if cb = true then nI C else -9) (nI x) u sn rn') (hW : h 152 = iA 24 RW) (hV : h 153 = iA 24 RV) (hE : EN f n w v) (hEw : ∀ i, i < n → RW i = nI (w i) ∧ RV i = nI (v i)) (hk : kb = false → K = 3) (hcb : cb = false → C = 0) (hO : PO p (2, it, n + 1, kb, cb, x, ce, f, K, C)) (hkk : ∀ x, x ≠ 147 → x ≠ 152 → x ≠ 153 → h x = h0 x) : Go none RX9 cX9_readsPlace 4 (some .boolean) false (d + 3) 12 [some (.ref 147), none, none, none] [] h 163 0 0 (RIP t h0 m a k e u sn rn' p0 it (rd t p (2, it, n + 1, kb, cb, x, ce, f, K, C))) := by
  obtain ⟨⟨T, t1, t2⟩, t3, t4⟩ := id hTT
  have hql := sk_le hp
  refine go_aload_n dX9_readsPlace_12 rfl ?_
  refine go_get dX9_readsPlace_13 fX9_80 (by omega) h7 rfl ?_
  refine go_istore_n (L' := [_, _, _, _]) dX9_readsPlace_16 rfl (by decide) rfl ?_
  refine go_aload_n dX9_readsPlace_17 rfl ?_
  refine go_iv dX9_readsPlace_18 mX9_skip iX9_77 (run_skip (d := d + 1) h7 t1 t2 t3 t4 hp) rfl rfl (by omega) h7 rfl (Nat.le_of_ble_eq_true rfl) (Nat.zero_le _) (Nat.zero_le _) (fun v_18 h_18 n_18 q_18 => ?_)
  obtain ⟨rfl, rfl, k7, kk⟩ := q_18
  refine go_aload_n dX9_readsPlace_21 rfl ?_
  refine go_get dX9_readsPlace_22 fX9_70 (by omega) k7 rfl ?_
  refine go_istore_n (L' := [_, _, _, _]) dX9_readsPlace_25 rfl (by decide) rfl ?_
  refine go_aload_n dX9_readsPlace_26 rfl ?_
  refine go_iconst (v := nI 0) dX9_readsPlace_27 (by decide) ?_
  refine go_bipush (v := nI 9) dX9_readsPlace_28 (by decide) ?_
  refine go_iv dX9_readsPlace_30 mX9_number iX9_86 (run_number (d := d) (lo := 0) (hi := 9) k7 ((kk _ (by omega)).trans t1) t2 t3 t4 hql (by decide) (by decide)) rfl rfl (by omega) k7 rfl (Nat.le_of_ble_eq_true rfl) (Nat.zero_le _) (Nat.zero_le _) (fun v_30 h_30 n_30 q_30 => ?_)
  obtain ⟨rfl, kk2, hz⟩ := q_30
  rw [sk_sk] at hz
  rcases hz with ⟨y, hx1, hx2, hx3, rfl, l7⟩ | ⟨hx1, rfl, l7⟩
  · refine go_if_ne (tgt := 38) dX9_readsPlace_33 (by decide) (fun c_7 => ?_) (fun c_7 => absurd (by decide) c_7)
    exact rp38 (hTT.ag ((kk2 _ (by omega)).trans (kk _ (by omega)))) hp0 hp hn rfl hx9 hx2.2 hx1 l7 ((kk2 _ (by omega)).trans ((kk _ (by omega)).trans hW)) ((kk2 _ (by omega)).trans ((kk _ (by omega)).trans hV)) hE hEw hk hcb hO (fun y q1 q2 q3 => (kk2 y q1).trans ((kk y q1).trans (hkk y q1 q2 q3)))
  · have hn : rd t p (2, it, n + 1, kb, cb, x, ce, f, K, C) = .inl (sk t p) := rd_num_n hp (by omega) (by omega) (bind_no hx1 (fun x hx => if_neg (fun z => hx ⟨Nat.zero_le _, z.1⟩)))
    rw [hn]
    refine go_if_ne (tgt := 38) dX9_readsPlace_33 (by decide) (fun c_7 => absurd rfl c_7) (fun c_7 => ?_)
    refine go_iconst (v := nI 0) dX9_readsPlace_36 (by decide) ?_
    exact go_zret dX9_readsPlace_37 rfl (Or.inl rfl) ⟨rfl, fun x q1 q2 q3 => (kk2 x q1).trans ((kk x q1).trans (hkk x q1 q2 q3)), Or.inr ⟨rfl, _, rfl, hql, ⟨_, _, _, _, l7⟩, RW, RV, (kk2 _ (by omega)).trans ((kk _ (by omega)).trans hW), (kk2 _ (by omega)).trans ((kk _ (by omega)).trans hV)⟩⟩
set_option maxRecDepth 100000 in
theorem run_readsPlace (d : Nat) {t : TX} {h : gH} {m a k e u sn rn' : Int32} {p it n ro ce K C : Nat} {kb cb : Bool} {f : Nat → Option Nat} {r4 : Int32} {RW RV : Nat → Int32} {w v : Nat → Nat} (hTT : TT h t) (hp : p ≤ t.1) (hn : n < 24) (h7 : h 147 = mo m a k e (nI t.1) (nI p) (nI n) (if kb = true then nI K else 0) (if cb = true then nI C else -9) r4 u sn rn') (hW : h 152 = iA 24 RW) (hV : h 153 = iA 24 RV) (hE : EN f n w v) (hEw : ∀ i, i < n → RW i = nI (w i) ∧ RV i = nI (v i)) (hk : kb = false → K = 3) (hcb : cb = false → C = 0) (hO : PO p (1, it, n + 1, kb, cb, ro, ce, f, K, C)) : Run (d + 3) yX9_readsPlace cX9_readsPlace 4 (some .boolean) [.ref 147] h 163 0 0 (RIP t h m a k e u sn rn' p it (rd t p (1, it, n + 1, kb, cb, ro, ce, f, K, C))) := by
  obtain ⟨⟨T, t1, t2⟩, t3, t4⟩ := id hTT
  refine Run.of (ini := false) (L := [_, _, _, _]) mX9_readsPlace (fun h => by cases h) rfl (Nat.le_of_ble_eq_true rfl) rfl ?_
  refine go_aload_n dX9_readsPlace_0 rfl ?_
  refine go_iconst (v := nI 0) dX9_readsPlace_1 (by decide) ?_
  refine go_bipush (v := nI 9) dX9_readsPlace_2 (by decide) ?_
  refine go_iv dX9_readsPlace_4 mX9_number iX9_86 (run_number (d := d) (lo := 0) (hi := 9) h7 t1 t2 t3 t4 hp (by decide) (by decide)) rfl rfl (by omega) h7 rfl (Nat.le_of_ble_eq_true rfl) (Nat.zero_le _) (Nat.zero_le _) (fun v_4 h_4 n_4 q_4 => ?_)
  obtain ⟨rfl, kk, hz⟩ := q_4
  rcases hz with ⟨x, hx1, hx2, hx3, rfl, k7⟩ | ⟨hx1, rfl, k7⟩
  · have hs : tkN (1, it, n + 1, kb, cb, ro, ce, f, K, C) x = some (2, it, n + 1, kb, cb, x, ce, f, K, C) := if_pos hx2.2
    have hgt := numO_gt hx1
    have hge := sk_ge t p
    have hrl := rn_le (P := isD) (sk_le hp)
    rw [rd_num_y (by omega) (by omega) hx1 hs]
    refine go_if_ne (tgt := 12) dX9_readsPlace_7 (by decide) (fun c_7 => ?_) (fun c_7 => absurd (by decide) c_7)
    exact rp12 (hTT.ag (kk _ (by omega))) (by omega) hrl hn hx2.2 k7 ((kk _ (by omega)).trans hW) ((kk _ (by omega)).trans hV) hE hEw hk hcb ((PO_N hO hs).mono (by omega)) (fun y q1 q2 q3 => kk y q1)
  · have hn : rd t p (1, it, n + 1, kb, cb, ro, ce, f, K, C) = .inl (sk t p) := rd_num_n hp (by omega) (by omega) (bind_no hx1 (fun x hx => if_neg (fun z => hx ⟨Nat.zero_le _, z⟩)))
    rw [hn]
    refine go_if_ne (tgt := 12) dX9_readsPlace_7 (by decide) (fun c_7 => absurd rfl c_7) (fun c_7 => ?_)
    refine go_iconst (v := nI 0) dX9_readsPlace_10 (by decide) ?_
    exact go_zret dX9_readsPlace_11 rfl (Or.inl rfl) ⟨rfl, fun x q1 q2 q3 => kk x q1, Or.inr ⟨rfl, _, rfl, sk_le hp, ⟨_, _, _, _, k7⟩, RW, RV, (kk _ (by omega)).trans hW, (kk _ (by omega)).trans hV⟩⟩
