/-! ===== readsPlace, readsAsked, readsCost: the reference's side ===== -/
theorem sk_sk (t : TX) (p : Nat) : sk t (sk t p) = sk t p := by
  unfold sk
  exact rn_stop (rn_end (P := isB) (t := t) (t.1 - p) p (Nat.le_refl _))
theorem sk_ge (t : TX) (p : Nat) : p ≤ sk t p := rn_ge
theorem sk_le {t : TX} {p : Nat} (h : p ≤ t.1) : sk t p ≤ t.1 := rn_le h
theorem numO_gt {t : TX} {q x : Nat} (h : numO t q = some x) : q < rn isD t q := by
  unfold numO at h
  have := rn_ge (P := isD) (t := t) (p := q)
  split at h
  · cases h
  · omega
def MRd (h : gH) (t : TX) (m a k e u sn rn' : Int32) (p : Nat) : PS → Prop
  | (_, _, pb, kb, cb, _, _, f, K, C) => ∃ (r4 : Int32) (RW RV : Nat → Int32) (w v : Nat → Nat), h 147 = mo m a k e (nI t.1) (nI p) (nI pb) (if kb = true then nI K else 0) (if cb = true then nI C else -9) r4 u sn rn' ∧ h 152 = iA 24 RW ∧ h 153 = iA 24 RV ∧ EN f pb w v ∧ (∀ i, i < pb → RW i = nI (w i) ∧ RV i = nI (v i)) ∧ (kb = false → K = 3) ∧ (cb = false → C = 0)
def RIP (t : TX) (h : gH) (m a k e u sn rn' : Int32) (p it : Nat) (o : Nat ⊕ PS) (v : Option Value) (h' : gH) (N' : Nat) : Prop := N' = 163 ∧ (∀ x, x ≠ 147 → x ≠ 152 → x ≠ 153 → h' x = h x) ∧ ((v = some (.int 1) ∧ ∃ p' s', p < p' ∧ p' ≤ t.1 ∧ o = rd t p' s' ∧ s'.1 = 0 ∧ s'.2.1 = it + 1 ∧ MRd h' t m a k e u sn rn' p' s' ∧ PO p' s') ∨ (v = some (.int 0) ∧ ∃ r, o = .inl r ∧ r ≤ t.1 ∧ (∃ r1 r2 r3 r4, h' 147 = mo m a k e (nI t.1) (nI r) r1 r2 r3 r4 u sn rn') ∧ ∃ RW RV, h' 152 = iA 24 RW ∧ h' 153 = iA 24 RV))
/-- the text lies in cell 151 -/
def TT (h : gH) (t : TX) : Prop := (∃ T : Nat → Int32, h 151 = iA 150 T ∧ ∀ i, i < t.1 → T i = nI (t.2 i)) ∧ t.1 ≤ 150 ∧ ∀ i, i < t.1 → t.2 i ≤ 255
theorem TT.ag {h h' : gH} {t : TX} (q : TT h t) (f : h' 151 = h 151) : TT h' t := by
  obtain ⟨⟨T, h1, h2⟩, h3⟩ := q
  exact ⟨⟨T, f.trans h1, h2⟩, h3⟩
/-- the end of an item: what ends does -/
theorem rip_ends {t : TX} {h0 h : gH} {m a k e u sn rn' : Int32} {p0 p it pb ro ce K C : Nat} {kb cb : Bool} {f : Nat → Option Nat} {r4 : Int32} {RW RV : Nat → Int32} {w v : Nat → Nat} (d : Nat) (hTT : TT h t) (hp0 : p0 ≤ p) (hp : p ≤ t.1) (h7 : h 147 = mo m a k e (nI t.1) (nI p) (nI pb) (if kb = true then nI K else 0) (if cb = true then nI C else -9) r4 u sn rn') (hW : h 152 = iA 24 RW) (hV : h 153 = iA 24 RV) (hE : EN f pb w v) (hEw : ∀ i, i < pb → RW i = nI (w i) ∧ RV i = nI (v i)) (hk : kb = false → K = 3) (hc : cb = false → C = 0) (hO : PO p (6, it, pb, kb, cb, ro, ce, f, K, C)) (hkk : ∀ x, x ≠ 147 → x ≠ 152 → x ≠ 153 → h x = h0 x) : Run (d + 2) yX9_ends cX9_ends 1 (some .boolean) [.ref 147] h 163 0 0 (RIP t h0 m a k e u sn rn' p0 it (rd t p (6, it, pb, kb, cb, ro, ce, f, K, C))) := by
  obtain ⟨⟨T, t1, t2⟩, t3, t4⟩ := hTT
  refine (run_ends d h7 t1 t2 t3 t4 hp).mono ?_
  rintro r h' N' ⟨a1, a2, ⟨a3, a4, a5⟩ | ⟨a3, a4, a5⟩⟩
  · refine ⟨a1, fun x q1 q2 q3 => (a2 x q1).trans (hkk x q1 q2 q3), Or.inl ⟨a4, sk t p + 1, (0, it + 1, pb, kb, cb, ro, ce, f, K, C), by have := sk_ge t p; omega, by omega, rd_six_y a3.1 a3.2, rfl, rfl, ⟨r4, RW, RV, w, v, a5, (a2 _ (by omega)).trans hW, (a2 _ (by omega)).trans hV, hE, hEw, hk, hc⟩, ?_⟩⟩
    exact PO_E (hO.mono (sk_ge t p)) rfl
  · exact ⟨a1, fun x q1 q2 q3 => (a2 x q1).trans (hkk x q1 q2 q3), Or.inr ⟨a4, sk t p, rd_six_n hp a3, sk_le hp, ⟨_, _, _, _, a5⟩, RW, RV, (a2 _ (by omega)).trans hW, (a2 _ (by omega)).trans hV⟩⟩
theorem bind_no {t : TX} {q lo hi : Nat} {s : PS} (h : ∀ x, numO t q = some x → ¬ (lo ≤ x ∧ x ≤ hi)) (hs : ∀ x, ¬ (lo ≤ x ∧ x ≤ hi) → tkN s x = none) : (numO t q).bind (tkN s) = none := by
  cases hq : numO t q with
  | none => rfl
  | some x => exact hs x (h x hq)
set_option maxRecDepth 100000 in
theorem run_readsAsked (d : Nat) {t : TX} {h : gH} {m a k e u sn rn' : Int32} {p it pb ro ce K C : Nat} {cb : Bool} {f : Nat → Option Nat} {r4 : Int32} {RW RV : Nat → Int32} {w v : Nat → Nat} (hTT : TT h t) (hp : p ≤ t.1) (h7 : h 147 = mo m a k e (nI t.1) (nI p) (nI pb) 0 (if cb = true then nI C else -9) r4 u sn rn') (hW : h 152 = iA 24 RW) (hV : h 153 = iA 24 RV) (hE : EN f pb w v) (hEw : ∀ i, i < pb → RW i = nI (w i) ∧ RV i = nI (v i)) (hc : cb = false → C = 0) (hO : PO p (4, it, pb, true, cb, ro, ce, f, K, C)) : Run (d + 3) yX9_readsAsked cX9_readsAsked 1 (some .boolean) [.ref 147] h 163 0 0 (RIP t h m a k e u sn rn' p it (rd t p (4, it, pb, true, cb, ro, ce, f, K, C))) := by
  obtain ⟨⟨T, t1, t2⟩, t3, t4⟩ := id hTT
  refine Run.of (ini := false) (L := [_]) mX9_readsAsked (fun h => by cases h) rfl (Nat.le_of_ble_eq_true rfl) rfl ?_
  refine go_aload_n dX9_readsAsked_0 rfl ?_
  refine go_iconst (v := nI 1) dX9_readsAsked_1 (by decide) ?_
  refine go_bipush (v := nI 6) dX9_readsAsked_2 (by decide) ?_
  refine go_iv dX9_readsAsked_4 mX9_number iX9_86 (run_number (d := d) (lo := 1) (hi := 6) h7 t1 t2 t3 t4 hp (by decide) (by decide)) rfl rfl (by omega) h7 rfl (Nat.le_of_ble_eq_true rfl) (Nat.zero_le _) (Nat.zero_le _) (fun v_4 h_4 n_4 q_4 => ?_)
  obtain ⟨rfl, kk, hz⟩ := q_4
  rcases hz with ⟨x, hx1, hx2, hx3, rfl, k7⟩ | ⟨hx1, rfl, k7⟩
  · have hs : tkN (4, it, pb, true, cb, ro, ce, f, K, C) x = some (6, it, pb, true, cb, ro, ce, f, x, C) := if_pos hx2
    have hgt := numO_gt hx1
    have hge := sk_ge t p
    have hrl := rn_le (P := isD) (sk_le hp)
    rw [rd_num_y (by omega) (by omega) hx1 hs]
    refine go_if_ne (tgt := 12) dX9_readsAsked_7 (by decide) (fun c_7 => ?_) (fun c_7 => absurd (by decide) c_7)
    refine go_aload_n dX9_readsAsked_12 rfl ?_
    refine go_aload_n dX9_readsAsked_13 rfl ?_
    refine go_get dX9_readsAsked_14 fX9_80 (by omega) k7 rfl ?_
    refine go_put (fs' := [_, _, _, _, _, _, _, _, _, _, _, _, _, _, _, _, _, _, _, _, _, _, _, _, _, _, _, _]) dX9_readsAsked_17 fX9_98 (by omega) k7 (Nat.le_of_ble_eq_true rfl) (Or.inl rfl) ⟨_, _, _, rfl, Or.inl rfl⟩ rfl ?_
    refine go_aload_n dX9_readsAsked_20 rfl ?_
    refine go_iv dX9_readsAsked_21 mX9_ends iX9_94 (rip_ends d (kb := true) (K := x) (cb := cb) (C := C) (p0 := p) (p := rn isD t (sk t p)) (h0 := h) (r4 := nI x) (RW := RW) (RV := RV) (w := w) (v := v) (hTT.ag ((hset_ne (by omega)).trans (kk _ (by omega)))) (by omega) hrl hset_same ((hset_ne (by omega)).trans ((kk _ (by omega)).trans hW)) ((hset_ne (by omega)).trans ((kk _ (by omega)).trans hV)) hE hEw (fun z => by cases z) hc ((PO_N hO hs).mono (by omega)) (fun y q1 q2 q3 => (hset_ne q1).trans (kk y q1))) rfl rfl (by omega) hset_same rfl (Nat.le_of_ble_eq_true rfl) (Nat.zero_le _) (Nat.zero_le _) (fun v_21 h_21 n_21 q_21 => ?_)
    obtain ⟨z1, z2, ⟨rfl, z3⟩ | ⟨rfl, z3⟩⟩ := q_21
    · subst z1; exact go_zret dX9_readsAsked_24 rfl (Or.inr rfl) ⟨rfl, z2, Or.inl ⟨rfl, z3⟩⟩
    · subst z1; exact go_zret dX9_readsAsked_24 rfl (Or.inl rfl) ⟨rfl, z2, Or.inr ⟨rfl, z3⟩⟩
  · have hn : rd t p (4, it, pb, true, cb, ro, ce, f, K, C) = .inl (sk t p) := rd_num_n hp (by omega) (by omega) (bind_no hx1 (fun x hx => if_neg hx))
    rw [hn]
    refine go_if_ne (tgt := 12) dX9_readsAsked_7 (by decide) (fun c_7 => absurd rfl c_7) (fun c_7 => ?_)
    refine go_iconst (v := nI 0) dX9_readsAsked_10 (by decide) ?_
    exact go_zret dX9_readsAsked_11 rfl (Or.inl rfl) ⟨rfl, fun x q1 q2 q3 => kk x q1, Or.inr ⟨rfl, _, rfl, sk_le hp, ⟨_, _, _, _, k7⟩, RW, RV, (kk _ (by omega)).trans hW, (kk _ (by omega)).trans hV⟩⟩
set_option maxRecDepth 100000 in
theorem run_readsCost (d : Nat) {t : TX} {h : gH} {m a k e u sn rn' : Int32} {p it pb ro ce K C : Nat} {kb : Bool} {f : Nat → Option Nat} {r4 : Int32} {RW RV : Nat → Int32} {w v : Nat → Nat} (hTT : TT h t) (hp : p ≤ t.1) (h7 : h 147 = mo m a k e (nI t.1) (nI p) (nI pb) (if kb = true then nI K else 0) (-9) r4 u sn rn') (hW : h 152 = iA 24 RW) (hV : h 153 = iA 24 RV) (hE : EN f pb w v) (hEw : ∀ i, i < pb → RW i = nI (w i) ∧ RV i = nI (v i)) (hk : kb = false → K = 3) (hO : PO p (5, it, pb, kb, true, ro, ce, f, K, C)) : Run (d + 3) yX9_readsCost cX9_readsCost 1 (some .boolean) [.ref 147] h 163 0 0 (RIP t h m a k e u sn rn' p it (rd t p (5, it, pb, kb, true, ro, ce, f, K, C))) := by
  obtain ⟨⟨T, t1, t2⟩, t3, t4⟩ := id hTT
  refine Run.of (ini := false) (L := [_]) mX9_readsCost (fun h => by cases h) rfl (Nat.le_of_ble_eq_true rfl) rfl ?_
  refine go_aload_n dX9_readsCost_0 rfl ?_
  refine go_iconst (v := nI 0) dX9_readsCost_1 (by decide) ?_
  refine go_sipush (v := nI 999) dX9_readsCost_2 (by decide) ?_
  refine go_iv dX9_readsCost_5 mX9_number iX9_86 (run_number (d := d) (lo := 0) (hi := 999) h7 t1 t2 t3 t4 hp (by decide) (by decide)) rfl rfl (by omega) h7 rfl (Nat.le_of_ble_eq_true rfl) (Nat.zero_le _) (Nat.zero_le _) (fun v_5 h_5 n_5 q_5 => ?_)
  obtain ⟨rfl, kk, hz⟩ := q_5
  rcases hz with ⟨x, hx1, hx2, hx3, rfl, k7⟩ | ⟨hx1, rfl, k7⟩
  · have hs : tkN (5, it, pb, kb, true, ro, ce, f, K, C) x = some (6, it, pb, kb, true, ro, ce, f, K, x) := if_pos hx2.2
    have hgt := numO_gt hx1
    have hge := sk_ge t p
    have hrl := rn_le (P := isD) (sk_le hp)
    rw [rd_num_y (by omega) (by omega) hx1 hs]
    refine go_if_ne (tgt := 13) dX9_readsCost_8 (by decide) (fun c_7 => ?_) (fun c_7 => absurd (by decide) c_7)
    refine go_aload_n dX9_readsCost_13 rfl ?_
    refine go_aload_n dX9_readsCost_14 rfl ?_
    refine go_get dX9_readsCost_15 fX9_80 (by omega) k7 rfl ?_
    refine go_put (fs' := [_, _, _, _, _, _, _, _, _, _, _, _, _, _, _, _, _, _, _, _, _, _, _, _, _, _, _, _]) dX9_readsCost_18 fX9_101 (by omega) k7 (Nat.le_of_ble_eq_true rfl) (Or.inl rfl) ⟨_, _, _, rfl, Or.inl rfl⟩ rfl ?_
    refine go_aload_n dX9_readsCost_21 rfl ?_
    refine go_iv dX9_readsCost_22 mX9_ends iX9_94 (rip_ends d (kb := kb) (K := K) (cb := true) (C := x) (p0 := p) (p := rn isD t (sk t p)) (h0 := h) (r4 := nI x) (RW := RW) (RV := RV) (w := w) (v := v) (hTT.ag ((hset_ne (by omega)).trans (kk _ (by omega)))) (by omega) hrl hset_same ((hset_ne (by omega)).trans ((kk _ (by omega)).trans hW)) ((hset_ne (by omega)).trans ((kk _ (by omega)).trans hV)) hE hEw hk (fun z => by cases z) ((PO_N hO hs).mono (by omega)) (fun y q1 q2 q3 => (hset_ne q1).trans (kk y q1))) rfl rfl (by omega) hset_same rfl (Nat.le_of_ble_eq_true rfl) (Nat.zero_le _) (Nat.zero_le _) (fun v_21 h_21 n_21 q_21 => ?_)
    obtain ⟨z1, z2, ⟨rfl, z3⟩ | ⟨rfl, z3⟩⟩ := q_21
    · subst z1; exact go_zret dX9_readsCost_25 rfl (Or.inr rfl) ⟨rfl, z2, Or.inl ⟨rfl, z3⟩⟩
    · subst z1; exact go_zret dX9_readsCost_25 rfl (Or.inl rfl) ⟨rfl, z2, Or.inr ⟨rfl, z3⟩⟩
  · have hn : rd t p (5, it, pb, kb, true, ro, ce, f, K, C) = .inl (sk t p) := rd_num_n hp (by omega) (by omega) (bind_no hx1 (fun x hx => if_neg (fun z => hx ⟨Nat.zero_le _, z⟩)))
    rw [hn]
    refine go_if_ne (tgt := 13) dX9_readsCost_8 (by decide) (fun c_7 => absurd rfl c_7) (fun c_7 => ?_)
    refine go_iconst (v := nI 0) dX9_readsCost_11 (by decide) ?_
    exact go_zret dX9_readsCost_12 rfl (Or.inl rfl) ⟨rfl, fun x q1 q2 q3 => kk x q1, Or.inr ⟨rfl, _, rfl, sk_le hp, ⟨_, _, _, _, k7⟩, RW, RV, (kk _ (by omega)).trans hW, (kk _ (by omega)).trans hV⟩⟩
