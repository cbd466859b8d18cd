/-! ===== here, skip, number, ends: the reference's side ===== -/
def isB (b : Nat) : Bool := decide (b = 32)
def sk (t : TX) (p : Nat) : Nat := rn isB t p
theorem rn_end {P : Nat → Bool} {t : TX} : ∀ (n p : Nat), t.1 - p ≤ n → ¬ (rn P t p < t.1 ∧ P (t.2 (rn P t p)) = true)
  | 0, p, h => by rw [rn_stop (by omega)]; omega
  | n + 1, p, h => by
    by_cases q : p < t.1 ∧ P (t.2 p) = true
    · rw [rn_step q.1 q.2]; exact rn_end n (p + 1) (by omega)
    · rw [rn_stop q]; exact q
theorem sk_end (t : TX) (p : Nat) : t.1 ≤ sk t p ∨ ¬ t.2 (sk t p) = 32 := by
  have := rn_end (P := isB) (t := t) (t.1 - p) p (Nat.le_refl _)
  unfold sk
  by_cases q : rn isB t p < t.1
  · right; intro z; exact this ⟨q, decide_eq_true z⟩
  · left; omega
theorem rd_sk {t : TX} {s : PS} : ∀ (n p : Nat), t.1 - p ≤ n → rd t p s = rd t (sk t p) s
  | 0, p, h => by rw [sk, rn_stop (by omega)]
  | n + 1, p, h => by
    by_cases q : p < t.1 ∧ isB (t.2 p) = true
    · have e : sk t p = sk t (p + 1) := by unfold sk; exact rn_step q.1 q.2
      rw [e, ← rd_sk n (p + 1) (by omega)]
      exact rd_blank q.1 (of_decide_eq_true q.2)
    · rw [sk, rn_stop q]
/-- the number that begins at q, if one does -/
def numO (t : TX) (q : Nat) : Option Nat := if rn isD t q = q then none else numT t q (rn isD t q)
theorem numO_d {t : TX} {q : Nat} (h1 : q < t.1) (h2 : isD (t.2 q) = true) : numO t q = numT t q (rn isD t q) := by
  have := rn_gt h1 h2
  unfold numO
  rw [if_neg (by omega)]
theorem numO_n {t : TX} {q : Nat} (h : ¬ (q < t.1 ∧ isD (t.2 q) = true)) : numO t q = none := by
  unfold numO
  rw [if_pos (rn_stop h)]
theorem tok_num {t : TX} {q aw it pb ro ce K C : Nat} {kb cb : Bool} {f : Nat → Option Nat} (hq : q < t.1) (h1 : 1 ≤ aw) (h5 : aw ≤ 5) : tok t q (aw, it, pb, kb, cb, ro, ce, f, K, C) = ((numO t q).bind (tkN (aw, it, pb, kb, cb, ro, ce, f, K, C))).map (fun s' => (rn isD t q, s')) := by
  unfold tok
  cases hl : isL (t.2 q) with
  | true =>
    obtain ⟨-, hd⟩ := isLD hl
    rw [if_pos rfl, numO_n (by rw [hd]; simp)]
    have : tkL (aw, it, pb, kb, cb, ro, ce, f, K, C) (t.2 q) = none := if_neg (by omega)
    rw [this]
    split <;> rfl
  | false =>
    rw [if_neg (by decide)]
    cases hd : isD (t.2 q) with
    | true => rw [if_pos rfl, numO_d hq hd]
    | false =>
      rw [if_neg (by decide), numO_n (by rw [hd]; simp)]
      have : tkE (aw, it, pb, kb, cb, ro, ce, f, K, C) = none := if_neg (by omega)
      rw [this]
      split <;> rfl
theorem rd_num_y {t : TX} {p aw it pb ro ce K C x : Nat} {kb cb : Bool} {f : Nat → Option Nat} {s' : PS} (h1 : 1 ≤ aw) (h5 : aw ≤ 5) (hx : numO t (sk t p) = some x) (hs : tkN (aw, it, pb, kb, cb, ro, ce, f, K, C) x = some s') : rd t p (aw, it, pb, kb, cb, ro, ce, f, K, C) = rd t (rn isD t (sk t p)) s' := by
  rw [rd_sk _ p (Nat.le_refl _)]
  have hq : sk t p < t.1 ∧ isD (t.2 (sk t p)) = true := by
    by_cases z : sk t p < t.1 ∧ isD (t.2 (sk t p)) = true
    · exact z
    · rw [numO_n z] at hx; cases hx
  have h32 : ¬ t.2 (sk t p) = 32 := fun z => by have := hq.2; rw [z] at this; cases this
  exact rd_tok hq.1 h32 (by rw [tok_num hq.1 h1 h5, hx]; show Option.map _ (tkN (aw, it, pb, kb, cb, ro, ce, f, K, C) x) = _; rw [hs]; rfl)
theorem rd_num_n {t : TX} {p aw it pb ro ce K C : Nat} {kb cb : Bool} {f : Nat → Option Nat} (hp : p ≤ t.1) (h1 : 1 ≤ aw) (h5 : aw ≤ 5) (hs : (numO t (sk t p)).bind (tkN (aw, it, pb, kb, cb, ro, ce, f, K, C)) = none) : rd t p (aw, it, pb, kb, cb, ro, ce, f, K, C) = .inl (sk t p) := by
  rw [rd_sk _ p (Nat.le_refl _)]
  have hsl : sk t p ≤ t.1 := rn_le hp
  by_cases hq : sk t p < t.1
  · have h32 : ¬ t.2 (sk t p) = 32 := by have := sk_end t p; omega
    exact rd_no hq h32 (by rw [tok_num hq h1 h5, hs]; rfl)
  · rw [rd_end (by omega), if_neg (show ¬ aw = 0 by omega), show sk t p = t.1 by omega]
theorem rd_six_y {t : TX} {p it pb ro ce K C : Nat} {kb cb : Bool} {f : Nat → Option Nat} (hq : sk t p < t.1) (h59 : t.2 (sk t p) = 59) : rd t p (6, it, pb, kb, cb, ro, ce, f, K, C) = rd t (sk t p + 1) (0, it + 1, pb, kb, cb, ro, ce, f, K, C) := by
  rw [rd_sk _ p (Nat.le_refl _)]
  refine rd_tok hq (by omega) ?_
  unfold tok
  rw [h59]
  rfl
theorem rd_six_n {t : TX} {p it pb ro ce K C : Nat} {kb cb : Bool} {f : Nat → Option Nat} (hp : p ≤ t.1) (h : ¬ (sk t p < t.1 ∧ t.2 (sk t p) = 59)) : rd t p (6, it, pb, kb, cb, ro, ce, f, K, C) = .inl (sk t p) := by
  rw [rd_sk _ p (Nat.le_refl _)]
  have hsl : sk t p ≤ t.1 := rn_le hp
  by_cases hq : sk t p < t.1
  · have h32 : ¬ t.2 (sk t p) = 32 := by have := sk_end t p; omega
    refine rd_no hq h32 ?_
    unfold tok
    split
    · split <;> rfl
    · split
      · cases numT t (sk t p) (rn isD t (sk t p)) <;> rfl
      · rw [if_neg (fun z => h ⟨hq, z⟩)]
  · rw [rd_end (by omega), if_neg (show ¬ (6 : Nat) = 0 by omega), show sk t p = t.1 by omega]
def hereI (t : TX) (p : Nat) : Int32 := if p < t.1 then nI (t.2 p) else -9
theorem hereI_eq {t : TX} {p b : Nat} (hb : ∀ i, i < t.1 → t.2 i ≤ 255) (h : b ≤ 255) : hereI t p = nI b ↔ p < t.1 ∧ t.2 p = b := by
  unfold hereI
  by_cases q : p < t.1
  · rw [if_pos q, nI_eq (by have := hb p q; omega) (by omega)]; simp [q]
  · rw [if_neg q]
    exact ⟨fun z => absurd z.symm (nI_ne_m9 (by omega)), fun z => absurd z.1 q⟩
theorem run_here (d : Nat) {h : gH} {t : TX} {p : Nat} {T : Nat → Int32} {m a k e r1 r2 r3 r4 u sn rn' : Int32} (h7 : h 147 = mo m a k e (nI t.1) (nI p) r1 r2 r3 r4 u sn rn') (hT : h 151 = iA 150 T) (hTx : ∀ i, i < t.1 → T i = nI (t.2 i)) (ht : t.1 ≤ 150) (hp : p ≤ t.1) : Run d yX9_here cX9_here 1 (some .int) [.ref 147] h 163 0 0 (fun v h' N' => v = some (.int (hereI t p)) ∧ h' = h ∧ N' = 163) := by
  refine Run.of (ini := false) (L := [_]) mX9_here (fun h => by cases h) rfl (Nat.le_of_ble_eq_true rfl) rfl ?_
  refine go_aload_n dX9_here_0 rfl ?_
  refine go_get dX9_here_1 fX9_70 (by omega) h7 rfl ?_
  refine go_aload_n dX9_here_4 rfl ?_
  refine go_get dX9_here_5 fX9_67 (by omega) h7 rfl ?_
  refine go_icmp_ge (tgt := 23) dX9_here_8 (by decide) (fun c_8 => ?_) (fun c_8 => ?_)
  · skip
    have c1 : ¬ p < t.1 := by have := (nI_leI (by omega) (by omega)).mp c_8; omega
    refine go_bipush (v := (-9)) dX9_here_23 (by decide) ?_
    refine go_iret dX9_here_25 rfl ?_
    first | exact ⟨by rw [hereI, if_pos c1], rfl, rfl⟩ | exact ⟨by rw [hereI, if_neg c1], rfl, rfl⟩
  · skip
    have c1 : p < t.1 := by have := mt (nI_leI (a := t.1) (b := p) (by omega) (by omega)).mpr c_8; omega
    refine go_aload_n dX9_here_11 rfl ?_
    refine go_get dX9_here_12 fX9_23 (by omega) h7 rfl ?_
    refine go_aload_n dX9_here_15 rfl ?_
    refine go_get dX9_here_16 fX9_70 (by omega) h7 rfl ?_
    refine go_iald dX9_here_19 (by omega) hT rfl (by omega) (by omega) ?_
    refine go_top (y := .int (nI (t.2 p))) (by rw [hTx p c1]) ?_
    refine go_goto (tgt := 25) dX9_here_20 (by decide) ?_
    refine go_iret dX9_here_25 rfl ?_
    first | exact ⟨by rw [hereI, if_pos c1], rfl, rfl⟩ | exact ⟨by rw [hereI, if_neg c1], rfl, rfl⟩
set_option maxRecDepth 100000 in
theorem skip_loop {d : Nat} {h0 : gH} {t : TX} {T : Nat → Int32} {m a k e r1 r2 r3 r4 u sn rn' : Int32} (hT : h0 151 = iA 150 T) (hTx : ∀ i, i < t.1 → T i = nI (t.2 i)) (ht : t.1 ≤ 150) (hb : ∀ i, i < t.1 → t.2 i ≤ 255) : ∀ (n p : Nat) (h : gH), t.1 ≤ p + n → p ≤ t.1 → h 147 = mo m a k e (nI t.1) (nI p) r1 r2 r3 r4 u sn rn' → (∀ x, x ≠ 147 → h x = h0 x) → Go none RX9 cX9_skip 1 none false (d + 1) 0 [some (.ref 147)] [] h 163 0 0 (fun v h' N' => v = none ∧ N' = 163 ∧ h' 147 = mo m a k e (nI t.1) (nI (sk t p)) r1 r2 r3 r4 u sn rn' ∧ ∀ x, x ≠ 147 → h' x = h0 x) := by
  intro n
  induction n with
  | zero =>
    intro p h hn hp h7 hk
    have hno : ¬ hereI t p = nI 32 := fun z => by have := ((hereI_eq hb (by omega)).mp z).1; omega
    rw [sk, rn_stop (by omega)]
    refine go_aload_n dX9_skip_0 rfl ?_
    refine go_iv dX9_skip_1 mX9_here iX9_73 (run_here d h7 ((hk _ (by omega)).trans hT) hTx ht hp) rfl rfl (by omega) h7 rfl (Nat.le_of_ble_eq_true rfl) (Nat.zero_le _) (Nat.zero_le _) (fun v_1 h_1 n_1 q_1 => ?_)
    obtain ⟨rfl, rfl, rfl⟩ := q_1
    refine go_bipush (v := nI 32) dX9_skip_4 (by decide) ?_
    refine go_icmp_ne (tgt := 22) dX9_skip_6 (by decide) (fun c_6 => ?_) (fun c_6 => ?_)
    · skip
      refine go_vret dX9_skip_22 rfl ?_
      exact ⟨rfl, rfl, h7, hk⟩
    · exact absurd hno c_6
  | succ n ih =>
    intro p h hn hp h7 hk
    refine go_aload_n dX9_skip_0 rfl ?_
    refine go_iv dX9_skip_1 mX9_here iX9_73 (run_here d h7 ((hk _ (by omega)).trans hT) hTx ht hp) rfl rfl (by omega) h7 rfl (Nat.le_of_ble_eq_true rfl) (Nat.zero_le _) (Nat.zero_le _) (fun v_1 h_1 n_1 q_1 => ?_)
    obtain ⟨rfl, rfl, rfl⟩ := q_1
    refine go_bipush (v := nI 32) dX9_skip_4 (by decide) ?_
    refine go_icmp_ne (tgt := 22) dX9_skip_6 (by decide) (fun c_6 => ?_) (fun c_6 => ?_)
    · skip
      have c1 : ¬ (p < t.1 ∧ isB (t.2 p) = true) := fun z => c_6 ((hereI_eq hb (by omega)).mpr ⟨z.1, of_decide_eq_true z.2⟩)
      refine go_vret dX9_skip_22 rfl ?_
      exact ⟨rfl, rfl, by rw [sk, rn_stop c1]; exact h7, hk⟩
    · skip
      have c1 := (hereI_eq hb (by omega)).mp (Decidable.not_not.mp c_6)
      refine go_aload_n dX9_skip_9 rfl ?_
      refine go_dup dX9_skip_10 rfl ?_
      refine go_get dX9_skip_11 fX9_70 (by omega) h7 rfl ?_
      refine go_iconst (v := nI 1) dX9_skip_14 (by decide) ?_
      refine go_iadd dX9_skip_15 ?_
      refine go_top (y := .int (nI (p + 1))) (by rw [nI_add]) ?_
      refine go_put (fs' := [_, _, _, _, _, _, _, _, _, _, _, _, _, _, _, _, _, _, _, _, _, _, _, _, _, _, _, _]) dX9_skip_16 fX9_70 (by omega) h7 (Nat.le_of_ble_eq_true rfl) (Or.inl rfl) ⟨_, _, _, rfl, Or.inl rfl⟩ rfl ?_
      refine go_goto (tgt := 0) dX9_skip_19 (by decide) ?_
      rw [show sk t p = sk t (p + 1) from rn_step c1.1 (decide_eq_true c1.2)]
      exact ih (p + 1) _ (by omega) (by omega) hset_same (fun x hx => (hset_ne hx).trans (hk x hx))
theorem run_skip (d : Nat) {h : gH} {t : TX} {p : Nat} {T : Nat → Int32} {m a k e r1 r2 r3 r4 u sn rn' : Int32} (h7 : h 147 = mo m a k e (nI t.1) (nI p) r1 r2 r3 r4 u sn rn') (hT : h 151 = iA 150 T) (hTx : ∀ i, i < t.1 → T i = nI (t.2 i)) (ht : t.1 ≤ 150) (hb : ∀ i, i < t.1 → t.2 i ≤ 255) (hp : p ≤ t.1) : Run (d + 1) yX9_skip cX9_skip 1 none [.ref 147] h 163 0 0 (fun v h' N' => v = none ∧ N' = 163 ∧ h' 147 = mo m a k e (nI t.1) (nI (sk t p)) r1 r2 r3 r4 u sn rn' ∧ ∀ x, x ≠ 147 → h' x = h x) := by
  refine Run.of (ini := false) (L := [_]) mX9_skip (fun h => by cases h) rfl (Nat.le_of_ble_eq_true rfl) rfl ?_
  exact skip_loop hT hTx ht hb (t.1 - p) p h (by omega) hp h7 (fun x hx => rfl)
theorem run_ends (d : Nat) {h : gH} {t : TX} {p : Nat} {T : Nat → Int32} {m a k e r1 r2 r3 r4 u sn rn' : Int32} (h7 : h 147 = mo m a k e (nI t.1) (nI p) r1 r2 r3 r4 u sn rn') (hT : h 151 = iA 150 T) (hTx : ∀ i, i < t.1 → T i = nI (t.2 i)) (ht : t.1 ≤ 150) (hb : ∀ i, i < t.1 → t.2 i ≤ 255) (hp : p ≤ t.1) : Run (d + 2) yX9_ends cX9_ends 1 (some .boolean) [.ref 147] h 163 0 0 (fun v h' N' => N' = 163 ∧ (∀ x, x ≠ 147 → h' x = h x) ∧ (((sk t p < t.1 ∧ t.2 (sk t p) = 59) ∧ v = some (.int 1) ∧ h' 147 = mo m a k e (nI t.1) (nI (sk t p + 1)) r1 r2 r3 r4 u sn rn') ∨ (¬ (sk t p < t.1 ∧ t.2 (sk t p) = 59) ∧ v = some (.int 0) ∧ h' 147 = mo m a k e (nI t.1) (nI (sk t p)) r1 r2 r3 r4 u sn rn'))) := by
  have hsl : sk t p ≤ t.1 := rn_le hp
  refine Run.of (ini := false) (L := [_]) mX9_ends (fun h => by cases h) rfl (Nat.le_of_ble_eq_true rfl) rfl ?_
  refine go_aload_n dX9_ends_0 rfl ?_
  refine go_iv dX9_ends_1 mX9_skip iX9_77 (run_skip d h7 hT hTx ht hb hp) rfl rfl (by omega) h7 rfl (Nat.le_of_ble_eq_true rfl) (Nat.zero_le _) (Nat.zero_le _) (fun v_1 h_1 n_1 q_1 => ?_)
  obtain ⟨rfl, rfl, k7, kk⟩ := q_1
  refine go_aload_n dX9_ends_4 rfl ?_
  refine go_iv dX9_ends_5 mX9_here iX9_73 (run_here (d + 1) k7 ((kk _ (by omega)).trans hT) hTx ht hsl) rfl rfl (by omega) k7 rfl (Nat.le_of_ble_eq_true rfl) (Nat.zero_le _) (Nat.zero_le _) (fun v_5 h_5 n_5 q_5 => ?_)
  obtain ⟨rfl, rfl, rfl⟩ := q_5
  refine go_bipush (v := nI 59) dX9_ends_8 (by decide) ?_
  refine go_icmp_eq (tgt := 15) dX9_ends_10 (by decide) (fun c_10 => ?_) (fun c_10 => ?_)
  · skip
    have c1 := (hereI_eq hb (by omega)).mp c_10
    refine go_aload_n dX9_ends_15 rfl ?_
    refine go_dup dX9_ends_16 rfl ?_
    refine go_get dX9_ends_17 fX9_70 (by omega) k7 rfl ?_
    refine go_iconst (v := nI 1) dX9_ends_20 (by decide) ?_
    refine go_iadd dX9_ends_21 ?_
    refine go_top (y := .int (nI (sk t p + 1))) (by rw [nI_add]) ?_
    refine go_put (fs' := [_, _, _, _, _, _, _, _, _, _, _, _, _, _, _, _, _, _, _, _, _, _, _, _, _, _, _, _]) dX9_ends_22 fX9_70 (by omega) k7 (Nat.le_of_ble_eq_true rfl) (Or.inl rfl) ⟨_, _, _, rfl, Or.inl rfl⟩ rfl ?_
    refine go_iconst (v := nI 1) dX9_ends_25 (by decide) ?_
    refine go_zret dX9_ends_26 rfl (by first | exact Or.inl rfl | exact Or.inr rfl | exact bI01 _) ?_
    exact ⟨rfl, fun x hx => (hset_ne hx).trans (kk x hx), Or.inl ⟨c1, rfl, hset_same⟩⟩
  · skip
    have c1 := mt (hereI_eq hb (by omega)).mpr c_10
    refine go_iconst (v := nI 0) dX9_ends_13 (by decide) ?_
    refine go_zret dX9_ends_14 rfl (by first | exact Or.inl rfl | exact Or.inr rfl | exact bI01 _) ?_
    exact ⟨rfl, kk, Or.inr ⟨c1, rfl, k7⟩⟩
