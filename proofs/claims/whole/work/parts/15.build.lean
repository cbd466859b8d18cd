/-! ===== Ladder.build, its constructor ===== -/
theorem cF_some {f : Nat → Option Nat} {k v : Nat} (h : f k = some v) : cF f (k + 1) = bump (cF f k) v := by
  funext w
  by_cases e : w = v
  · subst e; simp [cF, bump, h]
  · have : ¬ v = w := fun q => e q.symm
    simp [cF, bump, h, e, this]
theorem cF_none {f : Nat → Option Nat} {k : Nat} (h : f k = none) : cF f (k + 1) = cF f k := by
  funext w
  simp [cF, h]
theorem cF_pos {f : Nat → Option Nat} {v : Nat} : ∀ {k : Nat}, 0 < cF f k v → ∃ x, x < k ∧ f x = some v
  | 0, h => by simp [cF] at h
  | k + 1, h => by
    by_cases e : f k = some v
    · exact ⟨k, by omega, e⟩
    · simp [cF, e] at h
      obtain ⟨x, h1, h2⟩ := cF_pos h
      exact ⟨x, by omega, h2⟩
theorem sm_add (f g : Nat → Nat) (a : Nat) : ∀ m, sm (fun i => f i + g i) a m = sm f a m + sm g a m
  | 0 => rfl
  | m + 1 => by simp only [sm, sm_add f g a m]; omega
theorem sm_cong {f g : Nat → Nat} {a : Nat} : ∀ {m}, (∀ i, a ≤ i → i < a + m → f i = g i) → sm f a m = sm g a m
  | 0, _ => rfl
  | m + 1, h => by rw [sm, sm, sm_cong (fun i h1 h2 => h i h1 (by omega)), h (a + m) (by omega) (by omega)]
theorem sm_split (f : Nat → Nat) (a m : Nat) : ∀ p, sm f a (m + p) = sm f a m + sm f (a + m) p
  | 0 => rfl
  | p + 1 => by rw [← Nat.add_assoc, sm, sm_split f a m p, sm, show a + (m + p) = a + m + p by omega]; omega
theorem sm_zero {f : Nat → Nat} {a : Nat} : ∀ {m}, (∀ i, a ≤ i → i < a + m → f i = 0) → sm f a m = 0
  | 0, _ => rfl
  | m + 1, h => by rw [sm, sm_zero (fun i h1 h2 => h i h1 (by omega)), h (a + m) (by omega) (by omega)]
theorem sm_one {A : Nat → Nat} {v : Nat} : ∀ {m : Nat}, (∀ i j, i < j → j < m → A i < A j) → sm (fun i => if some v = some (A i) then 1 else 0) 0 m ≤ 1
  | 0, _ => by simp [sm]
  | m + 1, h => by
    have ih := sm_one (A := A) (v := v) (m := m) (fun i j h1 h2 => h i j h1 (by omega))
    rw [sm]
    by_cases e : v = A (0 + m)
    · rw [sm_zero (m := m)]
      · simp [e]
      · intro i h1 h2
        have := h i (0 + m) (by omega) (by omega)
        simp
        omega
    · have e2 : ¬ v = A m := by simpa using e
      simp [e2]
      simpa using ih
theorem sm_le_cP {f : Nat → Option Nat} {A : Nat → Nat} {n : Nat} (hA : ∀ i j, i < j → j < n → A i < A j) : ∀ k, sm (fun i => cF f k (A i)) 0 n ≤ cP f k
  | 0 => by
    have e : sm (fun i => cF f 0 (A i)) 0 n = 0 := sm_zero (fun i _ _ => rfl)
    rw [e]; exact Nat.zero_le _
  | k + 1 => by
    have ih := sm_le_cP hA k (f := f)
    show sm (fun i => cF f k (A i) + (if f k = some (A i) then 1 else 0)) 0 n ≤ _
    rw [sm_add, cP]
    cases hq : f k with
    | none =>
      have : sm (fun i => if (none : Option Nat) = some (A i) then 1 else 0) 0 n = 0 := sm_zero (fun i _ _ => by simp)
      rw [this]
      simpa using ih
    | some v =>
      have := sm_one (v := v) hA
      simp only [Option.isSome_some, if_true]
      omega
theorem Srt.total {f : Nat → Option Nat} {A W : Nat → Nat} {n k : Nat} (h : Srt n A W (cF f k)) : sm W 0 n ≤ cP f k := by
  have := sm_le_cP (f := f) h.1 k
  rw [sm_cong (f := W) (g := fun i => cF f k (A i)) (fun i _ hi => (h.2.1 i (by omega)).1)]
  exact this
theorem sm_tail (f : Nat → Nat) {a n : Nat} (h : a ≤ n) : sm f a (n - a) ≤ sm f 0 n := by
  have := sm_split f 0 a (n - a)
  rw [show a + (n - a) = n by omega] at this
  rw [this, Nat.zero_add]
  omega
def Ld (h : gH) (n : Nat) (A W : Nat → Nat) : Prop := Lc h n A W ∧ ∃ R : Nat → Option Nat, h 53 = .inl (6, 25, .inr (.inr (.inr (.inr R)))) ∧ (∀ i, i < 25 → R i = some (54 + i)) ∧ ∀ i, i < 25 → ∃ F, Rw h (54 + i) F ∧ ∀ j, i < n → i < j → j ≤ n → F j = spr A W i j
theorem Ld.fr {h h' : gH} {lo hi n : Nat} {A W : Nat → Nat} (q : Ld h n A W) (f : Fr lo hi h h') (hx : 79 ≤ lo ∨ hi ≤ 50) : Ld h' n A W := by
  obtain ⟨hL, R, h0, h1, h2⟩ := q
  refine ⟨hL.fr f (by omega), R, (f _ (by omega)).trans h0, h1, fun i hi => ?_⟩
  obtain ⟨F, hF, hG⟩ := h2 i hi
  exact ⟨F, (f _ (by omega)).trans hF, hG⟩
/-- the ladder's cells, whatever they hold -/
def Ls (h : gH) : Prop := (∃ (FA FW : Nat → Int32) (z : Int32), h 50 = .inr (2, [.ref 51, .ref 52, .ref 53, .int z]) ∧ h 51 = .inl (0, 24, .inl FA) ∧ h 52 = .inl (0, 24, .inl FW)) ∧ Lr h
theorem Ls.fr {h h' : gH} {lo hi : Nat} (q : Ls h) (f : Fr lo hi h h') (hx : 79 ≤ lo ∨ hi ≤ 50) : Ls h' := by
  obtain ⟨⟨FA, FW, z, h0, h1, h2⟩, hR⟩ := q
  exact ⟨⟨FA, FW, z, (f _ (by omega)).trans h0, (f _ (by omega)).trans h1, (f _ (by omega)).trans h2⟩, hR.fr f (by omega)⟩
theorem Ld.ls {h : gH} {n : Nat} {A W : Nat → Nat} (q : Ld h n A W) : Ls h := by
  obtain ⟨⟨FA, FW, h0, h1, h2, -⟩, R, r0, r1, r2⟩ := q
  refine ⟨⟨FA, FW, _, h0, h1, h2⟩, R, r0, r1, fun i hi => ?_⟩
  obtain ⟨F, hF, -⟩ := r2 i hi
  exact ⟨F, hF⟩
set_option maxRecDepth 100000 in
theorem build_loop2 {d N n : Nat} {A W cnt : Nat → Nat} {w3 w4 w5 : Option Value} (hN : 79 ≤ N) (hA : ∀ i, i < n → A i < 2 ^ 31) (hW0 : ∀ i, i < n → 0 < W i) (hW : sm W 0 n ≤ 24) : ∀ (m k : Nat) (h : gH), k + m = n → Lc h n A W → Lr h → (∀ i, i < k → ∃ F, Rw h (54 + i) F ∧ ∀ j, i < j → j ≤ n → F j = spr A W i j) → Go none RX2 cX2_build 6 none false (d + 1) 48 [some (.ref 50), some (.ref 1), some (.int (nI k)), w3, w4, w5] [] h N 0 0 (fun x h' N' => x = none ∧ N' = N ∧ Ld h' n A W ∧ Fr 54 79 h h') := by
  intro m
  induction m with
  | zero =>
    intro k h hk hL hR hD
    obtain ⟨FA, FW, h0, h1, h2, h3, h4, h5⟩ := id hL
    obtain ⟨R, r0, r1, r2⟩ := id hR
    have e : k = n := by omega
    subst e
    refine go_iload_n dX2_build_48 rfl ?_
    refine go_aload_n dX2_build_49 rfl ?_
    refine go_get dX2_build_50 fX2_23 (by omega) h0 rfl ?_
    refine go_icmp_ge (tgt := 67) dX2_build_53 (by decide) (fun c_53 => ?_) (fun c_53 => ?_)
    · skip
      refine go_vret dX2_build_67 rfl ?_
      refine ⟨rfl, rfl, ⟨hL, R, r0, r1, fun i hi => ?_⟩, Fr.rf⟩
      by_cases q : i < k
      · obtain ⟨F, f1, f2⟩ := hD i q
        exact ⟨F, f1, fun j _ q1 q2 => f2 j q1 q2⟩
      · obtain ⟨F, f1⟩ := r2 i hi
        exact ⟨F, f1, fun j q0 => absurd q0 q⟩
    · exact absurd (nI_le (Nat.le_refl _) (by omega)) c_53
  | succ m ih =>
    intro k h hk hL hR hD
    obtain ⟨FA, FW, h0, h1, h2, h3, h4, h5⟩ := id hL
    obtain ⟨R, r0, r1, r2⟩ := id hR
    have hkn : k < n := by omega
    refine go_iload_n dX2_build_48 rfl ?_
    refine go_aload_n dX2_build_49 rfl ?_
    refine go_get dX2_build_50 fX2_23 (by omega) h0 rfl ?_
    refine go_icmp_ge (tgt := 67) dX2_build_53 (by decide) (fun c_53 => ?_) (fun c_53 => ?_)
    · exact absurd c_53 (nI_ge hkn (by omega))
    · skip
      refine go_aload_n dX2_build_56 rfl ?_
      refine go_iload_n dX2_build_57 rfl ?_
      refine go_iv dX2_build_58 mX2_measureFrom iX2_34 (run_measure d hN hA hW0 (Nat.le_trans (sm_tail W (by omega)) hW) hR hL hkn) rfl rfl (by omega) h0 rfl (Nat.le_of_ble_eq_true rfl) (Nat.zero_le _) (Nat.zero_le _) (fun v_58 h_58 n_58 q_58 => ?_)
      obtain ⟨rfl, rfl, F', rfl, hF'⟩ := q_58
      refine go_inc (L' := [_, _, _, _, _, _]) dX2_build_61 rfl (by decide) rfl ?_
      refine go_goto (tgt := 48) dX2_build_64 (by decide) ?_
      have fr : Fr (54 + k) (55 + k) h (hset h (54 + k) (.inl (1, 25, .inr (.inl F')))) := Fr.rf.set (by omega) (by omega)
      have hR' : Lr (hset h (54 + k) (.inl (1, 25, .inr (.inl F')))) := by
        refine ⟨R, (fr _ (by omega)).trans r0, r1, fun i hi => ?_⟩
        by_cases q : i = k
        · subst q; exact ⟨F', hset_same⟩
        · obtain ⟨F, f1⟩ := r2 i hi
          exact ⟨F, (fr _ (by omega)).trans f1⟩
      have hD' : ∀ i, i < k + 1 → ∃ F, Rw (hset h (54 + k) (.inl (1, 25, .inr (.inl F')))) (54 + i) F ∧ ∀ j, i < j → j ≤ n → F j = spr A W i j := by
        intro i hi
        by_cases q : i = k
        · subst q; exact ⟨F', hset_same, hF'⟩
        · obtain ⟨F, f1, f2⟩ := hD i (by omega)
          exact ⟨F, (fr _ (by omega)).trans f1, f2⟩
      exact go_Q (fun v h' N' q => ⟨q.1, q.2.1, q.2.2.1, (fr.wide (by omega) (by omega)).trans q.2.2.2⟩) (ih (k + 1) _ (by omega) (hL.fr fr (by omega)) hR' hD')
set_option maxRecDepth 100000 in
theorem build_loop1 {d N : Nat} {c : CD} (hN : 79 ≤ N) (hw : ∀ x, x < 100 → ∀ v, c.1 x = some v → v ≤ 999) (hp : cP c.1 100 ≤ 24) : ∀ (m k n : Nat) (A W : Nat → Nat) (h : gH) (w5 : Option Value), k + m = 100 → Ct h 1 c → Lc h n A W → Lr h → Srt n A W (cF c.1 k) → n ≤ cP c.1 k → Go none RX2 cX2_build 6 none false (d + 2) 16 [some (.ref 50), some (.ref 1), some (.ref 2), some (.int (nI 100)), some (.int (nI k)), w5] [] h N 0 0 (fun x h' N' => x = none ∧ N' = N ∧ (∃ n A W, Ld h' n A W ∧ Srt n A W (cF c.1 100)) ∧ Fr 50 79 h h') := by
  intro m
  have hcP : ∀ a b, a ≤ b → cP c.1 a ≤ cP c.1 b := by
    intro a b hab
    induction b with
    | zero => rw [show a = 0 by omega]; exact Nat.le_refl _
    | succ b ih =>
      rcases Nat.lt_or_ge a (b + 1) with q | q
      · have := ih (by omega)
        rw [cP]
        omega
      · rw [show a = b + 1 by omega]; exact Nat.le_refl _
  induction m with
  | zero =>
    intro k n A W h w5 hk hC hL hR hS hn
    have e : k = 100 := by omega
    subst e
    have hA9 : ∀ i, i < n → A i ≤ 999 := hS.le (fun v hv => by obtain ⟨x, h1, h2⟩ := cF_pos hv; exact hw x h1 v h2)
    refine go_iload dX2_build_16 rfl ?_
    refine go_iload_n dX2_build_18 rfl ?_
    refine go_icmp_ge (tgt := 46) dX2_build_19 (by decide) (fun c_19 => ?_) (fun c_19 => ?_)
    · skip
      refine go_iconst (v := nI 0) dX2_build_46 (by decide) ?_
      refine go_istore_n (L' := [_, _, _, _, _, _]) dX2_build_47 rfl (by decide) rfl ?_
      exact go_Q (fun v h' N' q => ⟨q.1, q.2.1, ⟨n, A, W, q.2.2.1, hS⟩, q.2.2.2.wide (by omega) (by omega)⟩) (build_loop2 (d := d + 1) (cnt := A) hN (fun i hi => by have := hA9 i hi; omega) (fun i hi => by have := hS.2.1 i hi; omega) (Nat.le_trans hS.total hp) n 0 h (by omega) hL hR (fun i hi => absurd hi (by omega)))
    · exact absurd (nI_le (Nat.le_refl _) (by decide)) c_19
  | succ m ih =>
    intro k n A W h w5 hk hC hL hR hS hn
    obtain ⟨F, G, g0, g1, g2, hf, hg⟩ := id hC
    obtain ⟨FA, FW, h0, h1, h2, h3, h4, h5⟩ := id hL
    refine go_iload dX2_build_16 rfl ?_
    refine go_iload_n dX2_build_18 rfl ?_
    refine go_icmp_ge (tgt := 46) dX2_build_19 (by decide) (fun c_19 => ?_) (fun c_19 => ?_)
    · exact absurd c_19 (nI_ge (by omega) (by decide))
    · skip
      refine go_aload_n dX2_build_22 rfl ?_
      refine go_iload dX2_build_23 rfl ?_
      refine go_iald dX2_build_25 (by omega) g1 rfl (by omega) (by omega) ?_
      refine go_top (y := .int (nO (c.1 k))) (by rw [hf k (by omega)]) ?_
      refine go_istore (L' := [_, _, _, _, _, _]) dX2_build_26 (by decide) rfl ?_
      refine go_iload dX2_build_28 rfl ?_
      refine go_iconst (v := (-1)) dX2_build_30 (by decide) ?_
      refine go_icmp_eq (tgt := 40) dX2_build_31 (by decide) (fun c_31 => ?_) (fun c_31 => ?_)
      · skip
        have hq : c.1 k = none := by
          cases hq : c.1 k with
          | none => rfl
          | some v => rw [hq] at c_31; exact absurd c_31 (nI_ne_m1 (by have := hw k (by omega) v hq; omega))
        have hS' : Srt n A W (cF c.1 (k + 1)) := by rw [cF_none hq]; exact hS
        have hn' : n ≤ cP c.1 (k + 1) := by rw [cP, hq]; simpa using hn
        refine go_inc (L' := [_, _, _, _, _, _]) dX2_build_40 rfl (by decide) rfl ?_
        refine go_goto (tgt := 16) dX2_build_43 (by decide) ?_
        first | exact go_Q (fun v h' N' q => ⟨q.1, q.2.1, q.2.2.1, (hF1.wide (by omega) (by omega)).trans q.2.2.2⟩) (ih (k + 1) n1 A1 W1 _ _ (by omega) (hC.fr hF1 (by omega)) hL1 (hR.fr hF1 (by omega)) hS1' hn1') | exact ih (k + 1) n A W h _ (by omega) hC hL hR hS' hn'
      · skip
        obtain ⟨v, hq⟩ : ∃ v, c.1 k = some v := by
          cases hq : c.1 k with
          | none => rw [hq] at c_31; exact absurd rfl c_31
          | some v => exact ⟨v, rfl⟩
        have hv9 := hw k (by omega) v hq
        have h24 : n < 24 := by
          have := hcP (k + 1) 100 (by omega)
          rw [cP, hq] at this
          simp at this
          omega
        rw [hq]
        refine go_aload_n dX2_build_34 rfl ?_
        refine go_iload dX2_build_35 rfl ?_
        refine go_iv dX2_build_37 mX2_add iX2_30 (run_add d (v := v) hN hv9 h24 (fun w hw' => by obtain ⟨x, q1, q2⟩ := cF_pos hw'; exact hw x (by omega) w q2) hS hL) rfl rfl (by omega) h0 rfl (Nat.le_of_ble_eq_true rfl) (Nat.zero_le _) (Nat.zero_le _) (fun v_37 h_37 n_37 q_37 => ?_)
        obtain ⟨rfl, rfl, ⟨n1, A1, W1, hL1, hS1, hn1⟩, hF1⟩ := q_37
        have hS1' : Srt n1 A1 W1 (cF c.1 (k + 1)) := by rw [cF_some hq]; exact hS1
        have hn1' : n1 ≤ cP c.1 (k + 1) := by rw [cP, hq]; simp; omega
        refine go_inc (L' := [_, _, _, _, _, _]) dX2_build_40 rfl (by decide) rfl ?_
        refine go_goto (tgt := 16) dX2_build_43 (by decide) ?_
        first | exact go_Q (fun v h' N' q => ⟨q.1, q.2.1, q.2.2.1, (hF1.wide (by omega) (by omega)).trans q.2.2.2⟩) (ih (k + 1) n1 A1 W1 _ _ (by omega) (hC.fr hF1 (by omega)) hL1 (hR.fr hF1 (by omega)) hS1' hn1') | exact ih (k + 1) n A W h _ (by omega) hC hL hR hS' hn'
theorem run_build (d : Nat) {N : Nat} {h : gH} {c : CD} (hN : 79 ≤ N) (hw : ∀ x, x < 100 → ∀ v, c.1 x = some v → v ≤ 999) (hp : cP c.1 100 ≤ 24) (hC : Ct h 1 c) (hL : Ls h) : Run (d + 2) yX2_build cX2_build 6 none [.ref 50, .ref 1] h N 0 0 (fun x h' N' => x = none ∧ N' = N ∧ (∃ n A W, Ld h' n A W ∧ Srt n A W (cF c.1 100)) ∧ Fr 50 79 h h') := by
  obtain ⟨F, G, g0, g1, g2, hf, hg⟩ := id hC
  obtain ⟨⟨FA, FW, z, h0, h1, h2⟩, hR⟩ := hL
  refine Run.of (ini := false) (L := [_, _, _, _, _, _]) mX2_build (fun h => by cases h) rfl (Nat.le_of_ble_eq_true rfl) rfl ?_
  refine go_aload_n dX2_build_0 rfl ?_
  refine go_iconst (v := nI 0) dX2_build_1 (by decide) ?_
  refine go_put (fs' := [_, _, _, _]) dX2_build_2 fX2_23 (by omega) h0 (Nat.le_of_ble_eq_true rfl) (Or.inl rfl) ⟨_, _, _, rfl, Or.inl rfl⟩ rfl ?_
  have fr : Fr 50 51 h (hset h 50 (.inr (2, [.ref 51, .ref 52, .ref 53, .int (nI 0)]))) := Fr.rf.set (by omega) (by omega)
  refine go_aload_n dX2_build_5 rfl ?_
  refine go_get dX2_build_6 fX2_27 (by omega) ((fr _ (by omega)).trans g0) rfl ?_
  refine go_astore_n (L' := [_, _, _, _, _, _]) dX2_build_9 rfl (by decide) rfl ?_
  refine go_aload_n dX2_build_10 rfl ?_
  refine go_alen dX2_build_11 (by omega) ((fr _ (by omega)).trans g1) (by decide) ?_
  refine go_istore_n (L' := [_, _, _, _, _, _]) dX2_build_12 rfl (by decide) rfl ?_
  refine go_iconst (v := nI 0) dX2_build_13 (by decide) ?_
  refine go_istore (L' := [_, _, _, _, _, _]) dX2_build_14 (by decide) rfl ?_
  exact go_Q (fun v h' N' q => ⟨q.1, q.2.1, q.2.2.1, (fr.wide (by omega) (by omega)).trans q.2.2.2⟩) (build_loop1 hN hw hp 100 0 0 (fun _ => 0) (fun _ => 0) _ none (by omega) (hC.fr fr (by omega)) ⟨FA, FW, hset_same, (fr _ (by omega)).trans h1, (fr _ (by omega)).trans h2, by omega, fun i hi => absurd hi (by omega), fun i hi => absurd hi (by omega)⟩ (hR.fr fr (by omega)) Srt.zero (by omega))
set_option maxRecDepth 100000 in
theorem run_ladder (d : Nat) {h : gH} (h0 : h 50 = .inr (2, [.null, .null, .null, .int 0])) : Run (d + 1) yX2_init cX2_init 1 none [.ref 50] h 51 28 698 (fun v h' N' => v = none ∧ N' = 79 ∧ Ls h' ∧ Fr 50 79 h h') := by
  refine Run.of (ini := true) (L := [_]) mX2_init (fun h => rfl) rfl (Nat.le_of_ble_eq_true rfl) rfl ?_
  refine go_aload_n dX2_init_0 rfl ?_
  refine go_obj dX2_init_1 oX2 (Nat.le_of_ble_eq_true rfl) ?_
  refine go_aload_n dX2_init_4 rfl ?_
  refine go_bipush (v := nI 24) dX2_init_5 (by decide) ?_
  refine go_newI (n := 24) dX2_init_7 rfl (by omega) (by decide) (by decide) ?_
  refine go_put (fs' := [_, _, _, _]) dX2_init_9 fX2_9 (by omega) ((hset_ne (by omega)).trans h0) (Nat.le_of_ble_eq_true rfl) rfl ⟨_, _, _, rfl, Or.inr ⟨rfl, rfl, rfl⟩⟩ rfl ?_
  refine go_aload_n dX2_init_12 rfl ?_
  refine go_bipush (v := nI 24) dX2_init_13 (by decide) ?_
  refine go_newI (n := 24) dX2_init_15 rfl (by omega) (by decide) (by decide) ?_
  refine go_put (fs' := [_, _, _, _]) dX2_init_17 fX2_15 (by omega) ((hset_ne (by omega)).trans hset_same) (Nat.le_of_ble_eq_true rfl) rfl ⟨_, _, _, rfl, Or.inr ⟨rfl, rfl, rfl⟩⟩ rfl ?_
  refine go_aload_n dX2_init_20 rfl ?_
  refine go_bipush (v := nI 25) dX2_init_21 (by decide) ?_
  refine go_bipush (v := nI 25) dX2_init_23 (by decide) ?_
  refine go_mna (n := 25) (w := 25) (kd := 6) (ki := 1) (ty := .long) dX2_init_25 nX2_18 ac_long (Or.inr ⟨rfl, rfl, rfl, rfl⟩) rfl rfl (by omega) (by omega) (by decide) (by decide) ?_
  have hg : ∀ (h : gH) (z : gC) (j : Nat), j < 53 → hgrid h 53 25 6 z j = h j := fun h z j hj => by unfold hgrid; rw [if_neg (by omega), if_neg (by omega)]
  have hg2 : ∀ (h : gH) (z : gC) (j : Nat), 79 ≤ j → hgrid h 53 25 6 z j = h j := fun h z j hj => by unfold hgrid; rw [if_neg (by omega), if_neg (by omega)]
  refine go_put (fs' := [_, _, _, _]) dX2_init_29 fX2_20 (by omega) ((hg _ _ _ (by omega)).trans hset_same) (Nat.le_of_ble_eq_true rfl) rfl ⟨_, _, _, rfl, Or.inr ⟨rfl, rfl, rfl⟩⟩ rfl ?_
  refine go_vret dX2_init_32 rfl ?_
  refine ⟨rfl, rfl, ⟨⟨fun _ => 0, fun _ => 0, 0, hset_same, ?_, ?_⟩, fun i => if i < 25 then some (53 + 1 + i) else none, ?_, fun i hi => ?_, fun i hi => ⟨fun _ => 0, ?_⟩⟩, fun x hx => ?_⟩
  · rw [hset_ne (by omega), hg _ _ _ (by omega), hset_ne (by omega), hset_ne (by omega), hset_ne (by omega), hset_same]
  · rw [hset_ne (by omega), hg _ _ _ (by omega), hset_ne (by omega), hset_same]
  · rw [hset_ne (by omega)]; rfl
  · show (if i < 25 then some (53 + 1 + i) else none) = _; rw [if_pos hi]
  · show hset _ 50 _ (54 + i) = _; rw [hset_ne (by omega)]; unfold hgrid; rw [if_neg (by omega), if_pos (by omega)]
  · rw [hset_ne (by omega)]
    rcases hx with hx | hx
    · rw [hg _ _ _ (by omega), hset_ne (by omega), hset_ne (by omega), hset_ne (by omega), hset_ne (by omega)]
    · rw [hg2 _ _ _ (by omega), hset_ne (by omega), hset_ne (by omega), hset_ne (by omega), hset_ne (by omega)]
