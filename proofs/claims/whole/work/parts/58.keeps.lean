/-! ===== what a state keeps to, it goes on keeping to ===== -/
theorem toN_le {lo hi : Nat} {x : Int32} (h : rI lo hi x = true) : lo ≤ toN x ∧ toN x ≤ hi := by
  have := of_decide_eq_true h
  unfold toN
  omega
theorem setF_set {f : Nat → Option Nat} {x : Nat} {a b : Option Nat} : setF (setF f x a) x b = setF f x b := by
  funext y
  by_cases e : y = x <;> simp [setF, e]
theorem cP_put {f : Nat → Option Nat} {x v w : Nat} (hx : x < 100) (hf : f x = some w) : cP (setF f x (some v)) 100 = cP f 100 := by
  have h1 : setF f x (some v) x = some v := by simp [setF]
  rw [← gsum_cP, gsum_set h1 hx, setF_set, ← gsum_cP, gsum_set hf hx]
theorem cP_drop {f : Nat → Option Nat} {x w : Nat} (hx : x < 100) (hf : f x = some w) : cP (setF f x none) 100 ≤ cP f 100 := by
  rw [← gsum_cP f, gsum_set hf hx, gsum_cP]
  omega
theorem SW.ch {s : SD} {c : CD} (h : SW s) (hc : CW c) : SW (chS s c) := by
  obtain ⟨h1, h2, h3, h4, h5, h6⟩ := h
  refine ⟨hc, ?_, fun i hi => ?_, h4, h5, h6⟩
  · show (pushU s.2.1 s.1).1 ≤ 10
    unfold pushU
    split
    · show s.2.1.1 + 1 ≤ 10; omega
    · exact Nat.le_refl _
  · have hi : i < (pushU s.2.1 s.1).1 := hi
    show CW ((pushU s.2.1 s.1).2 i)
    unfold pushU at hi ⊢
    split
    · rename_i z
      rw [if_pos z] at hi
      have hi : i < s.2.1.1 + 1 := hi
      show CW (if i = s.2.1.1 then s.1 else s.2.1.2 i)
      split
      · exact h1
      · exact h3 i (by omega)
    · rename_i z
      rw [if_neg z] at hi
      have hi : i < 10 := hi
      show CW (if i = 9 then s.1 else s.2.1.2 (i + 1))
      split
      · exact h1
      · exact h3 (i + 1) (by omega)
theorem sw_type {s : SD} (h : SW s) (x : Int32) : SW (typeS s x).2 := by
  unfold typeS
  split
  · rename_i hr
    split
    · obtain ⟨h1, h2, h3, h4, h5, h6⟩ := h
      refine ⟨h1, h2, h3, h4, by show s.2.2.2.1 + 1 ≤ 150; omega, fun i hi => ?_⟩
      have hi : i < s.2.2.2.1 + 1 := hi
      show (if i = s.2.2.2.1 then toN x else s.2.2.2.2 i) ≤ 255
      split
      · exact (toN_le hr).2
      · exact h6 i (by omega)
    · exact h
  · exact h
theorem sw_clear {s : SD} (h : SW s) : SW (clearS s).2 := ⟨h.1, h.2.1, h.2.2.1, h.2.2.2.1, Nat.zero_le _, fun i hi => absurd hi (Nat.not_lt_zero _)⟩
theorem CW.setf {c : CD} {x : Nat} {v : Option Nat} (h : CW c) (hv : ∀ y, v = some y → y ≤ 999) (hp : cP (setF c.1 x v) 100 ≤ 24) : CW (setF c.1 x v, c.2) := by
  refine ⟨fun y hy w hf => ?_, hp, h.2.2⟩
  have hf : setF c.1 x v y = some w := hf
  by_cases e : y = x
  · simp only [setF, if_pos e] at hf; exact hv w hf
  · simp only [setF, if_neg e] at hf; exact h.1 y hy w hf
theorem sw_puts {s : SD} (h : SW s) (r c x : Int32) : SW (putsS s r c x).2 := by
  unfold putsS
  split
  · rename_i hr
    rw [Bool.and_eq_true, Bool.and_eq_true] at hr
    have h1 := toN_le hr.1.1
    have h2 := toN_le hr.1.2
    have h3 := toN_le hr.2
    split
    · exact h
    · rename_i hn
      refine h.ch (h.1.setf (fun y e => by cases e; exact h3.2) ?_)
      have h24 := h.1.2.1
      cases hf : s.1.1 (10 * toN r + toN c) with
      | none =>
        rw [cP_new (by omega) hf]
        have : ¬ 24 ≤ cP s.1.1 100 := fun z => hn ⟨hf, z⟩
        omega
      | some w => rw [cP_put (by omega) hf]; exact h24
  · exact h
theorem sw_drops {s : SD} (h : SW s) (r c : Int32) : SW (dropsS s r c).2 := by
  unfold dropsS
  split
  · rename_i hr
    rw [Bool.and_eq_true] at hr
    have h1 := toN_le hr.1
    have h2 := toN_le hr.2
    split
    · exact h
    · rename_i hn
      refine h.ch (h.1.setf (fun y e => by cases e) ?_)
      have h24 := h.1.2.1
      cases hf : s.1.1 (10 * toN r + toN c) with
      | none => exact absurd hf hn
      | some w => have := cP_drop (by omega) hf; omega
  · exact h
theorem sw_asks {s : SD} (h : SW s) (x : Int32) : SW (asksS s x).2 := by
  unfold asksS
  split
  · rename_i hr
    have h1 := toN_le hr
    split
    · exact h
    · exact h.ch ⟨h.1.1, h.1.2.1, h.1.2.2.1, h.1.2.2.2.1, h1, h.1.2.2.2.2.2⟩
  · exact h
theorem sw_costs {s : SD} (h : SW s) (x : Int32) : SW (costsS s x).2 := by
  unfold costsS
  split
  · rename_i hr
    have h1 := toN_le hr
    split
    · exact h
    · exact h.ch ⟨h.1.1, h.1.2.1, h.1.2.2.1, h.1.2.2.2.1, h.1.2.2.2.2.1, h1.2⟩
  · exact h
theorem sw_closes {s : SD} (h : SW s) : SW (closesS s).2 := by
  have h6 := now_6 h.1
  refine h.ch ⟨h.1.1, h.1.2.1, fun n hn => ?_, fun x hx => ?_, h.1.2.2.2.2⟩
  · have hn : some ((nowD s.1).1 - 1) = some n := hn
    cases hn
    omega
  · show (if x < (nowD s.1).1 - 1 then (so s.1.1).2.1 ((nowD s.1).2.1 (x + 1)) else s.1.2.1 x) ≤ 999
    split
    · exact so_le h.1.1 _ (now_lt (by omega))
    · exact h.1.2.2.2.1 x hx
theorem sw_undo {s : SD} (h : SW s) : SW (undoS s).2 := by
  unfold undoS
  split
  · exact h
  · rename_i z
    obtain ⟨h1, h2, h3, h4, h5, h6⟩ := h
    exact ⟨h3 _ (by omega), by show s.2.1.1 - 1 ≤ 10; omega, fun i hi => h3 i (by have hi : i < s.2.1.1 - 1 := hi; omega), h4, h5, h6⟩
theorem sw_keep {s : SD} (h : SW s) (x : Int32) : SW (keepS s x).2 := by
  unfold keepS
  split
  · obtain ⟨h1, h2, h3, h4, h5, h6⟩ := h
    refine ⟨h1, h2, h3, fun i hi hk => ?_, h5, h6⟩
    show CW (if i = toN x then s.1 else s.2.2.1.1 i)
    have hk : (if i = toN x then true else s.2.2.1.2 i) = true := hk
    split
    · exact h1
    · rename_i z
      rw [if_neg z] at hk
      exact h4 i hi hk
  · exact h
theorem sw_back {s : SD} (h : SW s) (x : Int32) : SW (backS s x).2 := by
  unfold backS
  split
  · rename_i hr
    split
    · rename_i hk
      have := toN_le hr
      obtain ⟨h1, h2, h3, h4, h5, h6⟩ := h
      exact ⟨h4 _ (by omega) hk, Nat.zero_le _, fun i hi => absurd hi (Nat.not_lt_zero _), h4, h5, h6⟩
    · exact h
  · exact h
theorem rd_PO {t : TX} : ∀ (n p : Nat) (s s' : PS), PO p s → p ≤ t.1 → rdE t n p s = .inr s' → PO t.1 s' ∧ s'.1 = 0
  | 0, p, s, s', _, _, h => by rw [rdE] at h; cases h
  | n + 1, p, s, s', hO, hp, h => by
    rw [rdE] at h
    split at h
    · split at h
      · rename_i z1 z2
        cases h
        exact ⟨hO.mono hp, z2⟩
      · cases h
    · split at h
      · exact rd_PO n (p + 1) s s' (hO.mono (by omega)) (by omega) h
      · cases hq : tok t p s with
        | none => rw [hq] at h; cases h
        | some z =>
          rw [hq] at h
          have hz : tok t p s = some (z.1, z.2) := hq
          exact rd_PO n z.1 z.2 s' (PO_tok (by omega) hO hz) (tok_le (by omega) hz) h
theorem sw_map {s : SD} (h : SW s) : SW (mapS s).2 := by
  unfold mapS
  cases hr : rd s.2.2.2 0 ps0 with
  | inl q => exact h
  | inr st =>
    obtain ⟨hO, h0⟩ := rd_PO _ _ _ _ PO.zero (Nat.zero_le _) hr
    obtain ⟨aw, it, pb, kb, cb, ro, ce, f, K, C⟩ := st
    obtain ⟨o1, o2, o3, o4, o5, o6, o7, o8, o9⟩ := hO
    refine ⟨⟨o4, by show cP f 100 ≤ 24; omega, (fun n hn => by cases hn), fun x hx => Nat.zero_le _, o6, o7⟩, Nat.zero_le _, fun i hi => absurd hi (Nat.not_lt_zero _), (fun i hi hk => by cases hk), Nat.zero_le _, fun i hi => absurd hi (Nat.not_lt_zero _)⟩
def s0 : SD := (c0, (0, fun _ => c0), (fun _ => c0, fun _ => false), (0, fun _ => 0))
theorem sw_0 : SW s0 := by
  have e : cP c0.1 100 = 0 := by rw [← gsum_cP]; exact gsum_0 (fun _ _ => rfl)
  refine ⟨⟨(fun x _ v h => by cases h), (by show cP c0.1 100 ≤ 24; rw [e]; omega), (fun n hn => by cases hn), fun x hx => Nat.zero_le _, ⟨by decide, by decide⟩, Nat.zero_le _⟩, Nat.zero_le _, fun i hi => absurd hi (Nat.not_lt_zero _), (fun i hi hk => by cases hk), Nat.zero_le _, fun i hi => absurd hi (Nat.not_lt_zero _)⟩
