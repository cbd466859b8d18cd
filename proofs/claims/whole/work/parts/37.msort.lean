/-! ===== setSorted ===== -/
def lI : Nat → Int32
  | 0 => -1
  | L + 1 => nI L
theorem lI_le {v L : Nat} (hv : v < 2 ^ 31) (hL : L < 2 ^ 31) : nI v ≤ lI L ↔ v < L := by
  cases L with
  | zero => exact ⟨fun q => absurd q (nI_neg hv (by decide)), fun q => absurd q (by omega)⟩
  | succ L => show nI v ≤ nI L ↔ _; rw [nI_leI hv (by omega)]; omega
/-- how many of the first p are x; how many are no less than L -/
def eqc (v : Nat → Nat) (x p : Nat) : Nat := sm (fun i => if v i = x then 1 else 0) 0 p
def gtc (v : Nat → Nat) (L p : Nat) : Nat := sm (fun i => if L ≤ v i then 1 else 0) 0 p
theorem eqc_s (v : Nat → Nat) (x p : Nat) : eqc v x (p + 1) = eqc v x p + (if v p = x then 1 else 0) := by unfold eqc; rw [sm, Nat.zero_add]
theorem eqc_0 {v : Nat → Nat} {x : Nat} : ∀ {p}, (∀ i, i < p → v i ≠ x) → eqc v x p = 0
  | 0, _ => rfl
  | p + 1, h => by rw [eqc_s, eqc_0 (fun i hi => h i (by omega)), if_neg (h p (by omega))]
theorem eqc_has {v : Nat → Nat} {x : Nat} : ∀ {p}, 0 < eqc v x p → ∃ i, i < p ∧ v i = x
  | 0, h => absurd h (by simp [eqc, sm])
  | p + 1, h => by
    rw [eqc_s] at h
    by_cases e : v p = x
    · exact ⟨p, by omega, e⟩
    · rw [if_neg e] at h
      obtain ⟨i, h1, h2⟩ := eqc_has (p := p) (by omega)
      exact ⟨i, by omega, h2⟩
theorem eqc_pos {v : Nat → Nat} {x i : Nat} (hx : v i = x) : ∀ {p}, i < p → 0 < eqc v x p
  | 0, h => absurd h (by omega)
  | p + 1, h => by
    rw [eqc_s]
    by_cases e : i = p
    · rw [← e, if_pos hx]; omega
    · have := eqc_pos hx (p := p) (by omega); omega
theorem eqc_le (v : Nat → Nat) (x : Nat) : ∀ p, eqc v x p ≤ p
  | 0 => Nat.le_refl _
  | p + 1 => by have := eqc_le v x p; rw [eqc_s]; split <;> omega
theorem gtc_s (v : Nat → Nat) (L p : Nat) : gtc v L (p + 1) = gtc v L p + (if L ≤ v p then 1 else 0) := by unfold gtc; rw [sm, Nat.zero_add]
theorem gtc_le (v : Nat → Nat) (L : Nat) : ∀ p, gtc v L p ≤ p
  | 0 => Nat.le_refl _
  | p + 1 => by have := gtc_le v L p; rw [gtc_s]; split <;> omega
theorem gtc_mono {v : Nat → Nat} {L L' : Nat} (h : L ≤ L') : ∀ p, gtc v L' p ≤ gtc v L p
  | 0 => Nat.le_refl _
  | p + 1 => by
    have := gtc_mono h (v := v) p
    rw [gtc_s, gtc_s]
    by_cases e : L' ≤ v p
    · rw [if_pos e, if_pos (by omega)]; omega
    · rw [if_neg e]; omega
theorem gtc_lt {v : Nat → Nat} {L L' i : Nat} (h : L ≤ L') (h1 : L ≤ v i) (h2 : v i < L') : ∀ {p}, i < p → gtc v L' p < gtc v L p
  | 0, hp => absurd hp (by omega)
  | p + 1, hp => by
    rw [gtc_s, gtc_s]
    by_cases e : i = p
    · have := gtc_mono h (v := v) p
      rw [← e, if_neg (by omega), if_pos h1]
      rw [← e] at this
      omega
    · have := gtc_lt h h1 h2 (p := p) (by omega)
      by_cases e2 : L' ≤ v p
      · rw [if_pos e2, if_pos (by omega)]; omega
      · rw [if_neg e2]; omega
theorem gtc_0 {v : Nat → Nat} {L i : Nat} : ∀ {p}, gtc v L p = 0 → i < p → v i < L
  | 0, _, hp => absurd hp (by omega)
  | p + 1, h, hp => by
    rw [gtc_s] at h
    by_cases e : i = p
    · rw [e]
      rcases Nat.lt_or_ge (v p) L with z | z
      · exact z
      · rw [if_pos z] at h; omega
    · exact gtc_0 (p := p) (by omega) (by omega)
/-- the least of the first p that is no less than L is x (1000: none), q of them are x -/
def MN (v : Nat → Nat) (L p x q : Nat) : Prop := L ≤ x ∧ x ≤ 1000 ∧ (x = 1000 ∨ ∃ i, i < p ∧ v i = x) ∧ (∀ i, i < p → L ≤ v i → x ≤ v i) ∧ q = eqc v x p
theorem MN.zero {v : Nat → Nat} {L : Nat} (hL : L ≤ 1000) : MN v L 0 1000 0 := ⟨hL, Nat.le_refl _, Or.inl rfl, fun i hi => absurd hi (by omega), rfl⟩
theorem MN.less {v : Nat → Nat} {L p x q : Nat} (h : MN v L p x q) (h1 : L ≤ v p) (h2 : v p < x) : MN v L (p + 1) (v p) 1 := by
  refine ⟨h1, by have := h.2.1; omega, Or.inr ⟨p, by omega, rfl⟩, fun i hi hl => ?_, ?_⟩
  · by_cases e : i = p
    · rw [e]; exact Nat.le_refl _
    · have := h.2.2.2.1 i (by omega) hl; omega
  · rw [eqc_s, if_pos rfl, eqc_0 (fun i hi q => by have := h.2.2.2.1 i hi (by omega); omega)]
theorem MN.same {v : Nat → Nat} {L p x q : Nat} (h : MN v L p x q) (h1 : L ≤ v p → x ≤ v p) : MN v L (p + 1) x (q + if v p = x then 1 else 0) := by
  refine ⟨h.1, h.2.1, ?_, fun i hi hl => ?_, ?_⟩
  · rcases h.2.2.1 with z | ⟨i, h3, h4⟩
    · exact Or.inl z
    · exact Or.inr ⟨i, by omega, h4⟩
  · by_cases e : i = p
    · rw [e] at hl ⊢; exact h1 hl
    · exact h.2.2.2.1 i (by omega) hl
  · rw [eqc_s, ← h.2.2.2.2]
set_option maxRecDepth 100000 in
theorem ss_add {d r p x q y : Nat} {l : Int32} {h : gH} {Q : Option Value → gH → Nat → Prop} (hx : x ≤ 1000) (hy : y ≤ 1000)
    (kk : Go none RX9 cX9_setSorted 7 none false d 27 [some (.ref 147), some (.int l), some (.int (nI r)), some (.int (nI x)), some (.int (nI (q + if y = x then 1 else 0))), some (.int (nI (p + 1))), some (.int (nI y))] [] h 163 0 0 Q) :
    Go none RX9 cX9_setSorted 7 none false d 63 [some (.ref 147), some (.int l), some (.int (nI r)), some (.int (nI x)), some (.int (nI q)), some (.int (nI p)), some (.int (nI y))] [] h 163 0 0 Q := by
  refine go_iload dX9_setSorted_63 rfl ?_
  refine go_iload dX9_setSorted_65 rfl ?_
  refine go_iload_n dX9_setSorted_67 rfl ?_
  refine go_icmp_ne (tgt := 75) dX9_setSorted_68 (by decide) (fun c_68 => ?_) (fun c_68 => ?_)
  · skip
    have e : ¬ y = x := fun z => c_68 (by rw [z])
    refine go_iconst (v := nI 0) dX9_setSorted_75 (by decide) ?_
    refine go_iadd dX9_setSorted_76 ?_
    refine go_istore (L' := [_, _, _, _, _, _, _]) dX9_setSorted_77 (by decide) rfl ?_
    refine go_inc (L' := [_, _, _, _, _, _, _]) dX9_setSorted_79 rfl (by decide) rfl ?_
    refine go_goto (tgt := 27) dX9_setSorted_82 (by decide) ?_
    first | (rw [if_pos e] at kk; rw [nI_add]; exact kk) | (rw [if_neg e] at kk; rw [nI_add]; exact kk)
  · skip
    have e : y = x := (nI_eq (by omega) (by omega)).mp (Decidable.not_not.mp c_68)
    refine go_iconst (v := nI 1) dX9_setSorted_71 (by decide) ?_
    refine go_goto (tgt := 76) dX9_setSorted_72 (by decide) ?_
    refine go_iadd dX9_setSorted_76 ?_
    refine go_istore (L' := [_, _, _, _, _, _, _]) dX9_setSorted_77 (by decide) rfl ?_
    refine go_inc (L' := [_, _, _, _, _, _, _]) dX9_setSorted_79 rfl (by decide) rfl ?_
    refine go_goto (tgt := 27) dX9_setSorted_82 (by decide) ?_
    first | (rw [if_pos e] at kk; rw [nI_add]; exact kk) | (rw [if_neg e] at kk; rw [nI_add]; exact kk)
set_option maxRecDepth 100000 in
theorem ss_inner {d n L r : Nat} {h : gH} {v : Nat → Nat} {F5 : Nat → Int32} {a k e s r0 r1 r2 r3 r4 u sn rn : Int32} (h7 : h 147 = mo (nI n) a k e s r0 r1 r2 r3 r4 u sn rn) (h5 : h 149 = iA 24 F5) (hn : n ≤ 24) (hF : ∀ i, i < n → F5 i = nI (v i)) (hv : ∀ i, i < n → v i ≤ 999) (hL : L ≤ 1000) {Q : Option Value → gH → Nat → Prop}
    (hq : ∀ x q (w6 : Option Value), MN v L n x q → Go none RX9 cX9_setSorted 7 none false d 85 [some (.ref 147), some (.int (lI L)), some (.int (nI r)), some (.int (nI x)), some (.int (nI q)), some (.int (nI n)), w6] [] h 163 0 0 Q) :
    ∀ (m p x q : Nat) (w6 : Option Value), p + m = n → MN v L p x q → Go none RX9 cX9_setSorted 7 none false d 27 [some (.ref 147), some (.int (lI L)), some (.int (nI r)), some (.int (nI x)), some (.int (nI q)), some (.int (nI p)), w6] [] h 163 0 0 Q := by
  intro m
  induction m with
  | zero =>
    intro p x q w6 hp hM
    have e : p = n := by omega
    subst e
    refine go_iload dX9_setSorted_27 rfl ?_
    refine go_aload_n dX9_setSorted_29 rfl ?_
    refine go_get dX9_setSorted_30 fX9_60 (by omega) h7 rfl ?_
    refine go_icmp_ge (tgt := 85) dX9_setSorted_33 (by decide) (fun c_33 => ?_) (fun c_33 => ?_)
    · skip
      exact hq x q w6 hM
    · exact absurd (nI_le (Nat.le_refl _) (by omega)) c_33
  | succ m ih =>
    intro p x q w6 hp hM
    have hvp := hv p (by omega)
    have hx := hM.2.1
    have hqc := eqc_le v x p
    have hqe := hM.2.2.2.2
    refine go_iload dX9_setSorted_27 rfl ?_
    refine go_aload_n dX9_setSorted_29 rfl ?_
    refine go_get dX9_setSorted_30 fX9_60 (by omega) h7 rfl ?_
    refine go_icmp_ge (tgt := 85) dX9_setSorted_33 (by decide) (fun c_33 => ?_) (fun c_33 => ?_)
    · exact absurd c_33 (nI_ge (by omega) (by omega))
    · skip
      refine go_aload_n dX9_setSorted_36 rfl ?_
      refine go_get dX9_setSorted_37 fX9_17 (by omega) h7 rfl ?_
      refine go_iload dX9_setSorted_40 rfl ?_
      refine go_iald dX9_setSorted_42 (by omega) h5 rfl (by omega) (by omega) ?_
      refine go_top (y := .int (nI (v p))) (by rw [hF p (by omega)]) ?_
      refine go_istore (L' := [_, _, _, _, _, _, _]) dX9_setSorted_43 (by decide) rfl ?_
      refine go_iload dX9_setSorted_45 rfl ?_
      refine go_iload_n dX9_setSorted_47 rfl ?_
      refine go_icmp_le (tgt := 63) dX9_setSorted_48 (by decide) (fun c_48 => ?_) (fun c_48 => ?_)
      · skip
        rw [lI_le (by omega) (by omega)] at c_48
        first | exact ss_add (by omega) (by omega) (by rw [if_pos rfl]; exact ih (p + 1) (v p) 1 _ (by omega) (hM.less (by omega) (by omega))) | exact ss_add (by omega) (by omega) (ih (p + 1) x _ _ (by omega) (hM.same (fun _ => by omega)))
      · skip
        rw [lI_le (by omega) (by omega)] at c_48
        refine go_iload dX9_setSorted_51 rfl ?_
        refine go_iload_n dX9_setSorted_53 rfl ?_
        refine go_icmp_ge (tgt := 63) dX9_setSorted_54 (by decide) (fun c_54 => ?_) (fun c_54 => ?_)
        · skip
          rw [nI_leI (by omega) (by omega)] at c_54
          first | exact ss_add (by omega) (by omega) (by rw [if_pos rfl]; exact ih (p + 1) (v p) 1 _ (by omega) (hM.less (by omega) (by omega))) | exact ss_add (by omega) (by omega) (ih (p + 1) x _ _ (by omega) (hM.same (fun _ => by omega)))
        · skip
          rw [nI_leI (by omega) (by omega)] at c_54
          refine go_iload dX9_setSorted_57 rfl ?_
          refine go_istore_n (L' := [_, _, _, _, _, _, _]) dX9_setSorted_59 rfl (by decide) rfl ?_
          refine go_iconst (v := nI 0) dX9_setSorted_60 (by decide) ?_
          refine go_istore (L' := [_, _, _, _, _, _, _]) dX9_setSorted_61 (by decide) rfl ?_
          first | exact ss_add (by omega) (by omega) (by rw [if_pos rfl]; exact ih (p + 1) (v p) 1 _ (by omega) (hM.less (by omega) (by omega))) | exact ss_add (by omega) (by omega) (ih (p + 1) x _ _ (by omega) (hM.same (fun _ => by omega)))
/-- how far the sorting is: m numbers, all those below L -/
def SO (v : Nat → Nat) (n L m r : Nat) (S W : Nat → Nat) : Prop := (∀ i j, i < j → j < m → S i < S j) ∧ (∀ i, i < m → W i = eqc v (S i) n ∧ 0 < eqc v (S i) n) ∧ (∀ i, i < m → S i < L) ∧ (∀ x, x < L → 0 < eqc v x n → ∃ i, i < m ∧ S i = x) ∧ L ≤ 1000 ∧ gtc v L n + r ≤ n ∧ m ≤ r
theorem SO.next {v : Nat → Nat} {n L m r x q : Nat} {S W : Nat → Nat} (h : SO v n L m r S W) (hM : MN v L n x q) (hx : x ≤ 999) : SO v n (x + 1) (m + 1) (r + 1) (fun i => if i = m then x else S i) (fun i => if i = m then q else W i) := by
  obtain ⟨h1, h2, h3, h4, h5, h6, h7⟩ := h
  obtain ⟨i0, hi0, hv0⟩ : ∃ i, i < n ∧ v i = x := by rcases hM.2.2.1 with z | z; omega; exact z
  refine ⟨fun i j hij hj => ?_, fun i hi => ?_, fun i hi => ?_, fun y hy hc => ?_, by omega, ?_, by omega⟩
  · by_cases e : j = m
    · simp only [if_pos e, if_neg (show ¬ i = m by omega)]
      have := h3 i (by omega); have := hM.1; omega
    · simp only [if_neg e, if_neg (show ¬ i = m by omega)]; exact h1 i j hij (by omega)
  · by_cases e : i = m
    · simp only [if_pos e]; exact ⟨hM.2.2.2.2, eqc_pos hv0 hi0⟩
    · simp only [if_neg e]; exact h2 i (by omega)
  · by_cases e : i = m
    · simp only [if_pos e]; omega
    · simp only [if_neg e]; have := h3 i (by omega); have := hM.1; omega
  · by_cases e : y = x
    · exact ⟨m, by omega, by simp [e]⟩
    · by_cases e2 : y < L
      · obtain ⟨i, h8, h9⟩ := h4 y e2 hc
        exact ⟨i, by omega, by simp only; rw [if_neg (by omega)]; exact h9⟩
      · obtain ⟨i, h8, h9⟩ := eqc_has hc
        have := hM.2.2.2.1 i h8 (by omega)
        omega
  · have := gtc_lt (v := v) (L := L) (L' := x + 1) (i := i0) (by have := hM.1; omega) (by rw [hv0]; exact hM.1) (by omega) hi0
    omega
theorem SO.stay {v : Nat → Nat} {n L m r x q : Nat} {S W : Nat → Nat} (hv : ∀ i, i < n → v i ≤ 999) (h : SO v n L m r S W) (hM : MN v L n x q) (hx : ¬ x ≤ 999) (hr : r < n) : SO v n L m (r + 1) S W := by
  obtain ⟨h1, h2, h3, h4, h5, h6, h7⟩ := h
  have hz : gtc v L n = 0 := by
    have key : ∀ p, p ≤ n → gtc v L p = 0 := by
      intro p
      induction p with
      | zero => exact fun _ => rfl
      | succ p ih =>
        intro hp
        rw [gtc_s, ih (by omega), if_neg]
        intro hl
        have := hM.2.2.2.1 p (by omega) hl
        have := hv p (by omega)
        omega
    exact key n (Nat.le_refl _)
  exact ⟨h1, h2, h3, h4, h5, by omega, by omega⟩
theorem SO.done {v : Nat → Nat} {n L m : Nat} {S W : Nat → Nat} (h : SO v n L m n S W) : Srt m S W (fun x => eqc v x n) := by
  obtain ⟨h1, h2, h3, h4, h5, h6, h7⟩ := h
  refine ⟨h1, h2, fun x hx => ?_⟩
  obtain ⟨i, h8, h9⟩ := eqc_has hx
  have := gtc_0 (v := v) (L := L) (i := i) (p := n) (by omega) h8
  exact h4 x (by omega) hx
set_option maxRecDepth 100000 in
theorem ss_outer {d n : Nat} {h0 : gH} {v : Nat → Nat} {F5 : Nat → Int32} {a k e s r0 r1 r2 r3 r4 u rn : Int32} (h5 : h0 149 = iA 24 F5) (hn : n ≤ 24) (hF : ∀ i, i < n → F5 i = nI (v i)) (hv : ∀ i, i < n → v i ≤ 999) {Q : Option Value → gH → Nat → Prop}
    (hq : ∀ (h : gH) (m : Nat) (S W : Nat → Nat) (FS FW : Nat → Int32), h 147 = mo (nI n) a k e s r0 r1 r2 r3 r4 u (nI m) rn → h 156 = iA 24 FS → h 157 = iA 24 FW → (∀ i, i < m → FS i = nI (S i) ∧ FW i = nI (W i)) → Srt m S W (fun x => eqc v x n) → (∀ x, x ≠ 147 → x ≠ 156 → x ≠ 157 → h x = h0 x) → Q none h 163) :
    ∀ (mm r m L : Nat) (S W : Nat → Nat) (FS FW : Nat → Int32) (h : gH) (w3 w4 w5 w6 : Option Value), r + mm = n → h 147 = mo (nI n) a k e s r0 r1 r2 r3 r4 u (nI m) rn → h 156 = iA 24 FS → h 157 = iA 24 FW → (∀ i, i < m → FS i = nI (S i) ∧ FW i = nI (W i)) → SO v n L m r S W → (∀ x, x ≠ 147 → x ≠ 156 → x ≠ 157 → h x = h0 x) → Go none RX9 cX9_setSorted 7 none false d 9 [some (.ref 147), some (.int (lI L)), some (.int (nI r)), w3, w4, w5, w6] [] h 163 0 0 Q := by
  intro mm
  induction mm with
  | zero =>
    intro r m L S W FS FW h w3 w4 w5 w6 hr h7 hs hW hA hO hk
    have e : r = n := by omega
    subst e
    refine go_iload_n dX9_setSorted_9 rfl ?_
    refine go_aload_n dX9_setSorted_10 rfl ?_
    refine go_get dX9_setSorted_11 fX9_60 (by omega) h7 rfl ?_
    refine go_icmp_ge (tgt := 131) dX9_setSorted_14 (by decide) (fun c_14 => ?_) (fun c_14 => ?_)
    · skip
      refine go_vret dX9_setSorted_131 rfl ?_
      exact hq h m S W FS FW h7 hs hW hA hO.done hk
    · exact absurd (nI_le (Nat.le_refl _) (by omega)) c_14
  | succ mm ih =>
    intro r m L S W FS FW h w3 w4 w5 w6 hr h7 hs hW hA hO hk
    have hm := hO.2.2.2.2.2.2
    refine go_iload_n dX9_setSorted_9 rfl ?_
    refine go_aload_n dX9_setSorted_10 rfl ?_
    refine go_get dX9_setSorted_11 fX9_60 (by omega) h7 rfl ?_
    refine go_icmp_ge (tgt := 131) dX9_setSorted_14 (by decide) (fun c_14 => ?_) (fun c_14 => ?_)
    · exact absurd c_14 (nI_ge (by omega) (by omega))
    · skip
      refine go_sipush (v := nI 1000) dX9_setSorted_17 (by decide) ?_
      refine go_istore_n (L' := [_, _, _, _, _, _, _]) dX9_setSorted_20 rfl (by decide) rfl ?_
      refine go_iconst (v := nI 0) dX9_setSorted_21 (by decide) ?_
      refine go_istore (L' := [_, _, _, _, _, _, _]) dX9_setSorted_22 (by decide) rfl ?_
      refine go_iconst (v := nI 0) dX9_setSorted_24 (by decide) ?_
      refine go_istore (L' := [_, _, _, _, _, _, _]) dX9_setSorted_25 (by decide) rfl ?_
      refine ss_inner h7 ((hk _ (by omega) (by omega) (by omega)).trans h5) hn hF hv hO.2.2.2.2.1 (fun x q w6' hM => ?_) n 0 1000 0 _ (by omega) (MN.zero hO.2.2.2.2.1)
      have hx := hM.2.1
      have hqn := eqc_le v x n
      have hqe := hM.2.2.2.2
      refine go_iload_n dX9_setSorted_85 rfl ?_
      refine go_sipush (v := nI 999) dX9_setSorted_86 (by decide) ?_
      refine go_icmp_gt (tgt := 125) dX9_setSorted_89 (by decide) (fun c_89 => ?_) (fun c_89 => ?_)
      · skip
        have hx9 : ¬ x ≤ 999 := by rw [nI_ltI (by omega) (by omega)] at c_89; omega
        refine go_inc (L' := [_, _, _, _, _, _, _]) dX9_setSorted_125 rfl (by decide) rfl ?_
        refine go_goto (tgt := 9) dX9_setSorted_128 (by decide) ?_
        first | exact ih (r + 1) m L S W FS FW h _ _ _ _ (by omega) h7 hs hW hA (hO.stay hv hM hx9 (by omega)) hk | (refine ih (r + 1) (m + 1) (x + 1) (fun i => if i = m then x else S i) (fun i => if i = m then q else W i) _ _ _ _ _ _ _ (by omega) hset_same ((hset_ne (by omega)).trans ((hset_ne (by omega)).trans hset_same)) ((hset_ne (by omega)).trans hset_same) (fun i hi => ?_) (hO.next hM hx9) (fun y q1 q2 q3 => by rw [hset_ne q1, hset_ne q3, hset_ne q2]; exact hk y q1 q2 q3); by_cases e : i = m; (subst e; simp only [if_true]; exact ⟨pk_us .., pk_us ..⟩); (simp only [if_neg e]; rw [pk_un e, pk_un e]; exact hA i (by omega)))
      · skip
        have hx9 : x ≤ 999 := by rw [nI_ltI (by omega) (by omega)] at c_89; omega
        refine go_aload_n dX9_setSorted_92 rfl ?_
        refine go_get dX9_setSorted_93 fX9_38 (by omega) h7 rfl ?_
        refine go_aload_n dX9_setSorted_96 rfl ?_
        refine go_get dX9_setSorted_97 fX9_142 (by omega) h7 rfl ?_
        refine go_iload_n dX9_setSorted_100 rfl ?_
        refine go_iast dX9_setSorted_101 (by omega) hs rfl (by omega) (by omega) ?_
        refine go_aload_n dX9_setSorted_102 rfl ?_
        refine go_get dX9_setSorted_103 fX9_41 (by omega) ((hset_ne (by omega)).trans h7) rfl ?_
        refine go_aload_n dX9_setSorted_106 rfl ?_
        refine go_get dX9_setSorted_107 fX9_142 (by omega) ((hset_ne (by omega)).trans h7) rfl ?_
        refine go_iload dX9_setSorted_110 rfl ?_
        refine go_iast dX9_setSorted_112 (by omega) ((hset_ne (by omega)).trans hW) rfl (by omega) (by omega) ?_
        refine go_aload_n dX9_setSorted_113 rfl ?_
        refine go_dup dX9_setSorted_114 rfl ?_
        refine go_get dX9_setSorted_115 fX9_142 (by omega) ((hset_ne (by omega)).trans ((hset_ne (by omega)).trans h7)) rfl ?_
        refine go_iconst (v := nI 1) dX9_setSorted_118 (by decide) ?_
        refine go_iadd dX9_setSorted_119 ?_
        refine go_top (y := .int (nI (m + 1))) (by rw [nI_add]) ?_
        refine go_put (fs' := [_, _, _, _, _, _, _, _, _, _, _, _, _, _, _, _, _, _, _, _, _, _, _, _, _, _, _, _]) dX9_setSorted_120 fX9_142 (by omega) ((hset_ne (by omega)).trans ((hset_ne (by omega)).trans h7)) (Nat.le_of_ble_eq_true rfl) (Or.inl rfl) ⟨_, _, _, rfl, Or.inl rfl⟩ rfl ?_
        refine go_iload_n dX9_setSorted_123 rfl ?_
        refine go_istore_n (L' := [_, _, _, _, _, _, _]) dX9_setSorted_124 rfl (by decide) rfl ?_
        refine go_inc (L' := [_, _, _, _, _, _, _]) dX9_setSorted_125 rfl (by decide) rfl ?_
        refine go_goto (tgt := 9) dX9_setSorted_128 (by decide) ?_
        first | exact ih (r + 1) m L S W FS FW h _ _ _ _ (by omega) h7 hs hW hA (hO.stay hv hM hx9 (by omega)) hk | (refine ih (r + 1) (m + 1) (x + 1) (fun i => if i = m then x else S i) (fun i => if i = m then q else W i) _ _ _ _ _ _ _ (by omega) hset_same ((hset_ne (by omega)).trans ((hset_ne (by omega)).trans hset_same)) ((hset_ne (by omega)).trans hset_same) (fun i hi => ?_) (hO.next hM hx9) (fun y q1 q2 q3 => by rw [hset_ne q1, hset_ne q3, hset_ne q2]; exact hk y q1 q2 q3); by_cases e : i = m; (subst e; simp only [if_true]; exact ⟨pk_us .., pk_us ..⟩); (simp only [if_neg e]; rw [pk_un e, pk_un e]; exact hA i (by omega)))
/-- SORTED stands in the reference's arrays -/
def Ms (h : gH) (c : CD) : Prop := ∃ FS FW : Nat → Int32, h 156 = iA 24 FS ∧ h 157 = iA 24 FW ∧ ∀ i, i < (so c.1).1 → FS i = nI ((so c.1).2.1 i) ∧ FW i = nI ((so c.1).2.2 i)
set_option maxRecDepth 100000 in
theorem run_setSorted (d : Nat) {h : gH} {c : CD} {s' u' : Nat} {r0 r1 r2 r3 r4 sn rn : Int32} (hw : CW c) (h7 : h 147 = mS c s' u' r0 r1 r2 r3 r4 sn rn) (h3 : M3 h c) (hX : MX h) : Run d yX9_setSorted cX9_setSorted 7 none [.ref 147] h 163 0 0 (fun v h' N' => v = none ∧ N' = 163 ∧ h' 147 = mS c s' u' r0 r1 r2 r3 r4 (nI (so c.1).1) rn ∧ Ms h' c ∧ ∀ x, x ≠ 147 → x ≠ 156 → x ≠ 157 → h' x = h x) := by
  obtain ⟨F4, F5, F6, q4, q5, q6, ⟨w, v, hE, hEw⟩, ho⟩ := h3
  obtain ⟨xa, xb, FS, FW, xe, xf, xg, xx, xy, -, -, x3, x4, -⟩ := hX
  have hv : ∀ i, i < cP c.1 100 → v i ≤ 999 := fun i hi => hw.1 _ (hE.1 i hi).1 _ (hE.1 i hi).2
  have hc : (fun x => eqc v x (cP c.1 100)) = cF c.1 100 := by
    funext x
    rw [← gsum_cF, hE.sum (g := fun y => if y = x then 1 else 0)]
    rfl
  refine Run.of (ini := false) (L := [_, _, _, _, _, _, _]) mX9_setSorted (fun h => by cases h) rfl (Nat.le_of_ble_eq_true rfl) rfl ?_
  refine go_aload_n dX9_setSorted_0 rfl ?_
  refine go_iconst (v := nI 0) dX9_setSorted_1 (by decide) ?_
  refine go_put (fs' := [_, _, _, _, _, _, _, _, _, _, _, _, _, _, _, _, _, _, _, _, _, _, _, _, _, _, _, _]) dX9_setSorted_2 fX9_142 (by omega) h7 (Nat.le_of_ble_eq_true rfl) (Or.inl rfl) ⟨_, _, _, rfl, Or.inl rfl⟩ rfl ?_
  refine go_iconst (v := (-1)) dX9_setSorted_5 (by decide) ?_
  refine go_istore_n (L' := [_, _, _, _, _, _, _]) dX9_setSorted_6 rfl (by decide) rfl ?_
  refine go_iconst (v := nI 0) dX9_setSorted_7 (by decide) ?_
  refine go_istore_n (L' := [_, _, _, _, _, _, _]) dX9_setSorted_8 rfl (by decide) rfl ?_
  refine ss_outer (v := v) ((hset_ne (by omega)).trans q5) hw.2.1 (fun i hi => (hEw i hi).2) hv (fun h' m S W FS' FW' a1 a2 a3 a4 a5 a6 => ?_) (cP c.1 100) 0 0 0 (fun _ => 0) (fun _ => 0) FS FW _ _ _ _ _ (by omega) hset_same ((hset_ne (by omega)).trans x3) ((hset_ne (by omega)).trans x4) (fun i hi => absurd hi (by omega)) ⟨fun i j _ hj => absurd hj (by omega), fun i hi => absurd hi (by omega), fun i hi => absurd hi (by omega), fun x hx => absurd hx (by omega), by omega, gtc_le v 0 _, Nat.le_refl _⟩ (fun x q1 q2 q3 => rfl)
  rw [hc] at a5
  obtain ⟨e1, e2⟩ := a5.same (so_ok c.1)
  refine ⟨rfl, rfl, ?_, ⟨FS', FW', a2, a3, fun i hi => ?_⟩, fun x q1 q2 q3 => (a6 x q1 q2 q3).trans (hset_ne q1)⟩
  · rw [← e1]; exact a1
  · rw [← (e2 i (by omega)).1, ← (e2 i (by omega)).2]; exact a4 i (by omega)
