/-! ===== fields, arrays, new cells ===== -/
def gty : Nat → Nat → FieldType
  | 0 => tyX0
  | 1 => tyX1
  | 2 => tyX2
  | 3 => tyX3
  | 4 => tyX4
  | 5 => tyX5
  | 6 => tyX6
  | 7 => tyX7
  | 8 => tyX8
  | _ => tyX9
theorem gT_of {ws : List Cond} (h : ∀ w ∈ ws, w ∈ lw_tbl) (hg : ws.all goodWord = true) : ∀ w ∈ ws, w ∈ gT := fun w hw => List.mem_filter.mpr ⟨h w hw, List.all_eq_true.mp hg w hw⟩
theorem gl0 : ∀ w ∈ u_ws RX0 TX0 5, w ∈ gT := gT_of (by decide +kernel) (by decide +kernel)
theorem gl1 : ∀ w ∈ u_ws RX1 TX1 3, w ∈ gT := gT_of (by decide +kernel) (by decide +kernel)
theorem gl2 : ∀ w ∈ u_ws RX2 TX2 4, w ∈ gT := gT_of (by decide +kernel) (by decide +kernel)
theorem gl3 : ∀ w ∈ u_ws RX3 TX3 2, w ∈ gT := gT_of (by decide +kernel) (by decide +kernel)
theorem gl4 : ∀ w ∈ u_ws RX4 TX4 10, w ∈ gT := gT_of (by decide +kernel) (by decide +kernel)
theorem gl5 : ∀ w ∈ u_ws RX5 TX5 3, w ∈ gT := gT_of (by decide +kernel) (by decide +kernel)
theorem gl6 : ∀ w ∈ u_ws RX6 TX6 11, w ∈ gT := gT_of (by decide +kernel) (by decide +kernel)
theorem gl7 : ∀ w ∈ u_ws RX7 TX7 3, w ∈ gT := gT_of (by decide +kernel) (by decide +kernel)
theorem gl8 : ∀ w ∈ u_ws RX8 TX8 6, w ∈ gT := gT_of (by decide +kernel) (by decide +kernel)
theorem gl9 : ∀ w ∈ u_ws RX9 TX9 28, w ∈ gT := gT_of (by decide +kernel) (by decide +kernel)
theorem gcl_ok {ci : Nat} {q : vw_C} (h : vwCl[ci]? = some q) : (∀ w ∈ u_ws q.1 q.2.1 q.2.2, w ∈ gT) ∧ (∀ k, k < q.2.2 → parseFieldDescriptor (q.2.1 k).2.2.1 = some (gty ci k)) ∧ ∀ a, a < q.2.2 → ∀ b, b < q.2.2 → a ≠ b → (q.2.1 a).2.1 ≠ (q.2.1 b).2.1 := by
  match ci, h with
  | 0, h => cases h; exact ⟨gl0, tyX0_ok, nmX0⟩
  | 1, h => cases h; exact ⟨gl1, tyX1_ok, nmX1⟩
  | 2, h => cases h; exact ⟨gl2, tyX2_ok, nmX2⟩
  | 3, h => cases h; exact ⟨gl3, tyX3_ok, nmX3⟩
  | 4, h => cases h; exact ⟨gl4, tyX4_ok, nmX4⟩
  | 5, h => cases h; exact ⟨gl5, tyX5_ok, nmX5⟩
  | 6, h => cases h; exact ⟨gl6, tyX6_ok, nmX6⟩
  | 7, h => cases h; exact ⟨gl7, tyX7_ok, nmX7⟩
  | 8, h => cases h; exact ⟨gl8, tyX8_ok, nmX8⟩
  | 9, h => cases h; exact ⟨gl9, tyX9_ok, nmX9⟩
  | k + 10, h => simp [vwCl] at h
/-- a value that a field of the type may hold -/
def gfit (ty : FieldType) (v : Value) : Prop := match v with
  | .int x => ty = .int ∨ (ty = .boolean ∧ (x = 0 ∨ x = 1))
  | .long _ => ty = .long
  | .ref _ => ty.isReference = true
  | _ => False
theorem gfit.ok {ty : FieldType} {v : Value} (h : gfit ty v) (b sb : Nat) : narrow ty (gv b sb v) = gv b sb v ∧ fits ty (gv b sb v) = true := by
  cases v with
  | int x =>
    rcases h with rfl | ⟨rfl, rfl | rfl⟩
    · exact ⟨rfl, rfl⟩
    · exact ⟨rfl, rfl⟩
    · exact ⟨rfl, rfl⟩
  | long x =>
    have h : ty = .long := h
    subst h
    exact ⟨rfl, rfl⟩
  | ref i =>
    have h : ty.isReference = true := h
    cases ty <;> first | exact ⟨rfl, rfl⟩ | (simp [FieldType.isReference] at h)
  | _ => exact h.elim
/-- whether the field may be written here: it isn't final, or this is its own class's constructor -/
def gfin (ci k : Nat) (own : String) (ini : Bool) : Prop := ∃ (C : String) (T : u_T) (n : Nat), vwCl[ci]? = some (C, T, n) ∧ ((T k).2.2.2 = false ∨ ((T k).2.2.2 = true ∧ ini = true ∧ (T k).1 = own))
section GoHeap
variable {sc : Option (Nat × (Nat → Int32))} {own : String} {cc : ByteArray} {nL : Nat} {ret : Option FieldType} {ini : Bool} {d pc : Nat} {L : List (Option Value)} {st : List Value} {h : gH} {N bc bs : Nat} {Q : Option Value → gH → Nat → Prop}
theorem go_get {idx ci k b0 : Nat} {fs : List Value} {v : Value} (hd : decode cc pc = .ok (.getfield idx, 3)) (hf : gFl own idx ci k) (hb : b0 < N) (he : h b0 = .inr (ci, fs)) (hv : fs[k]? = some v) (kk : Go sc own cc nL ret ini d (pc + 3) L (v :: st) h N bc bs Q) : Go sc own cc nL ret ini d pc L (.ref b0 :: st) h N bc bs Q := by
  intro l D cA b sb p e R s m args below meth c mc ms Qw X hE ls H locs cells slots hg hP hS hc hs
  obtain ⟨hx, hb1, hml, hr, hlk, hin, hown, hts, hK, -⟩ := id X
  obtain ⟨C, T, n, hcl, hk, hw⟩ := hf
  obtain ⟨hin1, -, -⟩ := gcl_ok hcl
  obtain ⟨r, h1, cell, q1, q2, q3, q4⟩ := hP.at hb he
  have hr : r = (C, T, n) := Option.some.inj (h1.symm.trans hcl)
  subst hr
  obtain ⟨hSl, hfc, kC, hkC, hkind⟩ := hK.1 ci _ hcl
  obtain ⟨cf, kf, fi, f, hi, hsl⟩ := hSl k hk
  refine W.getf hx hb1 hown (hts _ hw) hi (u_facts hfc hkC (u_lays hts hin1 hk) hi).1 q1 (by rw [q3]; exact fun h => by cases h) (v := gv b sb v) ?_ rfl rfl hd (kk l D cA b sb p e R s m args below meth c mc ms Qw X hE ls H locs cells slots hg hP hS hc hs)
  rw [hsl, q4 k hk]
  simp [vp_V, hv]
theorem go_put {idx ci k b0 : Nat} {fs fs' : List Value} {v : Value} (hd : decode cc pc = .ok (.putfield idx, 3)) (hf : gFl own idx ci k) (hb : b0 < N) (he : h b0 = .inr (ci, fs)) (hn : k < fs.length) (hv : gfit (gty ci k) v) (hfin : gfin ci k own ini) (hfs : fs.set k v = fs') (kk : Go sc own cc nL ret ini d (pc + 3) L st (hset h b0 (.inr (ci, fs'))) N bc bs Q) : Go sc own cc nL ret ini d pc L (v :: .ref b0 :: st) h N bc bs Q := by
  intro l D cA b sb p e R s m args below meth c mc ms Qw X hE ls H locs cells slots hg hP hS hc hs
  obtain ⟨hx, hb1, hml, hr, hlk, hini, hown, hts, hK, -⟩ := id X
  obtain ⟨C, T, n, hcl, hk, hw⟩ := hf
  obtain ⟨hin1, hty, hnm⟩ := gcl_ok hcl
  subst hfs
  obtain ⟨r, h1, cell, q1, q2, q3, q4⟩ := hP.at hb he
  have hr : r = (C, T, n) := Option.some.inj (h1.symm.trans hcl)
  subst hr
  have hKc := hK.1 ci _ hcl
  obtain ⟨hSl, hfc, kC, hkC, hkind⟩ := id hKc
  have hap : ∀ x y, x < n → y < n → x ≠ y → (D.2 ci) x ≠ (D.2 ci) y := by
    intro x y hx' hy hne
    obtain ⟨_, _, _, fa, hia, ea⟩ := hSl x hx'
    obtain ⟨_, _, _, fb, hib, eb⟩ := hSl y hy
    rw [← ea, ← eb]
    refine u_apart (u_lays hts hin1 hx') (u_lays hts hin1 hy) hia hib ?_
    rw [(State.fieldFound?_type hia (hty x hx')).1, (State.fieldFound?_type hib (hty y hy)).1]
    exact hnm x hx' y hy hne
  obtain ⟨cf, kf, fi, f, hi, hsl⟩ := hSl k hk
  obtain ⟨hn1, hn2⟩ := hv.ok b sb
  have hst := (u_facts hfc hkC (u_lays hts hin1 hk) hi).1
  have hlay := hts _ (hin1 _ (u_in_lay hk))
  have hend : ∀ H' : Heap, H'[b + b0]? = some (cell.setSlot f.slot (gv b sb v)) → H'.size = H.size → (∀ q, q ≠ b + b0 → H'[q]? = H[q]?) → W p l e R s m args below meth c H' (locs ++ [⟨b + b0, f.slot⟩]) cells slots Qw (F0 m (pc + 3) ls (st.map (gv b sb))) := by
    intro H' e1 e2 e3
    rw [hsl] at e1 ⊢
    refine kk l D cA b sb p e R s m args below meth c mc ms Qw X hE ls H' _ cells slots hg (hP.set e2 e3 ?_) (hS.put e3) hc hs
    refine ⟨_, hcl, t_OB.to (V := updV (vp_V (fs.map (gv b sb))) k (gv b sb v)) ⟨_, e1, q2, q3, t_set q4 hap hk _⟩ (fun j _ => ?_)⟩
    rw [List.map_set]
    exact vp_updV_set (by rw [List.length_map]; exact hn) _ j
  obtain ⟨C', T', n', hcl', hfin⟩ := hfin
  cases hcl.symm.trans hcl'
  unfold u_lay at hlay
  rcases hfin with hfin | ⟨hfin, hi1, hdecl⟩
  · rw [if_neg (by rw [hfin]; decide)] at hlay
    have h6 := u_store hfc hkC hkind hlay hi (hty k hk) hn1 hn2
    exact W.putK hx hb1 (f := f) ⟨hown, hts _ hw, ⟨_, _, _, hi⟩, hst⟩ (by rw [q2]; exact h6) q1 q3 (by rw [hsl]; exact k2_hasslot (q4 k hk)) rfl rfl hd hend
  · rw [if_pos hfin] at hlay
    have hcf : m.cls = cf := by
      obtain ⟨_, _, c', _, _, _, -, -, hf', -, -, -, hown2, -⟩ := Cond.laysFinal_spec hlay
      have e1 : c' = cf := by have := hi.symm.trans hf'; simp at this; exact this.1.symm
      rw [hdecl] at hown2
      rw [← e1]; exact Option.some.inj (hown.symm.trans hown2)
    have h6 := u_fits hfc hkC hkind (Or.inr hlay) hi (hty k hk) hn1 hn2
    exact W.putFinK hx hb1 hown (hts _ hw) hi hst hcf (hini hi1) (by rw [q2]; exact h6) q1 q3 (by rw [hsl]; exact k2_hasslot (q4 k hk)) rfl rfl hd hend
/-! arrays -/
theorem go_iald {n k b0 : Nat} {f : Nat → Int32} {i : Int32} (hd : decode cc pc = .ok (.iaload, 1)) (hb : b0 < N) (he : h b0 = .inl (0, n, .inl f)) (hi : i = nI k) (hk : k < n) (hn : n < 2 ^ 31) (kk : Go sc own cc nL ret ini d (pc + 1) L (.int (f k) :: st) h N bc bs Q) : Go sc own cc nL ret ini d pc L (.int i :: .ref b0 :: st) h N bc bs Q := by
  intro l D cA b sb p e R s m args below meth c mc ms Qw X hE ls H locs cells slots hg hP hS hc hs
  subst hi
  have hk2 : (nI k).toNatClampNeg = k := nI_clamp (by omega)
  exact W.iald (v := .int (f k)) X.1 X.2.1 (hP.at hb he) ((X.2.2.2.2.2.2.2.2.1.2.1 0 (by decide)).1 n (fun j => .int (f j))) (fun q => by cases q) (by show ¬ (nI k < 0 ∨ (arrV _ _ _).slots.size ≤ _); rw [arrV_size]; exact vp_in_nI hk hn) (by rw [hk2]; exact arrV_read _ _ hk) rfl rfl hd (kk l D cA b sb p e R s m args below meth c mc ms Qw X hE ls H locs cells slots hg hP hS hc hs)
theorem go_lald {n k b0 : Nat} {f : Nat → Int64} {i : Int32} (hd : decode cc pc = .ok (.laload, 1)) (hb : b0 < N) (he : h b0 = .inl (1, n, .inr (.inl f))) (hi : i = nI k) (hk : k < n) (hn : n < 2 ^ 31) (kk : Go sc own cc nL ret ini d (pc + 1) L (.long (f k) :: st) h N bc bs Q) : Go sc own cc nL ret ini d pc L (.int i :: .ref b0 :: st) h N bc bs Q := by
  intro l D cA b sb p e R s m args below meth c mc ms Qw X hE ls H locs cells slots hg hP hS hc hs
  subst hi
  have hk2 : (nI k).toNatClampNeg = k := nI_clamp (by omega)
  exact W.lald (v := .long (f k)) X.1 X.2.1 (hP.at hb he) ((X.2.2.2.2.2.2.2.2.1.2.1 1 (by decide)).1 n (fun j => .long (f j))) (fun q => by cases q) (by show ¬ (nI k < 0 ∨ (arrV _ _ _).slots.size ≤ _); rw [arrV_size]; exact vp_in_nI hk hn) (by rw [hk2]; exact arrV_read _ _ hk) rfl rfl hd (kk l D cA b sb p e R s m args below meth c mc ms Qw X hE ls H locs cells slots hg hP hS hc hs)
theorem go_zald {n k b0 : Nat} {f : Nat → Int32} {i : Int32} (hd : decode cc pc = .ok (.baload, 1)) (hb : b0 < N) (he : h b0 = .inl (2, n, .inl f)) (hi : i = nI k) (hk : k < n) (hn : n < 2 ^ 31) (kk : Go sc own cc nL ret ini d (pc + 1) L (.int (f k) :: st) h N bc bs Q) : Go sc own cc nL ret ini d pc L (.int i :: .ref b0 :: st) h N bc bs Q := by
  intro l D cA b sb p e R s m args below meth c mc ms Qw X hE ls H locs cells slots hg hP hS hc hs
  subst hi
  have hk2 : (nI k).toNatClampNeg = k := nI_clamp (by omega)
  exact W.zald (v := .int (f k)) X.1 X.2.1 (hP.at hb he) ((X.2.2.2.2.2.2.2.2.1.2.1 2 (by decide)).1 n (fun j => .int (f j))) (fun q => by cases q) (by show ¬ (nI k < 0 ∨ (arrV _ _ _).slots.size ≤ _); rw [arrV_size]; exact vp_in_nI hk hn) (by rw [hk2]; exact arrV_read _ _ hk) rfl rfl hd (kk l D cA b sb p e R s m args below meth c mc ms Qw X hE ls H locs cells slots hg hP hS hc hs)
theorem gA_ref {kd : Nat} (h3 : 3 ≤ kd) (h7 : kd < 7) : (gA kd).isReference = true := by
  rcases (by omega : kd = 3 ∨ kd = 4 ∨ kd = 5 ∨ kd = 6) with rfl | rfl | rfl | rfl <;> rfl
theorem go_aald {n k b0 kd a : Nat} {f : Nat → Option Nat} {i : Int32} (hd : decode cc pc = .ok (.aaload, 1)) (hb : b0 < N) (he : h b0 = .inl (kd, n, .inr (.inr (.inr (.inr f))))) (h3 : 3 ≤ kd) (h7 : kd < 7) (hi : i = nI k) (hk : k < n) (hn : n < 2 ^ 31) (hf : f k = some a) (kk : Go sc own cc nL ret ini d (pc + 1) L (.ref a :: st) h N bc bs Q) : Go sc own cc nL ret ini d pc L (.int i :: .ref b0 :: st) h N bc bs Q := by
  intro l D cA b sb p e R s m args below meth c mc ms Qw X hE ls H locs cells slots hg hP hS hc hs
  subst hi
  have hk2 : (nI k).toNatClampNeg = k := nI_clamp (by omega)
  exact W.aald (v := .ref (b + a)) (ty := gA kd) X.1 X.2.1 (hP.at hb he) ((X.2.2.2.2.2.2.2.2.1.2.1 kd h7).1 n (fun j => va_rf ((f j).map (fun i => b + i)))) (gA_ref h3 h7) (fun q => by cases q) (by show ¬ (nI k < 0 ∨ (arrV _ _ _).slots.size ≤ _); rw [arrV_size]; exact vp_in_nI hk hn) (by rw [hk2]; exact (arrV_read _ (fun j => va_rf ((f j).map (fun i => b + i))) hk).trans (by simp only [hf]; rfl)) rfl rfl hd (kk l D cA b sb p e R s m args below meth c mc ms Qw X hE ls H locs cells slots hg hP hS hc hs)
theorem go_iast {n k b0 : Nat} {f : Nat → Int32} {i x : Int32} (hd : decode cc pc = .ok (.iastore, 1)) (hb : b0 < N) (he : h b0 = .inl (0, n, .inl f)) (hi : i = nI k) (hk : k < n) (hn : n < 2 ^ 31) (kk : Go sc own cc nL ret ini d (pc + 1) L st (hset h b0 (.inl (0, n, .inl (upd f k x)))) N bc bs Q) : Go sc own cc nL ret ini d pc L (.int x :: .int i :: .ref b0 :: st) h N bc bs Q := by
  intro l D cA b sb p e R s m args below meth c mc ms Qw X hE ls H locs cells slots hg hP hS hc hs
  subst hi
  have hk2 : (nI k).toNatClampNeg = k := nI_clamp (by omega)
  refine W.iast X.1 X.2.1 (hP.at hb he) ((X.2.2.2.2.2.2.2.2.1.2.1 0 (by decide)).1 n (fun j => .int (f j))) (fun q => by cases q) (by show ¬ (nI k < 0 ∨ (arrV _ _ _).slots.size ≤ _); rw [arrV_size]; exact vp_in_nI hk hn) rfl rfl hd fun H1 e1 z oq => ?_
  refine kk l D cA b sb p e R s m args below meth c mc ms Qw X hE ls H1 _ cells slots hg (hP.set z oq ?_) (hS.put oq) hc hs
  show H1[b + b0]? = some (vp_cell _ _)
  rw [e1, hk2]
  show some ((vp_cell (cA 0) (n, .inl f)).setSlot k _) = some (vp_cell (cA 0) (n, .inl (upd f k x)))
  rw [vp_cell_i, vp_cell_i, arrV_store]
  congr 2
  funext q
  by_cases hq : q = k <;> simp [updV, upd, hq]
theorem go_last {n k b0 : Nat} {f : Nat → Int64} {i : Int32} {x : Int64} (hd : decode cc pc = .ok (.lastore, 1)) (hb : b0 < N) (he : h b0 = .inl (1, n, .inr (.inl f))) (hi : i = nI k) (hk : k < n) (hn : n < 2 ^ 31) (kk : Go sc own cc nL ret ini d (pc + 1) L st (hset h b0 (.inl (1, n, .inr (.inl (vp_updL f k x))))) N bc bs Q) : Go sc own cc nL ret ini d pc L (.long x :: .int i :: .ref b0 :: st) h N bc bs Q := by
  intro l D cA b sb p e R s m args below meth c mc ms Qw X hE ls H locs cells slots hg hP hS hc hs
  subst hi
  have hk2 : (nI k).toNatClampNeg = k := nI_clamp (by omega)
  refine W.last X.1 X.2.1 (hP.at hb he) ((X.2.2.2.2.2.2.2.2.1.2.1 1 (by decide)).1 n (fun j => .long (f j))) (fun q => by cases q) (by show ¬ (nI k < 0 ∨ (arrV _ _ _).slots.size ≤ _); rw [arrV_size]; exact vp_in_nI hk hn) rfl rfl hd fun H1 e1 z oq => ?_
  refine kk l D cA b sb p e R s m args below meth c mc ms Qw X hE ls H1 _ cells slots hg (hP.set z oq ?_) (hS.put oq) hc hs
  show H1[b + b0]? = some (vp_cell _ _)
  rw [e1, hk2]
  show some ((vp_cell (cA 1) (n, .inr (.inl f))).setSlot k _) = some (vp_cell (cA 1) (n, .inr (.inl (vp_updL f k x))))
  rw [vp_cell_l, vp_cell_l, arrV_store]
  congr 2
  funext q
  by_cases hq : q = k <;> simp [updV, vp_updL, hq]
theorem go_zast {n k b0 : Nat} {f : Nat → Int32} {i x : Int32} (hd : decode cc pc = .ok (.bastore, 1)) (hb : b0 < N) (he : h b0 = .inl (2, n, .inl f)) (hi : i = nI k) (hk : k < n) (hn : n < 2 ^ 31) (h01 : x = 0 ∨ x = 1) (kk : Go sc own cc nL ret ini d (pc + 1) L st (hset h b0 (.inl (2, n, .inl (upd f k x)))) N bc bs Q) : Go sc own cc nL ret ini d pc L (.int x :: .int i :: .ref b0 :: st) h N bc bs Q := by
  intro l D cA b sb p e R s m args below meth c mc ms Qw X hE ls H locs cells slots hg hP hS hc hs
  subst hi
  have hk2 : (nI k).toNatClampNeg = k := nI_clamp (by omega)
  have hnar : narrow .boolean (.int x) = .int x := by rcases h01 with rfl | rfl <;> rfl
  refine W.zast X.1 X.2.1 (hP.at hb he) ((X.2.2.2.2.2.2.2.2.1.2.1 2 (by decide)).1 n (fun j => .int (f j))) (fun q => by cases q) (by show ¬ (nI k < 0 ∨ (arrV _ _ _).slots.size ≤ _); rw [arrV_size]; exact vp_in_nI hk hn) rfl rfl hd fun H1 e1 z oq => ?_
  refine kk l D cA b sb p e R s m args below meth c mc ms Qw X hE ls H1 _ cells slots hg (hP.set z oq ?_) (hS.put oq) hc hs
  show H1[b + b0]? = some (vp_cell _ _)
  rw [e1, hk2, hnar]
  show some ((vp_cell (cA 2) (n, .inl f)).setSlot k _) = some (vp_cell (cA 2) (n, .inl (upd f k x)))
  rw [vp_cell_i, vp_cell_i, arrV_store]
  congr 2
  funext q
  by_cases hq : q = k <;> simp [updV, upd, hq]
theorem go_alen {n b0 kd : Nat} {a : (Nat → Int32) ⊕ (Nat → Int64) ⊕ (Nat → UInt32) ⊕ (Nat → UInt64) ⊕ (Nat → Option Nat)} (hd : decode cc pc = .ok (.arraylength, 1)) (hb : b0 < N) (he : h b0 = .inl (kd, n, a)) (h7 : kd < 7) (kk : Go sc own cc nL ret ini d (pc + 1) L (.int (nI n) :: st) h N bc bs Q) : Go sc own cc nL ret ini d pc L (.ref b0 :: st) h N bc bs Q := by
  intro l D cA b sb p e R s m args below meth c mc ms Qw X hE ls H locs cells slots hg hP hS hc hs
  have hat := hP.at hb he
  have kk2 := kk l D cA b sb p e R s m args below meth c mc ms Qw X hE ls H locs cells slots hg hP hS hc hs
  have hA := (X.2.2.2.2.2.2.2.2.1.2.1 kd h7).1 n
  obtain f | f | f | f | f := a
  · exact W.alen (n := Int32.ofNat n) X.1 X.2.1 hat (hA (fun j => .int (f j))) (by show (arrV _ _ _).slots.size.toInt32 = _; rw [arrV_size] <;> rfl) rfl rfl hd kk2
  · exact W.alen (n := Int32.ofNat n) X.1 X.2.1 hat (hA (fun j => .long (f j))) (by show (arrV _ _ _).slots.size.toInt32 = _; rw [arrV_size] <;> rfl) rfl rfl hd kk2
  · exact W.alen (n := Int32.ofNat n) X.1 X.2.1 hat (hA (fun j => .float (f j))) (by show (arrV _ _ _).slots.size.toInt32 = _; rw [arrV_size] <;> rfl) rfl rfl hd kk2
  · exact W.alen (n := Int32.ofNat n) X.1 X.2.1 hat (hA (fun j => .double (f j))) (by show (arrV _ _ _).slots.size.toInt32 = _; rw [arrV_size] <;> rfl) rfl rfl hd kk2
  · exact W.alen (n := Int32.ofNat n) X.1 X.2.1 hat (hA (fun j => va_rf ((f j).map (fun i => b + i)))) (by show (arrV _ _ _).slots.size.toInt32 = _; rw [arrV_size] <;> rfl) rfl rfl hd kk2
/-- an object into an array of its class: kind 3 of class 0, kind 4 of class 5 -/
theorem go_aast {n k b0 kd a ci : Nat} {f : Nat → Option Nat} {fs : List Value} {i : Int32} (hd : decode cc pc = .ok (.aastore, 1)) (hb : b0 < N) (he : h b0 = .inl (kd, n, .inr (.inr (.inr (.inr f))))) (hkd : (kd = 3 ∧ ci = 0) ∨ (kd = 4 ∧ ci = 5)) (ha : a < N) (hea : h a = .inr (ci, fs)) (hi : i = nI k) (hk : k < n) (hn : n < 2 ^ 31) (kk : Go sc own cc nL ret ini d (pc + 1) L st (hset h b0 (.inl (kd, n, .inr (.inr (.inr (.inr (va_up f k (some a)))))))) N bc bs Q) : Go sc own cc nL ret ini d pc L (.ref a :: .int i :: .ref b0 :: st) h N bc bs Q := by
  intro l D cA b sb p e R s m args below meth c mc ms Qw X hE ls H locs cells slots hg hP hS hc hs
  subst hi
  have hk2 : (nI k).toNatClampNeg = k := nI_clamp (by omega)
  have hK := X.2.2.2.2.2.2.2.2.1
  have h7 : kd < 7 := by omega
  have hcl : ∃ r : vw_C, vwCl[ci]? = some r ∧ gA kd = .object r.1 := by
    rcases hkd with ⟨rfl, rfl⟩ | ⟨rfl, rfl⟩
    · exact ⟨(RX0, TX0, 5), rfl, rfl⟩
    · exact ⟨(RX5, TX5, 3), rfl, rfl⟩
  obtain ⟨r, hr1, hr2⟩ := hcl
  obtain ⟨r', hr', cellV, g1, g2, g3, -⟩ := hP.at ha hea
  have hcls := (hK.1 ci r hr1).2
  have hra := (hK.2.1 kd h7).2
  rw [hr2] at hra
  obtain ⟨kA, comp, k1, k2, k3, -⟩ := hra
  have hcomp : comp = D.1 ci := Option.some.inj (k3.symm.trans hcls.1)
  subst hcomp
  obtain ⟨kC, hkC, -⟩ := id hcls.2
  refine W.aast X.1 X.2.1 (hP.at hb he) (fun q h => by cases h) (fun h => by cases h) k1 k2 rfl hkC ⟨(nI_pos (by omega)), by show _ < (arrV _ _ _).slots.size; rw [arrV_size, hk2]; exact hk⟩ g1 (fun q h => by rw [g3] at h; cases h) (by rw [g2]; exact hkC) (by rw [g2]; exact va_assign hcls) rfl rfl hd fun H1 e1 z oq => ?_
  refine kk l D cA b sb p e R s m args below meth c mc ms Qw X hE ls H1 _ cells slots hg (hP.set z oq ?_) (hS.put oq) hc hs
  show H1[b + b0]? = some (vp_cell _ _)
  rw [e1, hk2]
  show some ((vp_cell (cA kd) (n, .inr (.inr (.inr (.inr (fun j => (f j).map (fun i => b + i))))))).setSlot k _) = some (vp_cell (cA kd) (n, .inr (.inr (.inr (.inr (fun j => (va_up f k (some a) j).map (fun i => b + i)))))))
  rw [vp_cell_q, vp_cell_q, arrV_store]
  congr 2
  funext q
  by_cases hq : q = k <;> simp [updV, va_up, va_rf, hq]
/-! the script -/
theorem go_sld {n k : Nat} {xs : Nat → Int32} {x : UInt64} {i : Int32} (hd : decode cc pc = .ok (.iaload, 1)) (hsc : sc = some (n, xs)) (hi : i = nI k) (hk : k < n) (hn : n < 2 ^ 31) (kk : Go sc own cc nL ret ini d (pc + 1) L (.int (xs k) :: st) h N bc bs Q) : Go sc own cc nL ret ini d pc L (.int i :: .double x :: st) h N bc bs Q := by
  intro l D cA b sb p e R s m args below meth c mc ms Qw X hE ls H locs cells slots hg hP hS hc hs
  subst hi
  have hk2 : (nI k).toNatClampNeg = k := nI_clamp (by omega)
  obtain ⟨⟨scr, h1, h2, h3, h4, h5⟩, hlt, -⟩ := X.2.2.2.2.2.2.2.2.2.2 n xs hsc
  exact W.iald (v := .int (xs k)) X.1 X.2.1 (by rw [hS.1 sb hlt]; exact h1) h2 h3 (by rw [h4]; exact vp_in_nI hk hn) (by rw [hk2]; exact h5 k hk) rfl rfl hd (kk l D cA b sb p e R s m args below meth c mc ms Qw X hE ls H locs cells slots hg hP hS hc hs)
theorem go_slen {n : Nat} {xs : Nat → Int32} {x : UInt64} (hd : decode cc pc = .ok (.arraylength, 1)) (hsc : sc = some (n, xs)) (kk : Go sc own cc nL ret ini d (pc + 1) L (.int (nI n) :: st) h N bc bs Q) : Go sc own cc nL ret ini d pc L (.double x :: st) h N bc bs Q := by
  intro l D cA b sb p e R s m args below meth c mc ms Qw X hE ls H locs cells slots hg hP hS hc hs
  obtain ⟨⟨scr, h1, h2, h3, h4, h5⟩, hlt, -⟩ := X.2.2.2.2.2.2.2.2.2.2 n xs hsc
  exact W.alen (n := Int32.ofNat n) X.1 X.2.1 (by rw [hS.1 sb hlt]; exact h1) h2 (by rw [h4] <;> rfl) rfl rfl hd (kk l D cA b sb p e R s m args below meth c mc ms Qw X hE ls H locs cells slots hg hP hS hc hs)
end GoHeap
