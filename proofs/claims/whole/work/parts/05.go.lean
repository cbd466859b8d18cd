/-! ===== THE PICTURE: cells by numbers; a method's run as a statement about pictures (Go: from a place in its code; Run: a whole call) ===== -/
/-- a cell of the picture: an array by its kind, or an object by its class's number and its fields -/
abbrev gC : Type := (Nat × vp_A) ⊕ (Nat × List Value)
abbrev gH : Type := Nat → gC
/-- a value of the picture as the machine has it: cell i lies at b + i; a double stands for the script -/
def gv (b sb : Nat) : Value → Value
  | .ref i => .ref (b + i)
  | .double _ => .ref sb
  | v => v
def ga (b : Nat) : vp_A → vp_A
  | (n, .inr (.inr (.inr (.inr f)))) => (n, .inr (.inr (.inr (.inr (fun j => (f j).map (fun i => b + i))))))
  | a => a
def ge (b sb : Nat) (cA : Nat → ClassId) : gC → va_E
  | .inl (k, a) => .inl (cA k, ga b a)
  | .inr (ci, fs) => .inr (ci, fs.map (gv b sb))
/-- the kinds of array -/
def gA : Nat → FieldType
  | 0 => .int
  | 1 => .long
  | 2 => .boolean
  | 3 => .object RX0
  | 4 => .object RX5
  | 5 => .array .int
  | _ => .array .long
def gP (D : va_G) (cA : Nat → ClassId) (b sb : Nat) (h : gH) (N : Nat) (H : Heap) : Prop := H.size = b + N ∧ ∀ i, i < N → va_at D vwCl (b + i, ge b sb cA (h i)) H
def gAA (t : FieldType) (U : State) : Prop := (Cond.arrayOver (.array t)).before #[] U = true
theorem gAA.moved {t : FieldType} {u U : State} (hvm : u.vm.Alike U.vm) (h : gAA t u) : gAA t U := by
  obtain ⟨comp, c, k, h1, h2, h3, h4, h5⟩ := arrayOverA_spec h
  obtain ⟨k', hk', he⟩ := hvm.2.2 _ _ h3
  have hb : U.vm.bare = u.vm.bare := by first | exact hvm.bare_eq | exact hvm.bare_eq.symm
  have hi : (U.vm.classes.findIdx? fun (x : Class) => match x.kind with | .array component _ => component == comp | _ => false) = some c := by
    refine (va_idx_bare U.vm comp).symm.trans ?_
    rw [hb]
    exact (va_idx_bare u.vm comp).trans h2
  have hkind : k'.kind = .array comp (.array t) := by rw [he]; exact h4
  have f1 : U.vm.findClass (FieldType.array t).toString = some comp := by rw [hvm.findClass]; exact h1
  have f2 : U.vm.findClass ("[" ++ (FieldType.array t).toString) = some c := by rw [hvm.findClass]; exact h5
  unfold gAA Cond.before Cond.holds
  simp only [Cond.value]
  rw [f1, Option.bind_some]
  refine (congrArg (fun o : Option Nat => (o.bind (fun c => (U.vm.classes[c]?).map fun (k : Class) => match k.kind with | .array _ ty => decide (ty = FieldType.array t) && decide (U.vm.findClass ("[" ++ (FieldType.array t).toString) = some c) | _ => false) == some true)) hi).trans ?_
  simp [hk', hkind, f2]
/-- what the tables say, in every state of the run -/
def gK (D : va_G) (cA : Nat → ClassId) (U : State) : Prop :=
  (∀ (c : Nat) (q : vw_C), vwCl[c]? = some q → u_Kn U q.1 q.2.1 q.2.2 (D.1 c) (D.2 c)) ∧
  (∀ k, k < 7 → ArrOfT U (cA k) (gA k) ∧ va_RA U (cA k) (gA k)) ∧
  (∀ q ∈ gNs, va_Nw (.methodLinkNest q.1 q.2.1 q.2.2.1 q.2.2.2) U) ∧
  (va_AO RX0 U ∧ va_AO RX5 U) ∧ (gAA .int U ∧ gAA .long U)
theorem gK.warm {D : va_G} {cA : Nat → ClassId} {s U : State} (hW : s.WarmedH U.vm) (h : gK D cA s) : gK D cA U :=
  ⟨fun c q hq => u_Kn_moved hW.alike (h.1 c q hq), fun k hk => ⟨arrOfT_moved hW.alike (h.2.1 k hk).1, (h.2.1 k hk).2.moved hW.alike⟩, fun q hq => (h.2.2.1 q hq).warmM hW,
    ⟨h.2.2.2.1.1.moved hW.alike, h.2.2.2.1.2.moved hW.alike⟩, ⟨h.2.2.2.2.1.moved hW.alike, h.2.2.2.2.2.moved hW.alike⟩⟩
theorem gK.same {D : va_G} {cA : Nat → ClassId} {s U : State} (hv : s.vm = U.vm) (h : gK D cA s) : gK D cA U := by
  have hA : s.vm.Alike U.vm := by rw [hv]; exact Vm.Alike.refl _
  exact ⟨fun c q hq => u_Kn_moved hA (h.1 c q hq), fun k hk => ⟨arrOfT_moved hA (h.2.1 k hk).1, (h.2.1 k hk).2.moved hA⟩, fun q hq => (h.2.2.1 q hq).same rfl hv,
    ⟨h.2.2.2.1.1.moved hA, h.2.2.2.1.2.moved hA⟩, ⟨h.2.2.2.2.1.moved hA, h.2.2.2.2.2.moved hA⟩⟩
def gS (b : Nat) (H0 H : Heap) (locs : List Loc) : Prop := (∀ q : Nat, q < b → H[q]? = H0[q]?) ∧ ∀ l ∈ locs, b ≤ l.base
/-- the locals of the picture -/
def gL (b sb nL : Nat) (L : List (Option Value)) (ls : Array Slot) : Prop := ls.size = nL ∧ lv_wf ls ∧ ∀ (i : Nat) (v : Value), L[i]? = some (some v) → ls[i]? = some (.val (gv b sb v))
/-- where a method ends, and with what -/
def gR (cc : ByteArray) (ret : Option FieldType) (pc : Nat) (v : Option Value) : Prop :=
  (v = none ∧ ret = none ∧ decode cc pc = .ok (.return_, 1)) ∨
  (∃ (x : Int32) (ty : FieldType), v = some (.int x) ∧ ret = some ty ∧ narrow ty (.int x) = .int x ∧ decode cc pc = .ok (.ireturn, 1)) ∨
  (∃ x : Int64, v = some (.long x) ∧ ret = some .long ∧ decode cc pc = .ok (.lreturn, 1)) ∨
  (∃ (i : Nat) (C : String), v = some (.ref i) ∧ ret = some (.object C) ∧ decode cc pc = .ok (.areturn, 1))
def gX (sc : Option (Nat × (Nat → Int32))) (D : va_G) (cA : Nat → ClassId) (b sb : Nat) (own : String) (cc : ByteArray) (nL : Nat) (ret : Option FieldType) (ini : Bool) (d mc ms : Nat) (p : Program) (R : Room) (s : State) (m : MethodId) (args : Array Value) (meth : Method) (c : Code) : Prop :=
  p.tables.exec = Jvm.exec ∧ c.code = cc ∧ c.maxLocals = nL ∧ meth.sig.returnType = ret ∧ meth.locks = false ∧ (ini = true → meth.name = "<init>") ∧ s.vm.findClass own = some m.cls ∧ (∀ w ∈ gT, w.before args s = true) ∧ gK D cA s ∧
  (d ≤ R.frames ∧ 33 * d ≤ R.locals ∧ mc ≤ R.cells ∧ ms ≤ R.slots) ∧ (∀ (n : Nat) (xs : Nat → Int32), sc = some (n, xs) → va_X sb n xs s s.heap ∧ sb < b ∧ sb < s.heap.size)
/-- from the place pc, with locals L, stack st, heap h of N cells and room for bc cells of bs slots more, the method ends, and Q says how -/
def Go (sc : Option (Nat × (Nat → Int32))) (own : String) (cc : ByteArray) (nL : Nat) (ret : Option FieldType) (ini : Bool) (d pc : Nat) (L : List (Option Value)) (st : List Value) (h : gH) (N bc bs : Nat) (Q : Option Value → gH → Nat → Prop) : Prop :=
  ∀ (l : Launch) (D : va_G) (cA : Nat → ClassId) (b sb : Nat) (p : Program) (e : Env) (R : Room) (s : State) (m : MethodId) (args : Array Value) (below : List Frame) (meth : Method) (c : Code) (mc ms : Nat) (Qw : State → Prop),
    gX sc D cA b sb own cc nL ret ini d mc ms p R s m args meth c →
    (∀ (v : Option Value) (pcr : Nat) (ls : Array Slot) (H : Heap) (locs : List Loc) (h' : gH) (N' cells slots : Nat), Q v h' N' → gP D cA b sb h' N' H → gS b s.heap H locs → cells ≤ mc → slots ≤ ms → gR cc ret pcr v → W p l e R s m args below meth c H locs cells slots Qw (F0 m pcr ls (v.toList.map (gv b sb)))) →
    ∀ (ls : Array Slot) (H : Heap) (locs : List Loc) (cells slots : Nat), gL b sb nL L ls → gP D cA b sb h N H → gS b s.heap H locs → cells + bc ≤ mc → slots + bs ≤ ms → W p l e R s m args below meth c H locs cells slots Qw (F0 m pc ls (st.map (gv b sb)))
def gPc (D : va_G) (cA : Nat → ClassId) (b sb : Nat) (As : List Value) (h : gH) (N : Nat) : Array Value → State → Prop := fun av U => av = (As.map (gv b sb)).toArray ∧ gP D cA b sb h N U.heap ∧ gK D cA U
def gQc (D : va_G) (cA : Nat → ClassId) (b sb : Nat) (Q : Option Value → gH → Nat → Prop) : Array Value → State → Outcome → State → Prop := fun _ st oc t => ∃ (v : Option Value) (h' : gH) (N' : Nat), oc = .returned (v.map (gv b sb)) ∧ Q v h' N' ∧ gP D cA b sb h' N' t.heap ∧ ∀ q : Nat, q < b → t.heap[q]? = st.heap[q]?
/-- a call of y with the arguments As at the picture h of N cells: it returns, Q says with what; it makes at most mc cells of ms slots; d calls deep -/
def Run (d : Nat) (y : MethodName) (bytes : ByteArray) (maxL : Nat) (ret : Option FieldType) (As : List Value) (h : gH) (N mc ms : Nat) (Q : Option Value → gH → Nat → Prop) : Prop :=
  ∀ (l : Launch) (D : va_G) (cA : Nat → ClassId) (b sb : Nat), Met l y (.code y bytes maxL ret :: gT) { frames := d, cells := mc, slots := ms, locals := 33 * d } (gPc D cA b sb As h N) (gQc D cA b sb Q) mc ms (fun q => b ≤ q)
theorem gPc.blind (D : va_G) (cA : Nat → ClassId) (b sb : Nat) (As : List Value) (h : gH) (N : Nat) : FrameBlind (gPc D cA b sb As h N) := fun _ U g mk q => ⟨q.1, q.2.1, gK.same (s := U) (U := U.calling g mk _) rfl q.2.2⟩
theorem Run.mono {d : Nat} {y : MethodName} {bytes : ByteArray} {maxL : Nat} {ret : Option FieldType} {As : List Value} {h : gH} {N mc ms : Nat} {Q Q' : Option Value → gH → Nat → Prop} (H : Run d y bytes maxL ret As h N mc ms Q) (hq : ∀ v h' N', Q v h' N' → Q' v h' N') : Run d y bytes maxL ret As h N mc ms Q' := by
  intro l D cA b sb p e a1 a2 a3 s m args below a4 a5 a6 a7
  obtain ⟨k, o, h1, h2, h3, ⟨v, h', N', g1, g2, g3⟩, h5⟩ := H l D cA b sb p e a1 a2 a3 s m args below a4 a5 a6 a7
  exact ⟨k, o, h1, h2, h3, ⟨v, h', N', g1, hq v h' N' g2, g3⟩, h5⟩
/-! the locals -/
def gclr : Option Value → Option Value
  | some (.long _) => none
  | some (.double _) => none
  | x => x
/-- a value of one word is stored -/
def gset1 : List (Option Value) → Nat → Value → List (Option Value)
  | [], _, _ => []
  | _ :: r, 0, v => some v :: r
  | some (.long _) :: r, 1, v => none :: gset1 r 0 v
  | some (.double _) :: r, 1, v => none :: gset1 r 0 v
  | x :: r, i + 1, v => x :: gset1 r i v
/-- one of two words -/
def gset2 : List (Option Value) → Nat → Value → List (Option Value)
  | [], _, _ => []
  | [_], 0, v => [some v]
  | _ :: _ :: r, 0, v => some v :: none :: r
  | some (.long _) :: r, 1, v => none :: gset2 r 0 v
  | some (.double _) :: r, 1, v => none :: gset2 r 0 v
  | x :: r, i + 1, v => x :: gset2 r i v
theorem gv_cat {b sb : Nat} {v : Value} (h : (gv b sb v).category = 2) : ∃ x, v = .long x := by
  cases v <;> first | exact ⟨_, rfl⟩ | (simp [gv, Value.category] at h)
theorem gset1_at : ∀ (L : List (Option Value)) (i : Nat) (v : Value) (j : Nat) (w : Value), (gset1 L i v)[j]? = some (some w) → (j = i ∧ w = v) ∨ (j ≠ i ∧ L[j]? = some (some w) ∧ ¬ (j + 1 = i ∧ ∃ x, w = .long x))
  | [], i, v, j, w, h => by simp [gset1] at h
  | x :: r, 0, v, j, w, h => by
    simp only [gset1] at h
    cases j with
    | zero => simp at h; exact Or.inl ⟨rfl, h.symm⟩
    | succ j => simp at h; exact Or.inr ⟨by omega, by simpa using h, by omega⟩
  | x :: r, i + 1, v, j, w, h => by
    have key : ∃ y, gset1 (x :: r) (i + 1) v = y :: gset1 r i v ∧ (y = none ∨ (y = x ∧ ¬ (i = 0 ∧ ∃ z, x = some (.long z)))) := by
      cases i with
      | zero =>
        cases x with
        | none => exact ⟨none, by simp [gset1], Or.inl rfl⟩
        | some z =>
          cases z with
          | long _ => exact ⟨none, by simp [gset1], Or.inl rfl⟩
          | double _ => exact ⟨none, by simp [gset1], Or.inl rfl⟩
          | _ => exact ⟨_, by simp only [gset1], Or.inr ⟨rfl, by rintro ⟨-, q, hq⟩; cases hq⟩⟩
      | succ i =>
        refine ⟨x, ?_, Or.inr ⟨rfl, by omega⟩⟩
        cases x with
        | none => simp [gset1]
        | some z => cases z <;> simp [gset1]
    obtain ⟨y, e, hy⟩ := key
    rw [e] at h
    cases j with
    | zero =>
      simp at h
      rcases hy with hy | ⟨hy, hn⟩
      · rw [hy] at h; cases h
      · refine Or.inr ⟨by omega, by simp [← hy, h], ?_⟩
        rintro ⟨q1, z, q2⟩
        exact hn ⟨by omega, z, by rw [← hy, h, q2]⟩
    | succ j =>
      simp at h
      rcases gset1_at r i v j w (by simpa using h) with ⟨q1, q2⟩ | ⟨q1, q2, q3⟩
      · exact Or.inl ⟨by omega, q2⟩
      · exact Or.inr ⟨by omega, by simpa using q2, fun q => q3 ⟨by omega, q.2⟩⟩
theorem gset2_at : ∀ (L : List (Option Value)) (i : Nat) (v : Value) (j : Nat) (w : Value), (gset2 L i v)[j]? = some (some w) → (j = i ∧ w = v) ∨ (j ≠ i ∧ j ≠ i + 1 ∧ L[j]? = some (some w) ∧ ¬ (j + 1 = i ∧ ∃ x, w = .long x))
  | [], i, v, j, w, h => by simp [gset2] at h
  | [x], 0, v, j, w, h => by
    simp only [gset2] at h
    cases j with
    | zero => simp at h; exact Or.inl ⟨rfl, h.symm⟩
    | succ j => simp at h
  | x :: y :: r, 0, v, j, w, h => by
    simp only [gset2] at h
    match j, h with
    | 0, h => simp at h; exact Or.inl ⟨rfl, h.symm⟩
    | 1, h => simp at h
    | j + 2, h => simp at h; exact Or.inr ⟨by omega, by omega, by simpa using h, by omega⟩
  | x :: r, i + 1, v, j, w, h => by
    have key : ∃ y, gset2 (x :: r) (i + 1) v = y :: gset2 r i v ∧ (y = none ∨ (y = x ∧ ¬ (i = 0 ∧ ∃ z, x = some (.long z)))) := by
      cases i with
      | zero =>
        cases x with
        | none => exact ⟨none, by simp [gset2], Or.inl rfl⟩
        | some z =>
          cases z with
          | long _ => exact ⟨none, by simp [gset2], Or.inl rfl⟩
          | double _ => exact ⟨none, by simp [gset2], Or.inl rfl⟩
          | _ => exact ⟨_, by simp only [gset2], Or.inr ⟨rfl, by rintro ⟨-, q, hq⟩; cases hq⟩⟩
      | succ i =>
        refine ⟨x, ?_, Or.inr ⟨rfl, by omega⟩⟩
        cases x with
        | none => simp [gset2]
        | some z => cases z <;> simp [gset2]
    obtain ⟨y, e, hy⟩ := key
    rw [e] at h
    cases j with
    | zero =>
      simp at h
      rcases hy with hy | ⟨hy, hn⟩
      · rw [hy] at h; cases h
      · refine Or.inr ⟨by omega, by omega, by simp [← hy, h], ?_⟩
        rintro ⟨q1, z, q2⟩
        exact hn ⟨by omega, z, by rw [← hy, h, q2]⟩
    | succ j =>
      simp at h
      rcases gset2_at r i v j w (by simpa using h) with ⟨q1, q2⟩ | ⟨q1, q2, q3, q4⟩
      · exact Or.inl ⟨by omega, q2⟩
      · exact Or.inr ⟨by omega, by omega, by simpa using q3, fun q => q4 ⟨by omega, q.2⟩⟩
/-- the picture's locals as the kit lists them -/
def gas (b sb : Nat) (L : List (Option Value)) : List (Nat × Value) := (List.range L.length).filterMap (fun i => match L[i]? with | some (some v) => some (i, gv b sb v) | _ => none)
theorem gas_in {b sb : Nat} {L : List (Option Value)} {i : Nat} {v : Value} (h : L[i]? = some (some v)) : (i, gv b sb v) ∈ gas b sb L := by
  refine List.mem_filterMap.mpr ⟨i, List.mem_range.mpr (List.getElem?_eq_some_iff.mp h).1, ?_⟩
  rw [h]
theorem gL.has {b sb nL : Nat} {L : List (Option Value)} {ls : Array Slot} (h : gL b sb nL L ls) : lv_has ls nL (gas b sb L) := by
  refine ⟨h.1, h.2.1, fun q hq => ?_⟩
  obtain ⟨i, -, hi⟩ := List.mem_filterMap.mp hq
  cases hL : L[i]? with
  | none => rw [hL] at hi; cases hi
  | some x =>
    cases x with
    | none => rw [hL] at hi; cases hi
    | some v =>
      rw [hL] at hi
      cases hi
      exact h.2.2 i v hL
theorem gL.st1 {b sb nL : Nat} {L : List (Option Value)} {i : Nat} {v : Value} {ls' : Array Slot} (h : lv_has ls' nL ((i, gv b sb v) :: (gas b sb L).filter (fun q => !(q.1 == i) && !(q.1 + 1 == i && q.2.category == 2)))) : gL b sb nL (gset1 L i v) ls' := by
  refine ⟨h.1, h.2.1, fun j w hw => ?_⟩
  rcases gset1_at L i v j w hw with ⟨rfl, rfl⟩ | ⟨q1, q2, q3⟩
  · exact h.2.2 _ List.mem_cons_self
  · refine h.2.2 (j, gv b sb w) (List.mem_cons_of_mem _ (List.mem_filter.mpr ⟨gas_in q2, ?_⟩))
    simp only [Bool.and_eq_true, Bool.not_eq_true', beq_eq_false_iff_ne, Bool.and_eq_false_iff]
    refine ⟨q1, ?_⟩
    by_cases hj : j + 1 = i
    · right
      intro hc
      exact q3 ⟨hj, gv_cat hc⟩
    · left; exact hj
theorem gL.st2 {b sb nL : Nat} {L : List (Option Value)} {i : Nat} {v : Value} {ls' : Array Slot} (h : lv_has ls' nL ((i, gv b sb v) :: (gas b sb L).filter (fun q => !(q.1 == i) && (!(q.1 == i + 1) && !(q.1 + 1 == i && q.2.category == 2))))) : gL b sb nL (gset2 L i v) ls' := by
  refine ⟨h.1, h.2.1, fun j w hw => ?_⟩
  rcases gset2_at L i v j w hw with ⟨rfl, rfl⟩ | ⟨q1, q2, q3, q4⟩
  · exact h.2.2 _ List.mem_cons_self
  · refine h.2.2 (j, gv b sb w) (List.mem_cons_of_mem _ (List.mem_filter.mpr ⟨gas_in q3, ?_⟩))
    simp only [Bool.and_eq_true, Bool.not_eq_true', beq_eq_false_iff_ne, Bool.and_eq_false_iff]
    refine ⟨q1, q2, ?_⟩
    by_cases hj : j + 1 = i
    · right
      intro hc
      exact q4 ⟨hj, gv_cat hc⟩
    · left; exact hj
/-- the heap with one cell another -/
def hset (h : gH) (a : Nat) (x : gC) : gH := fun j => if j = a then x else h j
theorem hset_same {h : gH} {a : Nat} {x : gC} : hset h a x a = x := if_pos rfl
theorem hset_ne {h : gH} {a j : Nat} {x : gC} (hj : j ≠ a) : hset h a x j = h j := if_neg hj
theorem gP.at {D : va_G} {cA : Nat → ClassId} {b sb : Nat} {h : gH} {N : Nat} {H : Heap} (hP : gP D cA b sb h N H) {i : Nat} (hi : i < N) {x : gC} (hx : h i = x) : va_at D vwCl (b + i, ge b sb cA x) H := hx ▸ hP.2 i hi
theorem gP.set {D : va_G} {cA : Nat → ClassId} {b sb : Nat} {h : gH} {N : Nat} {H H1 : Heap} (hP : gP D cA b sb h N H) {i : Nat} {x : gC} (hz : H1.size = H.size) (oq : ∀ q : Nat, q ≠ b + i → H1[q]? = H[q]?) (hx : va_at D vwCl (b + i, ge b sb cA x) H1) : gP D cA b sb (hset h i x) N H1 := by
  refine ⟨hz.trans hP.1, fun j hj => ?_⟩
  by_cases e : j = i
  · subst e
    rw [hset_same]
    exact hx
  · rw [hset_ne e]
    exact (hP.2 j hj).kept (oq (b + j) (by omega))
theorem gP.push {D : va_G} {cA : Nat → ClassId} {b sb : Nat} {h : gH} {N : Nat} {H H1 : Heap} (hP : gP D cA b sb h N H) {x : gC} (hz : H1.size = H.size + 1) (oq : ∀ q : Nat, q < H.size → H1[q]? = H[q]?) (hx : va_at D vwCl (b + N, ge b sb cA x) H1) : gP D cA b sb (hset h N x) (N + 1) H1 := by
  refine ⟨by rw [hz, hP.1]; omega, fun j hj => ?_⟩
  by_cases e : j = N
  · subst e
    rw [hset_same]
    exact hx
  · rw [hset_ne e]
    exact (hP.2 j (by omega)).kept (oq (b + j) (by rw [hP.1]; omega))
theorem gS.put {b : Nat} {H0 H H1 : Heap} {locs : List Loc} {a k : Nat} (h : gS b H0 H locs) (oq : ∀ q : Nat, q ≠ b + a → H1[q]? = H[q]?) : gS b H0 H1 (locs ++ [⟨b + a, k⟩]) := by
  refine ⟨fun q hq => ?_, fun l hl => ?_⟩
  · rw [oq q (by omega)]; exact h.1 q hq
  · rcases List.mem_append.mp hl with h1 | h1
    · exact h.2 l h1
    · rw [List.mem_singleton.mp h1]; exact Nat.le_add_right _ _
theorem gS.call {b : Nat} {H0 H H1 : Heap} {locs L : List Loc} (h : gS b H0 H locs) (oq : ∀ q : Nat, q < b → H1[q]? = H[q]?) (hL : ∀ l ∈ L, b ≤ l.base) : gS b H0 H1 (locs ++ L) := by
  refine ⟨fun q hq => by rw [oq q hq]; exact h.1 q hq, fun l hl => ?_⟩
  rcases List.mem_append.mp hl with h1 | h1
  · exact h.2 l h1
  · exact hL l h1
