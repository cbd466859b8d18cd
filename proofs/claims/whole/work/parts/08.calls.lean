/-! ===== calls ===== -/
theorem Option_map_toList {α β : Type} (f : α → β) (v : Option α) : (v.map f).toList = v.toList.map f := by cases v <;> rfl
theorem g_cat_le (b sb : Nat) (v : Value) : (gv b sb v).category ≤ v.category := by cases v <;> simp [gv, Value.category]
theorem g_cats (b sb : Nat) : ∀ st : List Value, ((st.map (gv b sb)).map fun v => v.category).sum ≤ (st.map fun v => v.category).sum
  | [] => Nat.le_refl _
  | v :: st => by
    have h1 := g_cats b sb st
    have h2 := g_cat_le b sb v
    simp only [List.map_cons, List.sum_cons]
    omega
/-- the locals with which a method begins -/
def gent : List Value → List (Option Value)
  | [] => []
  | .long x :: r => some (.long x) :: none :: gent r
  | v :: r => some v :: gent r
def gnd : List Value → Bool
  | [] => true
  | .double _ :: _ => false
  | _ :: r => gnd r
theorem gent_len (b sb : Nat) : ∀ As : List Value, gnd As = true → (lg_sl (As.map (gv b sb))).length = (gent As).length
  | [], _ => rfl
  | v :: r, h => by
    cases v <;> first | (simp [gnd] at h; done) | (simp only [gnd] at h; have ih := gent_len b sb r h; simp [lg_sl, gent, gv, Value.category] at ih ⊢; omega)
theorem gent_at (b sb : Nat) : ∀ (As : List Value), gnd As = true → ∀ (k i : Nat) (v : Value), (gent As)[i]? = some (some v) → (k + i, gv b sb v) ∈ lv_args k (As.map (gv b sb))
  | [], _, k, i, v, h => by simp [gent] at h
  | w :: r, hn, k, i, v, h => by
    have key : ∀ (x : Value), (∃ z, x = .long z) → ∀ (i : Nat) (v : Value), (some x :: none :: gent r)[i]? = some (some v) → gnd r = true → (k + i, gv b sb v) ∈ (k, gv b sb x) :: lv_args (k + 2) (r.map (gv b sb)) := by
      intro x _ i v h hr
      match i, h with
      | 0, h => simp at h; subst h; exact List.mem_cons_self
      | 1, h => simp at h
      | i + 2, h =>
        refine List.mem_cons_of_mem _ ?_
        have := gent_at b sb r hr (k + 2) i v (by simpa using h)
        rwa [show k + 2 + i = k + (i + 2) by omega] at this
    have key1 : ∀ (x : Value) (i : Nat) (v : Value), (some x :: gent r)[i]? = some (some v) → gnd r = true → (k + i, gv b sb v) ∈ (k, gv b sb x) :: lv_args (k + 1) (r.map (gv b sb)) := by
      intro x i v h hr
      match i, h with
      | 0, h => simp at h; subst h; exact List.mem_cons_self
      | i + 1, h =>
        refine List.mem_cons_of_mem _ ?_
        have := gent_at b sb r hr (k + 1) i v (by simpa using h)
        rwa [show k + 1 + i = k + (i + 1) by omega] at this
    cases w with
    | long x => exact key (.long x) ⟨x, rfl⟩ i v h hn
    | double x => simp [gnd] at hn
    | int x => exact key1 (.int x) i v h hn
    | float x => exact key1 (.float x) i v h hn
    | ref x => exact key1 (.ref x) i v h hn
    | null => exact key1 .null i v h hn
    | retAddr x => exact key1 (.retAddr x) i v h hn
/-- a method's contract out of its walk -/
theorem Run.of {d : Nat} {y : MethodName} {bytes : ByteArray} {maxL n : Nat} {ret : Option FieldType} {ini : Bool} {As : List Value} {h : gH} {N mc ms : Nat} {Q : Option Value → gH → Nat → Prop} {L : List (Option Value)} (hm : gMd y bytes maxL ret n) (hi : ini = true → y.name = "<init>") (hnd : gnd As = true) (hlen : (gent As).length ≤ maxL) (hL : gent As ++ List.replicate (maxL - (gent As).length) none = L)
    (hgo : Go none y.cls bytes maxL ret ini d 0 L [] h N mc ms Q) : Run d y bytes maxL ret As h N mc ms Q := by
  intro l D cA b sb
  refine Met.ofW (cc := bytes) (maxL := maxL) (ret := ret) hm.2.2.2.1 rfl ?_
  intro p e s m args below meth c s₁ B hml hv
  obtain ⟨rfl, hP, hK⟩ := hv
  have hts := atoms_spec (ws := Cond.code y bytes maxL ret :: gT) B.pre
  have hown : s.vm.findClass y.cls = some m.cls := findClass_of_methodNamed B.named
  have hlocks := B.notSynchronized
  have hnm : meth.name = y.name := (name_of_methodNamed B.named B.method).1
  have X : gX none D cA b sb y.cls bytes maxL ret ini d mc ms p (headSpec (Cond.code y bytes maxL ret :: gT) { frames := d, cells := mc, slots := ms, locals := 33 * d }).room s m (As.map (gv b sb)).toArray meth c :=
    ⟨B.exec, B.bytes, hml, B.returns, hlocks, fun h => hnm.trans (hi h), hown, fun w hw => hts w (List.mem_cons_of_mem _ hw), hK, ⟨Nat.le_refl _, Nat.le_refl _, Nat.le_refl _, Nat.le_refl _⟩, fun n xs h => by cases h⟩
  have hl0 := lv_entry (As.map (gv b sb)) (n := maxL) (by rw [gent_len b sb As hnd]; exact hlen)
  rw [lg_entry_eq]
  refine hgo l D cA b sb p e _ s m _ below meth c mc ms _ X ?_ _ s.heap [] 0 0 ?_ hP ⟨fun _ _ => rfl, fun _ h => by cases h⟩ (by omega) (by omega)
  · intro v pcr ls H locs h' N' cells slots hq hP' hS' hc hs hR
    refine W.widen hc hs ?_
    have fin : ∀ t : State, t.heap = H → s.WarmedH t.vm → gQc D cA b sb Q (As.map (gv b sb)).toArray s (.returned (v.map (gv b sb))) t := fun t ht _ => ⟨v, h', N', rfl, hq, by rw [ht]; exact hP', fun q hq => by rw [ht]; exact hS'.1 q hq⟩
    rcases hR with ⟨rfl, hr, hd⟩ | ⟨x, ty, rfl, hr, hn, hd⟩ | ⟨x, rfl, hr, hd⟩ | ⟨i, C, rfl, hr, hd⟩
    · exact W.vret B.exec B.bytes (B.returns.trans hr) fin hS'.2 hd hlocks
    · exact W.zret B.exec B.bytes (B.returns.trans hr) hn fin hS'.2 hd hlocks
    · exact W.lret B.exec B.bytes (B.returns.trans hr) fin hS'.2 hd hlocks
    · exact W.aret B.exec B.bytes (B.returns.trans hr) (Or.inl ⟨C, rfl⟩) (Or.inr ⟨b + i, rfl⟩) fin hS'.2 hd hlocks
  · refine ⟨hl0.1, hl0.2.1, fun i v hv => ?_⟩
    have hv2 : (gent As)[i]? = some (some v) := by
      rw [← hL] at hv
      by_cases hi2 : i < (gent As).length
      · rw [List.getElem?_append_left hi2] at hv; exact hv
      · rw [List.getElem?_append_right (by omega)] at hv
        have := List.eq_of_mem_replicate (List.mem_of_getElem? hv)
        cases this
    have := hl0.2.2 _ (gent_at b sb As hnd 0 i v hv2)
    simpa using this
theorem gT_all {s : State} {args : Array Value} {y : MethodName} {bytes : ByteArray} {maxL : Nat} {ret : Option FieldType} (hts : ∀ w ∈ gT, w.before args s = true) (hc : Cond.code y bytes maxL ret ∈ gT) : ∀ w ∈ (Cond.code y bytes maxL ret :: gT), ∀ (a' : Array Value) (U : State), s.WarmedH U.vm → w.before a' U = true := by
  intro w hw a' U hW
  have hw2 : w ∈ gT := by
    rcases List.mem_cons.mp hw with rfl | h
    · exact hc
    · exact h
  exact word_at hW (gT_good w hw2) (hts w hw2)
section GoCalls
variable {sc : Option (Nat × (Nat → Int32))} {own : String} {cc : ByteArray} {nL : Nat} {ret : Option FieldType} {ini : Bool} {d pc : Nat} {L : List (Option Value)} {st : List Value} {h : gH} {N bc bs : Nat} {Q : Option Value → gH → Nat → Prop}
variable {y : MethodName} {bytes : ByteArray} {maxL n idx : Nat} {ret' : Option FieldType} {As rest : List Value} {mc' ms' : Nat} {Q' : Option Value → gH → Nat → Prop}
/-- what is common to all calls -/
theorem go_call {free : Addr → Prop} (hrun : ∀ (l : Launch) (D : va_G) (cA : Nat → ClassId) (b sb : Nat) (p : Program) (e : Env) (R : Room) (s : State) (m : MethodId) (args : Array Value) (below : List Frame) (meth : Method) (c : Code) (mc ms : Nat) (ls : Array Slot) (H : Heap) (locs : List Loc) (cells slots : Nat), gX sc D cA b sb own cc nL ret ini (d + 1) mc ms p R s m args meth c → gL b sb nL L ls → gP D cA b sb h N H → cells + mc' ≤ R.cells → slots + ms' ≤ R.slots → ∃ a, va_Run p l e R s m args below meth c H locs cells slots mc' ms' (F0 m pc ls (st.map (gv b sb))) (rest.map (gv b sb)) (gQc D cA b sb Q' a) (fun q => b ≤ q))
    (hmc : mc' ≤ bc) (hms : ms' ≤ bs) (k : ∀ (v : Option Value) (h' : gH) (N' : Nat), Q' v h' N' → Go sc own cc nL ret ini (d + 1) (pc + 3) L (v.toList ++ rest) h' N' (bc - mc') (bs - ms') Q) : Go sc own cc nL ret ini (d + 1) pc L st h N bc bs Q := by
  intro l D cA b sb p e R s m args below meth c mc ms Qw X hE ls H locs cells slots hg hP hS hc hs
  have hR := X.2.2.2.2.2.2.2.2.2.1
  obtain ⟨a, run⟩ := hrun l D cA b sb p e R s m args below meth c mc ms ls H locs cells slots X hg hP (by have := hR.2.2.1; omega) (by have := hR.2.2.2; omega)
  intro T hT XS
  obtain ⟨v, st₀, t, T', Lc, h0, X', hL, e1, e2, ⟨v0, h', N', hv, hq, hP', hk⟩, stp⟩ := run T hT XS
  have hv : v = v0.map (gv b sb) := by cases hv; rfl
  subst hv
  rw [h0] at hk
  have W' := k v0 h' N' hq l D cA b sb p e R s m args below meth c mc ms Qw X hE ls t.heap (locs ++ Lc) (cells + mc') (slots + ms') hg hP' (hS.call hk hL) (by omega) (by omega)
  obtain ⟨t2, a1, b1⟩ := W' T' e1 X'
  refine ⟨t2, stp t2 ?_, b1⟩
  rw [Option_map_toList, ← List.map_append]
  exact a1
theorem go_iv {b0 ci : Nat} {fs : List Value} (hd : decode cc pc = .ok (.invokevirtual idx, 3)) (hm : gMd y bytes maxL ret' n) (hi : gIv own idx y) (hrun : Run d y bytes maxL ret' (.ref b0 :: As) h N mc' ms' Q') (hst : As.reverse ++ .ref b0 :: rest = st) (hn : As.length = n) (hb : b0 < N) (he : h b0 = .inr (ci, fs)) (hci : (vwCl[ci]?).map (fun q => q.1) = some y.cls) (hw : (rest.map fun v => v.category).sum ≤ 8) (hmc : mc' ≤ bc) (hms : ms' ≤ bs)
    (k : ∀ (v : Option Value) (h' : gH) (N' : Nat), Q' v h' N' → Go sc own cc nL ret ini (d + 1) (pc + 3) L (v.toList ++ rest) h' N' (bc - mc') (bs - ms') Q) : Go sc own cc nL ret ini (d + 1) pc L st h N bc bs Q := by
  refine go_call (free := fun _ => True) (mc' := mc') (ms' := ms') (rest := rest) (Q' := Q') ?_ hmc hms k
  intro l D cA b sb p e R s m args below meth c mc ms ls H locs cells slots X hg hP h1 h2
  obtain ⟨hx, hb1, hml, hr, hlk, hini, hown, hts, hK, hR, -⟩ := id X
  have hR1 := hR.1
  have hR2 := hR.2.1
  have hm5 := hm.2.2.2.2
  subst hst
  refine ⟨_, va_runV (As := As.map (gv b sb)) (b := b + b0) (C := y.cls) (Ts := gT) (n := n) ⟨hx, hb1, hml, hown, hts⟩ (hrun l D cA b sb) ⟨⟨rfl, rfl, hR1, (by show 8 + (maxL + 11) + 33 * d ≤ R.locals; omega), gT_all hts hm.1, List.mem_cons_self, hts _ hm.1, hts _ hm.2.1, ⟨hm.2.2.1.1, hm.2.2.1.2.1⟩, (fun sig hsig => ?_), hts _ hi.1⟩, hts _ hi.2.1, hts _ hi.2.2⟩ ⟨gPc.blind _ _ _ _ _ _ _, ?_, fun U hU hW => ⟨rfl, by rw [hU]; exact hP, hK.warm hW⟩⟩ rfl (by rw [List.length_map]; exact hn) hg.1 (by simp [gv]) ?_ hd ⟨h1, h2⟩⟩
  · have h3 := hm.2.2.1.2.2
    rw [hsig] at h3
    exact (Option.some.inj h3).symm
  · obtain ⟨r, hr1, cell, g1, g2, g3, -⟩ := hP.at hb he
    refine ⟨cell, g1, by rw [g3]; rfl, ?_⟩
    rw [g2]
    rw [hr1] at hci
    have : r.1 = y.cls := Option.some.inj hci
    rw [← this]
    exact (hK.1 ci r hr1).2.1
  · refine lv_room ?_
    exact Nat.le_trans (g_cats b sb rest) hw
theorem go_is (hd : decode cc pc = .ok (.invokestatic idx, 3)) (hm : gMd y bytes maxL ret' n) (hi : gIs own idx y) (hrun : Run d y bytes maxL ret' As h N mc' ms' Q') (hst : As.reverse ++ rest = st) (hn : As.length = n) (hw : (rest.map fun v => v.category).sum ≤ 8) (hmc : mc' ≤ bc) (hms : ms' ≤ bs)
    (k : ∀ (v : Option Value) (h' : gH) (N' : Nat), Q' v h' N' → Go sc own cc nL ret ini (d + 1) (pc + 3) L (v.toList ++ rest) h' N' (bc - mc') (bs - ms') Q) : Go sc own cc nL ret ini (d + 1) pc L st h N bc bs Q := by
  refine go_call (free := fun _ => True) (mc' := mc') (ms' := ms') (rest := rest) (Q' := Q') ?_ hmc hms k
  intro l D cA b sb p e R s m args below meth c mc ms ls H locs cells slots X hg hP h1 h2
  obtain ⟨hx, hb1, hml, hr, hlk, hini, hown, hts, hK, hR, -⟩ := id X
  have hR1 := hR.1
  have hR2 := hR.2.1
  have hm5 := hm.2.2.2.2
  subst hst
  refine ⟨_, va_runS (As := As.map (gv b sb)) (Ts := gT) (n := n) ⟨hx, hb1, hml, hown, hts⟩ (hrun l D cA b sb) ⟨⟨rfl, rfl, hR1, (by show 8 + (maxL + 11) + 33 * d ≤ R.locals; omega), gT_all hts hm.1, List.mem_cons_self, hts _ hm.1, hts _ hm.2.1, ⟨hm.2.2.1.1, hm.2.2.1.2.1⟩, (fun sig hsig => ?_), hts _ hi.1⟩, hts _ hi.2⟩ ⟨gPc.blind _ _ _ _ _ _ _, fun U hU hW => ⟨rfl, by rw [hU]; exact hP, hK.warm hW⟩⟩ rfl (by rw [List.length_map]; exact hn) hg.1 (by simp) ?_ hd ⟨h1, h2⟩⟩
  · have h3 := hm.2.2.1.2.2
    rw [hsig] at h3
    exact (Option.some.inj h3).symm
  · exact lv_room (Nat.le_trans (g_cats b sb rest) hw)
theorem go_isN (hd : decode cc pc = .ok (.invokestatic idx, 3)) (hm : gMd y bytes maxL ret' n) (hi : gIsN own idx y) (hrun : Run d y bytes maxL ret' As h N mc' ms' Q') (hst : As.reverse ++ rest = st) (hn : As.length = n) (hw : (rest.map fun v => v.category).sum ≤ 8) (hmc : mc' ≤ bc) (hms : ms' ≤ bs)
    (k : ∀ (v : Option Value) (h' : gH) (N' : Nat), Q' v h' N' → Go sc own cc nL ret ini (d + 1) (pc + 3) L (v.toList ++ rest) h' N' (bc - mc') (bs - ms') Q) : Go sc own cc nL ret ini (d + 1) pc L st h N bc bs Q := by
  refine go_call (free := fun _ => True) (mc' := mc') (ms' := ms') (rest := rest) (Q' := Q') ?_ hmc hms k
  intro l D cA b sb p e R s m args below meth c mc ms ls H locs cells slots X hg hP h1 h2
  obtain ⟨hx, hb1, hml, hr, hlk, hini, hown, hts, hK, hR, -⟩ := id X
  have hR1 := hR.1
  have hR2 := hR.2.1
  have hm5 := hm.2.2.2.2
  obtain ⟨⟨host, hho⟩, hsta⟩ := hi
  subst hst
  refine ⟨_, va_runSN (As := As.map (gv b sb)) (Ts := gT) (n := n) (host := host) ⟨hx, hb1, hml, hown, hts⟩ (hrun l D cA b sb) ⟨⟨⟨rfl, rfl, hR1, (by show 8 + (maxL + 11) + 33 * d ≤ R.locals; omega), gT_all hts hm.1, List.mem_cons_self⟩, hts _ hm.1, hts _ hm.2.1, ⟨hm.2.2.1.1, hm.2.2.1.2.1⟩, (fun sig hsig => ?_), va_Nw.use rfl (hK.2.2.1 _ hho)⟩, hts _ hsta, trivial⟩ ⟨gPc.blind _ _ _ _ _ _ _, fun U hU hW => ⟨rfl, by rw [hU]; exact hP, hK.warm hW⟩⟩ rfl (by rw [List.length_map]; exact hn) hg.1 (by simp) ?_ hd ⟨h1, h2⟩⟩
  · have h3 := hm.2.2.1.2.2
    rw [hsig] at h3
    exact (Option.some.inj h3).symm
  · exact lv_room (Nat.le_trans (g_cats b sb rest) hw)
theorem go_ii {b0 : Nat} (hd : decode cc pc = .ok (.invokespecial idx, 3)) (hm : gMd y bytes maxL none n) (hi : gIi own idx y) (hrun : Run d y bytes maxL none (.ref b0 :: As) h N mc' ms' Q') (hst : As.reverse ++ .ref b0 :: rest = st) (hn : As.length = n) (hw : (rest.map fun v => v.category).sum ≤ 8) (hmc : mc' ≤ bc) (hms : ms' ≤ bs)
    (k : ∀ (v : Option Value) (h' : gH) (N' : Nat), Q' v h' N' → Go sc own cc nL ret ini (d + 1) (pc + 3) L (v.toList ++ rest) h' N' (bc - mc') (bs - ms') Q) : Go sc own cc nL ret ini (d + 1) pc L st h N bc bs Q := by
  refine go_call (free := fun _ => True) (mc' := mc') (ms' := ms') (rest := rest) (Q' := Q') ?_ hmc hms k
  intro l D cA b sb p e R s m args below meth c mc ms ls H locs cells slots X hg hP h1 h2
  obtain ⟨hx, hb1, hml, hr, hlk, hini, hown, hts, hK, hR, -⟩ := id X
  have hR1 := hR.1
  have hR2 := hR.2.1
  have hm5 := hm.2.2.2.2
  subst hst
  refine ⟨_, va_runI (As := As.map (gv b sb)) (b := b + b0) (Ts := gT) (n := n) ⟨hx, hb1, hml, hown, hts⟩ (hrun l D cA b sb) ⟨⟨rfl, rfl, hR1, (by show 8 + (maxL + 11) + 33 * d ≤ R.locals; omega), gT_all hts hm.1, List.mem_cons_self, hts _ hm.1, hts _ hm.2.1, ⟨hm.2.2.1.1, hm.2.2.1.2.1⟩, (fun sig hsig => ?_), hts _ hi.1⟩, hi.2.2, hts _ hi.2.1⟩ ⟨gPc.blind _ _ _ _ _ _ _, fun U hU hW => ⟨rfl, by rw [hU]; exact hP, hK.warm hW⟩⟩ rfl (by rw [List.length_map]; exact hn) hg.1 (by simp [gv]) ?_ hd ⟨h1, h2⟩⟩
  · have h3 := hm.2.2.1.2.2
    rw [hsig] at h3
    exact (Option.some.inj h3).symm
  · exact lv_room (Nat.le_trans (g_cats b sb rest) hw)
theorem go_iiN {b0 : Nat} (hd : decode cc pc = .ok (.invokespecial idx, 3)) (hm : gMd y bytes maxL none n) (hi : gIiN own idx y) (hrun : Run d y bytes maxL none (.ref b0 :: As) h N mc' ms' Q') (hst : As.reverse ++ .ref b0 :: rest = st) (hn : As.length = n) (hw : (rest.map fun v => v.category).sum ≤ 8) (hmc : mc' ≤ bc) (hms : ms' ≤ bs)
    (k : ∀ (v : Option Value) (h' : gH) (N' : Nat), Q' v h' N' → Go sc own cc nL ret ini (d + 1) (pc + 3) L (v.toList ++ rest) h' N' (bc - mc') (bs - ms') Q) : Go sc own cc nL ret ini (d + 1) pc L st h N bc bs Q := by
  refine go_call (free := fun _ => True) (mc' := mc') (ms' := ms') (rest := rest) (Q' := Q') ?_ hmc hms k
  intro l D cA b sb p e R s m args below meth c mc ms ls H locs cells slots X hg hP h1 h2
  obtain ⟨hx, hb1, hml, hr, hlk, hini, hown, hts, hK, hR, -⟩ := id X
  have hR1 := hR.1
  have hR2 := hR.2.1
  have hm5 := hm.2.2.2.2
  obtain ⟨⟨host, hho⟩, hins, hy1⟩ := hi
  subst hst
  refine ⟨_, va_runIN (As := As.map (gv b sb)) (b := b + b0) (Ts := gT) (n := n) (host := host) ⟨hx, hb1, hml, hown, hts⟩ (hrun l D cA b sb) ⟨⟨⟨rfl, rfl, hR1, (by show 8 + (maxL + 11) + 33 * d ≤ R.locals; omega), gT_all hts hm.1, List.mem_cons_self⟩, hts _ hm.1, hts _ hm.2.1, ⟨hm.2.2.1.1, hm.2.2.1.2.1⟩, (fun sig hsig => ?_), va_Nw.use rfl (hK.2.2.1 _ hho)⟩, hy1, hts _ hins⟩ ⟨gPc.blind _ _ _ _ _ _ _, fun U hU hW => ⟨rfl, by rw [hU]; exact hP, hK.warm hW⟩⟩ rfl (by rw [List.length_map]; exact hn) hg.1 (by simp [gv]) ?_ hd ⟨h1, h2⟩⟩
  · have h3 := hm.2.2.1.2.2
    rw [hsig] at h3
    exact (Option.some.inj h3).symm
  · exact lv_room (Nat.le_trans (g_cats b sb rest) hw)
/-- Object's constructor -/
theorem go_obj {b0 : Nat} (hd : decode cc pc = .ok (.invokespecial idx, 3)) (hw1 : Cond.methodLink own idx objectInit ∈ gT) (hw : (st.map fun v => v.category).sum ≤ 8) (k : Go sc own cc nL ret ini (d + 1) (pc + 3) L st h N bc bs Q) : Go sc own cc nL ret ini (d + 1) pc L (.ref b0 :: st) h N bc bs Q := by
  intro l D cA b sb p e R s m args below meth c mc ms Qw X hE ls H locs cells slots hg hP hS hc hs
  obtain ⟨hx, hb1, hml, hr, hlk, hini, hown, hts, hK, hR, -⟩ := id X
  refine W.objInit hx hb1 hown (hts _ hw1) (hts _ o_inst) (hts _ o_code) rfl (hg.1.trans hml.symm) rfl hd (by have := hR.1; omega) ?_ (k l D cA b sb p e R s m args below meth c mc ms Qw X hE ls H locs cells slots hg hP hS hc hs)
  show 2 * 0 + _ + 12 ≤ _
  have h1 := g_cats b sb st
  have h2 := hR.2.1
  omega
theorem go_max {x y' : Int32} (hd : decode cc pc = .ok (.invokestatic idx, 3)) (hi : gIs own idx yJ9_max_7cf53) (hw : (st.map fun v => v.category).sum ≤ 8) (k : Go sc own cc nL ret ini (d + 1) (pc + 3) L (.int (if x < y' then y' else x) :: st) h N bc bs Q) : Go sc own cc nL ret ini (d + 1) pc L (.int y' :: .int x :: st) h N bc bs Q := by
  intro l D cA b sb p e R s m args below meth c mc ms Qw X hE ls H locs cells slots hg hP hS hc hs
  obtain ⟨hx, hb1, hml, hr, hlk, hini, hown, hts, hK, hR, -⟩ := id X
  have hR1 := hR.1
  have hR2 := hR.2.1
  have hR3 := hR.2.2.1
  have hR4 := hR.2.2.2
  refine va_mmax hx hb1 (hml.trans hg.1.symm) hown (hts _ hi.1) (hts _ hi.2) (hts _ in_J9) (hts _ x_max) (by omega) ?_ (by omega) (by omega) hd (k l D cA b sb p e R s m args below meth c mc ms Qw X hE ls H locs cells slots hg hP hS hc hs)
  have h1 := g_cats b sb st
  omega
theorem go_min {x y' : Int32} (hd : decode cc pc = .ok (.invokestatic idx, 3)) (hi : gIs own idx yJ9_min_7cf53) (hw : (st.map fun v => v.category).sum ≤ 8) (k : Go sc own cc nL ret ini (d + 1) (pc + 3) L (.int (if y' < x then y' else x) :: st) h N bc bs Q) : Go sc own cc nL ret ini (d + 1) pc L (.int y' :: .int x :: st) h N bc bs Q := by
  intro l D cA b sb p e R s m args below meth c mc ms Qw X hE ls H locs cells slots hg hP hS hc hs
  obtain ⟨hx, hb1, hml, hr, hlk, hini, hown, hts, hK, hR, -⟩ := id X
  have hR1 := hR.1
  have hR2 := hR.2.1
  have hR3 := hR.2.2.1
  have hR4 := hR.2.2.2
  refine va_mmin hx hb1 (hml.trans hg.1.symm) hown (hts _ hi.1) (hts _ hi.2) (hts _ in_J9) (hts _ x_min) (by omega) ?_ (by omega) (by omega) hd (k l D cA b sb p e R s m args below meth c mc ms Qw X hE ls H locs cells slots hg hP hS hc hs)
  have h1 := g_cats b sb st
  omega
end GoCalls
