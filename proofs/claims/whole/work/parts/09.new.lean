/-! ===== new cells, copies of arrays ===== -/
/-- a grid: an array of arrays, all new -/
def hgrid (h : gH) (N n kd : Nat) (x : gC) : gH := fun j => if j = N then .inl (kd, n, .inr (.inr (.inr (.inr (fun i => if i < n then some (N + 1 + i) else none))))) else if N < j ∧ j < N + 1 + n then x else h j
theorem gr_outer (c : ClassId) (N h0 : Nat) : ∀ i : Nat, Jvm.Free.Multi.outerC c N h0 i = arrV c N (fun j => va_rf (if j < i then some (h0 + 1 + j) else none))
  | 0 => by
    show ({ cls := c, slots := Array.replicate N .null, vm := .none } : Cell) = _
    rw [arrV_new]
    refine congrArg (arrV c N) (funext fun j => ?_)
    simp [va_rf]
  | i + 1 => by
    show (Jvm.Free.Multi.outerC c N h0 i).setSlot i (.ref (h0 + 1 + i)) = _
    rw [gr_outer c N h0 i, arrV_store]
    refine congrArg (arrV c N) (funext fun j => ?_)
    by_cases e : j = i
    · subst e
      simp [updV, va_rf]
    · by_cases h : j < i
      · simp [updV, e, h, Nat.lt_succ_of_lt h]
      · simp [updV, e, h, show ¬ j < i + 1 by omega]
section GoNew
variable {sc : Option (Nat × (Nat → Int32))} {own : String} {cc : ByteArray} {nL : Nat} {ret : Option FieldType} {ini : Bool} {d pc : Nat} {L : List (Option Value)} {st : List Value} {h : gH} {N bc bs : Nat} {Q : Option Value → gH → Nat → Prop}
theorem go_new {idx ci n : Nat} {C : String} {T : u_T} {fs : List Value} (hd : decode cc pc = .ok (.new idx, 3)) (hcl : Cond.classLink own idx C ∈ gT) (hc : vwCl[ci]? = some (C, T, n)) (hin : Cond.instantiable C n ∈ gT) (hini : Cond.initialized C ∈ gT) (hfs : ∀ j, j < n → defaultValue (gty ci j) = vp_V fs j) (hg0 : ∀ b sb, fs.map (gv b sb) = fs) (h1 : 1 ≤ bc) (h2 : n ≤ bs) (k : Go sc own cc nL ret ini d (pc + 3) L (.ref N :: st) (hset h N (.inr (ci, fs))) (N + 1) (bc - 1) (bs - n) Q) : Go sc own cc nL ret ini d pc L st h N bc bs Q := by
  intro l D cA b sb p e R s m args below meth c mc ms Qw X hE ls H locs cells slots hg hP hS hcc hs
  obtain ⟨hx, hb1, hml, hr, hlk, hini2, hown, hts, hK, hR, -⟩ := id X
  have hR3 := hR.2.2.1
  have hR4 := hR.2.2.2
  obtain ⟨hin1, hty, -⟩ := gcl_ok hc
  have hKn := hK.1 ci _ hc
  refine W.newcK hx hb1 hown (hts _ hcl) (hts _ hin) (hts _ hini) rfl hd (by omega) (by omega) hKn.2.1 rfl fun H1 kC hkC e1 z1 o1 => ?_
  have hat : va_at D vwCl (b + N, ge b sb cA (.inr (ci, fs))) H1 := by
    refine ⟨_, hc, ?_⟩
    show t_OB (b + N) _ _ _ H1 (vp_V (fs.map (gv b sb)))
    rw [hg0, ← hP.1]
    exact (u_born (gty ci) hts hin1 hKn hkC e1 hty).to hfs
  have W' := k l D cA b sb p e R s m args below meth c mc ms Qw X hE ls H1 locs (cells + 1) (slots + n) hg (hP.push z1 o1 hat) ⟨fun q hq => (o1 q (by rw [hP.1]; omega)).trans (hS.1 q hq), hS.2⟩ (by omega) (by omega)
  rw [hP.1]
  exact W'
theorem go_newI {n : Nat} {i : Int32} (hd : decode cc pc = .ok (.newarray .int, 2)) (hi : i = nI n) (hn : n < 10000) (h1 : 1 ≤ bc) (h2 : n ≤ bs) (k : Go sc own cc nL ret ini d (pc + 2) L (.ref N :: st) (hset h N (.inl (0, n, .inl (fun _ => 0)))) (N + 1) (bc - 1) (bs - n) Q) : Go sc own cc nL ret ini d pc L (.int i :: st) h N bc bs Q := by
  intro l D cA b sb p e R s m args below meth c mc ms Qw X hE ls H locs cells slots hg hP hS hcc hs
  obtain ⟨hx, hb1, hml, hr, hlk, hini2, hown, hts, hK, hR, -⟩ := id X
  have hR3 := hR.2.2.1
  have hR4 := hR.2.2.2
  subst hi
  refine va_newaK (atype := .int) hx hb1 (hts _ ac_int) rfl hd rfl (nI_pos (by omega)) (nI_clamp (by omega)) (by show n * 4 ≤ _; omega) (by omega) (by omega) rfl fun H1 cA' e1 z1 o1 hAr hNm => ?_
  have hc0 : cA' = cA 0 := by
    have := (hK.2.1 0 (by decide)).2
    exact Option.some.inj (hNm.symm.trans this)
  subst hc0
  have hat : va_at D vwCl (b + N, ge b sb cA (.inl (0, n, .inl (fun _ => 0)))) H1 := by
    show H1[b + N]? = some (vp_cell (cA 0) (n, .inl (fun _ => 0)))
    rw [← hP.1]
    exact e1
  have W' := k l D cA b sb p e R s m args below meth c mc ms Qw X hE ls H1 locs (cells + 1) (slots + n) hg (hP.push z1 o1 hat) ⟨fun q hq => (o1 q (by rw [hP.1]; omega)).trans (hS.1 q hq), hS.2⟩ (by omega) (by omega)
  rw [hP.1]
  exact W'
theorem go_newJ {n : Nat} {i : Int32} (hd : decode cc pc = .ok (.newarray .long, 2)) (hi : i = nI n) (hn : n < 10000) (h1 : 1 ≤ bc) (h2 : n ≤ bs) (k : Go sc own cc nL ret ini d (pc + 2) L (.ref N :: st) (hset h N (.inl (1, n, .inr (.inl (fun _ => 0))))) (N + 1) (bc - 1) (bs - n) Q) : Go sc own cc nL ret ini d pc L (.int i :: st) h N bc bs Q := by
  intro l D cA b sb p e R s m args below meth c mc ms Qw X hE ls H locs cells slots hg hP hS hcc hs
  obtain ⟨hx, hb1, hml, hr, hlk, hini2, hown, hts, hK, hR, -⟩ := id X
  have hR3 := hR.2.2.1
  have hR4 := hR.2.2.2
  subst hi
  refine va_newaK (atype := .long) hx hb1 (hts _ ac_long) rfl hd rfl (nI_pos (by omega)) (nI_clamp (by omega)) (by show n * 8 ≤ _; omega) (by omega) (by omega) rfl fun H1 cA' e1 z1 o1 hAr hNm => ?_
  have hc0 : cA' = cA 1 := by
    have := (hK.2.1 1 (by decide)).2
    exact Option.some.inj (hNm.symm.trans this)
  subst hc0
  have hat : va_at D vwCl (b + N, ge b sb cA (.inl (1, n, .inr (.inl (fun _ => 0))))) H1 := by
    show H1[b + N]? = some (vp_cell (cA 1) (n, .inr (.inl (fun _ => 0))))
    rw [← hP.1]
    exact e1
  have W' := k l D cA b sb p e R s m args below meth c mc ms Qw X hE ls H1 locs (cells + 1) (slots + n) hg (hP.push z1 o1 hat) ⟨fun q hq => (o1 q (by rw [hP.1]; omega)).trans (hS.1 q hq), hS.2⟩ (by omega) (by omega)
  rw [hP.1]
  exact W'
theorem go_newZ {n : Nat} {i : Int32} (hd : decode cc pc = .ok (.newarray .boolean, 2)) (hi : i = nI n) (hn : n < 10000) (h1 : 1 ≤ bc) (h2 : n ≤ bs) (k : Go sc own cc nL ret ini d (pc + 2) L (.ref N :: st) (hset h N (.inl (2, n, .inl (fun _ => 0)))) (N + 1) (bc - 1) (bs - n) Q) : Go sc own cc nL ret ini d pc L (.int i :: st) h N bc bs Q := by
  intro l D cA b sb p e R s m args below meth c mc ms Qw X hE ls H locs cells slots hg hP hS hcc hs
  obtain ⟨hx, hb1, hml, hr, hlk, hini2, hown, hts, hK, hR, -⟩ := id X
  have hR3 := hR.2.2.1
  have hR4 := hR.2.2.2
  subst hi
  refine va_newaK (atype := .boolean) hx hb1 (hts _ ac_boolean) rfl hd rfl (nI_pos (by omega)) (nI_clamp (by omega)) (by show n * 1 ≤ _; omega) (by omega) (by omega) rfl fun H1 cA' e1 z1 o1 hAr hNm => ?_
  have hc0 : cA' = cA 2 := by
    have := (hK.2.1 2 (by decide)).2
    exact Option.some.inj (hNm.symm.trans this)
  subst hc0
  have hat : va_at D vwCl (b + N, ge b sb cA (.inl (2, n, .inl (fun _ => 0)))) H1 := by
    show H1[b + N]? = some (vp_cell (cA 2) (n, .inl (fun _ => 0)))
    rw [← hP.1]
    exact e1
  have W' := k l D cA b sb p e R s m args below meth c mc ms Qw X hE ls H1 locs (cells + 1) (slots + n) hg (hP.push z1 o1 hat) ⟨fun q hq => (o1 q (by rw [hP.1]; omega)).trans (hS.1 q hq), hS.2⟩ (by omega) (by omega)
  rw [hP.1]
  exact W'
/-- an array of objects: kind 3 of Charts, kind 4 of Partings -/
theorem go_newQ {idx n kd : Nat} {C : String} {i : Int32} (hd : decode cc pc = .ok (.anewarray idx, 3)) (hcl : Cond.classLink own idx C ∈ gT) (hkd : (kd = 3 ∧ C = RX0) ∨ (kd = 4 ∧ C = RX5)) (hi : i = nI n) (hn : n < 10000) (h1 : 1 ≤ bc) (h2 : n ≤ bs) (k : Go sc own cc nL ret ini d (pc + 3) L (.ref N :: st) (hset h N (.inl (kd, n, .inr (.inr (.inr (.inr (fun _ => none))))))) (N + 1) (bc - 1) (bs - n) Q) : Go sc own cc nL ret ini d pc L (.int i :: st) h N bc bs Q := by
  intro l D cA b sb p e R s m args below meth c mc ms Qw X hE ls H locs cells slots hg hP hS hcc hs
  obtain ⟨hx, hb1, hml, hr, hlk, hini2, hown, hts, hK, hR, -⟩ := id X
  have hR3 := hR.2.2.1
  have hR4 := hR.2.2.2
  subst hi
  have hcl2 : (nI n).toNatClampNeg = n := nI_clamp (by omega)
  have hover : va_AO C s := by
    rcases hkd with ⟨-, rfl⟩ | ⟨-, rfl⟩
    · exact hK.2.2.2.1.1
    · exact hK.2.2.2.1.2
  have hgA : gA kd = .object C ∧ kd < 7 := by
    rcases hkd with ⟨rfl, rfl⟩ | ⟨rfl, rfl⟩
    · exact ⟨rfl, by decide⟩
    · exact ⟨rfl, by decide⟩
  refine W.anew hx hb1 hown (hts _ hcl) (va_AO.use hover) rfl hd rfl (nI_pos (by omega)) (by rw [hcl2]; omega) (by omega) (by rw [hcl2]; omega) fun cA' kA comp f1 f2 f3 f4 => ?_
  have hc0 : cA' = cA kd := by
    have hh := (hK.2.1 kd hgA.2).2
    rw [hgA.1] at hh
    obtain ⟨_, _, -, -, -, hh⟩ := hh
    exact Option.some.inj (f1.symm.trans hh)
  subst hc0
  rw [hcl2]
  generalize hH1 : H.push ({ cls := cA kd, slots := Array.replicate n .null, vm := .none } : Cell) = H1
  have z1 : H1.size = H.size + 1 := by rw [← hH1, Array.size_push]
  have e1 : H1[H.size]? = some (arrV (cA kd) n (fun _ => .null)) := by rw [← hH1, Array.getElem?_push_size, ← arrV_new]
  have o1 : ∀ q : Nat, q < H.size → H1[q]? = H[q]? := fun q hq => by rw [← hH1, Array.getElem?_push, if_neg (Nat.ne_of_lt hq)]
  have hat : va_at D vwCl (b + N, ge b sb cA (.inl (kd, n, .inr (.inr (.inr (.inr (fun _ => none))))))) H1 := by
    show H1[b + N]? = some (vp_cell (cA kd) (n, .inr (.inr (.inr (.inr (fun _ => none))))))
    rw [← hP.1]
    exact e1
  have W' := k l D cA b sb p e R s m args below meth c mc ms Qw X hE ls H1 locs (cells + 1) (slots + n) hg (hP.push z1 o1 hat) ⟨fun q hq => (o1 q (by rw [hP.1]; omega)).trans (hS.1 q hq), hS.2⟩ (by omega) (by omega)
  rw [hP.1]
  exact W'
/-- new T[n][w] -/
theorem go_mna {idx n w kd ki : Nat} {ty : FieldType} {z : vp_A} {i j : Int32} (hd : decode cc pc = .ok (.multianewarray idx 2, 4)) (hcl : Cond.classLink own idx ("[" ++ (FieldType.array ty).toString) ∈ gT) (hac : Cond.arrayClass ty ∈ gT) (hkd : (kd = 5 ∧ ki = 0 ∧ ty = .int ∧ z = (w, .inl (fun _ => 0))) ∨ (kd = 6 ∧ ki = 1 ∧ ty = .long ∧ z = (w, .inr (.inl (fun _ => 0))))) (hi : i = nI n) (hj : j = nI w) (hn : n < 10000) (hw : w < 10000) (h1 : 1 + n ≤ bc) (h2 : n + n * w ≤ bs) (k : Go sc own cc nL ret ini d (pc + 4) L (.ref N :: st) (hgrid h N n kd (.inl (ki, z))) (N + 1 + n) (bc - (1 + n)) (bs - (n + n * w)) Q) : Go sc own cc nL ret ini d pc L (.int j :: .int i :: st) h N bc bs Q := by
  intro l D cA b sb p e R s m args below meth c mc ms Qw X hE ls H locs cells slots hg hP hS hcc hs
  obtain ⟨hx, hb1, hml, hr, hlk, hini2, hown, hts, hK, hR, -⟩ := id X
  have hR3 := hR.2.2.1
  have hR4 := hR.2.2.2
  subst hi
  subst hj
  have hc1 : (nI n).toNatClampNeg = n := nI_clamp (by omega)
  have hc2 : (nI w).toNatClampNeg = w := nI_clamp (by omega)
  have hgA : gA kd = .array ty ∧ gA ki = ty ∧ kd < 7 ∧ ki < 2 := by
    rcases hkd with ⟨rfl, rfl, rfl, -⟩ | ⟨rfl, rfl, rfl, -⟩
    · exact ⟨rfl, rfl, by decide, by decide⟩
    · exact ⟨rfl, rfl, by decide, by decide⟩
  have hover : gAA ty s := by
    rcases hkd with ⟨-, -, rfl, -⟩ | ⟨-, -, rfl, -⟩
    · exact hK.2.2.2.2.1
    · exact hK.2.2.2.2.2
  have hcomp : w * componentBytes ty ≤ 536870912 := by
    rcases hkd with ⟨-, -, rfl, -⟩ | ⟨-, -, rfl, -⟩
    · show w * 4 ≤ _; omega
    · show w * 8 ≤ _; omega
  have hdf : fits ty (defaultValue ty) = true ∧ (defaultValue ty).isDefault = true := by
    rcases hkd with ⟨-, -, rfl, -⟩ | ⟨-, -, rfl, -⟩
    · exact ⟨by decide, by decide⟩
    · exact ⟨by decide, by decide⟩
  have hz : ∀ c0 : ClassId, Jvm.Free.Multi.innerC c0 w (defaultValue ty) = vp_cell c0 (ga b z) := by
    intro c0
    rcases hkd with ⟨-, -, rfl, rfl⟩ | ⟨-, -, rfl, rfl⟩
    · exact arrV_new c0 w (.int 0)
    · exact arrV_new c0 w (.long 0)
  intro T hT Xs
  obtain ⟨vm₁, cA', comp, -, fA, fC, -, -, X', step⟩ := Xs.multianewarray2F hx hown (hts _ hcl) hover (hts _ hac) (g := F0 m pc ls (.int (nI w) :: .int (nI n) :: st.map (gv b sb))) rfl (by rw [hb1]; exact hd) rfl (nI_pos (by omega)) (nI_pos (by omega)) (by rw [hc1]; omega) (by rw [hc2]; exact hcomp) (by rw [hc2]; omega) hdf.1 hdf.2 (by rw [hc1]; omega) (by rw [hc1, hc2]; omega)
  rw [hc1, hc2] at X' step
  have e1 : cA' = cA kd := by
    have hh := (hK.2.1 kd hgA.2.2.1).2
    rw [hgA.1] at hh
    exact Option.some.inj (fA.symm.trans hh)
  have e2 : comp = cA ki := by
    have hh := (hK.2.1 ki (by omega)).2
    rw [hgA.2.1] at hh
    rcases hkd with ⟨-, -, rfl, -⟩ | ⟨-, -, rfl, -⟩
    · exact Option.some.inj (fC.symm.trans hh)
    · exact Option.some.inj (fC.symm.trans hh)
  subst e1
  subst e2
  generalize hF : Jvm.Free.Multi.fill (T.setVm vm₁) (cA kd) (cA ki) n w (defaultValue ty) n = F at X' step
  have hTh : (T.setVm vm₁).heap = H := hT
  obtain ⟨f1, f2, -, -⟩ := Jvm.Free.Multi.fill_facts (T.setVm vm₁) (cA kd) (cA ki) n w (defaultValue ty) n
  rw [hF, hTh] at f1 f2
  have hold : ∀ x : Nat, x < H.size → F.heap[x]? = H[x]? := fun x hx => by
    have := Jvm.Free.Multi.fill_old (T.setVm vm₁) (cA kd) (cA ki) n w (defaultValue ty) (a := x) (by rw [hTh]; exact hx) n
    rw [hF, hTh] at this
    exact this
  have hrow : ∀ j : Nat, j < n → F.heap[H.size + 1 + j]? = some (vp_cell (cA ki) (ga b z)) := fun j hj => by
    have := Jvm.Free.Multi.fill_inner (T.setVm vm₁) (cA kd) (cA ki) n w (defaultValue ty) n j hj
    rw [hF, hTh, hz] at this
    exact this
  rw [gr_outer] at f2
  have hP2 : gP D cA b sb (hgrid h N n kd (.inl (ki, z))) (N + 1 + n) F.heap := by
    refine ⟨by rw [f1, hP.1]; omega, fun j hj => ?_⟩
    by_cases q1 : j = N
    · have e0 : hgrid h N n kd (.inl (ki, z)) j = .inl (kd, n, .inr (.inr (.inr (.inr (fun i => if i < n then some (N + 1 + i) else none))))) := by unfold hgrid; rw [if_pos q1]
      rw [e0, q1]
      show F.heap[b + N]? = some (vp_cell (cA kd) (n, .inr (.inr (.inr (.inr (fun i => (if i < n then some (N + 1 + i) else none).map (fun i => b + i)))))))
      rw [← hP.1, f2, vp_cell_q]
      congr 2
      funext i
      by_cases hi : i < n
      · simp only [hi, if_true, Option.map_some]
        rw [hP.1, show b + N + 1 + i = b + (N + 1 + i) by omega]
      · simp only [hi, if_false, Option.map_none]
    · by_cases q2 : N < j ∧ j < N + 1 + n
      · have e0 : hgrid h N n kd (.inl (ki, z)) j = .inl (ki, z) := by unfold hgrid; rw [if_neg q1, if_pos q2]
        rw [e0]
        show F.heap[b + j]? = some (vp_cell (cA ki) (ga b z))
        have := hrow (j - N - 1) (by omega)
        rwa [hP.1, show b + N + 1 + (j - N - 1) = b + j by omega] at this
      · have e0 : hgrid h N n kd (.inl (ki, z)) j = h j := by unfold hgrid; rw [if_neg q1, if_neg q2]
        rw [e0]
        exact (hP.2 j (by omega)).kept (hold (b + j) (by rw [hP.1]; omega))
  have W' := k l D cA b sb p e R s m args below meth c mc ms Qw X hE ls F.heap locs (cells + 1 + n) (slots + n + n * w) hg hP2 ⟨fun q hq => (hold q (by rw [hP.1]; omega)).trans (hS.1 q hq), hS.2⟩ (by omega) (by omega)
  obtain ⟨t, a1, b1⟩ := W' F rfl X'
  refine ⟨t, step t ?_, b1⟩
  have e : T.heap.size = b + N := by rw [hT]; exact hP.1
  rw [e]
  exact a1
/-- System.arraycopy of ints -/
theorem go_copy {idx n0 n1 a0 a1 x y z : Nat} {f g : Nat → Int32} {sp dp len : Int32} (hd : decode cc pc = .ok (.invokestatic idx, 3)) (hl : Cond.methodLink own idx arraycopyName ∈ gT) (hb0 : a0 < N) (hb1 : a1 < N) (he0 : h a0 = .inl (0, n0, .inl f)) (he1 : h a1 = .inl (0, n1, .inl g)) (hx : sp = nI x) (hy : dp = nI y) (hz : len = nI z) (h0 : x + z ≤ n0) (h1 : y + z ≤ n1) (hn0 : n0 < 2 ^ 31) (hn1 : n1 < 2 ^ 31) (hw : (st.map fun v => v.category).sum ≤ 8) (k : Go sc own cc nL ret ini (d + 1) (pc + 3) L st (hset h a1 (.inl (0, n1, .inl (va_cpy f g x y z)))) N bc bs Q) : Go sc own cc nL ret ini (d + 1) pc L (.int len :: .int dp :: .ref a1 :: .int sp :: .ref a0 :: st) h N bc bs Q := by
  intro l D cA b sb p e R s m args below meth c mc ms Qw X hE ls H locs cells slots hg hP hS hcc hs
  obtain ⟨hx1, hcb, hml, hr, hlk, hini2, hown, hts, hK, hR, -⟩ := id X
  have hR1 := hR.1
  have hR2 := hR.2.1
  subst hx
  subst hy
  subst hz
  have cx : (nI x).toNatClampNeg = x := nI_clamp (by omega)
  have cy : (nI y).toNatClampNeg = y := nI_clamp (by omega)
  have cz : (nI z).toNatClampNeg = z := nI_clamp (by omega)
  have hws := g_cats b sb st
  intro T hT XS
  have hc0 : H[b + a0]? = some (vp_cell (cA 0) (n0, .inl f)) := hP.at hb0 he0
  have hc1 : H[b + a1]? = some (vp_cell (cA 0) (n1, .inl g)) := hP.at hb1 he1
  obtain ⟨-, k0, hk0, cm0, hkk0⟩ := (hK.2.1 0 (by decide)).1 n0 (fun j => .int (f j))
  obtain ⟨-, k1, hk1, cm1, hkk1⟩ := (hK.2.1 0 (by decide)).1 n1 (fun j => .int (g j))
  obtain ⟨vm', X', step⟩ := XS.arraycopy hx1 hown (hts _ hl) (hts _ a_native) (hts _ a_static) (hts _ in_J10) (src := b + a0) (dst := b + a1) (cs := vp_cell (cA 0) (n0, .inl f)) (cd := vp_cell (cA 0) (n1, .inl g)) (srcPos := nI x) (destPos := nI y) (n := nI z) (by rw [hT]; exact hc0) (by rw [hT]; exact hc1)
    (fun _ h => by cases h) (fun _ h => by cases h) (fun h => by cases h) (fun h => by cases h) hk0 hk1 hkk0 hkk1 (by simp [gA, refKind]) (nI_pos (by omega)) (nI_pos (by omega)) (nI_pos (by omega))
    (by rw [nI_toInt (by omega), nI_toInt (by omega)]; show ¬ _ > ((arrV (cA 0) n0 (fun j => .int (f j))).slots.size : Int); rw [arrV_size]; omega)
    (by rw [nI_toInt (by omega), nI_toInt (by omega)]; show ¬ _ > ((arrV (cA 0) n1 (fun j => .int (g j))).slots.size : Int); rw [arrV_size]; omega)
    (fun vm₁ _ i hi => by
      rw [cz] at hi
      have e : (vp_cell (cA 0) (n0, .inl f)).slots.getD ((nI x).toNatClampNeg + i) .null = .int (f (x + i)) := by
        show (arrV (cA 0) n0 (fun j => .int (f j))).slots.getD _ _ = _
        rw [cx, Array.getD_eq_getD_getElem?, arrV_read _ _ (by omega)]
        rfl
      refine ⟨?_, ?_⟩
      · rw [e]
        rfl
      · rw [e]
        exact trivial)
    (g := F0 m pc ls (.int (nI z) :: .int (nI y) :: .ref (b + a1) :: .int (nI x) :: .ref (b + a0) :: st.map (gv b sb))) rfl (by rw [hml]; exact hg.1) (rest := st.map (gv b sb)) rfl (by rw [hcb]; exact hd) (by omega) (by
      show 2 * 0 + _ + (nativeFrameWords "java/lang/System" "arraycopy" 5 + 11) ≤ _
      have : nativeFrameWords "java/lang/System" "arraycopy" 5 + 11 ≤ 25 := by decide +kernel
      omega)
  have e1 : copied (vp_cell (cA 0) (n0, .inl f)) (vp_cell (cA 0) (n1, .inl g)) (nI x) (nI y) (nI z) = vp_cell (cA 0) (n1, .inl (va_cpy f g x y z)) := by
    have := va_copied (fun z => Value.int z) (cA 0) (cA 0) (n0 := n0) (n1 := n1) (sp := x) (dp := y) (n := z) f g h0
    show (vp_cell (cA 0) (n1, .inl g)).storeRun (nI y).toNatClampNeg ((vp_cell (cA 0) (n0, .inl f)).stretch (nI x).toNatClampNeg (nI z).toNatClampNeg) = _
    rw [cx, cy, cz]
    exact this
  rw [e1] at X' step
  have hlt : b + a1 < H.size := (Array.getElem?_eq_some_iff.mp hc1).1
  have hheap : ((T.setVm vm').setCell (b + a1) (vp_cell (cA 0) (n1, .inl (va_cpy f g x y z)))).heap = H.setIfInBounds (b + a1) (vp_cell (cA 0) (n1, .inl (va_cpy f g x y z))) := by rw [← hT]; rfl
  have oq : ∀ q : Nat, q ≠ b + a1 → (H.setIfInBounds (b + a1) (vp_cell (cA 0) (n1, .inl (va_cpy f g x y z))))[q]? = H[q]? := fun q hq => by simp [Array.getElem?_setIfInBounds, Ne.symm hq]
  have hPn : gP D cA b sb (hset h a1 (.inl (0, n1, .inl (va_cpy f g x y z)))) N (H.setIfInBounds (b + a1) (vp_cell (cA 0) (n1, .inl (va_cpy f g x y z)))) := hP.set (by simp) oq (show (H.setIfInBounds (b + a1) _)[b + a1]? = some _ by simp [Array.getElem?_setIfInBounds, hlt]; rfl)
  obtain ⟨t, q1, q2⟩ := k l D cA b sb p e R s m args below meth c mc ms Qw X hE ls _ _ cells slots hg hPn ⟨fun q hq => by rw [oq q (by omega)]; exact hS.1 q hq, fun q hq => by
      rcases List.mem_append.mp hq with h | h
      · exact hS.2 q h
      · obtain ⟨z, -, hz⟩ := List.mem_map.mp h
        rw [← hz]
        exact Nat.le_add_right _ _⟩ hcc hs _ hheap X'
  exact ⟨t, step t q1, q2⟩
end GoNew
