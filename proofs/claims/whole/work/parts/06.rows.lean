/-! ===== a row an instruction, over pictures ===== -/
section GoRows
variable {sc : Option (Nat × (Nat → Int32))} {own : String} {cc : ByteArray} {nL : Nat} {ret : Option FieldType} {ini : Bool} {d pc : Nat} {L : List (Option Value)} {st : List Value} {h : gH} {N bc bs : Nat} {Q : Option Value → gH → Nat → Prop}
theorem go_st {pc' : Nat} {st' : List Value} (hstep : ∀ (p : Program) (l : Launch) (e : Env) (R : Room) (s : State) (m : MethodId) (args : Array Value) (below : List Frame) (meth : Method) (c : Code) (H : Heap) (locs : List Loc) (cells slots : Nat) (Qw : State → Prop) (ls : Array Slot) (b sb : Nat), p.tables.exec = Jvm.exec → c.code = cc → s.vm.findClass own = some m.cls → (∀ w ∈ gT, w.before args s = true) → W p l e R s m args below meth c H locs cells slots Qw (F0 m pc' ls (st'.map (gv b sb))) → W p l e R s m args below meth c H locs cells slots Qw (F0 m pc ls (st.map (gv b sb))))
    (k : Go sc own cc nL ret ini d pc' L st' h N bc bs Q) : Go sc own cc nL ret ini d pc L st h N bc bs Q := by
  intro l D cA b sb p e R s m args below meth c mc ms Qw X hE ls H locs cells slots hl hP hS hc hs
  obtain ⟨hx, hb1, hml, hr, hlk, hin, hown, hts, hK, -⟩ := id X
  exact hstep p l e R s m args below meth c H locs cells slots Qw ls b sb hx hb1 hown hts (k l D cA b sb p e R s m args below meth c mc ms Qw X hE ls H locs cells slots hl hP hS hc hs)
/-- the value on top, said otherwise -/
theorem go_top {x y : Value} (e : x = y) (k : Go sc own cc nL ret ini d pc L (y :: st) h N bc bs Q) : Go sc own cc nL ret ini d pc L (x :: st) h N bc bs Q := e ▸ k
theorem go_eqs {st' : List Value} (e : st = st') (k : Go sc own cc nL ret ini d pc L st' h N bc bs Q) : Go sc own cc nL ret ini d pc L st h N bc bs Q := e ▸ k
theorem go_eqL {L' : List (Option Value)} (e : L = L') (k : Go sc own cc nL ret ini d pc L' st h N bc bs Q) : Go sc own cc nL ret ini d pc L st h N bc bs Q := e ▸ k
theorem go_eqh {h' : gH} (e : h = h') (k : Go sc own cc nL ret ini d pc L st h' N bc bs Q) : Go sc own cc nL ret ini d pc L st h N bc bs Q := e ▸ k
theorem go_Q {Q' : Option Value → gH → Nat → Prop} (hq : ∀ v h' N', Q' v h' N' → Q v h' N') (k : Go sc own cc nL ret ini d pc L st h N bc bs Q') : Go sc own cc nL ret ini d pc L st h N bc bs Q := by
  intro l D cA b sb p e R s m args below meth c mc ms Qw X hE ls H locs cells slots hl hP hS hc hs
  exact k l D cA b sb p e R s m args below meth c mc ms Qw X (fun v pcr ls H locs h' N' cells slots g => hE v pcr ls H locs h' N' cells slots (hq v h' N' g)) ls H locs cells slots hl hP hS hc hs
theorem go_room {bc' bs' : Nat} (h1 : bc' ≤ bc) (h2 : bs' ≤ bs) (k : Go sc own cc nL ret ini d pc L st h N bc' bs' Q) : Go sc own cc nL ret ini d pc L st h N bc bs Q := by
  intro l D cA b sb p e R s m args below meth c mc ms Qw X hE ls H locs cells slots hl hP hS hc hs
  exact k l D cA b sb p e R s m args below meth c mc ms Qw X hE ls H locs cells slots hl hP hS (by omega) (by omega)
theorem go_iconst {n : Int} {v : Int32} (hd : decode cc pc = .ok (.iconst n, 1)) (hv : Int32.ofInt n = v) (k : Go sc own cc nL ret ini d (pc + 1) L (.int v :: st) h N bc bs Q) : Go sc own cc nL ret ini d pc L st h N bc bs Q :=
  go_st (fun p l e R s m args below meth c H locs cells slots Qw ls b sb hx hb hown hts w => lv_iconst hx hb hd hv w) k
theorem go_bipush {n : Int} {v : Int32} (hd : decode cc pc = .ok (.bipush n, 2)) (hv : (Int8.ofInt n).toInt32 = v) (k : Go sc own cc nL ret ini d (pc + 2) L (.int v :: st) h N bc bs Q) : Go sc own cc nL ret ini d pc L st h N bc bs Q :=
  go_st (fun p l e R s m args below meth c H locs cells slots Qw ls b sb hx hb hown hts w => lv_bipush hx hb hd hv w) k
theorem go_sipush {n : Int} {v : Int32} (hd : decode cc pc = .ok (.sipush n, 3)) (hv : (Int16.ofInt n).toInt32 = v) (k : Go sc own cc nL ret ini d (pc + 3) L (.int v :: st) h N bc bs Q) : Go sc own cc nL ret ini d pc L st h N bc bs Q :=
  go_st (fun p l e R s m args below meth c H locs cells slots Qw ls b sb hx hb hown hts w => lv_sipush hx hb hd hv w) k
theorem go_lconst {n : Fin 2} {v : Int64} (hd : decode cc pc = .ok (.lconst n, 1)) (hv : Int64.ofNat (n : Nat) = v) (k : Go sc own cc nL ret ini d (pc + 1) L (.long v :: st) h N bc bs Q) : Go sc own cc nL ret ini d pc L st h N bc bs Q :=
  go_st (fun p l e R s m args below meth c H locs cells slots Qw ls b sb hx hb hown hts w => lv_lconst hx hb hd hv w) k
theorem go_ldc2 {idx : Nat} {v : Int64} (hd : decode cc pc = .ok (.ldc2_w idx, 3)) (hw : Cond.constantLong own idx v ∈ gT) (k : Go sc own cc nL ret ini d (pc + 3) L (.long v :: st) h N bc bs Q) : Go sc own cc nL ret ini d pc L st h N bc bs Q :=
  go_st (fun p l e R s m args below meth c H locs cells slots Qw ls b sb hx hb hown hts w => lv_ldc2 hx hb hown (hts _ hw) hd w) k
theorem go_ldcf {idx : Nat} {v : UInt32} (hd : decode cc pc = .ok (.ldc idx, 2)) (hw : Cond.constantFloat own idx v ∈ gT) (k : Go sc own cc nL ret ini d (pc + 2) L (.float v :: st) h N bc bs Q) : Go sc own cc nL ret ini d pc L st h N bc bs Q :=
  go_st (fun p l e R s m args below meth c H locs cells slots Qw ls b sb hx hb hown hts w => lv_ldcf hx hb hown (hts _ hw) hd w) k
theorem go_iadd {x y : Int32} (hd : decode cc pc = .ok (.iadd, 1)) (k : Go sc own cc nL ret ini d (pc + 1) L (.int (x + y) :: st) h N bc bs Q) : Go sc own cc nL ret ini d pc L (.int y :: .int x :: st) h N bc bs Q :=
  go_st (fun p l e R s m args below meth c H locs cells slots Qw ls b sb hx hb hown hts w => lv_iadd hx hb hd w) k
theorem go_isub {x y : Int32} (hd : decode cc pc = .ok (.isub, 1)) (k : Go sc own cc nL ret ini d (pc + 1) L (.int (x - y) :: st) h N bc bs Q) : Go sc own cc nL ret ini d pc L (.int y :: .int x :: st) h N bc bs Q :=
  go_st (fun p l e R s m args below meth c H locs cells slots Qw ls b sb hx hb hown hts w => lv_isub hx hb hd w) k
theorem go_imul {x y : Int32} (hd : decode cc pc = .ok (.imul, 1)) (k : Go sc own cc nL ret ini d (pc + 1) L (.int (x * y) :: st) h N bc bs Q) : Go sc own cc nL ret ini d pc L (.int y :: .int x :: st) h N bc bs Q :=
  go_st (fun p l e R s m args below meth c H locs cells slots Qw ls b sb hx hb hown hts w => lv_imul hx hb hd w) k
theorem go_iand {x y : Int32} (hd : decode cc pc = .ok (.iand, 1)) (k : Go sc own cc nL ret ini d (pc + 1) L (.int (x &&& y) :: st) h N bc bs Q) : Go sc own cc nL ret ini d pc L (.int y :: .int x :: st) h N bc bs Q :=
  go_st (fun p l e R s m args below meth c H locs cells slots Qw ls b sb hx hb hown hts w => lv_iand hx hb hd w) k
theorem go_idiv {x y : Int32} (hd : decode cc pc = .ok (.idiv, 1)) (hne : ¬ y = 0) (k : Go sc own cc nL ret ini d (pc + 1) L (.int (x / y) :: st) h N bc bs Q) : Go sc own cc nL ret ini d pc L (.int y :: .int x :: st) h N bc bs Q :=
  go_st (fun p l e R s m args below meth c H locs cells slots Qw ls b sb hx hb hown hts w => lv_idiv hx hb hd hne w) k
theorem go_irem {x y : Int32} (hd : decode cc pc = .ok (.irem, 1)) (hne : ¬ y = 0) (k : Go sc own cc nL ret ini d (pc + 1) L (.int (x - x / y * y) :: st) h N bc bs Q) : Go sc own cc nL ret ini d pc L (.int y :: .int x :: st) h N bc bs Q :=
  go_st (fun p l e R s m args below meth c H locs cells slots Qw ls b sb hx hb hown hts w => lv_irem hx hb hd hne w) k
theorem go_ladd {x y : Int64} (hd : decode cc pc = .ok (.ladd, 1)) (k : Go sc own cc nL ret ini d (pc + 1) L (.long (x + y) :: st) h N bc bs Q) : Go sc own cc nL ret ini d pc L (.long y :: .long x :: st) h N bc bs Q :=
  go_st (fun p l e R s m args below meth c H locs cells slots Qw ls b sb hx hb hown hts w => lv_ladd hx hb hd w) k
theorem go_lsub {x y : Int64} (hd : decode cc pc = .ok (.lsub, 1)) (k : Go sc own cc nL ret ini d (pc + 1) L (.long (x - y) :: st) h N bc bs Q) : Go sc own cc nL ret ini d pc L (.long y :: .long x :: st) h N bc bs Q :=
  go_st (fun p l e R s m args below meth c H locs cells slots Qw ls b sb hx hb hown hts w => lv_lsub hx hb hd w) k
theorem go_lmul {x y : Int64} (hd : decode cc pc = .ok (.lmul, 1)) (k : Go sc own cc nL ret ini d (pc + 1) L (.long (x * y) :: st) h N bc bs Q) : Go sc own cc nL ret ini d pc L (.long y :: .long x :: st) h N bc bs Q :=
  go_st (fun p l e R s m args below meth c H locs cells slots Qw ls b sb hx hb hown hts w => lv_lmul hx hb hd w) k
theorem go_ldiv {x y : Int64} (hd : decode cc pc = .ok (.ldiv, 1)) (hne : ¬ y = 0) (k : Go sc own cc nL ret ini d (pc + 1) L (.long (x / y) :: st) h N bc bs Q) : Go sc own cc nL ret ini d pc L (.long y :: .long x :: st) h N bc bs Q :=
  go_st (fun p l e R s m args below meth c H locs cells slots Qw ls b sb hx hb hown hts w => lv_ldiv hx hb hd hne w) k
theorem go_lrem {x y : Int64} (hd : decode cc pc = .ok (.lrem, 1)) (hne : ¬ y = 0) (k : Go sc own cc nL ret ini d (pc + 1) L (.long (x - x / y * y) :: st) h N bc bs Q) : Go sc own cc nL ret ini d pc L (.long y :: .long x :: st) h N bc bs Q :=
  go_st (fun p l e R s m args below meth c H locs cells slots Qw ls b sb hx hb hown hts w => lv_lrem hx hb hd hne w) k
theorem go_i2l {x : Int32} {v : Int64} (hd : decode cc pc = .ok (.i2l, 1)) (hv : x.toInt64 = v) (k : Go sc own cc nL ret ini d (pc + 1) L (.long v :: st) h N bc bs Q) : Go sc own cc nL ret ini d pc L (.int x :: st) h N bc bs Q :=
  go_st (fun p l e R s m args below meth c H locs cells slots Qw ls b sb hx hb hown hts w => lv_i2l hx hb hd hv w) k
theorem go_i2f {x : Int32} (hd : decode cc pc = .ok (.i2f, 1)) (k : Go sc own cc nL ret ini d (pc + 1) L (.float (FP.i2f x) :: st) h N bc bs Q) : Go sc own cc nL ret ini d pc L (.int x :: st) h N bc bs Q :=
  go_st (fun p l e R s m args below meth c H locs cells slots Qw ls b sb hx hb hown hts w => lv_i2f hx hb hd w) k
theorem go_f2i {x : UInt32} (hd : decode cc pc = .ok (.f2i, 1)) (k : Go sc own cc nL ret ini d (pc + 1) L (.int (FP.f2i x) :: st) h N bc bs Q) : Go sc own cc nL ret ini d pc L (.float x :: st) h N bc bs Q :=
  go_st (fun p l e R s m args below meth c H locs cells slots Qw ls b sb hx hb hown hts w => lv_f2i hx hb hd w) k
theorem go_fmul {x y : UInt32} (hd : decode cc pc = .ok (.fmul, 1)) (hne : vf_n32 (FP.fmul x y)) (k : Go sc own cc nL ret ini d (pc + 1) L (.float (FP.fmul x y) :: st) h N bc bs Q) : Go sc own cc nL ret ini d pc L (.float y :: .float x :: st) h N bc bs Q :=
  go_st (fun p l e R s m args below meth c H locs cells slots Qw ls b sb hx hb hown hts w => lv_fmul hx hb hd hne w) k
theorem go_fdiv {x y : UInt32} (hd : decode cc pc = .ok (.fdiv, 1)) (hne : vf_n32 (FP.fdiv x y)) (k : Go sc own cc nL ret ini d (pc + 1) L (.float (FP.fdiv x y) :: st) h N bc bs Q) : Go sc own cc nL ret ini d pc L (.float y :: .float x :: st) h N bc bs Q :=
  go_st (fun p l e R s m args below meth c H locs cells slots Qw ls b sb hx hb hown hts w => lv_fdiv hx hb hd hne w) k
theorem go_lcmp {x y : Int64} (hd : decode cc pc = .ok (.lcmp, 1)) (k : Go sc own cc nL ret ini d (pc + 1) L (.int (lg_cmp x y) :: st) h N bc bs Q) : Go sc own cc nL ret ini d pc L (.long y :: .long x :: st) h N bc bs Q :=
  go_st (fun p l e R s m args below meth c H locs cells slots Qw ls b sb hx hb hown hts w => W.lcmp hx hb hd w) k
def g1 : Value → Bool
  | .long _ => false
  | .double _ => false
  | _ => true
theorem g1_cat {b sb : Nat} {v : Value} (h : g1 v = true) : (gv b sb v).category = 1 := by cases v <;> first | rfl | (simp [g1] at h)
theorem go_dup {v : Value} (hd : decode cc pc = .ok (.dup, 1)) (hv : g1 v = true) (k : Go sc own cc nL ret ini d (pc + 1) L (v :: v :: st) h N bc bs Q) : Go sc own cc nL ret ini d pc L (v :: st) h N bc bs Q :=
  go_st (fun p l e R s m args below meth c H locs cells slots Qw ls b sb hx hb hown hts w => lv_dup hx hb hd (g1_cat hv) w) k
theorem go_pop {v : Value} (hd : decode cc pc = .ok (.pop, 1)) (hv : g1 v = true) (k : Go sc own cc nL ret ini d (pc + 1) L st h N bc bs Q) : Go sc own cc nL ret ini d pc L (v :: st) h N bc bs Q :=
  go_st (fun p l e R s m args below meth c H locs cells slots Qw ls b sb hx hb hown hts w => lv_pop hx hb hd (g1_cat hv) w) k
theorem go_dup2 {v u : Value} (hd : decode cc pc = .ok (.dup2, 1)) (hv : g1 v = true) (hu : g1 u = true) (k : Go sc own cc nL ret ini d (pc + 1) L (v :: u :: v :: u :: st) h N bc bs Q) : Go sc own cc nL ret ini d pc L (v :: u :: st) h N bc bs Q :=
  go_st (fun p l e R s m args below meth c H locs cells slots Qw ls b sb hx hb hown hts w => lv_dup2_11 hx hb hd (g1_cat hv) (g1_cat hu) w) k
theorem go_goto {off : Int} {tgt : Nat} (hd : decode cc pc = .ok (.goto off, 3)) (ht : (pc : Int) + off = (tgt : Int)) (k : Go sc own cc nL ret ini d tgt L st h N bc bs Q) : Go sc own cc nL ret ini d pc L st h N bc bs Q :=
  go_st (fun p l e R s m args below meth c H locs cells slots Qw ls b sb hx hb hown hts w => lv_goto hx hb hd ht w) k
theorem go_iload_n {k : Fin 4} {x : Int32} (hd : decode cc pc = .ok (.iload_n k, 1)) (hl : L[(k : Nat)]? = some (some (.int x))) (kk : Go sc own cc nL ret ini d (pc + 1) L (.int x :: st) h N bc bs Q) : Go sc own cc nL ret ini d pc L st h N bc bs Q := by
  intro l D cA b sb p e R s m args below meth c mc ms Qw X hE ls H locs cells slots hg hP hS hc hs
  exact lv_iload_n X.1 X.2.1 hd rfl (hg.2.2 _ _ hl) (kk l D cA b sb p e R s m args below meth c mc ms Qw X hE ls H locs cells slots hg hP hS hc hs)
theorem go_iload {i : Nat} {x : Int32} (hd : decode cc pc = .ok (.iload i, 2)) (hl : L[i]? = some (some (.int x))) (kk : Go sc own cc nL ret ini d (pc + 2) L (.int x :: st) h N bc bs Q) : Go sc own cc nL ret ini d pc L st h N bc bs Q := by
  intro l D cA b sb p e R s m args below meth c mc ms Qw X hE ls H locs cells slots hg hP hS hc hs
  exact lv_iload X.1 X.2.1 hd (hg.2.2 _ _ hl) (kk l D cA b sb p e R s m args below meth c mc ms Qw X hE ls H locs cells slots hg hP hS hc hs)
theorem go_lload_n {k : Fin 4} {x : Int64} (hd : decode cc pc = .ok (.lload_n k, 1)) (hl : L[(k : Nat)]? = some (some (.long x))) (kk : Go sc own cc nL ret ini d (pc + 1) L (.long x :: st) h N bc bs Q) : Go sc own cc nL ret ini d pc L st h N bc bs Q := by
  intro l D cA b sb p e R s m args below meth c mc ms Qw X hE ls H locs cells slots hg hP hS hc hs
  exact lv_lload_n X.1 X.2.1 hd rfl (hg.2.2 _ _ hl) (kk l D cA b sb p e R s m args below meth c mc ms Qw X hE ls H locs cells slots hg hP hS hc hs)
theorem go_lload {i : Nat} {x : Int64} (hd : decode cc pc = .ok (.lload i, 2)) (hl : L[i]? = some (some (.long x))) (kk : Go sc own cc nL ret ini d (pc + 2) L (.long x :: st) h N bc bs Q) : Go sc own cc nL ret ini d pc L st h N bc bs Q := by
  intro l D cA b sb p e R s m args below meth c mc ms Qw X hE ls H locs cells slots hg hP hS hc hs
  exact lv_lload X.1 X.2.1 hd (hg.2.2 _ _ hl) (kk l D cA b sb p e R s m args below meth c mc ms Qw X hE ls H locs cells slots hg hP hS hc hs)
theorem go_aload_n {k : Fin 4} {x : Nat} (hd : decode cc pc = .ok (.aload_n k, 1)) (hl : L[(k : Nat)]? = some (some (.ref x))) (kk : Go sc own cc nL ret ini d (pc + 1) L (.ref x :: st) h N bc bs Q) : Go sc own cc nL ret ini d pc L st h N bc bs Q := by
  intro l D cA b sb p e R s m args below meth c mc ms Qw X hE ls H locs cells slots hg hP hS hc hs
  exact lv_aload_n X.1 X.2.1 hd rfl (hg.2.2 _ _ hl) (kk l D cA b sb p e R s m args below meth c mc ms Qw X hE ls H locs cells slots hg hP hS hc hs)
theorem go_aload {i : Nat} {x : Nat} (hd : decode cc pc = .ok (.aload i, 2)) (hl : L[i]? = some (some (.ref x))) (kk : Go sc own cc nL ret ini d (pc + 2) L (.ref x :: st) h N bc bs Q) : Go sc own cc nL ret ini d pc L st h N bc bs Q := by
  intro l D cA b sb p e R s m args below meth c mc ms Qw X hE ls H locs cells slots hg hP hS hc hs
  exact lv_aload X.1 X.2.1 hd (hg.2.2 _ _ hl) (kk l D cA b sb p e R s m args below meth c mc ms Qw X hE ls H locs cells slots hg hP hS hc hs)
theorem go_aload_s {k : Fin 4} {x : UInt64} (hd : decode cc pc = .ok (.aload_n k, 1)) (hl : L[(k : Nat)]? = some (some (.double x))) (kk : Go sc own cc nL ret ini d (pc + 1) L (.double x :: st) h N bc bs Q) : Go sc own cc nL ret ini d pc L st h N bc bs Q := by
  intro l D cA b sb p e R s m args below meth c mc ms Qw X hE ls H locs cells slots hg hP hS hc hs
  exact lv_aload_n X.1 X.2.1 hd rfl (hg.2.2 _ _ hl) (kk l D cA b sb p e R s m args below meth c mc ms Qw X hE ls H locs cells slots hg hP hS hc hs)
theorem go_istore_n {k : Fin 4} {i : Nat} {x : Int32} {L' : List (Option Value)} (hd : decode cc pc = .ok (.istore_n k, 1)) (hi : (k : Nat) = i) (hn : i < nL) (hL : gset1 L i (.int x) = L') (kk : Go sc own cc nL ret ini d (pc + 1) L' st h N bc bs Q) : Go sc own cc nL ret ini d pc L (.int x :: st) h N bc bs Q := by
  intro l D cA b sb p e R s m args below meth c mc ms Qw X hE ls H locs cells slots hg hP hS hc hs
  subst hL
  exact lv_istore_n X.1 X.2.1 hd hi hg.has hn rfl (fun ls' h' => kk l D cA b sb p e R s m args below meth c mc ms Qw X hE ls' H locs cells slots (gL.st1 h') hP hS hc hs)
theorem go_istore {i : Nat} {x : Int32} {L' : List (Option Value)} (hd : decode cc pc = .ok (.istore i, 2)) (hn : i < nL) (hL : gset1 L i (.int x) = L') (kk : Go sc own cc nL ret ini d (pc + 2) L' st h N bc bs Q) : Go sc own cc nL ret ini d pc L (.int x :: st) h N bc bs Q := by
  intro l D cA b sb p e R s m args below meth c mc ms Qw X hE ls H locs cells slots hg hP hS hc hs
  subst hL
  exact lv_istore X.1 X.2.1 hd hg.has hn rfl (fun ls' h' => kk l D cA b sb p e R s m args below meth c mc ms Qw X hE ls' H locs cells slots (gL.st1 h') hP hS hc hs)
theorem go_astore_n {k : Fin 4} {i : Nat} {x : Nat} {L' : List (Option Value)} (hd : decode cc pc = .ok (.astore_n k, 1)) (hi : (k : Nat) = i) (hn : i < nL) (hL : gset1 L i (.ref x) = L') (kk : Go sc own cc nL ret ini d (pc + 1) L' st h N bc bs Q) : Go sc own cc nL ret ini d pc L (.ref x :: st) h N bc bs Q := by
  intro l D cA b sb p e R s m args below meth c mc ms Qw X hE ls H locs cells slots hg hP hS hc hs
  subst hL
  exact lv_astore_n X.1 X.2.1 hd hi hg.has hn rfl (fun ls' h' => kk l D cA b sb p e R s m args below meth c mc ms Qw X hE ls' H locs cells slots (gL.st1 h') hP hS hc hs)
theorem go_astore {i : Nat} {x : Nat} {L' : List (Option Value)} (hd : decode cc pc = .ok (.astore i, 2)) (hn : i < nL) (hL : gset1 L i (.ref x) = L') (kk : Go sc own cc nL ret ini d (pc + 2) L' st h N bc bs Q) : Go sc own cc nL ret ini d pc L (.ref x :: st) h N bc bs Q := by
  intro l D cA b sb p e R s m args below meth c mc ms Qw X hE ls H locs cells slots hg hP hS hc hs
  subst hL
  exact lv_astore X.1 X.2.1 hd hg.has hn rfl (fun ls' h' => kk l D cA b sb p e R s m args below meth c mc ms Qw X hE ls' H locs cells slots (gL.st1 h') hP hS hc hs)
theorem go_lstore_n {k : Fin 4} {i : Nat} {x : Int64} {L' : List (Option Value)} (hd : decode cc pc = .ok (.lstore_n k, 1)) (hi : (k : Nat) = i) (hn : i + 1 < nL) (hL : gset2 L i (.long x) = L') (kk : Go sc own cc nL ret ini d (pc + 1) L' st h N bc bs Q) : Go sc own cc nL ret ini d pc L (.long x :: st) h N bc bs Q := by
  intro l D cA b sb p e R s m args below meth c mc ms Qw X hE ls H locs cells slots hg hP hS hc hs
  subst hL
  exact lv_lstore_n X.1 X.2.1 hd hi hg.has hn rfl (fun ls' h' => kk l D cA b sb p e R s m args below meth c mc ms Qw X hE ls' H locs cells slots (gL.st2 h') hP hS hc hs)
theorem go_lstore {i : Nat} {x : Int64} {L' : List (Option Value)} (hd : decode cc pc = .ok (.lstore i, 2)) (hn : i + 1 < nL) (hL : gset2 L i (.long x) = L') (kk : Go sc own cc nL ret ini d (pc + 2) L' st h N bc bs Q) : Go sc own cc nL ret ini d pc L (.long x :: st) h N bc bs Q := by
  intro l D cA b sb p e R s m args below meth c mc ms Qw X hE ls H locs cells slots hg hP hS hc hs
  subst hL
  exact lv_lstore X.1 X.2.1 hd hg.has hn rfl (fun ls' h' => kk l D cA b sb p e R s m args below meth c mc ms Qw X hE ls' H locs cells slots (gL.st2 h') hP hS hc hs)
theorem go_iinc {i : Nat} {n : Int} {x v : Int32} {L' : List (Option Value)} (hd : decode cc pc = .ok (.iinc i n, 3)) (hl : L[i]? = some (some (.int x))) (hv : x + Int32.ofInt n = v) (hn : i < nL) (hL : gset1 L i (.int v) = L') (kk : Go sc own cc nL ret ini d (pc + 3) L' st h N bc bs Q) : Go sc own cc nL ret ini d pc L st h N bc bs Q := by
  intro l D cA b sb p e R s m args below meth c mc ms Qw X hE ls H locs cells slots hg hP hS hc hs
  subst hL
  obtain ⟨k, hk⟩ := List.getElem?_of_mem (gas_in (b := b) (sb := sb) hl)
  exact lv_iinc X.1 X.2.1 hd hg.has hk hv hn rfl (fun ls' h' => kk l D cA b sb p e R s m args below meth c mc ms Qw X hE ls' H locs cells slots (gL.st1 h') hP hS hc hs)
theorem go_inc {i k : Nat} {L' : List (Option Value)} (hd : decode cc pc = .ok (.iinc i 1, 3)) (hl : L[i]? = some (some (.int (nI k)))) (hn : i < nL) (hL : gset1 L i (.int (nI (k + 1))) = L') (kk : Go sc own cc nL ret ini d (pc + 3) L' st h N bc bs Q) : Go sc own cc nL ret ini d pc L st h N bc bs Q :=
  go_iinc hd hl (nI_1 k) hn hL kk
theorem go_if_eq {x : Int32} {off : Int} {tgt : Nat} (hd : decode cc pc = .ok (.ifCond .eq off, 3)) (ht : (pc : Int) + off = (tgt : Int)) (kt : x = 0 → Go sc own cc nL ret ini d tgt L st h N bc bs Q) (kf : ¬ (x = 0) → Go sc own cc nL ret ini d (pc + 3) L st h N bc bs Q) : Go sc own cc nL ret ini d pc L (.int x :: st) h N bc bs Q := by
  intro l D cA b sb p e R s m args below meth c mc ms Qw X hE ls H locs cells slots hg hP hS hc hs
  exact lv_if_eq X.1 X.2.1 hd ht (fun q => kt (by simpa using q) l D cA b sb p e R s m args below meth c mc ms Qw X hE ls H locs cells slots hg hP hS hc hs) (fun q => kf (by simpa using q) l D cA b sb p e R s m args below meth c mc ms Qw X hE ls H locs cells slots hg hP hS hc hs)
theorem go_icmp_eq {x y : Int32} {off : Int} {tgt : Nat} (hd : decode cc pc = .ok (.if_icmp .eq off, 3)) (ht : (pc : Int) + off = (tgt : Int)) (kt : x = y → Go sc own cc nL ret ini d tgt L st h N bc bs Q) (kf : ¬ (x = y) → Go sc own cc nL ret ini d (pc + 3) L st h N bc bs Q) : Go sc own cc nL ret ini d pc L (.int y :: .int x :: st) h N bc bs Q := by
  intro l D cA b sb p e R s m args below meth c mc ms Qw X hE ls H locs cells slots hg hP hS hc hs
  exact lv_icmp_eq X.1 X.2.1 hd ht (fun q => kt (by simpa using q) l D cA b sb p e R s m args below meth c mc ms Qw X hE ls H locs cells slots hg hP hS hc hs) (fun q => kf (by simpa using q) l D cA b sb p e R s m args below meth c mc ms Qw X hE ls H locs cells slots hg hP hS hc hs)
theorem go_if_ne {x : Int32} {off : Int} {tgt : Nat} (hd : decode cc pc = .ok (.ifCond .ne off, 3)) (ht : (pc : Int) + off = (tgt : Int)) (kt : ¬ x = 0 → Go sc own cc nL ret ini d tgt L st h N bc bs Q) (kf : ¬ (¬ x = 0) → Go sc own cc nL ret ini d (pc + 3) L st h N bc bs Q) : Go sc own cc nL ret ini d pc L (.int x :: st) h N bc bs Q := by
  intro l D cA b sb p e R s m args below meth c mc ms Qw X hE ls H locs cells slots hg hP hS hc hs
  exact lv_if_ne X.1 X.2.1 hd ht (fun q => kt (by simpa using q) l D cA b sb p e R s m args below meth c mc ms Qw X hE ls H locs cells slots hg hP hS hc hs) (fun q => kf (by simpa using q) l D cA b sb p e R s m args below meth c mc ms Qw X hE ls H locs cells slots hg hP hS hc hs)
theorem go_icmp_ne {x y : Int32} {off : Int} {tgt : Nat} (hd : decode cc pc = .ok (.if_icmp .ne off, 3)) (ht : (pc : Int) + off = (tgt : Int)) (kt : ¬ x = y → Go sc own cc nL ret ini d tgt L st h N bc bs Q) (kf : ¬ (¬ x = y) → Go sc own cc nL ret ini d (pc + 3) L st h N bc bs Q) : Go sc own cc nL ret ini d pc L (.int y :: .int x :: st) h N bc bs Q := by
  intro l D cA b sb p e R s m args below meth c mc ms Qw X hE ls H locs cells slots hg hP hS hc hs
  exact lv_icmp_ne X.1 X.2.1 hd ht (fun q => kt (by simpa using q) l D cA b sb p e R s m args below meth c mc ms Qw X hE ls H locs cells slots hg hP hS hc hs) (fun q => kf (by simpa using q) l D cA b sb p e R s m args below meth c mc ms Qw X hE ls H locs cells slots hg hP hS hc hs)
theorem go_if_lt {x : Int32} {off : Int} {tgt : Nat} (hd : decode cc pc = .ok (.ifCond .lt off, 3)) (ht : (pc : Int) + off = (tgt : Int)) (kt : x < 0 → Go sc own cc nL ret ini d tgt L st h N bc bs Q) (kf : ¬ (x < 0) → Go sc own cc nL ret ini d (pc + 3) L st h N bc bs Q) : Go sc own cc nL ret ini d pc L (.int x :: st) h N bc bs Q := by
  intro l D cA b sb p e R s m args below meth c mc ms Qw X hE ls H locs cells slots hg hP hS hc hs
  exact lv_if_lt X.1 X.2.1 hd ht (fun q => kt (by simpa using q) l D cA b sb p e R s m args below meth c mc ms Qw X hE ls H locs cells slots hg hP hS hc hs) (fun q => kf (by simpa using q) l D cA b sb p e R s m args below meth c mc ms Qw X hE ls H locs cells slots hg hP hS hc hs)
theorem go_icmp_lt {x y : Int32} {off : Int} {tgt : Nat} (hd : decode cc pc = .ok (.if_icmp .lt off, 3)) (ht : (pc : Int) + off = (tgt : Int)) (kt : x < y → Go sc own cc nL ret ini d tgt L st h N bc bs Q) (kf : ¬ (x < y) → Go sc own cc nL ret ini d (pc + 3) L st h N bc bs Q) : Go sc own cc nL ret ini d pc L (.int y :: .int x :: st) h N bc bs Q := by
  intro l D cA b sb p e R s m args below meth c mc ms Qw X hE ls H locs cells slots hg hP hS hc hs
  exact lv_icmp_lt X.1 X.2.1 hd ht (fun q => kt (by simpa using q) l D cA b sb p e R s m args below meth c mc ms Qw X hE ls H locs cells slots hg hP hS hc hs) (fun q => kf (by simpa using q) l D cA b sb p e R s m args below meth c mc ms Qw X hE ls H locs cells slots hg hP hS hc hs)
theorem go_if_ge {x : Int32} {off : Int} {tgt : Nat} (hd : decode cc pc = .ok (.ifCond .ge off, 3)) (ht : (pc : Int) + off = (tgt : Int)) (kt : 0 ≤ x → Go sc own cc nL ret ini d tgt L st h N bc bs Q) (kf : ¬ (0 ≤ x) → Go sc own cc nL ret ini d (pc + 3) L st h N bc bs Q) : Go sc own cc nL ret ini d pc L (.int x :: st) h N bc bs Q := by
  intro l D cA b sb p e R s m args below meth c mc ms Qw X hE ls H locs cells slots hg hP hS hc hs
  exact lv_if_ge X.1 X.2.1 hd ht (fun q => kt (by simpa using q) l D cA b sb p e R s m args below meth c mc ms Qw X hE ls H locs cells slots hg hP hS hc hs) (fun q => kf (by simpa using q) l D cA b sb p e R s m args below meth c mc ms Qw X hE ls H locs cells slots hg hP hS hc hs)
theorem go_icmp_ge {x y : Int32} {off : Int} {tgt : Nat} (hd : decode cc pc = .ok (.if_icmp .ge off, 3)) (ht : (pc : Int) + off = (tgt : Int)) (kt : y ≤ x → Go sc own cc nL ret ini d tgt L st h N bc bs Q) (kf : ¬ (y ≤ x) → Go sc own cc nL ret ini d (pc + 3) L st h N bc bs Q) : Go sc own cc nL ret ini d pc L (.int y :: .int x :: st) h N bc bs Q := by
  intro l D cA b sb p e R s m args below meth c mc ms Qw X hE ls H locs cells slots hg hP hS hc hs
  exact lv_icmp_ge X.1 X.2.1 hd ht (fun q => kt (by simpa using q) l D cA b sb p e R s m args below meth c mc ms Qw X hE ls H locs cells slots hg hP hS hc hs) (fun q => kf (by simpa using q) l D cA b sb p e R s m args below meth c mc ms Qw X hE ls H locs cells slots hg hP hS hc hs)
theorem go_if_gt {x : Int32} {off : Int} {tgt : Nat} (hd : decode cc pc = .ok (.ifCond .gt off, 3)) (ht : (pc : Int) + off = (tgt : Int)) (kt : 0 < x → Go sc own cc nL ret ini d tgt L st h N bc bs Q) (kf : ¬ (0 < x) → Go sc own cc nL ret ini d (pc + 3) L st h N bc bs Q) : Go sc own cc nL ret ini d pc L (.int x :: st) h N bc bs Q := by
  intro l D cA b sb p e R s m args below meth c mc ms Qw X hE ls H locs cells slots hg hP hS hc hs
  exact lv_if_gt X.1 X.2.1 hd ht (fun q => kt (by simpa using q) l D cA b sb p e R s m args below meth c mc ms Qw X hE ls H locs cells slots hg hP hS hc hs) (fun q => kf (by simpa using q) l D cA b sb p e R s m args below meth c mc ms Qw X hE ls H locs cells slots hg hP hS hc hs)
theorem go_icmp_gt {x y : Int32} {off : Int} {tgt : Nat} (hd : decode cc pc = .ok (.if_icmp .gt off, 3)) (ht : (pc : Int) + off = (tgt : Int)) (kt : y < x → Go sc own cc nL ret ini d tgt L st h N bc bs Q) (kf : ¬ (y < x) → Go sc own cc nL ret ini d (pc + 3) L st h N bc bs Q) : Go sc own cc nL ret ini d pc L (.int y :: .int x :: st) h N bc bs Q := by
  intro l D cA b sb p e R s m args below meth c mc ms Qw X hE ls H locs cells slots hg hP hS hc hs
  exact lv_icmp_gt X.1 X.2.1 hd ht (fun q => kt (by simpa using q) l D cA b sb p e R s m args below meth c mc ms Qw X hE ls H locs cells slots hg hP hS hc hs) (fun q => kf (by simpa using q) l D cA b sb p e R s m args below meth c mc ms Qw X hE ls H locs cells slots hg hP hS hc hs)
theorem go_if_le {x : Int32} {off : Int} {tgt : Nat} (hd : decode cc pc = .ok (.ifCond .le off, 3)) (ht : (pc : Int) + off = (tgt : Int)) (kt : x ≤ 0 → Go sc own cc nL ret ini d tgt L st h N bc bs Q) (kf : ¬ (x ≤ 0) → Go sc own cc nL ret ini d (pc + 3) L st h N bc bs Q) : Go sc own cc nL ret ini d pc L (.int x :: st) h N bc bs Q := by
  intro l D cA b sb p e R s m args below meth c mc ms Qw X hE ls H locs cells slots hg hP hS hc hs
  exact lv_if_le X.1 X.2.1 hd ht (fun q => kt (by simpa using q) l D cA b sb p e R s m args below meth c mc ms Qw X hE ls H locs cells slots hg hP hS hc hs) (fun q => kf (by simpa using q) l D cA b sb p e R s m args below meth c mc ms Qw X hE ls H locs cells slots hg hP hS hc hs)
theorem go_icmp_le {x y : Int32} {off : Int} {tgt : Nat} (hd : decode cc pc = .ok (.if_icmp .le off, 3)) (ht : (pc : Int) + off = (tgt : Int)) (kt : x ≤ y → Go sc own cc nL ret ini d tgt L st h N bc bs Q) (kf : ¬ (x ≤ y) → Go sc own cc nL ret ini d (pc + 3) L st h N bc bs Q) : Go sc own cc nL ret ini d pc L (.int y :: .int x :: st) h N bc bs Q := by
  intro l D cA b sb p e R s m args below meth c mc ms Qw X hE ls H locs cells slots hg hP hS hc hs
  exact lv_icmp_le X.1 X.2.1 hd ht (fun q => kt (by simpa using q) l D cA b sb p e R s m args below meth c mc ms Qw X hE ls H locs cells slots hg hP hS hc hs) (fun q => kf (by simpa using q) l D cA b sb p e R s m args below meth c mc ms Qw X hE ls H locs cells slots hg hP hS hc hs)
theorem go_tableOut {dflt lo hi : Int} {offs : Array Int} {len : Nat} {x : Int32} {tgt : Nat} (hd : decode cc pc = .ok (.tableswitch dflt lo hi offs, len)) (hx0 : x.toInt < lo ∨ hi < x.toInt) (ht : (pc : Int) + dflt = (tgt : Int)) (k : Go sc own cc nL ret ini d tgt L st h N bc bs Q) : Go sc own cc nL ret ini d pc L (.int x :: st) h N bc bs Q :=
  go_st (fun p l e R s m args below meth c H locs cells slots Qw ls b sb hx hb hown hts w => lv_tableOut hx hb hd hx0 ht w) k
theorem go_tableIn {dflt lo hi : Int} {offs : Array Int} {len : Nat} {x : Int32} {off : Int} {tgt : Nat} (hd : decode cc pc = .ok (.tableswitch dflt lo hi offs, len)) (h1 : ¬ x.toInt < lo) (h2 : ¬ hi < x.toInt) (ho : offs[(x.toInt - lo).toNat]? = some off) (ht : (pc : Int) + off = (tgt : Int)) (k : Go sc own cc nL ret ini d tgt L st h N bc bs Q) : Go sc own cc nL ret ini d pc L (.int x :: st) h N bc bs Q :=
  go_st (fun p l e R s m args below meth c H locs cells slots Qw ls b sb hx hb hown hts w => lv_tableIn hx hb hd h1 h2 ho ht w) k
theorem go_lookup {dflt : Int} {ps : Array (Int × Int)} {len : Nat} {x : Int32} {off : Int} {tgt : Nat} (hd : decode cc pc = .ok (.lookupswitch dflt ps, len)) (hp : (ps.toList.zip (ps.toList.drop 1)).all (fun (a, next) => a.1 < next.1) = true) (ho : Op.lookupswitch.offset ps.toList dflt x.toInt = off) (ht : (pc : Int) + off = (tgt : Int)) (k : Go sc own cc nL ret ini d tgt L st h N bc bs Q) : Go sc own cc nL ret ini d pc L (.int x :: st) h N bc bs Q :=
  go_st (fun p l e R s m args below meth c H locs cells slots Qw ls b sb hx hb hown hts w => lv_lookup hx hb hd hp ho ht w) k
theorem go_ret {v : Option Value} (hR : gR cc ret pc v) (hq : Q v h N) : Go sc own cc nL ret ini d pc L v.toList h N bc bs Q := by
  intro l D cA b sb p e R s m args below meth c mc ms Qw X hE ls H locs cells slots hg hP hS hc hs
  exact hE v pc ls H locs h N cells slots hq hP hS (by omega) (by omega) hR
theorem go_vret (hd : decode cc pc = .ok (.return_, 1)) (hr : ret = none) (hq : Q none h N) : Go sc own cc nL ret ini d pc L [] h N bc bs Q := go_ret (v := none) (Or.inl ⟨rfl, hr, hd⟩) hq
theorem go_iret {x : Int32} (hd : decode cc pc = .ok (.ireturn, 1)) (hr : ret = some .int) (hq : Q (some (.int x)) h N) : Go sc own cc nL ret ini d pc L [.int x] h N bc bs Q := go_ret (v := some (.int x)) (Or.inr (Or.inl ⟨x, .int, rfl, hr, rfl, hd⟩)) hq
theorem go_zret {x : Int32} (hd : decode cc pc = .ok (.ireturn, 1)) (hr : ret = some .boolean) (hx : x = 0 ∨ x = 1) (hq : Q (some (.int x)) h N) : Go sc own cc nL ret ini d pc L [.int x] h N bc bs Q := go_ret (v := some (.int x)) (Or.inr (Or.inl ⟨x, .boolean, rfl, hr, by rcases hx with rfl | rfl <;> rfl, hd⟩)) hq
theorem go_lret {x : Int64} (hd : decode cc pc = .ok (.lreturn, 1)) (hr : ret = some .long) (hq : Q (some (.long x)) h N) : Go sc own cc nL ret ini d pc L [.long x] h N bc bs Q := go_ret (v := some (.long x)) (Or.inr (Or.inr (Or.inl ⟨x, rfl, hr, hd⟩))) hq
theorem go_aret {i : Nat} {C : String} (hd : decode cc pc = .ok (.areturn, 1)) (hr : ret = some (.object C)) (hq : Q (some (.ref i)) h N) : Go sc own cc nL ret ini d pc L [.ref i] h N bc bs Q := go_ret (v := some (.ref i)) (Or.inr (Or.inr (Or.inr ⟨i, C, rfl, hr, hd⟩))) hq
end GoRows
