abbrev vwCl : List vw_C := [(RX0, TX0, 8), (RX1, TX1, 9), (RX2, TX2, 19)]
/-! ===== the core: worlds passed whole, contracts over them, calls ===== -/
/-- the class ids of the five kinds of array -/
def TYS (cy : Nat → ClassId) : List (ClassId × FieldType) := [(cy 0, .int), (cy 1, .long), (cy 2, .boolean), (cy 3, .object "CoauthorText$Sign"), (cy 4, .array .int)]
def XKe (E : String) (U : State) : Prop := va_Nw (.castable E E) U ∧ va_Nw (.declares ⟨"java/lang/RuntimeException", "<init>", "(Ljava/lang/String;)V"⟩) U ∧ va_Nw (.declares ⟨"java/lang/Exception", "<init>", "(Ljava/lang/String;)V"⟩) U ∧ va_Nw (.declares ⟨"java/lang/Throwable", "<init>", "(Ljava/lang/String;)V"⟩) U
theorem XKe.warm {E : String} {s U : State} (hW : s.WarmedH U.vm) (h : XKe E s) : XKe E U := ⟨va_Nw.warmC hW h.1, va_Nw.warmD hW h.2.1, va_Nw.warmD hW h.2.2.1, va_Nw.warmD hW h.2.2.2⟩
def eIAE : String := "java/lang/IllegalArgumentException"
def eISE : String := "java/lang/IllegalStateException"
def eIOB : String := "java/lang/IndexOutOfBoundsException"
def XKf (U : State) : Prop := va_Nw (.fieldLinkNest RX1 113 RX0 "next" "LCoauthorText$Sign;" RX1) U ∧ va_Nw (.fieldLinkNest RX1 122 RX0 "letter" "I" RX1) U ∧ va_Nw (.fieldLinkNest RX1 128 RX0 "author" "I" RX1) U ∧ va_Nw (.fieldLinkNest RX1 131 RX0 "ahead" "LCoauthorText$Sign;" RX1) U ∧ va_Nw (.fieldLinkNest RX1 159 RX0 "stamp" "I" RX1) U ∧ va_Nw (.fieldLinkNest RX1 80 RX0 "number" "I" RX1) U
theorem XKf.warm {s U : State} (hW : s.WarmedH U.vm) (h : XKf s) : XKf U := ⟨va_Nw.warmF hW h.1, va_Nw.warmF hW h.2.1, va_Nw.warmF hW h.2.2.1, va_Nw.warmF hW h.2.2.2.1, va_Nw.warmF hW h.2.2.2.2.1, va_Nw.warmF hW h.2.2.2.2.2⟩
def XKm (U : State) : Prop := va_Nw (.methodLinkNest RX1 125 yX0_isInTextOf RX1) U ∧ va_Nw (.methodLinkNest RX1 73 yX0_init RX1) U ∧ va_Nw (.methodLinkNest RX1 83 yX0_setRemoved RX1) U ∧ va_Nw (.methodLinkNest RX1 91 yX0_isRemovedIn RX1) U ∧ va_Nw (.methodLinkNest RX1 106 yX0_isKnownIn RX1) U ∧ va_Nw (.methodLinkNest RX1 109 yX0_bringNewer RX1) U
theorem XKm.warm {s U : State} (hW : s.WarmedH U.vm) (h : XKm s) : XKm U := ⟨va_Nw.warmM hW h.1, va_Nw.warmM hW h.2.1, va_Nw.warmM hW h.2.2.1, va_Nw.warmM hW h.2.2.2.1, va_Nw.warmM hW h.2.2.2.2.1, va_Nw.warmM hW h.2.2.2.2.2⟩
def XKt (U : State) : Prop := ∃ t : Nat → Nat, vk_R RX1 103 "a copy learns from another one" (t 0) U ∧ vk_R RX1 134 "the text is empty" (t 1) U ∧ vk_R RX1 136 "all editions were printed" (t 2) U ∧ vk_R RX1 153 "out of range" (t 3) U ∧ vk_R RX1 155 "no such edition" (t 4) U ∧ vk_R RX1 157 "no such sign" (t 5) U ∧ vk_R RX1 55 "no such place" (t 6) U ∧ vk_R RX1 66 "all signs were inserted" (t 7) U ∧ vk_R RX1 95 "the copy does not know the sign as removed" (t 8) U
theorem XKt.warm {s U : State} (hW : s.WarmedH U.vm) (h : XKt s) : XKt U := by
  obtain ⟨t, h0, h1, h2, h3, h4, h5, h6, h7, h8⟩ := h
  exact ⟨t, vk_R.warm hW h0, vk_R.warm hW h1, vk_R.warm hW h2, vk_R.warm hW h3, vk_R.warm hW h4, vk_R.warm hW h5, vk_R.warm hW h6, vk_R.warm hW h7, vk_R.warm hW h8⟩
def XKc (U : State) : Prop := va_Nc eIAE eISE U ∧ va_Nc eIAE eIOB U ∧ va_Nc eISE eIAE U ∧ va_Nc eISE eIOB U ∧ va_Nc eIOB eIAE U ∧ va_Nc eIOB eISE U
theorem XKc.moved {s U : State} (hW : s.vm.Alike U.vm) (h : XKc s) : XKc U := ⟨va_Nc.moved hW h.1, va_Nc.moved hW h.2.1, va_Nc.moved hW h.2.2.1, va_Nc.moved hW h.2.2.2.1, va_Nc.moved hW h.2.2.2.2.1, va_Nc.moved hW h.2.2.2.2.2⟩
def XKw (U : State) : Prop := XKe eIAE U ∧ XKe eISE U ∧ XKe eIOB U ∧ XKf U ∧ XKm U ∧ XKt U ∧ XKc U ∧ va_AO RX0 U ∧ va_AOA .int U
/-- what every method takes along: statics of Throwable, links, texts -/
def XK (A : Nat → Prop) (U : State) (H : Heap) : Prop := vx_Zq Bundle.tN "UNASSIGNED_STACK" Bundle.steD A U H ∧ vx_Zq Bundle.tN "SUPPRESSED_SENTINEL" Bundle.listD A U H ∧ XKw U
def wPre (D : va_G) (cy : Nat → ClassId) (w : va_W) (sz : Nat) (U : State) : Prop := U.heap.size = sz ∧ va_P D vwCl w U.heap ∧ va_K D vwCl (TYS cy) U ∧ va_D (fun _ => True) w ∧ XK (va_A w sz) U U.heap
def wB (D : va_G) (cy : Nat → ClassId) (A : Nat → Prop) (w : va_W) (t : State) : Prop := va_P D vwCl w t.heap ∧ va_K D vwCl (TYS cy) t ∧ va_D A w
theorem va_AOA.moved {ty : FieldType} {u U : State} (hvm : u.vm.Alike U.vm) (h : va_AOA ty u) : va_AOA ty U := by
  have h2 : (Cond.arrayOver (.array ty)).before #[] (u.setVm U.vm) = true := by
    rw [Cond.arrayOver_setVmC hvm]
    exact h
  exact h2
theorem XKw.warm {s U : State} (hW : s.WarmedH U.vm) (h : XKw s) : XKw U := ⟨h.1.warm hW, h.2.1.warm hW, h.2.2.1.warm hW, h.2.2.2.1.warm hW, h.2.2.2.2.1.warm hW, h.2.2.2.2.2.1.warm hW, h.2.2.2.2.2.2.1.moved hW.alike, h.2.2.2.2.2.2.2.1.moved hW.alike, va_AOA.moved hW.alike h.2.2.2.2.2.2.2.2⟩
theorem wPre_blind {D : va_G} {cy : Nat → ClassId} {w : va_W} {sz : Nat} {av : List Value} : FrameBlind (va_Pc av (wPre D cy w sz)) := fun a U g mk q =>
  ⟨q.1, q.2.1, q.2.2.1, va_K.moved (u := U) (U := U.calling g mk a) (Vm.Alike.refl U.vm) q.2.2.2.1, q.2.2.2.2.1, vx_Zq.moved (u := U) (U := U.calling g mk a) (Vm.Alike.refl U.vm) q.2.2.2.2.2.1, vx_Zq.moved (u := U) (U := U.calling g mk a) (Vm.Alike.refl U.vm) q.2.2.2.2.2.2.1, XKw.warm (s := U) (U := U.calling g mk a) (State.WarmedH.refl U) q.2.2.2.2.2.2.2⟩
theorem wA {A0 : Nat → Prop} {w : va_W} {H0 H : Heap} {locs : List Loc} (hD : va_D A0 w) (hS : va_S A0 H0 H locs) (hA : ∀ q, H0.size ≤ q → A0 q) : ∀ q, va_A w H.size q → A0 q := by
  intro q h
  rcases h with ⟨k, e, h⟩ | h
  · exact hD.2 k (q, e) h
  · exact hA q (Nat.le_trans hS.1 h)
theorem wPre_call {D : va_G} {cy : Nat → ClassId} {w : va_W} {s : State} {H : Heap} {locs : List Loc} {A0 : Nat → Prop} (hP : va_P D vwCl w H) (hK : va_K D vwCl (TYS cy) s) (hD : va_D A0 w) (hS : va_S A0 s.heap H locs) (hA : ∀ q, s.heap.size ≤ q → A0 q) (hX : XK A0 s s.heap) : ∀ U : State, U.heap = H → s.WarmedH U.vm → wPre D cy w H.size U := fun U hU hW =>
  ⟨by rw [hU], by rw [hU]; exact hP, va_K.moved hW.alike hK, hD.weaken (fun _ _ _ _ => trivial), by rw [hU]; exact vx_Zq.moved hW.alike ((hX.1.kept hS.2.1).narrow (wA hD hS hA)), by rw [hU]; exact vx_Zq.moved hW.alike ((hX.2.1.kept hS.2.1).narrow (wA hD hS hA)), hX.2.2.warm hW⟩
theorem pV {D : va_G} {cy : Nat → ClassId} {w : va_W} {s : State} {H : Heap} {locs : List Loc} {A0 : Nat → Prop} {C : String} {b : Addr} {As : List Value} (hP : va_P D vwCl w H) (hK : va_K D vwCl (TYS cy) s) (hD : va_D A0 w) (hS : va_S A0 s.heap H locs) (hA : ∀ q, s.heap.size ≤ q → A0 q) (hX : XK A0 s s.heap) (hr : ∃ cellB : Cell, H[b]? = some cellB ∧ cellB.vm.isStatics = false ∧ s.vm.findClass C = some cellB.cls) : PreV s H C b (va_Pc (.ref b :: As) (wPre D cy w H.size)) As :=
  ⟨wPre_blind, hr, fun U hU hW => ⟨rfl, wPre_call hP hK hD hS hA hX U hU hW⟩⟩
theorem pS {D : va_G} {cy : Nat → ClassId} {w : va_W} {s : State} {H : Heap} {locs : List Loc} {A0 : Nat → Prop} {As : List Value} (hP : va_P D vwCl w H) (hK : va_K D vwCl (TYS cy) s) (hD : va_D A0 w) (hS : va_S A0 s.heap H locs) (hA : ∀ q, s.heap.size ≤ q → A0 q) (hX : XK A0 s s.heap) : PreS s H (va_Pc As (wPre D cy w H.size)) As :=
  ⟨wPre_blind, fun U hU hW => ⟨rfl, wPre_call hP hK hD hS hA hX U hU hW⟩⟩
/-- contracts: a method that answers an int (v: nothing, l: a long, q: a reference or null) -/
def CI (l : Launch) (y : MethodName) (ws : List Cond) (rm : Room) (D : va_G) (cy : Nat → ClassId) (av : List Value) (w : va_W) (post : Int32 → va_W → Prop) (mc ms : Nat) : Prop := ∀ sz : Nat, Met l y ws rm (va_Pc av (wPre D cy w sz)) (va_Qi post (fun w' t => wB D cy (va_A w sz) w' t) (va_A w sz)) mc ms (va_A w sz)
def CL (l : Launch) (y : MethodName) (ws : List Cond) (rm : Room) (D : va_G) (cy : Nat → ClassId) (av : List Value) (w : va_W) (post : Int64 → va_W → Prop) (mc ms : Nat) : Prop := ∀ sz : Nat, Met l y ws rm (va_Pc av (wPre D cy w sz)) (va_Ql post (fun w' t => wB D cy (va_A w sz) w' t) (va_A w sz)) mc ms (va_A w sz)
def CV (l : Launch) (y : MethodName) (ws : List Cond) (rm : Room) (D : va_G) (cy : Nat → ClassId) (av : List Value) (w : va_W) (post : va_W → Prop) (mc ms : Nat) : Prop := ∀ sz : Nat, Met l y ws rm (va_Pc av (wPre D cy w sz)) (va_Qv post (fun w' t => wB D cy (va_A w sz) w' t) (va_A w sz)) mc ms (va_A w sz)
/-- .. and such as may throw: the world is then as it was -/
def xC (D : va_G) (cy : Nat → ClassId) (px : String → Prop) (w : va_W) (sz : Nat) : String → State → State → Prop := vx_X (fun _ : Unit => True) (fun E _ t => px E ∧ wB D cy (va_A w sz) w t) (va_A w sz)
def TI (l : Launch) (y : MethodName) (ws : List Cond) (rm : Room) (D : va_G) (cy : Nat → ClassId) (av : List Value) (w : va_W) (post : Int32 → va_W → Prop) (px : String → Prop) (mc ms : Nat) : Prop := ∀ sz : Nat, vx_Met l y ws rm (va_Pc av (wPre D cy w sz)) (va_Qi post (fun w' t => wB D cy (va_A w sz) w' t) (va_A w sz)) (xC D cy px w sz) mc ms (va_A w sz)
def TL (l : Launch) (y : MethodName) (ws : List Cond) (rm : Room) (D : va_G) (cy : Nat → ClassId) (av : List Value) (w : va_W) (post : Int64 → va_W → Prop) (px : String → Prop) (mc ms : Nat) : Prop := ∀ sz : Nat, vx_Met l y ws rm (va_Pc av (wPre D cy w sz)) (va_Ql post (fun w' t => wB D cy (va_A w sz) w' t) (va_A w sz)) (xC D cy px w sz) mc ms (va_A w sz)
def TV (l : Launch) (y : MethodName) (ws : List Cond) (rm : Room) (D : va_G) (cy : Nat → ClassId) (av : List Value) (w : va_W) (post : va_W → Prop) (px : String → Prop) (mc ms : Nat) : Prop := ∀ sz : Nat, vx_Met l y ws rm (va_Pc av (wPre D cy w sz)) (va_Qv post (fun w' t => wB D cy (va_A w sz) w' t) (va_A w sz)) (xC D cy px w sz) mc ms (va_A w sz)
def TQ (l : Launch) (y : MethodName) (ws : List Cond) (rm : Room) (D : va_G) (cy : Nat → ClassId) (av : List Value) (w : va_W) (post : Option Nat → va_W → Prop) (px : String → Prop) (mc ms : Nat) : Prop := ∀ sz : Nat, vx_Met l y ws rm (va_Pc av (wPre D cy w sz)) (va_Qq post (fun w' t => wB D cy (va_A w sz) w' t) (va_A w sz)) (xC D cy px w sz) mc ms (va_A w sz)
/-- what stands at a body's entry -/
def Ent (p : Program) (own : String) (ws : List Cond) (cc : ByteArray) (maxL : Nat) (ret : Option FieldType) (D : va_G) (cy : Nat → ClassId) (s : State) (m : MethodId) (args : Array Value) (meth : Method) (c : Code) (w : va_W) (A : Nat → Prop) : Prop :=
  p.tables.exec = Jvm.exec ∧ c.code = cc ∧ c.maxLocals = maxL ∧ s.vm.findClass own = some m.cls ∧ (∀ w ∈ ws, w.before args s = true) ∧ meth.sig.returnType = ret ∧ meth.locks = false ∧ (∀ q, s.heap.size ≤ q → A q) ∧ va_S A s.heap s.heap [] ∧ va_P D vwCl w s.heap ∧ va_K D vwCl (TYS cy) s ∧ va_D A w ∧ XK A s s.heap
section COREB
variable {l : Launch} {y : MethodName} {ws ws' : List Cond} {rm : Room} {D : va_G} {cy : Nat → ClassId} {av : List Value} {w : va_W} {mc ms maxL : Nat} {cc : ByteArray} {ret : Option FieldType} {px : String → Prop}
theorem Ent.of {p : Program} {e : Env} {s s₁ : State} {m : MethodId} {below : List Frame} {meth : Method} {c : Code} {sz : Nat} {args : Array Value} (B : BodyLoose p l y (headSpec ws rm) cc maxL ret e s m args below meth c s₁) (hml : c.maxLocals = maxL) (hv : va_Pc av (wPre D cy w sz) args s) : args = av.toArray ∧ s.heap.size = sz ∧ Ent p y.cls ws cc maxL ret D cy s m args meth c w (va_A w sz) := by
  obtain ⟨rfl, hsz, hP, hK, hD0, hX⟩ := hv
  subst hsz
  exact ⟨rfl, rfl, B.exec, B.bytes, hml, findClass_of_methodNamed B.named, atoms_spec (ws := ws) B.pre, B.returns, B.notSynchronized, fun q h => Or.inr h, va_S.rf, hP, hK, hD0.self, hX⟩
theorem CI.of {post : Int32 → va_W → Prop} (hy : plainName y.cls = true) (hw : ws = Cond.code y cc maxL ret :: ws') (hn : (lg_sl av).length ≤ maxL)
    (body : ∀ (p : Program) (e : Env) (s : State) (m : MethodId) (below : List Frame) (meth : Method) (c : Code) (A : Nat → Prop) (ls : Array Slot), Ent p y.cls ws cc maxL ret D cy s m av.toArray meth c w A → lv_has ls maxL (lv_args 0 av) →
      W p l e rm s m av.toArray below meth c s.heap [] 0 0 (MQ below (va_Qi post (fun w' t => wB D cy A w' t) A) av.toArray s mc ms A) (F0 m 0 ls [])) : CI l y ws rm D cy av w post mc ms := fun sz => by
  refine Met.ofW (cc := cc) (maxL := maxL) (ret := ret) hy hw ?_
  intro p e s m args below meth c s₁ B hml hv
  obtain ⟨rfl, hsz, E⟩ := Ent.of B hml hv
  have hl := lv_entry av (n := maxL) hn
  rw [lg_entry_eq]
  exact body p e s m below meth c _ _ E hl
theorem CL.of {post : Int64 → va_W → Prop} (hy : plainName y.cls = true) (hw : ws = Cond.code y cc maxL ret :: ws') (hn : (lg_sl av).length ≤ maxL)
    (body : ∀ (p : Program) (e : Env) (s : State) (m : MethodId) (below : List Frame) (meth : Method) (c : Code) (A : Nat → Prop) (ls : Array Slot), Ent p y.cls ws cc maxL ret D cy s m av.toArray meth c w A → lv_has ls maxL (lv_args 0 av) →
      W p l e rm s m av.toArray below meth c s.heap [] 0 0 (MQ below (va_Ql post (fun w' t => wB D cy A w' t) A) av.toArray s mc ms A) (F0 m 0 ls [])) : CL l y ws rm D cy av w post mc ms := fun sz => by
  refine Met.ofW (cc := cc) (maxL := maxL) (ret := ret) hy hw ?_
  intro p e s m args below meth c s₁ B hml hv
  obtain ⟨rfl, hsz, E⟩ := Ent.of B hml hv
  have hl := lv_entry av (n := maxL) hn
  rw [lg_entry_eq]
  exact body p e s m below meth c _ _ E hl
theorem CV.of {post : va_W → Prop} (hy : plainName y.cls = true) (hw : ws = Cond.code y cc maxL ret :: ws') (hn : (lg_sl av).length ≤ maxL)
    (body : ∀ (p : Program) (e : Env) (s : State) (m : MethodId) (below : List Frame) (meth : Method) (c : Code) (A : Nat → Prop) (ls : Array Slot), Ent p y.cls ws cc maxL ret D cy s m av.toArray meth c w A → lv_has ls maxL (lv_args 0 av) →
      W p l e rm s m av.toArray below meth c s.heap [] 0 0 (MQ below (va_Qv post (fun w' t => wB D cy A w' t) A) av.toArray s mc ms A) (F0 m 0 ls [])) : CV l y ws rm D cy av w post mc ms := fun sz => by
  refine Met.ofW (cc := cc) (maxL := maxL) (ret := ret) hy hw ?_
  intro p e s m args below meth c s₁ B hml hv
  obtain ⟨rfl, hsz, E⟩ := Ent.of B hml hv
  have hl := lv_entry av (n := maxL) hn
  rw [lg_entry_eq]
  exact body p e s m below meth c _ _ E hl
def xQ (D : va_G) (cy : Nat → ClassId) (px : String → Prop) (w : va_W) (A : Nat → Prop) : String → State → State → Prop := vx_X (fun _ : Unit => True) (fun E _ t => px E ∧ wB D cy A w t) A
theorem TI.of {post : Int32 → va_W → Prop} (hy : plainName y.cls = true) (hw : ws = Cond.code y cc maxL ret :: ws') (hn : (lg_sl av).length ≤ maxL)
    (body : ∀ (p : Program) (e : Env) (s : State) (m : MethodId) (below : List Frame) (meth : Method) (c : Code) (A : Nat → Prop) (ls : Array Slot), Ent p y.cls ws cc maxL ret D cy s m av.toArray meth c w A → (∀ x ∈ c.exceptionTable.toList, False) → lv_has ls maxL (lv_args 0 av) →
      W p l e rm s m av.toArray below meth c s.heap [] 0 0 (vx_MQ below (va_Qi post (fun w' t => wB D cy A w' t) A) (xQ D cy px w A) av.toArray s mc ms A) (F0 m 0 ls [])) : TI l y ws rm D cy av w post px mc ms := fun sz => by
  refine vx_ofW (cc := cc) (maxL := maxL) (ret := ret) hy hw ?_
  intro p e s m args below meth c s₁ B hml ht hv
  obtain ⟨rfl, hsz, E⟩ := Ent.of B hml hv
  have hl := lv_entry av (n := maxL) hn
  rw [lg_entry_eq]
  exact body p e s m below meth c _ _ E ht hl
theorem TL.of {post : Int64 → va_W → Prop} (hy : plainName y.cls = true) (hw : ws = Cond.code y cc maxL ret :: ws') (hn : (lg_sl av).length ≤ maxL)
    (body : ∀ (p : Program) (e : Env) (s : State) (m : MethodId) (below : List Frame) (meth : Method) (c : Code) (A : Nat → Prop) (ls : Array Slot), Ent p y.cls ws cc maxL ret D cy s m av.toArray meth c w A → (∀ x ∈ c.exceptionTable.toList, False) → lv_has ls maxL (lv_args 0 av) →
      W p l e rm s m av.toArray below meth c s.heap [] 0 0 (vx_MQ below (va_Ql post (fun w' t => wB D cy A w' t) A) (xQ D cy px w A) av.toArray s mc ms A) (F0 m 0 ls [])) : TL l y ws rm D cy av w post px mc ms := fun sz => by
  refine vx_ofW (cc := cc) (maxL := maxL) (ret := ret) hy hw ?_
  intro p e s m args below meth c s₁ B hml ht hv
  obtain ⟨rfl, hsz, E⟩ := Ent.of B hml hv
  have hl := lv_entry av (n := maxL) hn
  rw [lg_entry_eq]
  exact body p e s m below meth c _ _ E ht hl
theorem TV.of {post : va_W → Prop} (hy : plainName y.cls = true) (hw : ws = Cond.code y cc maxL ret :: ws') (hn : (lg_sl av).length ≤ maxL)
    (body : ∀ (p : Program) (e : Env) (s : State) (m : MethodId) (below : List Frame) (meth : Method) (c : Code) (A : Nat → Prop) (ls : Array Slot), Ent p y.cls ws cc maxL ret D cy s m av.toArray meth c w A → (∀ x ∈ c.exceptionTable.toList, False) → lv_has ls maxL (lv_args 0 av) →
      W p l e rm s m av.toArray below meth c s.heap [] 0 0 (vx_MQ below (va_Qv post (fun w' t => wB D cy A w' t) A) (xQ D cy px w A) av.toArray s mc ms A) (F0 m 0 ls [])) : TV l y ws rm D cy av w post px mc ms := fun sz => by
  refine vx_ofW (cc := cc) (maxL := maxL) (ret := ret) hy hw ?_
  intro p e s m args below meth c s₁ B hml ht hv
  obtain ⟨rfl, hsz, E⟩ := Ent.of B hml hv
  have hl := lv_entry av (n := maxL) hn
  rw [lg_entry_eq]
  exact body p e s m below meth c _ _ E ht hl
theorem TQ.of {post : Option Nat → va_W → Prop} (hy : plainName y.cls = true) (hw : ws = Cond.code y cc maxL ret :: ws') (hn : (lg_sl av).length ≤ maxL)
    (body : ∀ (p : Program) (e : Env) (s : State) (m : MethodId) (below : List Frame) (meth : Method) (c : Code) (A : Nat → Prop) (ls : Array Slot), Ent p y.cls ws cc maxL ret D cy s m av.toArray meth c w A → (∀ x ∈ c.exceptionTable.toList, False) → lv_has ls maxL (lv_args 0 av) →
      W p l e rm s m av.toArray below meth c s.heap [] 0 0 (vx_MQ below (va_Qq post (fun w' t => wB D cy A w' t) A) (xQ D cy px w A) av.toArray s mc ms A) (F0 m 0 ls [])) : TQ l y ws rm D cy av w post px mc ms := fun sz => by
  refine vx_ofW (cc := cc) (maxL := maxL) (ret := ret) hy hw ?_
  intro p e s m args below meth c s₁ B hml ht hv
  obtain ⟨rfl, hsz, E⟩ := Ent.of B hml hv
  have hl := lv_entry av (n := maxL) hn
  rw [lg_entry_eq]
  exact body p e s m below meth c _ _ E ht hl
end COREB
