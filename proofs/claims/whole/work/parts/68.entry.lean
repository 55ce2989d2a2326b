/-! ===== the claim out of one walk: what is the same for every law (the starting text), and the entry ===== -/
/-! THE CLAIM OUT OF ONE WALK OF THE LAW'S BODY. Your part is whole_start (and what it stands on); all else here is the same for every law, but numbers. -/
def R_law : String := "CoauthorTextLaw"
def lw_P (b : Addr) (xs : List Int32) (args : Array Value) (s : State) : Prop := args = #[.ref b] ∧ s.IntsAt b xs ∧ xs.length ≤ 2048 ∧ (Jvm.Cond.and given_1 narrow_1).before args s = true
def lw_Q (_ : Array Value) (s : State) (o : Outcome) (t : State) : Prop := o = .returned (some (.int 1)) ∧ Framed s o t [] 601024 7293034
def lw_Z (below : List Frame) (a : Array Value) (s : State) : State → Prop := fun t => ∃ o, t.status = .running ∧ Ended t below o ∧ lw_Q a s o t
/-- the law's own end, with 1 on the stack, nothing written that was there before, its room as the claim has it -/
theorem lw_ret {p : Program} {l : Launch} {e : Env} {s : State} {m : MethodId} {below : List Frame} {meth : Method} {c : Code} {b : Nat} (hx : p.tables.exec = Jvm.exec) (hb : c.code = code) (hr : meth.sig.returnType = ret) (hlocks : meth.locks = false) {pc : Nat} {H : Heap} {ls : Array Slot} (hdg : decode code pc = .ok (.ireturn, 1)) : W p l e room_1 s m #[Value.ref b] below meth c H [] 601024 7293034 (lw_Z below #[Value.ref b] s) (F0 m pc ls [.int 1]) := by
  intro T hT X
  obtain ⟨fs, hret, hrun, hended, hW, hframe⟩ := X.leave (v := some (.int 1)) (hlocks := hlocks) (fun h => by rw [hr] at h; cases h)
  have hmeth' : T.vm.method? m = some meth := X.method'
  refine ⟨T.setFrames fs, ?_, .returned (some (.int 1)), hrun, hended, rfl, ⟨_, rfl⟩, hW, hframe⟩
  jvm_step X.here [X.here.top, hx, hb, hdg, hmeth', hr, ret, narrow_b1]
  (try refine ⟨rfl, ?_⟩); (try refine ⟨rfl, ?_⟩)
  first | (intro acts; rw [hret _ acts rfl rfl rfl]) | rw [hret _ _ rfl rfl rfl]
  exact Steps.refl _
/-- what holds at the law's entry: the machine, the code, the tables' words (any of lw_tbl by 'hts w (by decide +kernel)'), the script of L ints xs at the cell b, what the Statement gives of the start (any of its parts by flat_of_before) -/
def lw_At (p : Program) (s : State) (m : MethodId) (meth : Method) (c : Code) (b L : Nat) (xs : Nat → Int32) : Prop :=
  p.tables.exec = Jvm.exec ∧ c.code = code ∧ meth.sig.returnType = ret ∧ c.maxLocals = 8 ∧ s.vm.findClass R_law = some m.cls ∧ (∀ w ∈ lw_tbl, w.before #[Value.ref b] s = true) ∧ va_X b L xs s s.heap ∧ b < s.heap.size ∧ meth.locks = false ∧ (Jvm.Cond.and given_1 narrow_1).before #[Value.ref b] s = true
theorem str_of {own tx : String} {k : Nat} {A : Array Value} {s : State} (h1 : (Cond.stringRef own k tx).before A s = true) (h2 : (Cond.exactly (.string own k) "java/lang/String").before A s = true) : ∃ a : Nat, vk_R own k tx a s := by
  obtain ⟨a, _, _, _, h, _⟩ := Cond.exactly_spec h2
  exact ⟨a, vk_R.of h1 h⟩
theorem over_arr {args : Array Value} {first s : State} {o : Option Outcome} {idx : List Nat} {t : FieldType} (h : (Cond.arrayOver (.array t)).holds args first o s idx = true) : ∃ (comp c : ClassId) (k : Class), s.vm.classes[c]? = some k ∧ k.kind = .array comp (.array t) ∧ s.vm.findClass ("[" ++ (FieldType.array t).toString) = some c := by
  simp only [Cond.holds, Cond.value, beq_iff_eq] at h
  cases hc : s.vm.findClass (FieldType.array t).toString with
  | none => simp [hc] at h
  | some comp =>
    simp only [hc, Option.bind_some, Option.bind_eq_some_iff, Option.map_eq_some_iff] at h
    obtain ⟨c, hi, k, hk, hb⟩ := h
    obtain ⟨hlt, hp, -⟩ := Array.findIdx?_eq_some_iff_getElem.mp hi
    have hkk : s.vm.classes[c] = k := (Array.getElem?_eq_some_iff.mp hk).2
    rw [hkk] at hp
    cases hkind : k.kind with
    | array component ty =>
      rw [hkind] at hb hp
      simp at hb hp
      exact ⟨comp, c, k, hk, by rw [hkind, hp, hb.1], hb.2⟩
    | _ => rw [hkind] at hb; simp at hb
theorem arr_T {s : State} {cA : ClassId} {kA : Class} {comp : ClassId} {ty : FieldType} (h1 : s.vm.classes[cA]? = some kA) (h2 : kA.kind = .array comp ty) : ArrOfT s cA ty := fun n z => ⟨fun k h => (by cases h), kA, h1, comp, h2⟩
set_option maxHeartbeats 4000000 in
set_option maxRecDepth 100000 in
/-- what stands at the law's entry, beside the classes' layouts -/
theorem entry_X {p : Program} {s : State} {m : MethodId} {meth : Method} {c : Code} {b L : Nat} {xs : Nat → Int32} (C0 : lw_At p s m meth c b L xs) : XK (fun q => s.heap.size ≤ q) s s.heap := by
  obtain ⟨hx, hb, hr, hml, hown, htl, hSX, hbl, hlocks, hgv⟩ := C0
  have hs := flat_of_before _ hgv
  have hAn : ∀ a : Nat, a < s.heap.size → ¬ (fun q : Nat => s.heap.size ≤ q) a := fun a h => Nat.not_le.mpr h
  have d1 := (htl (.declares ⟨"java/lang/RuntimeException", "<init>", "(Ljava/lang/String;)V"⟩) (by decide +kernel))
  have d2 := (htl (.declares ⟨"java/lang/Exception", "<init>", "(Ljava/lang/String;)V"⟩) (by decide +kernel))
  have d3 := (htl (.declares ⟨"java/lang/Throwable", "<init>", "(Ljava/lang/String;)V"⟩) (by decide +kernel))
  obtain ⟨t0, e0⟩ := str_of (own := RX1) (k := 103) (tx := "a copy learns from another one") (htl (.stringRef RX1 103 "a copy learns from another one") (by decide +kernel)) (hs (.exactly (.string RX1 103) "java/lang/String") (by decide +kernel))
  obtain ⟨t1, e1⟩ := str_of (own := RX1) (k := 134) (tx := "the text is empty") (htl (.stringRef RX1 134 "the text is empty") (by decide +kernel)) (hs (.exactly (.string RX1 134) "java/lang/String") (by decide +kernel))
  obtain ⟨t2, e2⟩ := str_of (own := RX1) (k := 136) (tx := "all editions were printed") (htl (.stringRef RX1 136 "all editions were printed") (by decide +kernel)) (hs (.exactly (.string RX1 136) "java/lang/String") (by decide +kernel))
  obtain ⟨t3, e3⟩ := str_of (own := RX1) (k := 153) (tx := "out of range") (htl (.stringRef RX1 153 "out of range") (by decide +kernel)) (hs (.exactly (.string RX1 153) "java/lang/String") (by decide +kernel))
  obtain ⟨t4, e4⟩ := str_of (own := RX1) (k := 155) (tx := "no such edition") (htl (.stringRef RX1 155 "no such edition") (by decide +kernel)) (hs (.exactly (.string RX1 155) "java/lang/String") (by decide +kernel))
  obtain ⟨t5, e5⟩ := str_of (own := RX1) (k := 157) (tx := "no such sign") (htl (.stringRef RX1 157 "no such sign") (by decide +kernel)) (hs (.exactly (.string RX1 157) "java/lang/String") (by decide +kernel))
  obtain ⟨t6, e6⟩ := str_of (own := RX1) (k := 55) (tx := "no such place") (htl (.stringRef RX1 55 "no such place") (by decide +kernel)) (hs (.exactly (.string RX1 55) "java/lang/String") (by decide +kernel))
  obtain ⟨t7, e7⟩ := str_of (own := RX1) (k := 66) (tx := "all signs were inserted") (htl (.stringRef RX1 66 "all signs were inserted") (by decide +kernel)) (hs (.exactly (.string RX1 66) "java/lang/String") (by decide +kernel))
  obtain ⟨t8, e8⟩ := str_of (own := RX1) (k := 95) (tx := "the copy does not know the sign as removed") (htl (.stringRef RX1 95 "the copy does not know the sign as removed") (by decide +kernel)) (hs (.exactly (.string RX1 95) "java/lang/String") (by decide +kernel))
  have i1 := (htl (.initialized "java/lang/Throwable") (by decide +kernel))
  refine ⟨vx_Zqof (htl (.laysStatic Bundle.tN "UNASSIGNED_STACK" Bundle.steD) (by decide +kernel)) i1 (hs (.isRef (.static Bundle.tN "UNASSIGNED_STACK" Bundle.steD)) (by decide +kernel)) hAn, vx_Zqof (htl (.laysStatic Bundle.tN "SUPPRESSED_SENTINEL" Bundle.listD) (by decide +kernel)) i1 (hs (.isRef (.static Bundle.tN "SUPPRESSED_SENTINEL" Bundle.listD)) (by decide +kernel)) hAn, ?_⟩
  refine ⟨⟨va_Nw.of rfl (htl (.castable "java/lang/IllegalArgumentException" "java/lang/IllegalArgumentException") (by decide +kernel)), va_Nw.of rfl d1, va_Nw.of rfl d2, va_Nw.of rfl d3⟩, ⟨va_Nw.of rfl (htl (.castable "java/lang/IllegalStateException" "java/lang/IllegalStateException") (by decide +kernel)), va_Nw.of rfl d1, va_Nw.of rfl d2, va_Nw.of rfl d3⟩, ⟨va_Nw.of rfl (htl (.castable "java/lang/IndexOutOfBoundsException" "java/lang/IndexOutOfBoundsException") (by decide +kernel)), va_Nw.of rfl d1, va_Nw.of rfl d2, va_Nw.of rfl d3⟩, ?_, ?_, ?_, ?_, ?_, ?_⟩
  · exact ⟨va_Nw.of rfl (htl (.fieldLinkNest RX1 113 RX0 "next" "LCoauthorText$Sign;" RX1) (by decide +kernel)), va_Nw.of rfl (htl (.fieldLinkNest RX1 122 RX0 "letter" "I" RX1) (by decide +kernel)), va_Nw.of rfl (htl (.fieldLinkNest RX1 128 RX0 "author" "I" RX1) (by decide +kernel)), va_Nw.of rfl (htl (.fieldLinkNest RX1 131 RX0 "ahead" "LCoauthorText$Sign;" RX1) (by decide +kernel)), va_Nw.of rfl (htl (.fieldLinkNest RX1 159 RX0 "stamp" "I" RX1) (by decide +kernel)), va_Nw.of rfl (htl (.fieldLinkNest RX1 80 RX0 "number" "I" RX1) (by decide +kernel))⟩
  · exact ⟨va_Nw.of rfl (htl (.methodLinkNest RX1 125 yX0_isInTextOf RX1) (by decide +kernel)), va_Nw.of rfl (htl (.methodLinkNest RX1 73 yX0_init RX1) (by decide +kernel)), va_Nw.of rfl (htl (.methodLinkNest RX1 83 yX0_setRemoved RX1) (by decide +kernel)), va_Nw.of rfl (htl (.methodLinkNest RX1 91 yX0_isRemovedIn RX1) (by decide +kernel)), va_Nw.of rfl (htl (.methodLinkNest RX1 106 yX0_isKnownIn RX1) (by decide +kernel)), va_Nw.of rfl (htl (.methodLinkNest RX1 109 yX0_bringNewer RX1) (by decide +kernel))⟩
  · exact ⟨fun i => if i = 0 then t0 else if i = 1 then t1 else if i = 2 then t2 else if i = 3 then t3 else if i = 4 then t4 else if i = 5 then t5 else if i = 6 then t6 else if i = 7 then t7 else t8, e0, e1, e2, e3, e4, e5, e6, e7, e8⟩
  · exact ⟨va_Nc.of (hs (.not (.castable eIAE eISE)) (by decide +kernel)), va_Nc.of (hs (.not (.castable eIAE eIOB)) (by decide +kernel)), va_Nc.of (hs (.not (.castable eISE eIAE)) (by decide +kernel)), va_Nc.of (hs (.not (.castable eISE eIOB)) (by decide +kernel)), va_Nc.of (hs (.not (.castable eIOB eIAE)) (by decide +kernel)), va_Nc.of (hs (.not (.castable eIOB eISE)) (by decide +kernel))⟩
  · exact va_AO.of (htl (.arrayOver (.object RX0)) (by decide +kernel))
  · exact (htl (.arrayOver (.array .int)) (by decide +kernel))
set_option maxHeartbeats 4000000 in
set_option maxRecDepth 100000 in
theorem entry_K {p : Program} {s : State} {m : MethodId} {meth : Method} {c : Code} {b L : Nat} {xs : Nat → Int32} (C0 : lw_At p s m meth c b L xs) : ∃ (D : va_G) (cy : Nat → ClassId), va_K D vwCl (TYS cy) s := by
  obtain ⟨hx, hb, hr, hml, hown, htl, hSX, hbl, hlocks, hgv⟩ := C0
  obtain ⟨c0, iS0, hKn0⟩ := u_known (C := RX0) (T := TX0) (N := 8) (n := 8) htl inX0 (htl (.instantiable RX0 8) (by decide +kernel))
  obtain ⟨c1, iS1, hKn1⟩ := u_known (C := RX1) (T := TX1) (N := 9) (n := 9) htl inX1 (htl (.instantiable RX1 9) (by decide +kernel))
  obtain ⟨c2, iS2, hKn2⟩ := u_known (C := RX2) (T := TX2) (N := 19) (n := 19) htl inX2 (htl (.instantiable RX2 19) (by decide +kernel))
  obtain ⟨a0, k0, p0, f0, g0, t0⟩ := Cond.arrayClass_spec (htl (.arrayClass .int) (by decide +kernel))
  obtain ⟨a1, k1, p1, f1, g1, t1⟩ := Cond.arrayClass_spec (htl (.arrayClass .long) (by decide +kernel))
  obtain ⟨a2, k2, p2, f2, g2, t2⟩ := Cond.arrayClass_spec (htl (.arrayClass .boolean) (by decide +kernel))
  obtain ⟨p3, a3, k3, n3, q3, g3, t3, f3⟩ := Cond.arrayOver_spec (htl (.arrayOver (.object RX0)) (by decide +kernel))
  obtain ⟨p4, a4, k4, g4, t4, f4⟩ := over_arr (htl (.arrayOver (.array .int)) (by decide +kernel))
  refine ⟨(fun k => if k = 0 then c0 else if k = 1 then c1 else c2, fun k => if k = 0 then iS0 else if k = 1 then iS1 else iS2), fun k => if k = 0 then a0 else if k = 1 then a1 else if k = 2 then a2 else if k = 3 then a3 else a4, ?_, ?_⟩
  · intro k q hq
    match k, hq with
    | 0, hq => cases hq; exact hKn0
    | 1, hq => cases hq; exact hKn1
    | 2, hq => cases hq; exact hKn2
    | k + 3, hq => simp at hq
  · intro k q hq
    match k, hq with
    | 0, hq => cases hq; exact ⟨arr_T g0 t0, f0⟩
    | 1, hq => cases hq; exact ⟨arr_T g1 t1, f1⟩
    | 2, hq => cases hq; exact ⟨arr_T g2 t2, f2⟩
    | 3, hq => cases hq; exact ⟨arr_T g3 t3, k3, p3, g3, t3, n3, f3⟩
    | 4, hq => cases hq; exact ⟨arr_T g4 t4, f4⟩
    | k + 5, hq => simp [TYS] at hq
