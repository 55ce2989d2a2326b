section
-- ===== PART A: goes FIRST, ahead of the names: the tables' words, and 'selects' of the private methods out of them =====
/-- a private method of a class that the tables say can be made, by its rows of tables_1 -/
def lw_okq (q : MethodName × Nat) : Prop := (q.1.cls ≠ "java/lang/invoke/MethodHandle" ∧ q.1.cls ≠ "java/lang/invoke/VarHandle") ∧ Cond.instantiable q.1.cls q.2 ∈ tables_1 ∧ Cond.privateMethod q.1 ∈ tables_1 ∧ Cond.instanceMethod q.1 ∈ tables_1
theorem lw_p0 : lw_okq (⟨"java/lang/Throwable", "fillInStackTrace", "(I)Ljava/lang/Throwable;"⟩, 6) := ⟨⟨by decide +kernel, by decide +kernel⟩, List.mem_of_getElem? (i := 112) (by decide +kernel), List.mem_of_getElem? (i := 110) (by decide +kernel), List.mem_of_getElem? (i := 111) (by decide +kernel)⟩
theorem lw_p1 : lw_okq (⟨"CoauthorText", "findAtPlace", "(II)LCoauthorText$Sign;"⟩, 9) := ⟨⟨by decide +kernel, by decide +kernel⟩, List.mem_of_getElem? (i := 12) (by decide +kernel), List.mem_of_getElem? (i := 158) (by decide +kernel), List.mem_of_getElem? (i := 159) (by decide +kernel)⟩
theorem lw_p2 : lw_okq (⟨"CoauthorText$Sign", "isInTextOf", "(I)Z"⟩, 8) := ⟨⟨by decide +kernel, by decide +kernel⟩, List.mem_of_getElem? (i := 164) (by decide +kernel), List.mem_of_getElem? (i := 162) (by decide +kernel), List.mem_of_getElem? (i := 163) (by decide +kernel)⟩
theorem lw_p3 : lw_okq (⟨"CoauthorText$Sign", "isKnownIn", "(I)Z"⟩, 8) := ⟨⟨by decide +kernel, by decide +kernel⟩, List.mem_of_getElem? (i := 164) (by decide +kernel), List.mem_of_getElem? (i := 167) (by decide +kernel), List.mem_of_getElem? (i := 168) (by decide +kernel)⟩
theorem lw_p4 : lw_okq (⟨"CoauthorText", "nextStamp", "(I)I"⟩, 9) := ⟨⟨by decide +kernel, by decide +kernel⟩, List.mem_of_getElem? (i := 12) (by decide +kernel), List.mem_of_getElem? (i := 187) (by decide +kernel), List.mem_of_getElem? (i := 188) (by decide +kernel)⟩
theorem lw_p5 : lw_okq (⟨"CoauthorText", "putInOrder", "(LCoauthorText$Sign;)V"⟩, 9) := ⟨⟨by decide +kernel, by decide +kernel⟩, List.mem_of_getElem? (i := 12) (by decide +kernel), List.mem_of_getElem? (i := 227) (by decide +kernel), List.mem_of_getElem? (i := 228) (by decide +kernel)⟩
theorem lw_p6 : lw_okq (⟨"CoauthorText$Sign", "setRemoved", "(IZI)V"⟩, 8) := ⟨⟨by decide +kernel, by decide +kernel⟩, List.mem_of_getElem? (i := 164) (by decide +kernel), List.mem_of_getElem? (i := 238) (by decide +kernel), List.mem_of_getElem? (i := 239) (by decide +kernel)⟩
theorem lw_p7 : lw_okq (⟨"CoauthorText", "findByNumber", "(I)LCoauthorText$Sign;"⟩, 9) := ⟨⟨by decide +kernel, by decide +kernel⟩, List.mem_of_getElem? (i := 12) (by decide +kernel), List.mem_of_getElem? (i := 249) (by decide +kernel), List.mem_of_getElem? (i := 250) (by decide +kernel)⟩
theorem lw_p8 : lw_okq (⟨"CoauthorText$Sign", "isRemovedIn", "(I)Z"⟩, 8) := ⟨⟨by decide +kernel, by decide +kernel⟩, List.mem_of_getElem? (i := 164) (by decide +kernel), List.mem_of_getElem? (i := 254) (by decide +kernel), List.mem_of_getElem? (i := 255) (by decide +kernel)⟩
theorem lw_p9 : lw_okq (⟨"CoauthorText", "countAheadOf", "(ILCoauthorText$Sign;)I"⟩, 9) := ⟨⟨by decide +kernel, by decide +kernel⟩, List.mem_of_getElem? (i := 12) (by decide +kernel), List.mem_of_getElem? (i := 259) (by decide +kernel), List.mem_of_getElem? (i := 260) (by decide +kernel)⟩
theorem lw_p10 : lw_okq (⟨"CoauthorText$Sign", "bringNewer", "(II)V"⟩, 8) := ⟨⟨by decide +kernel, by decide +kernel⟩, List.mem_of_getElem? (i := 164) (by decide +kernel), List.mem_of_getElem? (i := 272) (by decide +kernel), List.mem_of_getElem? (i := 273) (by decide +kernel)⟩
theorem lw_p11 : lw_okq (⟨"CoauthorText", "countWrittenBy", "(II)I"⟩, 9) := ⟨⟨by decide +kernel, by decide +kernel⟩, List.mem_of_getElem? (i := 12) (by decide +kernel), List.mem_of_getElem? (i := 338) (by decide +kernel), List.mem_of_getElem? (i := 339) (by decide +kernel)⟩
theorem lw_p12 : lw_okq (⟨"CoauthorText", "checkEdition", "(I)V"⟩, 9) := ⟨⟨by decide +kernel, by decide +kernel⟩, List.mem_of_getElem? (i := 12) (by decide +kernel), List.mem_of_getElem? (i := 349) (by decide +kernel), List.mem_of_getElem? (i := 350) (by decide +kernel)⟩
theorem lw_p13 : lw_okq (⟨"CoauthorText", "shareOf", "(I[II)I"⟩, 9) := ⟨⟨by decide +kernel, by decide +kernel⟩, List.mem_of_getElem? (i := 12) (by decide +kernel), List.mem_of_getElem? (i := 377) (by decide +kernel), List.mem_of_getElem? (i := 378) (by decide +kernel)⟩
theorem lw_p14 : lw_okq (⟨"CoauthorText", "credit", "(II)I"⟩, 9) := ⟨⟨by decide +kernel, by decide +kernel⟩, List.mem_of_getElem? (i := 12) (by decide +kernel), List.mem_of_getElem? (i := 381) (by decide +kernel), List.mem_of_getElem? (i := 382) (by decide +kernel)⟩
theorem lw_p15 : lw_okq (⟨"CoauthorTextModel", "goes", "(I)Z"⟩, 19) := ⟨⟨by decide +kernel, by decide +kernel⟩, List.mem_of_getElem? (i := 402) (by decide +kernel), List.mem_of_getElem? (i := 480) (by decide +kernel), List.mem_of_getElem? (i := 481) (by decide +kernel)⟩
def lw_privs_1 : List (MethodName × Nat) := [(⟨"java/lang/Throwable", "fillInStackTrace", "(I)Ljava/lang/Throwable;"⟩, 6), (⟨"CoauthorText", "findAtPlace", "(II)LCoauthorText$Sign;"⟩, 9), (⟨"CoauthorText$Sign", "isInTextOf", "(I)Z"⟩, 8), (⟨"CoauthorText$Sign", "isKnownIn", "(I)Z"⟩, 8), (⟨"CoauthorText", "nextStamp", "(I)I"⟩, 9), (⟨"CoauthorText", "putInOrder", "(LCoauthorText$Sign;)V"⟩, 9), (⟨"CoauthorText$Sign", "setRemoved", "(IZI)V"⟩, 8), (⟨"CoauthorText", "findByNumber", "(I)LCoauthorText$Sign;"⟩, 9), (⟨"CoauthorText$Sign", "isRemovedIn", "(I)Z"⟩, 8), (⟨"CoauthorText", "countAheadOf", "(ILCoauthorText$Sign;)I"⟩, 9), (⟨"CoauthorText$Sign", "bringNewer", "(II)V"⟩, 8), (⟨"CoauthorText", "countWrittenBy", "(II)I"⟩, 9), (⟨"CoauthorText", "checkEdition", "(I)V"⟩, 9), (⟨"CoauthorText", "shareOf", "(I[II)I"⟩, 9), (⟨"CoauthorText", "credit", "(II)I"⟩, 9), (⟨"CoauthorTextModel", "goes", "(I)Z"⟩, 19)]
theorem lw_r1 : ∀ q ∈ lw_privs_1, lw_okq q := List.forall_mem_cons.mpr ⟨lw_p0, List.forall_mem_cons.mpr ⟨lw_p1, List.forall_mem_cons.mpr ⟨lw_p2, List.forall_mem_cons.mpr ⟨lw_p3, List.forall_mem_cons.mpr ⟨lw_p4, List.forall_mem_cons.mpr ⟨lw_p5, List.forall_mem_cons.mpr ⟨lw_p6, List.forall_mem_cons.mpr ⟨lw_p7, List.forall_mem_cons.mpr ⟨lw_p8, List.forall_mem_cons.mpr ⟨lw_p9, List.forall_mem_cons.mpr ⟨lw_p10, List.forall_mem_cons.mpr ⟨lw_p11, List.forall_mem_cons.mpr ⟨lw_p12, List.forall_mem_cons.mpr ⟨lw_p13, List.forall_mem_cons.mpr ⟨lw_p14, List.forall_mem_cons.mpr ⟨lw_p15, fun _ h => absurd h List.not_mem_nil⟩⟩⟩⟩⟩⟩⟩⟩⟩⟩⟩⟩⟩⟩⟩⟩
theorem lw_p16 : lw_okq (⟨"CoauthorTextModel", "laysText", "(I)V"⟩, 19) := ⟨⟨by decide +kernel, by decide +kernel⟩, List.mem_of_getElem? (i := 402) (by decide +kernel), List.mem_of_getElem? (i := 484) (by decide +kernel), List.mem_of_getElem? (i := 485) (by decide +kernel)⟩
theorem lw_p17 : lw_okq (⟨"CoauthorTextModel", "puts", "(II)V"⟩, 19) := ⟨⟨by decide +kernel, by decide +kernel⟩, List.mem_of_getElem? (i := 402) (by decide +kernel), List.mem_of_getElem? (i := 488) (by decide +kernel), List.mem_of_getElem? (i := 489) (by decide +kernel)⟩
theorem lw_p18 : lw_okq (⟨"CoauthorTextModel", "key", "(I)I"⟩, 19) := ⟨⟨by decide +kernel, by decide +kernel⟩, List.mem_of_getElem? (i := 402) (by decide +kernel), List.mem_of_getElem? (i := 495) (by decide +kernel), List.mem_of_getElem? (i := 496) (by decide +kernel)⟩
theorem lw_p19 : lw_okq (⟨"CoauthorTextModel", "stamp", "(I)I"⟩, 19) := ⟨⟨by decide +kernel, by decide +kernel⟩, List.mem_of_getElem? (i := 402) (by decide +kernel), List.mem_of_getElem? (i := 499) (by decide +kernel), List.mem_of_getElem? (i := 500) (by decide +kernel)⟩
theorem lw_p20 : lw_okq (⟨"CoauthorTextModel", "isSign", "(I)Z"⟩, 19) := ⟨⟨by decide +kernel, by decide +kernel⟩, List.mem_of_getElem? (i := 402) (by decide +kernel), List.mem_of_getElem? (i := 511) (by decide +kernel), List.mem_of_getElem? (i := 512) (by decide +kernel)⟩
theorem lw_p21 : lw_okq (⟨"CoauthorTextModel", "placeOf", "(I)I"⟩, 19) := ⟨⟨by decide +kernel, by decide +kernel⟩, List.mem_of_getElem? (i := 402) (by decide +kernel), List.mem_of_getElem? (i := 515) (by decide +kernel), List.mem_of_getElem? (i := 516) (by decide +kernel)⟩
theorem lw_p22 : lw_okq (⟨"CoauthorTextModel", "asks", "(I)Z"⟩, 19) := ⟨⟨by decide +kernel, by decide +kernel⟩, List.mem_of_getElem? (i := 402) (by decide +kernel), List.mem_of_getElem? (i := 527) (by decide +kernel), List.mem_of_getElem? (i := 528) (by decide +kernel)⟩
theorem lw_p23 : lw_okq (⟨"CoauthorTextModel", "asksPlace", "(II)Z"⟩, 19) := ⟨⟨by decide +kernel, by decide +kernel⟩, List.mem_of_getElem? (i := 402) (by decide +kernel), List.mem_of_getElem? (i := 535) (by decide +kernel), List.mem_of_getElem? (i := 536) (by decide +kernel)⟩
theorem lw_p24 : lw_okq (⟨"CoauthorTextModel", "isEdition", "(I)Z"⟩, 19) := ⟨⟨by decide +kernel, by decide +kernel⟩, List.mem_of_getElem? (i := 402) (by decide +kernel), List.mem_of_getElem? (i := 571) (by decide +kernel), List.mem_of_getElem? (i := 572) (by decide +kernel)⟩
def lw_privs_2 : List (MethodName × Nat) := [(⟨"CoauthorTextModel", "laysText", "(I)V"⟩, 19), (⟨"CoauthorTextModel", "puts", "(II)V"⟩, 19), (⟨"CoauthorTextModel", "key", "(I)I"⟩, 19), (⟨"CoauthorTextModel", "stamp", "(I)I"⟩, 19), (⟨"CoauthorTextModel", "isSign", "(I)Z"⟩, 19), (⟨"CoauthorTextModel", "placeOf", "(I)I"⟩, 19), (⟨"CoauthorTextModel", "asks", "(I)Z"⟩, 19), (⟨"CoauthorTextModel", "asksPlace", "(II)Z"⟩, 19), (⟨"CoauthorTextModel", "isEdition", "(I)Z"⟩, 19)]
theorem lw_r2 : ∀ q ∈ lw_privs_2, lw_okq q := List.forall_mem_cons.mpr ⟨lw_p16, List.forall_mem_cons.mpr ⟨lw_p17, List.forall_mem_cons.mpr ⟨lw_p18, List.forall_mem_cons.mpr ⟨lw_p19, List.forall_mem_cons.mpr ⟨lw_p20, List.forall_mem_cons.mpr ⟨lw_p21, List.forall_mem_cons.mpr ⟨lw_p22, List.forall_mem_cons.mpr ⟨lw_p23, List.forall_mem_cons.mpr ⟨lw_p24, fun _ h => absurd h List.not_mem_nil⟩⟩⟩⟩⟩⟩⟩⟩⟩
def lw_privs : List (MethodName × Nat) := lw_privs_1 ++ (lw_privs_2)
def lw_tbl : List Cond := k2_sels lw_privs ++ tables_1
theorem lw_privs_ok : ∀ q ∈ lw_privs, lw_okq q := by
  show ∀ q ∈ lw_privs_1 ++ (lw_privs_2), lw_okq q
  exact List.forall_mem_append.mpr ⟨lw_r1, lw_r2⟩
end
section
/-! ===== BEGIN words of one list among another's, by their places ===== -/
theorem goodIn_r {big : List Cond} (ws : List Cond) (ps : List Nat) (hp : ws = ps.filterMap (fun i => big[i]?)) (h : ws.all goodWord = true) : GoodIn big ws := by
  intro w hw
  have h1 := List.all_eq_true.mp h w hw
  rw [hp] at hw
  obtain ⟨i, -, hi⟩ := List.mem_filterMap.mp hw
  have hm : w ∈ big := by first | exact List.mem_of_getElem? hi | exact List.getElem?_mem hi
  exact ⟨hm, good_of_word h1⟩
theorem goodIn_app {big a b : List Cond} (ha : GoodIn big a) (hb : GoodIn big b) : GoodIn big (a ++ b) := fun w h => (List.mem_append.mp h).elim (ha w) (hb w)
theorem goodIn_ca {big a b : List Cond} {c : Cond} (ha : GoodIn big (c :: a)) (hb : GoodIn big b) : GoodIn big (c :: (a ++ b)) := fun w h => (List.mem_cons.mp h).elim (fun e => ha w (List.mem_cons.mpr (Or.inl e))) (fun h => (List.mem_append.mp h).elim (fun h => ha w (List.mem_cons.mpr (Or.inr h))) (hb w))
theorem goodIn_sub {big ws : List Cond} (hm : ∀ w ∈ ws, w ∈ big) (h : ws.all goodWord = true) : GoodIn big ws := fun w hw => ⟨hm w hw, good_of_word (List.all_eq_true.mp h w hw)⟩
/-! ===== END ===== -/

/-! ===== BEGIN new T[n][m]: the outer array a place, the inner ones among the pooled ===== -/
/-- f, but v at every address of l -/
def vr_up {α : Type} (f : Nat → α) (l : List Nat) (v : α) : Nat → α := fun a => if a ∈ l then v else f a
theorem vr_up_in {α : Type} {f : Nat → α} {l : List Nat} {v : α} {a : Nat} (h : a ∈ l) : vr_up f l v a = v := if_pos h
theorem vr_up_ne {α : Type} {f : Nat → α} {l : List Nat} {v : α} {a : Nat} (h : a ∉ l) : vr_up f l v a = f a := if_neg h
theorem vr_rows {L l : List Nat} {f : Nat → va_E} {e : va_E} (h : ∀ a, a ∈ l → a ∉ L) : va_pl L f ++ l.map (fun a => (a, e)) = va_pl (L ++ l) (vr_up f l e) := by
  unfold va_pl
  rw [List.map_append]
  congr 1
  · apply List.map_congr_left
    intro a ha
    rw [vr_up_ne (fun q => h a q ha)]
  · apply List.map_congr_left
    intro a ha
    rw [vr_up_in ha]
theorem vr_lay {X rows : va_W} {x : Nat × va_E} {pl : va_W} {D : va_G} {cl : List vw_C} {H : Heap} (hP : va_P D cl (((X ++ pl) ++ [x]) ++ rows) H) : va_P D cl ((X ++ [x]) ++ (pl ++ rows)) H := by
  rw [List.append_assoc (X ++ pl)] at hP
  have h := va_P.swap hP
  rw [← List.append_assoc X] at h
  have h2 := va_P.swap h
  rw [List.append_assoc (X ++ [x])] at h2
  exact h2
theorem vr_layD {X rows : va_W} {x : Nat × va_E} {pl : va_W} {A : Nat → Prop} (hD : va_D A (((X ++ pl) ++ [x]) ++ rows)) : va_D A ((X ++ [x]) ++ (pl ++ rows)) := by
  rw [List.append_assoc (X ++ pl)] at hD
  have h := va_D.swap hD
  rw [← List.append_assoc X] at h
  have h2 := va_D.swap h
  rw [List.append_assoc (X ++ [x])] at h2
  exact h2
theorem vr_outer (c : ClassId) (N h0 : Nat) : ∀ i : Nat, Jvm.Free.Multi.outerC c N h0 i = arrV c N (fun j => va_rf (if j < i then some (h0 + 1 + j) else none))
  | 0 => by
    show ({ cls := c, slots := Array.replicate N .null, vm := .none } : Cell) = _
    rw [arrV_new]
    refine congrArg (arrV c N) (funext fun j => ?_)
    simp [va_rf]
  | i + 1 => by
    show (Jvm.Free.Multi.outerC c N h0 i).setSlot i (.ref (h0 + 1 + i)) = _
    rw [vr_outer c N h0 i, arrV_store]
    refine congrArg (arrV c N) (funext fun j => ?_)
    by_cases e : j = i
    · subst e
      simp [updV, va_rf]
    · by_cases h : j < i
      · simp [updV, e, h, Nat.lt_succ_of_lt h]
      · simp [updV, e, h, show ¬ j < i + 1 by omega]
/-- an array class over arrays, by the tables (named by the printed row va_mna below, defined nowhere in the kit: this definition is my own) -/
def va_AOA (ty : FieldType) (U : State) : Prop := (Cond.arrayOver (.array ty)).before #[] U = true
theorem va_AOA.use {ty : FieldType} {A : Array Value} {U : State} (h : va_AOA ty U) : (Cond.arrayOver (.array ty)).before A U = true := h
section VGM
variable {p : Program} {l : Launch} {e : Env} {R : Room} {s : State} {m : MethodId} {args : Array Value} {below : List Frame} {meth : Method} {c : Code} {H : Heap} {locs : List Loc} {cells slots : Nat} {Q : State → Prop}
variable {cc : ByteArray} {pc : Nat} {ls : Array Slot} {rest : List Value} {D : va_G} {cl : List vw_C} {A : Nat → Prop} {a : Nat} {tys : List (ClassId × FieldType)} {ws : va_W} {H0 : Heap}
theorem va_mna {X : va_W} {L : List Nat} {f : Nat → va_E} {cc : ByteArray} (hexec : p.tables.exec = Jvm.exec) (hb : c.code = cc) {own : String} {index : Nat} {ty : FieldType} {cy : ClassId} (hown : s.vm.findClass own = some m.cls) (hclink : (Cond.classLink own index ("[" ++ (FieldType.array ty).toString)).before args s = true) (hover : va_AOA ty s) (harr : (Cond.arrayClass ty).before args s = true) (hcy : s.vm.findClass (FieldType.array ty).toString = some cy)
    (hK : va_K D cl tys s) (hP : va_P D cl (X ++ va_pl L f) H) (hD : va_D A (X ++ va_pl L f)) (hS : va_S A H0 H locs) (hA : ∀ q, H0.size ≤ q → A q) {n k : Int32} {N' K' : Nat} {z : vp_A} (hn : ¬ n < 0) (hk : ¬ k < 0) (hN : n.toNatClampNeg = N') (hM : k.toNatClampNeg = K')
    (hb1 : N' * 4 ≤ 536870912) (hb2 : K' * componentBytes ty ≤ 536870912) (hb3 : K' ≤ 536870912) (hdf : fits ty (defaultValue ty) = true) (hdd : (defaultValue ty).isDefault = true) (hcells : cells + (1 + N') ≤ R.cells) (hslots : slots + (N' + N' * K') ≤ R.slots) (hz : ∀ c : ClassId, Jvm.Free.Multi.innerC c K' (defaultValue ty) = vp_cell c z) (hdg : decode cc pc = .ok (.multianewarray index 2, 4))
    (kk : ∀ (q : Nat) (r : Nat → Nat) (cA : ClassId) (H1 : Heap), (∀ i j : Nat, i < N' → j < N' → r i = r j → i = j) → (∀ i : Nat, i < N' → r i ∉ L) → va_K D cl (tys ++ [(cA, .array ty)]) s →
      va_P D cl ((X ++ [(q, .inl (cA, N', .inr (.inr (.inr (.inr (fun i => if i < N' then some (r i) else none))))))]) ++ va_pl (L ++ (List.range N').map r) (vr_up f ((List.range N').map r) (.inl (cy, z)))) H1 → va_D A ((X ++ [(q, .inl (cA, N', .inr (.inr (.inr (.inr (fun i => if i < N' then some (r i) else none))))))]) ++ va_pl (L ++ (List.range N').map r) (vr_up f ((List.range N').map r) (.inl (cy, z)))) → va_S A H0 H1 locs →
      W p l e R s m args below meth c H1 locs (cells + 1 + N') (slots + N' + N' * K') Q (F0 m (pc + 4) ls (.ref q :: rest))) : W p l e R s m args below meth c H locs cells slots Q (F0 m pc ls (.int k :: .int n :: rest)) := by
  subst hN
  subst hM
  intro T hT Xs
  obtain ⟨vm₁, cA, comp, -, fA, fC, hO, -, X', step⟩ := Xs.multianewarray2F hexec hown hclink (va_AOA.use hover) harr (g := F0 m pc ls (.int k :: .int n :: rest)) rfl (by rw [hb]; exact hdg) rfl hn hk hb1 hb2 hb3 hdf hdd hcells hslots
  have ec : some cy = some comp := hcy.symm.trans fC
  cases ec
  generalize hF : Jvm.Free.Multi.fill (T.setVm vm₁) cA cy n.toNatClampNeg k.toNatClampNeg (defaultValue ty) n.toNatClampNeg = F at X' step
  have hTh : (T.setVm vm₁).heap = H := hT
  obtain ⟨f1, f2, -, -⟩ := Jvm.Free.Multi.fill_facts (T.setVm vm₁) cA cy n.toNatClampNeg k.toNatClampNeg (defaultValue ty) n.toNatClampNeg
  rw [hF, hTh] at f1 f2
  have hold : ∀ x : Nat, x < H.size → F.heap[x]? = H[x]? := fun x hx => by
    have := Jvm.Free.Multi.fill_old (T.setVm vm₁) cA cy n.toNatClampNeg k.toNatClampNeg (defaultValue ty) (a := x) (by rw [hTh]; exact hx) n.toNatClampNeg
    rw [hF, hTh] at this
    exact this
  have hrow : ∀ j : Nat, j < n.toNatClampNeg → F.heap[H.size + 1 + j]? = some (vp_cell cy z) := fun j hj => by
    have := Jvm.Free.Multi.fill_inner (T.setVm vm₁) cA cy n.toNatClampNeg k.toNatClampNeg (defaultValue ty) n.toNatClampNeg j hj
    rw [hF, hTh, hz] at this
    exact this
  have hout : Jvm.Free.Multi.outerC cA n.toNatClampNeg H.size n.toNatClampNeg = vp_cell cA (n.toNatClampNeg, .inr (.inr (.inr (.inr (fun i => if i < n.toNatClampNeg then some (H.size + 1 + i) else none))))) := by
    rw [vp_cell_q]
    exact vr_outer cA n.toNatClampNeg H.size n.toNatClampNeg
  rw [hout] at f2
  have hlt : ∀ a, a ∈ L → a < H.size := fun a ha => by
    obtain ⟨k9, hk9⟩ := va_pl_get (X := X) (f := f) ha
    exact (hP k9 _ hk9).lt
  have hnl : ∀ i : Nat, i < n.toNatClampNeg → H.size + 1 + i ∉ L := fun i _ h => by
    have := hlt _ h
    omega
  have hnm : ∀ a, a ∈ (List.range n.toNatClampNeg).map (fun i => H.size + 1 + i) → a ∉ L := fun a ha h => by
    obtain ⟨i, -, rfl⟩ := List.mem_map.mp ha
    have := hlt _ h
    omega
  have hP0 : va_P D cl (X ++ va_pl L f) F.heap := hP.kept (fun k9 x hx => hold x.1 ((hP k9 x hx).lt))
  have hP1 : va_P D cl ((X ++ va_pl L f) ++ [(H.size, .inl (cA, n.toNatClampNeg, .inr (.inr (.inr (.inr (fun i => if i < n.toNatClampNeg then some (H.size + 1 + i) else none))))))]) F.heap := hP0.app (fun k9 x hx => by
    have h0 : k9 < 1 := (List.getElem?_eq_some_iff.mp hx).1
    rw [show k9 = 0 by omega] at hx
    cases hx
    exact f2)
  have hP2 : va_P D cl (((X ++ va_pl L f) ++ [(H.size, .inl (cA, n.toNatClampNeg, .inr (.inr (.inr (.inr (fun i => if i < n.toNatClampNeg then some (H.size + 1 + i) else none))))))]) ++ ((List.range n.toNatClampNeg).map (fun i => H.size + 1 + i)).map (fun a => (a, .inl (cy, z)))) F.heap := hP1.app (fun k9 x hx => by
    obtain ⟨a, ha, rfl⟩ := List.mem_map.mp (List.mem_of_getElem? hx)
    obtain ⟨i, hi, rfl⟩ := List.mem_map.mp ha
    exact hrow i (List.mem_range.mp hi))
  have hD2 : va_D A (((X ++ va_pl L f) ++ [(H.size, .inl (cA, n.toNatClampNeg, .inr (.inr (.inr (.inr (fun i => if i < n.toNatClampNeg then some (H.size + 1 + i) else none))))))]) ++ ((List.range n.toNatClampNeg).map (fun i => H.size + 1 + i)).map (fun a => (a, .inl (cy, z)))) := by
    have hD1 := hD.push (e := .inl (cA, n.toNatClampNeg, .inr (.inr (.inr (.inr (fun i => if i < n.toNatClampNeg then some (H.size + 1 + i) else none)))))) hP rfl (hA _ hS.1)
    generalize hW1 : (X ++ va_pl L f) ++ [(H.size, .inl (cA, n.toNatClampNeg, .inr (.inr (.inr (.inr (fun i => if i < n.toNatClampNeg then some (H.size + 1 + i) else none))))))] = W1 at hD1 hP1 ⊢
    have hle : ∀ (k9 : Nat) (x : Nat × va_E), W1[k9]? = some x → x.1 ≤ H.size := fun k9 x hx => by
      rw [← hW1] at hx
      by_cases hl : k9 < (X ++ va_pl L f).length
      · rw [List.getElem?_append_left hl] at hx
        exact Nat.le_of_lt ((hP k9 x hx).lt)
      · rw [List.getElem?_append_right (by omega)] at hx
        have h0 : k9 - (X ++ va_pl L f).length < 1 := (List.getElem?_eq_some_iff.mp hx).1
        rw [show k9 - (X ++ va_pl L f).length = 0 by omega] at hx
        cases hx
        exact Nat.le_refl _
    have hr : ∀ (k9 : Nat) (x : Nat × va_E), (((List.range n.toNatClampNeg).map (fun i => H.size + 1 + i)).map (fun a => ((a, .inl (cy, z)) : Nat × va_E)))[k9]? = some x → x.1 = H.size + 1 + k9 := fun k9 x hx => by
      rw [List.getElem?_map, List.getElem?_map] at hx
      by_cases h9 : k9 < n.toNatClampNeg
      · rw [List.getElem?_range h9] at hx
        cases hx
        rfl
      · have hn0 : (List.range n.toNatClampNeg)[k9]? = none := List.getElem?_eq_none (by rw [List.length_range]; omega)
        rw [hn0] at hx
        cases hx
    refine ⟨fun i j x y hi hj hxy => ?_, fun k9 x hx => ?_⟩
    · by_cases h1 : i < W1.length <;> by_cases h2 : j < W1.length
      · rw [List.getElem?_append_left h1] at hi
        rw [List.getElem?_append_left h2] at hj
        exact hD1.1 i j x y hi hj hxy
      · rw [List.getElem?_append_left h1] at hi
        rw [List.getElem?_append_right (by omega)] at hj
        have := hle _ _ hi
        have := hr _ _ hj
        omega
      · rw [List.getElem?_append_right (by omega)] at hi
        rw [List.getElem?_append_left h2] at hj
        have := hle _ _ hj
        have := hr _ _ hi
        omega
      · rw [List.getElem?_append_right (by omega)] at hi hj
        have := hr _ _ hi
        have := hr _ _ hj
        omega
    · by_cases h1 : k9 < W1.length
      · rw [List.getElem?_append_left h1] at hx
        exact hD1.2 k9 x hx
      · rw [List.getElem?_append_right (by omega)] at hx
        have := hr _ _ hx
        exact hA _ (by have := hS.1; omega)
  have hAr : ArrOfT s cA (.array ty) := fun N9 z9 => by
    obtain ⟨-, k9, hk9, cm9, hkk9⟩ := (hO 0 0 0).1
    exact ⟨(fun q hq => by cases hq), k9, hk9, cm9, hkk9⟩
  have hK2 : va_K D cl (tys ++ [(cA, .array ty)]) s := ⟨hK.1, fun k9 x hx => by
    by_cases hl : k9 < tys.length
    · rw [List.getElem?_append_left hl] at hx
      exact hK.2 k9 x hx
    · rw [List.getElem?_append_right (by omega)] at hx
      have h0 : k9 - tys.length < 1 := (List.getElem?_eq_some_iff.mp hx).1
      rw [show k9 - tys.length = 0 by omega] at hx
      cases hx
      exact ⟨hAr, fA⟩⟩
  obtain ⟨t, a1, b1⟩ := kk H.size (fun i => H.size + 1 + i) cA F.heap (fun i j _ _ h => by have h9 : H.size + 1 + i = H.size + 1 + j := h; omega) hnl hK2 (by rw [← vr_rows hnm]; exact vr_lay hP2) (by rw [← vr_rows hnm]; exact vr_layD hD2) ⟨by rw [f1]; have := hS.1; omega, fun x h1 h2 => (hold x (Nat.lt_of_lt_of_le h1 hS.1)).trans (hS.2.1 x h1 h2), hS.2.2⟩ F rfl X'
  refine ⟨t, step t ?_, b1⟩
  have e : T.heap.size = H.size := by rw [hT]
  rw [e]
  exact a1
end VGM
/-! ===== END ===== -/

/-! ===== BEGIN exceptions that leave a method, and their catching by the caller (launches without stack traces) ===== -/
section VXA
/-! The laws vx_back, vx_callV, vx_callS, vx_callSW, vx_throw0, vx_throwS follow proofs of the library, with one case more: JvmDerived/Free/Laws.lean (Back.of_free), Shelf42/LK1.lean (callV, callS), Shelf/KitTraced.lean (throwNew0V, throwNewS). -/
/-- where a method has thrown q: the class by its name, the cell, what was written, the world -/
def vx_T (XC : String → State → State → Prop) (st : State) (q : Addr) (t : State) (mc ms : Nat) (free : Addr → Prop) : Prop :=
  ∃ (E : String) (ce : Cell) (L : List Loc), XC E st t ∧ t.heap[q]? = some ce ∧ ce.vm = .none ∧ st.vm.findClass E = some ce.cls ∧ st.WarmedH t.vm ∧ st.sameButNew ({ t with vm := st.vm } : State) L mc ms ∧ ∀ z ∈ L, free z.base
def vx_Q (Qc : Array Value → State → Outcome → State → Prop) (XC : String → State → State → Prop) (mc ms : Nat) (free : Addr → Prop) : Array Value → State → Outcome → State → Prop := fun a st o t =>
  (Qc a st o t ∧ ∃ L, FrameEnd st o t L mc ms ∧ ∀ q ∈ L, free q.base) ∨ ∃ q, o = .threw q ∧ vx_T XC st q t mc ms free
/-- a callee that returns or throws -/
def vx_Met (l : Launch) (y : MethodName) (ws : List Cond) (rm : Room) (Pc : Array Value → State → Prop) (Qc : Array Value → State → Outcome → State → Prop) (XC : String → State → State → Prop) (mc ms : Nat) (free : Addr → Prop) : Prop :=
  MetFree l y (headSpec ws rm) Pc (fun _ _ _ _ _ => True) (vx_Q Qc XC mc ms free)
def vx_Post (XC : String → State → State → Prop) (mc ms : Nat) (free : Addr → Prop) : Pt → Array Value → Addr → Pt → Prop := fun A a q B =>
  ∃ (g : JFrame) (mk : MethodId) (t : State) (L : List Loc) (E : String) (ce : Cell), B.U.heap = t.heap ∧ B.U.vm = t.vm ∧ XC E (A.U.calling g mk a) t ∧ t.heap[q]? = some ce ∧ ce.vm = .none ∧ A.U.vm.findClass E = some ce.cls ∧ B.locs = A.locs ++ L ∧ (∀ z ∈ L, free z.base) ∧ B.cells = A.cells + mc ∧ B.slots = A.slots + ms
def vx_Back (l : Launch) (R : Room) (p : Program) (e : Env) (below : List Frame) (s : State) (sargs : Array Value) (y : MethodName) (len W9 : Nat)
    (Pre : Pt → Array Value → Prop) (Post : Pt → Array Value → Option Value → Pt → Prop) (PostX : Pt → Array Value → Addr → Pt → Prop) : Prop :=
  ∀ (m : MethodId) (meth : Method) (c : Code) (A : Pt) (g : JFrame) (ig : Instr) (mk : MethodId) (a : Array Value),
    Stand p l e R s m sargs below meth c A.U A.locs A.cells A.slots → g.method = m → g.locals.size = c.maxLocals → decode c.code g.pc = .ok (ig, len) →
    2 * g.monitorRoom + (g.stack.map fun v => v.category).sum ≤ W9 → A.U.methodNamed? y = some mk → Pre A a →
    (∃ (v : Option Value) (B : Pt), Stand p l e R s m sargs below meth c B.U B.locs B.cells B.slots ∧ Post A a v B ∧
      Steps p.tables e below (doInvoke e (A.U.setTop g) [] mk a).1 (B.U.setTop { g with pc := g.pc + len, stack := v.toList ++ g.stack })) ∨
    (∃ (q : Addr) (B : Pt), Stand p l e R s m sargs below meth c B.U B.locs B.cells B.slots ∧ PostX A a q B ∧
      Steps p.tables e below (doInvoke e (A.U.setTop g) [] mk a).1 ((B.U.setTop g).pushFrame (.throwing q)))
section Payer
variable {l : Launch} {R : Room} {p : Program} {e : Env} {below : List Frame} {s : State} {sargs : Array Value} {y : MethodName} {len W9 : Nat}
theorem vx_back {ws : List Cond} {rm : Room} {Pc : Array Value → State → Prop} {Qc : Array Value → State → Outcome → State → Prop} {XC : String → State → State → Prop} {mc ms : Nat} {free : Addr → Prop} {bytes : ByteArray} {maxL : Nat} {ret : Option FieldType}
    (hM : vx_Met l y ws rm Pc Qc XC mc ms free) (hblind : FrameBlind Pc) (hrc : rm.cells = mc) (hrs : rm.slots = ms)
    (hframes : rm.frames + 1 ≤ R.frames) (hlocals : W9 + (maxL + 11) + rm.locals ≤ R.locals)
    (hws : ∀ w ∈ ws, ∀ a' U, s.WarmedH U.vm → w.before a' U = true) (hcode : Cond.code y bytes maxL ret ∈ ws) (hinit : ∀ a' U, s.WarmedH U.vm → (Cond.initialized y.cls).before a' U = true) :
    vx_Back l R p e below s sargs y len W9 (PreOf R mc ms Pc) (PostOf Qc mc ms free) (vx_Post XC mc ms free) := by
  intro m meth c A g ig mk a X hg hsize hdg hW hn hp
  have h1 : (headSpec ws rm).pre.before a A.U = true := atoms_intro fun w hw => hws w hw _ _ X.warmed
  have h2 : (Cond.code y bytes maxL ret).before a A.U = true := hws _ hcode _ _ X.warmed
  have h3 : (Cond.initialized y.cls).before a A.U = true := hinit _ _ X.warmed
  have h4 : A.cells + (headSpec ws rm).room.cells ≤ R.cells := by rw [show (headSpec ws rm).room.cells = mc from hrc]; exact hp.1
  have h5 : A.slots + (headSpec ws rm).room.slots ≤ R.slots := by rw [show (headSpec ws rm).room.slots = ms from hrs]; exact hp.2.1
  have hPc : Pc a (A.U.calling g mk a) := hblind _ _ _ _ hp.2.2
  obtain ⟨U, Ls, c0, s0⟩ := A
  dsimp only [Pt.U, Pt.locs, Pt.cells, Pt.slots] at h1 h2 h3 h4 h5 X hn hPc ⊢
  obtain ⟨methY, cY, hmY, hcY, -, hlY, -, -, -, -⟩ := Cond.code_spec hn h2
  obtain ⟨kY, hkY, -⟩ := className_of_methodNamed hn
  have hinitY : kY.init = .initialized := Cond.initialized_spec (findClass_of_methodNamed hn) hkY h3
  have h : At U g.method c below := by rw [hg]; exact X.here
  have hlocals9 : W9 + (maxL + 11) + (headSpec ws rm).room.locals ≤ R.locals := hlocals
  have happ : (headSpec ws rm).appliesLoose y e.platform (U.calling g mk a) = true :=
    Spec.appliesLoose_calling (g := g) h hdg hn hkY hinitY
      (X.room_calling (g := g) (R' := (headSpec ws rm).room) hsize hmY hcY hframes (by rw [hlY]; omega) h4 h5) h1
  obtain ⟨mid, hmid⟩ := h.above
  have hfr : (U.setTop g).frames = (.java g :: mid) ++ below := by rw [State.frames_setTop' g h.top, hmid]; rfl
  obtain ⟨o, s₂, hsteps, -, hend, hq⟩ := Steps.callFree hM p X.admits X.cas X.clock (acts := []) hfr happ hPc trivial
  have hq' : vx_Q Qc XC mc ms free a (U.calling g mk a) o s₂ := hq
  rw [State.frames_setTop' g h.top] at hend
  obtain ⟨g₀, hg0⟩ := Option.isSome_iff_exists.mp h.top
  obtain ⟨r, hr⟩ := State.topJava?_eq_some.mp hg0
  have hr' : (({ U with heap := s₂.heap, slotsUsed := s₂.slotsUsed } : State).setVm s₂.vm).frames = .java g₀ :: r := hr
  rcases hq' with ⟨hqc, L, hfe, hL⟩ | ⟨q, rfl, E, ce, L, hx, hce, hcv, hcl, hW₂, hsm, hL⟩
  · obtain ⟨⟨v, rfl⟩, hW₂, e2, q2, q3, q4, q5, q6⟩ := id hfe
    have e3 : s₂ = ({ (U.calling g mk a).setFrames s₂.frames with heap := s₂.heap, slotsUsed := s₂.slotsUsed } : State).setVm s₂.vm := by
      have : s₂ = ({ s₂ with vm := (U.calling g mk a).vm } : State).setVm s₂.vm := rfl
      rw [e2] at this
      exact this
    obtain ⟨c₂, i₂, len₂, hc₂, hd₂, hf₂⟩ := hend
    have hW' : U.WarmedH s₂.vm := hW₂
    have hcc : c₂ = c := by
      have h1 : s₂.code? g.method = U.code? g.method := by
        rw [State.code?_eq, State.code?_eq, hW'.alike.method?]
      exact Option.some.inj (hc₂.symm.trans (h1.trans h.code))
    subst hcc
    have hlen : len₂ = len := by rw [hdg] at hd₂; cases hd₂; rfl
    subst hlen
    have hs₂ : s₂ = (({ U with heap := s₂.heap, slotsUsed := s₂.slotsUsed } : State).setVm s₂.vm).setTop { g with pc := g.pc + len₂, stack := v.toList ++ g.stack } := by
      refine e3.trans ?_
      rw [hf₂, State.calling_eq h.top, State.setFrames_setFrames, State.setTop_of_frames _ hr', hr]
      rfl
    have hsame : U.sameButNew ({ U with heap := s₂.heap, slotsUsed := s₂.slotsUsed } : State) L mc ms := by
      refine ⟨?_, q2, q3, q4, q5, q6⟩
      obtain ⟨t, ht, -⟩ := State.frames_cons hr
      show ({ U with heap := s₂.heap, slotsUsed := s₂.slotsUsed } : State) = { U.setFrames U.frames with heap := s₂.heap, slotsUsed := s₂.slotsUsed }
      rw [State.setFrames_self ht]
    subst hg
    refine Or.inl ⟨v, ⟨(({ U with heap := s₂.heap, slotsUsed := s₂.slotsUsed } : State).setVm s₂.vm), Ls ++ L, c0 + mc, s0 + ms⟩,
      ⟨X.admits, X.cas, X.clock, X.frames, X.room, X.hears, X.method, X.code, (X.here.setHeapUsed s₂.heap s₂.slotsUsed).setVm hW'.alike, X.tail, State.WarmedH.trans X.warmed hW', X.limits, X.bytes, X.same.trans (hsame.setVm s.vm)⟩,
      ⟨g, mk, s₂, L, rfl, rfl, hqc, rfl, hL, rfl, rfl⟩, ?_⟩
    show Steps p.tables e below _ ((({ U with heap := s₂.heap, slotsUsed := s₂.slotsUsed } : State).setVm s₂.vm).setTop { g with pc := g.pc + len₂, stack := v.toList ++ g.stack })
    rw [← hs₂]
    exact hsteps
  · obtain ⟨e2, q2, q3, q4, q5, q6⟩ := id hsm
    have e3 : s₂ = ({ (U.calling g mk a).setFrames s₂.frames with heap := s₂.heap, slotsUsed := s₂.slotsUsed } : State).setVm s₂.vm := by
      have : s₂ = ({ s₂ with vm := (U.calling g mk a).vm } : State).setVm s₂.vm := rfl
      rw [e2] at this
      exact this
    have hf₂ : s₂.frames = .throwing q :: .java g :: U.frames.tail := hend
    have hW' : U.WarmedH s₂.vm := hW₂
    have hs₂ : s₂ = ((({ U with heap := s₂.heap, slotsUsed := s₂.slotsUsed } : State).setVm s₂.vm).setTop g).pushFrame (.throwing q) := by
      refine e3.trans ?_
      rw [hf₂, State.calling_eq h.top, State.setFrames_setFrames, State.pushFrame, State.frames_setTop _ hr', State.setTop_of_frames _ hr', State.setFrames_setFrames, hr]
      rfl
    have hsame : U.sameButNew ({ U with heap := s₂.heap, slotsUsed := s₂.slotsUsed } : State) L mc ms := by
      refine ⟨?_, q2, q3, q4, q5, q6⟩
      obtain ⟨t, ht, -⟩ := State.frames_cons hr
      show ({ U with heap := s₂.heap, slotsUsed := s₂.slotsUsed } : State) = { U.setFrames U.frames with heap := s₂.heap, slotsUsed := s₂.slotsUsed }
      rw [State.setFrames_self ht]
    subst hg
    refine Or.inr ⟨q, ⟨(({ U with heap := s₂.heap, slotsUsed := s₂.slotsUsed } : State).setVm s₂.vm), Ls ++ L, c0 + mc, s0 + ms⟩,
      ⟨X.admits, X.cas, X.clock, X.frames, X.room, X.hears, X.method, X.code, (X.here.setHeapUsed s₂.heap s₂.slotsUsed).setVm hW'.alike, X.tail, State.WarmedH.trans X.warmed hW', X.limits, X.bytes, X.same.trans (hsame.setVm s.vm)⟩,
      ⟨g, mk, s₂, L, E, ce, rfl, rfl, hx, hce, hcv, hcl, rfl, hL, rfl, rfl⟩, ?_⟩
    show Steps p.tables e below _ (((({ U with heap := s₂.heap, slotsUsed := s₂.slotsUsed } : State).setVm s₂.vm).setTop g).pushFrame (.throwing q))
    rw [← hs₂]
    exact hsteps
end Payer
section Calls
variable {p : Program} {l : Launch} {e : Env} {R : Room} {s : State} {m : MethodId} {args : Array Value} {below : List Frame} {meth : Method} {c : Code} {T : State} {locs : List Loc} {cells slots : Nat}
theorem vx_callV (X : Stand p l e R s m args below meth c T locs cells slots) (hexec : p.tables.exec = Jvm.exec) {own C : String} {index : Nat} {y : MethodName} {bytes : ByteArray} {maxL : Nat} {ret : Option FieldType}
    (hown : s.vm.findClass own = some m.cls) (hlink : (Cond.methodLink own index y).before args s = true) (hinst : (Cond.instanceMethod y).before args s = true) (hsel : (Cond.selects C y y).before args s = true)
    (hcode : (Cond.code y bytes maxL ret).before args s = true) (hy : y.cls ≠ "java/lang/invoke/MethodHandle" ∧ y.cls ≠ "java/lang/invoke/VarHandle")
    {W9 : Nat} {Pre : Pt → Array Value → Prop} {Post : Pt → Array Value → Option Value → Pt → Prop} {PostX : Pt → Array Value → Addr → Pt → Prop} (hK : vx_Back l R p e below s args y 3 W9 Pre Post PostX)
    {b : Addr} {cellB : Cell} (hcell : T.heap[b]? = some cellB) (hobj : cellB.vm.isStatics = false) (hcls : s.vm.findClass C = some cellB.cls)
    {g : JFrame} (hg : g.method = m) (hsize : g.locals.size = c.maxLocals) {argsL rest : List Value} (hlen : ∀ sig, parseMethodDescriptor y.desc = some sig → argsL.length = sig.parameters.length)
    (hstack : g.stack = argsL.reverse ++ .ref b :: rest) (hW : 2 * g.monitorRoom + (rest.map fun v => v.category).sum ≤ W9) (hdg : decode c.code g.pc = .ok (.invokevirtual index, 3))
    (hpre : ∀ vm₁, s.WarmedH vm₁ → Pre ⟨T.setVm vm₁, locs, cells, slots⟩ (Value.ref b :: argsL).toArray) :
    (∃ (v : Option Value) (vm₁ : Vm) (B : Pt), s.WarmedH vm₁ ∧ Stand p l e R s m args below meth c B.U B.locs B.cells B.slots ∧ Post ⟨T.setVm vm₁, locs, cells, slots⟩ (Value.ref b :: argsL).toArray v B ∧
      ∀ target, Steps p.tables e below (B.U.setTop { g with pc := g.pc + 3, stack := v.toList ++ rest }) target → Steps p.tables e below (T.setTop g) target) ∨
    (∃ (q : Addr) (vm₁ : Vm) (B : Pt), s.WarmedH vm₁ ∧ Stand p l e R s m args below meth c B.U B.locs B.cells B.slots ∧ PostX ⟨T.setVm vm₁, locs, cells, slots⟩ (Value.ref b :: argsL).toArray q B ∧
      Steps p.tables e below (T.setTop g) ((B.U.setTop { g with stack := rest }).pushFrame (.throwing q))) := by
  obtain ⟨mk, methM, hnamed, hmethM, hstM, habM⟩ := Cond.instanceMethod_spec hinst
  obtain ⟨methM', cM, hmethM', -, -, -, -, -, -, hsigM⟩ := Cond.code_spec hnamed hcode
  cases hmethM.symm.trans hmethM'
  obtain ⟨c2, r2, m2, q1, q2, q3, q4, kP, hkP, hkPi⟩ := Cond.selects_spec hsel
  cases hcls.symm.trans q1
  cases (State.methodFound?_of_named hnamed hy).symm.trans q2
  cases hnamed.symm.trans q3
  have hselP : selectMethod e.platform s.vm cellB.cls mk = .method mk := by rw [Launch.admits_selectMethod X.admits]; exact q4
  obtain ⟨vm₁, X₁, hstep₁⟩ := X.invokevirtual hexec hown hlink hnamed hmethM hstM hkP hkPi hy (a := b) (cell := cellB) hcell
    (fun z h => by rw [h] at hobj; cases hobj) hselP hmethM habM hkP hkPi (g := g) hg (argsL := argsL) (rest := rest) (hlen _ hsigM) hstack hdg
  rcases hK m meth c ⟨T.setVm vm₁, locs, cells, slots⟩ { g with stack := rest } (.invokevirtual index) mk (Value.ref b :: argsL).toArray X₁ hg hsize hdg hW (X₁.named hnamed) (hpre vm₁ X₁.warmed) with ⟨v, B, X', hpost, hsteps⟩ | ⟨q, B, X', hpost, hsteps⟩
  · exact Or.inl ⟨v, vm₁, B, X₁.warmed, X', hpost, fun target h => hstep₁ _ fun acts => by rw [doInvoke_state]; exact hsteps.trans h⟩
  · exact Or.inr ⟨q, vm₁, B, X₁.warmed, X', hpost, hstep₁ _ fun acts => by rw [doInvoke_state]; exact hsteps⟩
theorem vx_callS (X : Stand p l e R s m args below meth c T locs cells slots) (hexec : p.tables.exec = Jvm.exec) {own : String} {index : Nat} {y : MethodName} {bytes : ByteArray} {maxL : Nat} {ret : Option FieldType}
    (hown : s.vm.findClass own = some m.cls) (hlink : (Cond.methodLink own index y).before args s = true) (hstat : (Cond.static y).before args s = true) (hinit : (Cond.initialized y.cls).before args s = true)
    (hcode : (Cond.code y bytes maxL ret).before args s = true) (hy : y.cls ≠ "java/lang/invoke/MethodHandle" ∧ y.cls ≠ "java/lang/invoke/VarHandle")
    {W9 : Nat} {Pre : Pt → Array Value → Prop} {Post : Pt → Array Value → Option Value → Pt → Prop} {PostX : Pt → Array Value → Addr → Pt → Prop} (hK : vx_Back l R p e below s args y 3 W9 Pre Post PostX)
    {g : JFrame} (hg : g.method = m) (hsize : g.locals.size = c.maxLocals) {argsL rest : List Value} (hlen : ∀ sig, parseMethodDescriptor y.desc = some sig → argsL.length = sig.parameters.length)
    (hstack : g.stack = argsL.reverse ++ rest) (hW : 2 * g.monitorRoom + (rest.map fun v => v.category).sum ≤ W9) (hdg : decode c.code g.pc = .ok (.invokestatic index, 3))
    (hpre : ∀ vm₁, s.WarmedH vm₁ → Pre ⟨T.setVm vm₁, locs, cells, slots⟩ argsL.toArray) :
    (∃ (v : Option Value) (vm₁ : Vm) (B : Pt), s.WarmedH vm₁ ∧ Stand p l e R s m args below meth c B.U B.locs B.cells B.slots ∧ Post ⟨T.setVm vm₁, locs, cells, slots⟩ argsL.toArray v B ∧
      ∀ target, Steps p.tables e below (B.U.setTop { g with pc := g.pc + 3, stack := v.toList ++ rest }) target → Steps p.tables e below (T.setTop g) target) ∨
    (∃ (q : Addr) (vm₁ : Vm) (B : Pt), s.WarmedH vm₁ ∧ Stand p l e R s m args below meth c B.U B.locs B.cells B.slots ∧ PostX ⟨T.setVm vm₁, locs, cells, slots⟩ argsL.toArray q B ∧
      Steps p.tables e below (T.setTop g) ((B.U.setTop { g with stack := rest }).pushFrame (.throwing q))) := by
  obtain ⟨mk, hnamed⟩ := Cond.code_named hcode
  obtain ⟨methM, cM, hmethM, -, -, -, -, -, -, hsigM⟩ := Cond.code_spec hnamed hcode
  have hstatic : methM.isStatic = true := Cond.static_spec hnamed hmethM hstat
  obtain ⟨kP, hkP, -⟩ := className_of_methodNamed hnamed
  have hinitP : kP.init = .initialized := Cond.initialized_spec (findClass_of_methodNamed hnamed) hkP hinit
  obtain ⟨vm₁, X₁, hstep₁⟩ := X.invokestatic hexec hown hlink hnamed hmethM hstatic hkP hinitP hy (g := g) hg (argsL := argsL) (rest := rest) (hlen _ hsigM) hstack hdg
  rcases hK m meth c ⟨T.setVm vm₁, locs, cells, slots⟩ { g with stack := rest } (.invokestatic index) mk argsL.toArray X₁ hg hsize hdg hW (X₁.named hnamed) (hpre vm₁ X₁.warmed) with ⟨v, B, X', hpost, hsteps⟩ | ⟨q, B, X', hpost, hsteps⟩
  · exact Or.inl ⟨v, vm₁, B, X₁.warmed, X', hpost, fun target h => hstep₁ _ fun acts => by rw [doInvoke_state]; exact hsteps.trans h⟩
  · exact Or.inr ⟨q, vm₁, B, X₁.warmed, X', hpost, hstep₁ _ fun acts => by rw [doInvoke_state]; exact hsteps⟩
end Calls
theorem vx_cls {s : State} {T : State} {vm₁ : Vm} {E : String} {k : ClassId} (hW : s.WarmedH vm₁) (h : (T.setVm vm₁).vm.findClass E = some k) : s.vm.findClass E = some k := by
  have h1 : vm₁.findClass E = some k := h
  rw [hW.alike.findClass] at h1
  exact h1
/-- the method's frame g, with q thrown over it -/
def vx_W (p : Program) (l : Launch) (e : Env) (R : Room) (s : State) (m : MethodId) (args : Array Value) (below : List Frame) (meth : Method) (c : Code) (H : Heap) (locs : List Loc) (cells slots : Nat) (Q : State → Prop) (g : JFrame) (q : Addr) : Prop :=
  ∀ T : State, T.heap = H → Stand p l e R s m args below meth c T locs cells slots → ∃ t, Steps p.tables e below ((T.setTop g).pushFrame (.throwing q)) t ∧ Q t
def vx_Run (p : Program) (l : Launch) (e : Env) (R : Room) (s : State) (m : MethodId) (args : Array Value) (below : List Frame) (meth : Method) (c : Code) (H : Heap) (locs : List Loc) (cells slots mc ms : Nat) (g : JFrame) (rest : List Value) (Qa : State → Outcome → State → Prop) (XC : String → State → State → Prop) (free : Addr → Prop) : Prop :=
  ∀ T : State, T.heap = H → Stand p l e R s m args below meth c T locs cells slots →
    (∃ (v : Option Value) (st₀ t T' : State) (L : List Loc), st₀.heap = H ∧ Stand p l e R s m args below meth c T' (locs ++ L) (cells + mc) (slots + ms) ∧ (∀ q ∈ L, free q.base) ∧ T'.heap = t.heap ∧ T'.vm = t.vm ∧ Qa st₀ (.returned v) t ∧
      Goes p e below T g T' { g with pc := g.pc + 3, stack := v.toList ++ rest }) ∨
    (∃ (q : Addr) (st₀ t T' : State) (L : List Loc) (E : String) (ce : Cell), st₀.heap = H ∧ Stand p l e R s m args below meth c T' (locs ++ L) (cells + mc) (slots + ms) ∧ (∀ z ∈ L, free z.base) ∧ T'.heap = t.heap ∧ T'.vm = t.vm ∧ XC E st₀ t ∧ t.heap[q]? = some ce ∧ ce.vm = .none ∧ s.vm.findClass E = some ce.cls ∧
      Steps p.tables e below (T.setTop g) ((T'.setTop { g with stack := rest }).pushFrame (.throwing q)))
def vx_X {S : Type} (px : S → Prop) (B : String → S → State → Prop) (A : Nat → Prop) : String → State → State → Prop := fun E st t => ∃ u : S, px u ∧ B E u t ∧ va_F A st t
section Runs
variable {p : Program} {l : Launch} {e : Env} {R : Room} {s : State} {m : MethodId} {args : Array Value} {below : List Frame} {meth : Method} {c : Code} {H : Heap} {locs : List Loc} {cells slots : Nat}
variable {y : MethodName} {bytes cc : ByteArray} {maxL nL mc ms n index : Nat} {ret : Option FieldType} {ws : List Cond} {rm : Room} {Pc : Array Value → State → Prop} {Qc : Array Value → State → Outcome → State → Prop} {XC : String → State → State → Prop} {free : Addr → Prop} {Ts : List Cond} {own C : String} {b : Addr} {As rest : List Value} {g : JFrame}
theorem vx_callBack (cb : CallB R s args own index y bytes maxL ret ws rm mc ms n) (hM : vx_Met l y ws rm Pc Qc XC mc ms free) (hbl : FrameBlind Pc) : vx_Back l R p e below s args y 3 8 (PreOf R mc ms Pc) (PostOf Qc mc ms free) (vx_Post XC mc ms free) := by
  obtain ⟨hrc, hrs, hfr, hlo, hws, hcw, -, hini, -⟩ := cb
  exact vx_back (bytes := bytes) (maxL := maxL) (ret := ret) hM hbl hrc hrs hfr hlo hws hcw (fun a' U hW => word_at hW (Or.inl (by first | rfl | simp [Cond.onTables, Cond.keeps, Cond.steady])) hini)
theorem vx_runV (S : CallFix p m c cc nL s args Ts own) (hM : vx_Met l y ws rm Pc Qc XC mc ms free) (cw : CallW R s args own C index y bytes maxL ret ws rm mc ms n) (hp : PreV s H C b Pc As)
    (hg : g.method = m) (hn : As.length = n) (hsize : g.locals.size = nL) (hstack : g.stack = As.reverse ++ .ref b :: rest) (hW : 2 * g.monitorRoom + (rest.map fun v => v.category).sum ≤ 8) (hdg : decode cc g.pc = .ok (.invokevirtual index, 3)) (hf : cells + mc ≤ R.cells ∧ slots + ms ≤ R.slots) :
    vx_Run p l e R s m args below meth c H locs cells slots mc ms g rest (Qc (Value.ref b :: As).toArray) XC free := by
  have hK : vx_Back l R p e below s args y 3 8 (PreOf R mc ms Pc) (PostOf Qc mc ms free) (vx_Post XC mc ms free) := vx_callBack cw.1 hM hp.1
  obtain ⟨⟨-, -, -, -, -, -, hcode, -, hy, hlen, hl⟩, hin, hse⟩ := cw
  obtain ⟨hx, hb, hml, ho, -⟩ := S
  obtain ⟨-, ⟨cellB, hcB, hoB, hclB⟩, hPc⟩ := hp
  intro T hT X
  rcases vx_callV X hx (C := C) (bytes := bytes) (maxL := maxL) (ret := ret) ho hl hin hse hcode hy hK (by rw [hT]; exact hcB) hoB hclB hg (hsize.trans hml.symm) (argsL := As) (rest := rest) (fun sig h => hn.trans (hlen sig h)) hstack hW (by rw [hb]; exact hdg)
    (fun vm₁ hW₁ => ⟨hf.1, hf.2, hPc (T.setVm vm₁) hT hW₁⟩) with ⟨v, vm₁, ⟨U', l2, c2, s2⟩, hW₁, X', ⟨g', mk, t, L, e1, e2, hq, h1, hL, h2, h3⟩, st⟩ | ⟨q, vm₁, ⟨U', l2, c2, s2⟩, hW₁, X', ⟨g', mk, t, L, E, ce, e1, e2, hq, hce, hcv, hcl, h1, hL, h2, h3⟩, st⟩
  · dsimp only [Pt.U, Pt.locs, Pt.cells, Pt.slots] at X' e1 e2 h1 h2 h3 st
    subst h1; subst h2; subst h3
    exact Or.inl ⟨v, (T.setVm vm₁).calling g' mk (Value.ref b :: As).toArray, t, U', L, hT, X', hL, e1, e2, hq, st⟩
  · dsimp only [Pt.U, Pt.locs, Pt.cells, Pt.slots] at X' e1 e2 h1 h2 h3 st hcl
    subst h1; subst h2; subst h3
    exact Or.inr ⟨q, (T.setVm vm₁).calling g' mk (Value.ref b :: As).toArray, t, U', L, E, ce, hT, X', hL, e1, e2, hq, hce, hcv, vx_cls hW₁ hcl, st⟩
theorem vx_runS (S : CallFix p m c cc nL s args Ts own) (hM : vx_Met l y ws rm Pc Qc XC mc ms free) (cw : CallB R s args own index y bytes maxL ret ws rm mc ms n ∧ (Cond.static y).before args s = true) (hp : PreS s H Pc As)
    (hg : g.method = m) (hn : As.length = n) (hsize : g.locals.size = nL) (hstack : g.stack = As.reverse ++ rest) (hW : 2 * g.monitorRoom + (rest.map fun v => v.category).sum ≤ 8) (hdg : decode cc g.pc = .ok (.invokestatic index, 3)) (hf : cells + mc ≤ R.cells ∧ slots + ms ≤ R.slots) :
    vx_Run p l e R s m args below meth c H locs cells slots mc ms g rest (Qc As.toArray) XC free := by
  have hK : vx_Back l R p e below s args y 3 8 (PreOf R mc ms Pc) (PostOf Qc mc ms free) (vx_Post XC mc ms free) := vx_callBack cw.1 hM hp.1
  obtain ⟨⟨-, -, -, -, -, -, hcode, hini, hy, hlen, hl⟩, hstt⟩ := cw
  obtain ⟨hx, hb, hml, ho, -⟩ := S
  intro T hT X
  rcases vx_callS X hx (bytes := bytes) (maxL := maxL) (ret := ret) ho hl hstt hini hcode hy hK hg (hsize.trans hml.symm) (argsL := As) (rest := rest) (fun sig h => hn.trans (hlen sig h)) hstack hW (by rw [hb]; exact hdg)
    (fun vm₁ hW₁ => ⟨hf.1, hf.2, hp.2 (T.setVm vm₁) hT hW₁⟩) with ⟨v, vm₁, ⟨U', l2, c2, s2⟩, hW₁, X', ⟨g', mk, t, L, e1, e2, hq, h1, hL, h2, h3⟩, st⟩ | ⟨q, vm₁, ⟨U', l2, c2, s2⟩, hW₁, X', ⟨g', mk, t, L, E, ce, e1, e2, hq, hce, hcv, hcl, h1, hL, h2, h3⟩, st⟩
  · dsimp only [Pt.U, Pt.locs, Pt.cells, Pt.slots] at X' e1 e2 h1 h2 h3 st
    subst h1; subst h2; subst h3
    exact Or.inl ⟨v, (T.setVm vm₁).calling g' mk As.toArray, t, U', L, hT, X', hL, e1, e2, hq, st⟩
  · dsimp only [Pt.U, Pt.locs, Pt.cells, Pt.slots] at X' e1 e2 h1 h2 h3 st hcl
    subst h1; subst h2; subst h3
    exact Or.inr ⟨q, (T.setVm vm₁).calling g' mk As.toArray, t, U', L, E, ce, hT, X', hL, e1, e2, hq, hce, hcv, vx_cls hW₁ hcl, st⟩
end Runs
section Rows
variable {p : Program} {l : Launch} {e : Env} {R : Room} {s : State} {m : MethodId} {args : Array Value} {below : List Frame} {meth : Method} {c : Code} {H : Heap} {locs : List Loc} {cells slots : Nat} {Q : State → Prop}
variable {mc ms : Nat} {free : Addr → Prop} {A0 A1 : Nat → Prop} {H0 : Heap} {a : Array Value} {pc : Nat} {ls : Array Slot} {st0 rest : List Value}
theorem vx_keep {st₀ t T' : State} {L : List Loc} (h0 : st₀.heap = H) (e1 : T'.heap = t.heap) (hS : va_S A0 H0 H locs) (hA : ∀ q, q < H.size → A1 q → A0 q) (hf : ∀ q, free q → A0 q) (hL : ∀ q ∈ L, free q.base) (hF : va_F A1 st₀ t) :
    H.size ≤ T'.heap.size ∧ (∀ q : Nat, q < H.size → ¬ A1 q → T'.heap[q]? = H[q]?) ∧ va_S A0 H0 T'.heap (locs ++ L) := by
  obtain ⟨hz, hk⟩ := hF
  rw [h0] at hz hk
  exact ⟨by rw [e1]; exact hz, fun q h1 h2 => by rw [e1]; exact hk q h1 h2,
    ⟨Nat.le_trans hS.1 (by rw [e1]; exact hz), fun q h1 h2 => by rw [e1, hk q (Nat.lt_of_lt_of_le h1 hS.1) (fun z => h2 (hA q (Nat.lt_of_lt_of_le h1 hS.1) z))]; exact hS.2.1 q h1 h2, fun q hq => by
      rcases List.mem_append.mp hq with h | h
      · exact hS.2.2 q h
      · exact hf _ (hL q h)⟩⟩
theorem vx_calli {S SX : Type} {post : Int32 → S → Prop} {px : SX → Prop} {B : S → State → Prop} {BX : String → SX → State → Prop} {AX : Nat → Prop} (hr : vx_Run p l e R s m args below meth c H locs cells slots mc ms (F0 m pc ls st0) rest (va_Qi post B A1 a) (vx_X px BX AX) free) (hS : va_S A0 H0 H locs) (hA : ∀ q, q < H.size → A1 q → A0 q) (hf : ∀ q, free q → A0 q) (hAX : ∀ q, q < H.size → AX q → A0 q)
    (kx : ∀ (E : String) (ce : Cell) (q9 : Addr) (u : SX) (t : State) (H1 : Heap) (locs1 : List Loc), t.heap = H1 → s.vm.Alike t.vm → px u → BX E u t → H.size ≤ H1.size → (∀ q : Nat, q < H.size → ¬ AX q → H1[q]? = H[q]?) → va_S A0 H0 H1 locs1 → H1[q9]? = some ce → ce.vm = .none → s.vm.findClass E = some ce.cls → vx_W p l e R s m args below meth c H1 locs1 (cells + mc) (slots + ms) Q (F0 m pc ls rest) q9)
    (kk : ∀ (r : Int32) (u : S) (t : State) (H1 : Heap) (locs1 : List Loc), t.heap = H1 → s.vm.Alike t.vm → post r u → B u t → H.size ≤ H1.size → (∀ q : Nat, q < H.size → ¬ A1 q → H1[q]? = H[q]?) → va_S A0 H0 H1 locs1 → W p l e R s m args below meth c H1 locs1 (cells + mc) (slots + ms) Q (F0 m (pc + 3) ls (.int r :: rest))) : W p l e R s m args below meth c H locs cells slots Q (F0 m pc ls st0) := by
  intro T hT X
  rcases hr T hT X with ⟨v, st₀, t, T', L, h0, X', hL, e1, e2, ⟨⟨r, u, hv, hp, hb⟩, hF⟩, st⟩ | ⟨q, st₀, t, T', L, E, ce, h0, X', hL, e1, e2, ⟨u, hp, hb, hF⟩, hce, hcv, hcl, st⟩
  · cases hv
    obtain ⟨k1, k2, k3⟩ := vx_keep h0 e1 hS hA hf hL hF
    obtain ⟨t2, a1, b1⟩ := kk r u t T'.heap (locs ++ L) e1.symm (by rw [← e2]; exact X'.warmed.alike) hp hb k1 k2 k3 T' rfl X'
    exact ⟨t2, st t2 a1, b1⟩
  · obtain ⟨k1, k2, k3⟩ := vx_keep h0 e1 hS hAX hf hL hF
    obtain ⟨t2, a1, b1⟩ := kx E ce q u t T'.heap (locs ++ L) e1.symm (by rw [← e2]; exact X'.warmed.alike) hp hb k1 k2 k3 (by rw [e1]; exact hce) hcv hcl T' rfl X'
    exact ⟨t2, st.trans a1, b1⟩
theorem vx_calll {S SX : Type} {post : Int64 → S → Prop} {px : SX → Prop} {B : S → State → Prop} {BX : String → SX → State → Prop} {AX : Nat → Prop} (hr : vx_Run p l e R s m args below meth c H locs cells slots mc ms (F0 m pc ls st0) rest (va_Ql post B A1 a) (vx_X px BX AX) free) (hS : va_S A0 H0 H locs) (hA : ∀ q, q < H.size → A1 q → A0 q) (hf : ∀ q, free q → A0 q) (hAX : ∀ q, q < H.size → AX q → A0 q)
    (kx : ∀ (E : String) (ce : Cell) (q9 : Addr) (u : SX) (t : State) (H1 : Heap) (locs1 : List Loc), t.heap = H1 → s.vm.Alike t.vm → px u → BX E u t → H.size ≤ H1.size → (∀ q : Nat, q < H.size → ¬ AX q → H1[q]? = H[q]?) → va_S A0 H0 H1 locs1 → H1[q9]? = some ce → ce.vm = .none → s.vm.findClass E = some ce.cls → vx_W p l e R s m args below meth c H1 locs1 (cells + mc) (slots + ms) Q (F0 m pc ls rest) q9)
    (kk : ∀ (r : Int64) (u : S) (t : State) (H1 : Heap) (locs1 : List Loc), t.heap = H1 → s.vm.Alike t.vm → post r u → B u t → H.size ≤ H1.size → (∀ q : Nat, q < H.size → ¬ A1 q → H1[q]? = H[q]?) → va_S A0 H0 H1 locs1 → W p l e R s m args below meth c H1 locs1 (cells + mc) (slots + ms) Q (F0 m (pc + 3) ls (.long r :: rest))) : W p l e R s m args below meth c H locs cells slots Q (F0 m pc ls st0) := by
  intro T hT X
  rcases hr T hT X with ⟨v, st₀, t, T', L, h0, X', hL, e1, e2, ⟨⟨r, u, hv, hp, hb⟩, hF⟩, st⟩ | ⟨q, st₀, t, T', L, E, ce, h0, X', hL, e1, e2, ⟨u, hp, hb, hF⟩, hce, hcv, hcl, st⟩
  · cases hv
    obtain ⟨k1, k2, k3⟩ := vx_keep h0 e1 hS hA hf hL hF
    obtain ⟨t2, a1, b1⟩ := kk r u t T'.heap (locs ++ L) e1.symm (by rw [← e2]; exact X'.warmed.alike) hp hb k1 k2 k3 T' rfl X'
    exact ⟨t2, st t2 a1, b1⟩
  · obtain ⟨k1, k2, k3⟩ := vx_keep h0 e1 hS hAX hf hL hF
    obtain ⟨t2, a1, b1⟩ := kx E ce q u t T'.heap (locs ++ L) e1.symm (by rw [← e2]; exact X'.warmed.alike) hp hb k1 k2 k3 (by rw [e1]; exact hce) hcv hcl T' rfl X'
    exact ⟨t2, st.trans a1, b1⟩
theorem vx_callf {S SX : Type} {post : UInt32 → S → Prop} {px : SX → Prop} {B : S → State → Prop} {BX : String → SX → State → Prop} {AX : Nat → Prop} (hr : vx_Run p l e R s m args below meth c H locs cells slots mc ms (F0 m pc ls st0) rest (va_Qf post B A1 a) (vx_X px BX AX) free) (hS : va_S A0 H0 H locs) (hA : ∀ q, q < H.size → A1 q → A0 q) (hf : ∀ q, free q → A0 q) (hAX : ∀ q, q < H.size → AX q → A0 q)
    (kx : ∀ (E : String) (ce : Cell) (q9 : Addr) (u : SX) (t : State) (H1 : Heap) (locs1 : List Loc), t.heap = H1 → s.vm.Alike t.vm → px u → BX E u t → H.size ≤ H1.size → (∀ q : Nat, q < H.size → ¬ AX q → H1[q]? = H[q]?) → va_S A0 H0 H1 locs1 → H1[q9]? = some ce → ce.vm = .none → s.vm.findClass E = some ce.cls → vx_W p l e R s m args below meth c H1 locs1 (cells + mc) (slots + ms) Q (F0 m pc ls rest) q9)
    (kk : ∀ (r : UInt32) (u : S) (t : State) (H1 : Heap) (locs1 : List Loc), t.heap = H1 → s.vm.Alike t.vm → post r u → B u t → H.size ≤ H1.size → (∀ q : Nat, q < H.size → ¬ A1 q → H1[q]? = H[q]?) → va_S A0 H0 H1 locs1 → W p l e R s m args below meth c H1 locs1 (cells + mc) (slots + ms) Q (F0 m (pc + 3) ls (.float r :: rest))) : W p l e R s m args below meth c H locs cells slots Q (F0 m pc ls st0) := by
  intro T hT X
  rcases hr T hT X with ⟨v, st₀, t, T', L, h0, X', hL, e1, e2, ⟨⟨r, u, hv, hp, hb⟩, hF⟩, st⟩ | ⟨q, st₀, t, T', L, E, ce, h0, X', hL, e1, e2, ⟨u, hp, hb, hF⟩, hce, hcv, hcl, st⟩
  · cases hv
    obtain ⟨k1, k2, k3⟩ := vx_keep h0 e1 hS hA hf hL hF
    obtain ⟨t2, a1, b1⟩ := kk r u t T'.heap (locs ++ L) e1.symm (by rw [← e2]; exact X'.warmed.alike) hp hb k1 k2 k3 T' rfl X'
    exact ⟨t2, st t2 a1, b1⟩
  · obtain ⟨k1, k2, k3⟩ := vx_keep h0 e1 hS hAX hf hL hF
    obtain ⟨t2, a1, b1⟩ := kx E ce q u t T'.heap (locs ++ L) e1.symm (by rw [← e2]; exact X'.warmed.alike) hp hb k1 k2 k3 (by rw [e1]; exact hce) hcv hcl T' rfl X'
    exact ⟨t2, st.trans a1, b1⟩
theorem vx_calld {S SX : Type} {post : UInt64 → S → Prop} {px : SX → Prop} {B : S → State → Prop} {BX : String → SX → State → Prop} {AX : Nat → Prop} (hr : vx_Run p l e R s m args below meth c H locs cells slots mc ms (F0 m pc ls st0) rest (va_Qd post B A1 a) (vx_X px BX AX) free) (hS : va_S A0 H0 H locs) (hA : ∀ q, q < H.size → A1 q → A0 q) (hf : ∀ q, free q → A0 q) (hAX : ∀ q, q < H.size → AX q → A0 q)
    (kx : ∀ (E : String) (ce : Cell) (q9 : Addr) (u : SX) (t : State) (H1 : Heap) (locs1 : List Loc), t.heap = H1 → s.vm.Alike t.vm → px u → BX E u t → H.size ≤ H1.size → (∀ q : Nat, q < H.size → ¬ AX q → H1[q]? = H[q]?) → va_S A0 H0 H1 locs1 → H1[q9]? = some ce → ce.vm = .none → s.vm.findClass E = some ce.cls → vx_W p l e R s m args below meth c H1 locs1 (cells + mc) (slots + ms) Q (F0 m pc ls rest) q9)
    (kk : ∀ (r : UInt64) (u : S) (t : State) (H1 : Heap) (locs1 : List Loc), t.heap = H1 → s.vm.Alike t.vm → post r u → B u t → H.size ≤ H1.size → (∀ q : Nat, q < H.size → ¬ A1 q → H1[q]? = H[q]?) → va_S A0 H0 H1 locs1 → W p l e R s m args below meth c H1 locs1 (cells + mc) (slots + ms) Q (F0 m (pc + 3) ls (.double r :: rest))) : W p l e R s m args below meth c H locs cells slots Q (F0 m pc ls st0) := by
  intro T hT X
  rcases hr T hT X with ⟨v, st₀, t, T', L, h0, X', hL, e1, e2, ⟨⟨r, u, hv, hp, hb⟩, hF⟩, st⟩ | ⟨q, st₀, t, T', L, E, ce, h0, X', hL, e1, e2, ⟨u, hp, hb, hF⟩, hce, hcv, hcl, st⟩
  · cases hv
    obtain ⟨k1, k2, k3⟩ := vx_keep h0 e1 hS hA hf hL hF
    obtain ⟨t2, a1, b1⟩ := kk r u t T'.heap (locs ++ L) e1.symm (by rw [← e2]; exact X'.warmed.alike) hp hb k1 k2 k3 T' rfl X'
    exact ⟨t2, st t2 a1, b1⟩
  · obtain ⟨k1, k2, k3⟩ := vx_keep h0 e1 hS hAX hf hL hF
    obtain ⟨t2, a1, b1⟩ := kx E ce q u t T'.heap (locs ++ L) e1.symm (by rw [← e2]; exact X'.warmed.alike) hp hb k1 k2 k3 (by rw [e1]; exact hce) hcv hcl T' rfl X'
    exact ⟨t2, st.trans a1, b1⟩
theorem vx_callv {S SX : Type} {post : S → Prop} {px : SX → Prop} {B : S → State → Prop} {BX : String → SX → State → Prop} {AX : Nat → Prop} (hr : vx_Run p l e R s m args below meth c H locs cells slots mc ms (F0 m pc ls st0) rest (va_Qv post B A1 a) (vx_X px BX AX) free) (hS : va_S A0 H0 H locs) (hA : ∀ q, q < H.size → A1 q → A0 q) (hf : ∀ q, free q → A0 q) (hAX : ∀ q, q < H.size → AX q → A0 q)
    (kx : ∀ (E : String) (ce : Cell) (q9 : Addr) (u : SX) (t : State) (H1 : Heap) (locs1 : List Loc), t.heap = H1 → s.vm.Alike t.vm → px u → BX E u t → H.size ≤ H1.size → (∀ q : Nat, q < H.size → ¬ AX q → H1[q]? = H[q]?) → va_S A0 H0 H1 locs1 → H1[q9]? = some ce → ce.vm = .none → s.vm.findClass E = some ce.cls → vx_W p l e R s m args below meth c H1 locs1 (cells + mc) (slots + ms) Q (F0 m pc ls rest) q9)
    (kk : ∀ (u : S) (t : State) (H1 : Heap) (locs1 : List Loc), t.heap = H1 → s.vm.Alike t.vm → post u → B u t → H.size ≤ H1.size → (∀ q : Nat, q < H.size → ¬ A1 q → H1[q]? = H[q]?) → va_S A0 H0 H1 locs1 → W p l e R s m args below meth c H1 locs1 (cells + mc) (slots + ms) Q (F0 m (pc + 3) ls (rest))) : W p l e R s m args below meth c H locs cells slots Q (F0 m pc ls st0) := by
  intro T hT X
  rcases hr T hT X with ⟨v, st₀, t, T', L, h0, X', hL, e1, e2, ⟨⟨u, hv, hp, hb⟩, hF⟩, st⟩ | ⟨q, st₀, t, T', L, E, ce, h0, X', hL, e1, e2, ⟨u, hp, hb, hF⟩, hce, hcv, hcl, st⟩
  · cases hv
    obtain ⟨k1, k2, k3⟩ := vx_keep h0 e1 hS hA hf hL hF
    obtain ⟨t2, a1, b1⟩ := kk u t T'.heap (locs ++ L) e1.symm (by rw [← e2]; exact X'.warmed.alike) hp hb k1 k2 k3 T' rfl X'
    exact ⟨t2, st t2 a1, b1⟩
  · obtain ⟨k1, k2, k3⟩ := vx_keep h0 e1 hS hAX hf hL hF
    obtain ⟨t2, a1, b1⟩ := kx E ce q u t T'.heap (locs ++ L) e1.symm (by rw [← e2]; exact X'.warmed.alike) hp hb k1 k2 k3 (by rw [e1]; exact hce) hcv hcl T' rfl X'
    exact ⟨t2, st.trans a1, b1⟩
/-- caught by the row x of this method's table; the rows ahead don't take it -/
theorem vx_catch {own name : String} {E : String} {ce : Cell} {q : Addr} (hown : s.vm.findClass own = some m.cls) (pre : List ExceptionTableEntry) (x : ExceptionTableEntry) (suf : List ExceptionTableEntry) (hsplit : c.exceptionTable.toList = pre ++ x :: suf)
    (hpass : ∀ z ∈ pre, covers z pc = false ∨ (z.catchType ≠ 0 ∧ ∃ nm : String, (Cond.classLink own z.catchType nm).before args s = true ∧ va_Nc E nm s)) (hx : covers x pc = true) (h0 : x.catchType ≠ 0)
    (hlink : (Cond.classLink own x.catchType name).before args s = true) (hcast : (Cond.castable E name).before args s = true) (hcell : H[q]? = some ce) (hv : ce.vm = .none) (hcl : s.vm.findClass E = some ce.cls)
    (kk : W p l e R s m args below meth c H locs cells slots Q (F0 m x.handlerPc ls [.ref q])) : vx_W p l e R s m args below meth c H locs cells slots Q (F0 m pc ls rest) q := by
  intro T hT X
  have hpl : e.platform.magicAccessors = ({} : Platform).magicAccessors := by rw [X.admits.platform]
  obtain ⟨c3, c4, hc3, hc4, hasg⟩ := Cond.castable_spec hcast
  cases Option.some.inj (hc3.symm.trans hcl)
  obtain ⟨c5, hc5, hcl5⟩ := Cond.classLink_spec hown hlink e.platform hpl
  cases Option.some.inj (hc4.symm.trans hc5)
  obtain ⟨vm', X', st⟩ := X.thenCaughtThrough q (g := F0 m pc ls rest) rfl (Steps.refl _) (by rw [hT]; exact hcell) (by rw [hv]; rfl) (by obtain ⟨k9, h9, -⟩ := Vm.findClass_spec hcl; exact ⟨k9, h9⟩) pre x suf hsplit
    (fun z hz => by
      rcases hpass z hz with h | ⟨hz0, nm, hl1, hn1⟩
      · exact Or.inl h
      · obtain ⟨c6, hc6, hcl6⟩ := Cond.classLink_spec hown hl1 e.platform hpl
        obtain ⟨a8, b8, h1, h2, h3⟩ := hn1
        cases Option.some.inj (h1.symm.trans hcl)
        cases Option.some.inj (h2.symm.trans hc6)
        exact Or.inr ⟨hz0, _, hcl6, h3⟩) hx (Or.inr ⟨h0, c4, hcl5, hasg⟩)
  obtain ⟨t, a1, b1⟩ := kk (T.setVm vm') hT X'
  exact ⟨t, st.trans a1, b1⟩
end Rows
section Ends
variable {p : Program} {l : Launch} {e : Env} {R : Room} {s : State} {m : MethodId} {args : Array Value} {below : List Frame} {meth : Method} {c : Code} {H : Heap} {locs : List Loc} {cells slots : Nat} {Q : State → Prop}
variable {mc ms : Nat} {free : Addr → Prop} {A0 A1 : Nat → Prop} {H0 : Heap} {a : Array Value} {ls : Array Slot} {st0 rest : List Value}
variable {Qc : Array Value → State → Outcome → State → Prop} {XC : String → State → State → Prop}
/-- what a body that may throw owes at its end -/
def vx_MQ (below : List Frame) (Qc : Array Value → State → Outcome → State → Prop) (XC : String → State → State → Prop) (a : Array Value) (s : State) (mc ms : Nat) (free : Addr → Prop) : State → Prop := fun t =>
  ∃ o, t.status = .running ∧ Ended t below o ∧ vx_Q Qc XC mc ms free a s o t
theorem vx_ret {g : JFrame} {mc ms : Nat} (k : W p l e R s m args below meth c H locs cells slots (MQ below Qc args s mc ms free) g) : W p l e R s m args below meth c H locs cells slots (vx_MQ below Qc XC args s mc ms free) g := by
  intro T hT X
  obtain ⟨t, a1, o, b1, b2, b3, b4⟩ := k T hT X
  exact ⟨t, a1, o, b1, b2, Or.inl ⟨b3, b4⟩⟩
/-- not caught here: it goes on to the caller -/
theorem vx_widen {g : JFrame} {q : Addr} {k n : Nat} (h1 : cells ≤ k) (h2 : slots ≤ n) (kk : vx_W p l e R s m args below meth c H locs k n Q g q) : vx_W p l e R s m args below meth c H locs cells slots Q g q := fun T hT X => kk T hT (stand_widen X h1 h2)
theorem vx_out {pc : Nat} {E : String} {ce : Cell} {q : Addr} {mc ms : Nat} (hout : ∀ x ∈ c.exceptionTable.toList, covers x pc = false) (hlocks : meth.locks = false) (hcell : H[q]? = some ce) (hv : ce.vm = .none) (hcl : s.vm.findClass E = some ce.cls)
    (hx : ∀ t : State, t.heap = H → s.vm.Alike t.vm → XC E s t) (hf : ∀ z ∈ locs, free z.base) (hc : cells ≤ mc) (hs : slots ≤ ms) :
    vx_W p l e R s m args below meth c H locs cells slots (vx_MQ below Qc XC args s mc ms free) (F0 m pc ls rest) q := by
  intro T hT X
  obtain ⟨st1, hrun, hend, hW, hsm⟩ := X.leaveThrown q (g := F0 m pc ls rest) rfl rfl rfl hout hlocks
  have hcell9 : (T.setFrames (.throwing q :: below)).heap[q]? = some ce := by
    show T.heap[q]? = some ce
    rw [hT]; exact hcell
  exact ⟨_, st1, .threw q, hrun, hend, Or.inr ⟨q, rfl, E, ce, locs, hx _ hT hW.alike, hcell9, hv, hcl, hW, hsm.mono hc hs, hf⟩⟩
theorem vx_frame {U : State} {k n : Nat} (h : s.sameButNew ({ U with vm := s.vm } : State) locs k n) : s.heap.size ≤ U.heap.size ∧ ∀ q : Nat, q < s.heap.size → (∀ z ∈ locs, z.base ≠ q) → U.heap[q]? = s.heap[q]? := by
  obtain ⟨-, h2, -, -, -, h6⟩ := h
  refine ⟨h2, fun q hq hz => ?_⟩
  obtain ⟨c9, e1, e2, e3, e4⟩ := h6 q _ (Array.getElem?_eq_getElem hq)
  have hs : c9.slots = (s.heap[q]).slots := Array.ext_getElem? fun i => e4 i fun hm => hz _ hm rfl
  have h9 : c9 = s.heap[q] := by
    rw [hs] at e2
    exact e2
  have e5 : U.heap[q]? = some c9 := e1
  rw [e5, h9, Array.getElem?_eq_getElem hq]
/-- the words of a throw but the four that speak of the heap -/
def vx_no (w : Cond) : Bool := decide (w ≠ .isRef (.static Bundle.tN "UNASSIGNED_STACK" Bundle.steD)) && decide (w ≠ .isRef (.static Bundle.tN "SUPPRESSED_SENTINEL" Bundle.listD)) && decide (w ≠ .laysStatic Bundle.tN "UNASSIGNED_STACK" Bundle.steD) && decide (w ≠ .laysStatic Bundle.tN "SUPPRESSED_SENTINEL" Bundle.listD)
def vx_at0 (own : String) (ic : Nat) (X : String) (names : List String) : List Cond := (Bundle.ownAtoms0 own ic X names).filter vx_no
def vx_atS (own : String) (ic : Nat) (X : String) (names : List String) : List Cond := (Bundle.ownAtoms own ic X names).filter vx_no
/-- a word that the tables alone decide, or a good one -/
def vx_ot (w : Cond) : Bool := w.onTables || goodWord w
theorem vx_ot_at {args a' : Array Value} {s U : State} {w : Cond} (hW : s.WarmedH U.vm) (hvm : s.vm = U.vm) (hg : vx_ot w = true) (h : w.before args s = true) : w.before a' U = true := by
  simp only [vx_ot, Bool.or_eq_true] at hg
  rcases hg with hg | hg
  · exact va_tabs hg hvm h
  · exact word_at hW (good_of_word hg) h
/-- a list's words: the good ones out of the method's own list, the others by premises of their own -/
theorem vx_hat {args : Array Value} {s : State} {L B : List Cond} (h1 : ∀ w ∈ L.filter goodWord, w.before args s = true) (h2 : ∀ w ∈ L.filter (fun w => !goodWord w), w ∈ B) (h3 : ∀ w ∈ B, w.before args s = true) : ∀ w ∈ L, w.before args s = true := by
  intro w hw
  by_cases g : goodWord w = true
  · exact h1 w (List.mem_filter.mpr ⟨hw, g⟩)
  · refine h3 w (h2 w (List.mem_filter.mpr ⟨hw, ?_⟩))
    show (!goodWord w) = true
    cases hgw : goodWord w
    · rfl
    · exact absurd hgw g
theorem vx_c {args : Array Value} {s : State} {w : Cond} {B : List Cond} (h : w.before args s = true) (t : ∀ w ∈ B, w.before args s = true) : ∀ w' ∈ w :: B, w'.before args s = true := fun w' h' => (List.mem_cons.mp h').elim (fun e => by rw [e]; exact h) (t w')
theorem vx_n {args : Array Value} {s : State} : ∀ w ∈ ([] : List Cond), w.before args s = true := fun _ h => nomatch h
theorem vx_own {args : Array Value} {s : State} {L : List Cond} (h1 : ∀ w ∈ L.filter vx_no, w.before args s = true)
    (hU : (Cond.isRef (.static Bundle.tN "UNASSIGNED_STACK" Bundle.steD)).before args s = true) (hN : (Cond.isRef (.static Bundle.tN "SUPPRESSED_SENTINEL" Bundle.listD)).before args s = true)
    (lU : (Cond.laysStatic Bundle.tN "UNASSIGNED_STACK" Bundle.steD).before args s = true) (lN : (Cond.laysStatic Bundle.tN "SUPPRESSED_SENTINEL" Bundle.listD).before args s = true) : ∀ w ∈ L, w.before args s = true := by
  intro w hw
  by_cases e1 : w = .isRef (.static Bundle.tN "UNASSIGNED_STACK" Bundle.steD)
  · rw [e1]; exact hU
  · by_cases e2 : w = .isRef (.static Bundle.tN "SUPPRESSED_SENTINEL" Bundle.listD)
    · rw [e2]; exact hN
    · by_cases e3 : w = .laysStatic Bundle.tN "UNASSIGNED_STACK" Bundle.steD
      · rw [e3]; exact lU
      · by_cases e4 : w = .laysStatic Bundle.tN "SUPPRESSED_SENTINEL" Bundle.listD
        · rw [e4]; exact lN
        · exact h1 w (List.mem_filter.mpr ⟨hw, by unfold vx_no; rw [decide_eq_true e1, decide_eq_true e2, decide_eq_true e3, decide_eq_true e4]; rfl⟩)
/-- where a static field lies, its class's statics cell in H -/
def vx_L (C n d : String) (A : Nat → Prop) (U : State) (H : Heap) : Prop := ∃ (c : ClassId) (k : Class) (i : Nat) (f : Field) (a : Nat) (cell : Cell), U.vm.findClass C = some c ∧ U.fieldFound? C n d = some (c, k, i, f) ∧ f.isStatic = true ∧ k.statics = some a ∧ H[a]? = some cell ∧ cell.vm.isStatics = true ∧ cell.cls = c ∧ f.slot < cell.slots.size ∧ k.staticTypes[f.slot]? = some f.type ∧ ¬ A a
theorem vx_L.moved {C n d : String} {A : Nat → Prop} {u U : State} {H : Heap} (hvm : u.vm.Alike U.vm) (h : vx_L C n d A u H) : vx_L C n d A U H := by
  obtain ⟨c, k, i, f, a, cell, h1, h2, h3, h4, h5, h6, h7, h8, h9, h10⟩ := h
  obtain ⟨k', hi', he⟩ := State.fieldFound?_setVm hvm h2
  exact ⟨c, k', i, f, a, cell, by rw [hvm.findClass]; exact h1, hi', h3, by rw [he]; exact h4, h5, h6, h7, h8, by rw [he]; exact h9, h10⟩
theorem vx_L.kept {C n d : String} {A : Nat → Prop} {U : State} {H H1 : Heap} (h : vx_L C n d A U H) (hq : ∀ a : Nat, a < H.size → ¬ A a → H1[a]? = H[a]?) : vx_L C n d A U H1 := by
  obtain ⟨c, k, i, f, a, cell, h1, h2, h3, h4, h5, h6, h7, h8, h9, h10⟩ := h
  exact ⟨c, k, i, f, a, cell, h1, h2, h3, h4, by rw [hq a (Array.getElem?_eq_some_iff.mp h5).1 h10]; exact h5, h6, h7, h8, h9, h10⟩
theorem vx_L.narrow {C n d : String} {A B : Nat → Prop} {U : State} {H : Heap} (h : vx_L C n d A U H) (hAB : ∀ q, B q → A q) : vx_L C n d B U H := by
  obtain ⟨c, k, i, f, a, cell, h1, h2, h3, h4, h5, h6, h7, h8, h9, h10⟩ := h
  exact ⟨c, k, i, f, a, cell, h1, h2, h3, h4, h5, h6, h7, h8, h9, fun z => h10 (hAB _ z)⟩
theorem vx_L.word {C n d : String} {A : Nat → Prop} {s : State} {args : Array Value} (h : vx_L C n d A s s.heap) : (Cond.laysStatic C n d).before args s = true := by
  obtain ⟨c, k, i, f, a, cell, h1, h2, h3, h4, h5, h6, h7, h8, h9, -⟩ := h
  show (Cond.laysStatic C n d).holds args s none s [] = true
  exact Cond.laysStatic_of h1 h2 h3 h4 h5 h6 h7 h8 h9
/-- .. and what it holds: null or some reference -/
def vx_Zq (C n d : String) (A : Nat → Prop) (U : State) (H : Heap) : Prop := va_Zq C n d A U H ∧ vx_L C n d A U H
theorem vx_Zq.moved {C n d : String} {A : Nat → Prop} {u U : State} {H : Heap} (hvm : u.vm.Alike U.vm) (h : vx_Zq C n d A u H) : vx_Zq C n d A U H := ⟨va_Zq.moved hvm h.1, vx_L.moved hvm h.2⟩
theorem vx_Zq.kept {C n d : String} {A : Nat → Prop} {U : State} {H H1 : Heap} (h : vx_Zq C n d A U H) (hq : ∀ a : Nat, a < H.size → ¬ A a → H1[a]? = H[a]?) : vx_Zq C n d A U H1 := ⟨va_Zq.kept h.1 hq, vx_L.kept h.2 hq⟩
theorem vx_Zq.narrow {C n d : String} {A B : Nat → Prop} {U : State} {H : Heap} (h : vx_Zq C n d A U H) (hAB : ∀ q, B q → A q) : vx_Zq C n d B U H := ⟨va_Zq.narrow h.1 hAB, vx_L.narrow h.2 hAB⟩
theorem vx_Zqof {args : Array Value} {s : State} {C n d : String} {A : Nat → Prop} (hl : (Cond.laysStatic C n d).before args s = true) (hini : (Cond.initialized C).before args s = true) (h : (Cond.isRef (.static C n d)).before args s = true) (hA : ∀ a : Nat, a < s.heap.size → ¬ A a) : vx_Zq C n d A s s.heap := by
  refine ⟨va_Zqof hl hini h hA, ?_⟩
  obtain ⟨c, k, i, f, a, cell, h1, h2, h3, h4, h5, h6, h7, h8, h9⟩ := Cond.laysStatic_spec hl
  exact ⟨c, k, i, f, a, cell, h1, h2, h3, h4, h5, h6, h7, h8, h9, hA a (Array.getElem?_eq_some_iff.mp h5).1⟩
theorem vx_isRef {C n d : String} {v : Value} {A : Nat → Prop} {s : State} {args : Array Value} (h : va_Z C n d v A s s.heap) (hv : v.isRef = true) : (Cond.isRef (.static C n d)).before args s = true := by
  obtain ⟨cf, kf, fi, f, a, cell, h1, h2, h3, h4, h5, h6, h7, -⟩ := h
  have he : (Term.static C n d).eval args s none [] s = some v := by
    simp [Term.eval, State.fieldNamed?, h1, h2, h4, h5, h6, h7]
  simp only [Cond.before, Cond.holds, Cond.value, he]
  cases v <;> simp_all [Value.isRef]
theorem vx_isRefq {C n d : String} {A : Nat → Prop} {s : State} {args : Array Value} (h : va_Zq C n d A s s.heap) : (Cond.isRef (.static C n d)).before args s = true := by
  rcases h with h | ⟨t, h⟩
  · exact vx_isRef h rfl
  · exact vx_isRef h rfl
/-- the same frame, seen from here: as if the method were called anew in this heap -/
theorem vx_rebase {T : State} (X : Stand p l e R s m args below meth c T locs cells slots) {R' : Room} (hf : R'.frames ≤ R.frames) (hl : R'.locals ≤ R.locals) (hc : cells + R'.cells ≤ R.cells) (hs : slots + R'.slots ≤ R.slots) :
    Stand p l e R' ((T.setVm s.vm).setFrames (.invoking m args :: below)) m args below meth c T [] 0 0 := by
  have htop : (T.setVm s.vm).topJava?.isSome := X.here.top
  have hF : ((T.setVm s.vm).setFrames (.invoking m args :: below)).frames = .invoking m args :: below := State.frames_setFrames _ (State.cur_lt_of_top htop)
  obtain ⟨g₀, hg0⟩ := Option.isSome_iff_exists.mp htop
  obtain ⟨r, hr⟩ := State.topJava?_eq_some.mp hg0
  have hl9 : e.platform.stackLimits (T.setVm s.vm).me = e.platform.stackLimits s.me := X.limits
  have hb9 : (T.setVm s.vm).me.stackBytes = s.me.stackBytes := X.bytes
  refine ⟨X.admits, X.cas, X.clock, hF, ?_, X.hears, X.method, X.code, X.here, X.tail, X.warmed, ?_, ?_, ?_⟩
  · have h := X.room
    have hU : ((T.setVm s.vm).setFrames (.invoking m args :: below)).localsInUse = s.localsInUse := by
      rw [State.localsInUse_invoking hF (meth := meth) (c := c) X.method X.code, State.localsInUse_invoking X.frames X.method X.code]
    simp only [State.hasRoom, Bool.and_eq_true, decide_eq_true_eq] at h ⊢
    obtain ⟨⟨⟨⟨h1, h2, h3, h4, h5, h6⟩, h7⟩, h8⟩, h9⟩ := h
    rw [X.frames, List.length_cons] at h2 h3
    have q1 := X.heapSize
    have q2 := X.used
    simp only [hF, hU, List.length_cons, State.stackLimits_setFrames, State.stackBytes_setFrames, hl9, hb9]
    refine ⟨⟨⟨⟨by omega, by omega, by omega, by omega, by omega, h6⟩, ?_⟩, ?_⟩, X.book⟩
    · show T.heap.size + R'.cells ≤ e.platform.maxCells
      omega
    · show T.slotsUsed + R'.slots ≤ e.platform.maxSlots
      omega
  · rw [State.stackLimits_setFrames]; rfl
  · rw [State.stackBytes_setFrames]; rfl
  · refine ⟨?_, Nat.le_refl _, Nat.le_refl _, ?_, ?_, fun a c9 h9 => ⟨c9, h9, rfl, rfl, fun _ _ => rfl⟩⟩
    · obtain ⟨t, ht, -⟩ := State.frames_cons hr
      show T.setVm s.vm = { ((T.setVm s.vm).setFrames (.invoking m args :: below)).setFrames (T.setVm s.vm).frames with heap := T.heap, slotsUsed := T.slotsUsed }
      rw [State.setFrames_setFrames, State.setFrames_self ht]
      rfl
    · show T.slotsUsed = T.slotsUsed + ((T.heap.toList.drop T.heap.size).map (·.slots.size)).sum
      rw [List.drop_eq_nil_of_le (Nat.le_of_eq Array.length_toList)]
      rfl
    · show ((T.heap.toList.drop T.heap.size).map (·.slots.size)).sum ≤ 0
      rw [List.drop_eq_nil_of_le (Nat.le_of_eq Array.length_toList)]
      exact Nat.le_refl _
/-- 'throw new E()': new; dup; invokespecial; athrow -/
theorem vx_throw0 {cc : ByteArray} {pc : Nat} (hexec : p.tables.exec = Jvm.exec) (hb : c.code = cc) (hl : l.stackTraces = false) {own cls : String} {names : List String} {ik ic mc ms : Nat} {A : Nat → Prop}
    (hown : s.vm.findClass own = some m.cls) (hcls : Bundle.fit cls = true) (hnames : ∀ n ∈ names, Bundle.fit n = true)
    (hk : (Cond.classLink own ik cls).before args s = true) (hini : (Cond.initialized cls).before args s = true) (hat : ∀ w ∈ vx_at0 own ic cls names, w.before args s = true)
    (hgood : ∀ w ∈ Cond.classLink own ik cls :: Cond.initialized cls :: vx_at0 own ic cls names, vx_ot w = true)
    (hU : vx_Zq Bundle.tN "UNASSIGNED_STACK" Bundle.steD A s s.heap) (hN : vx_Zq Bundle.tN "SUPPRESSED_SENTINEL" Bundle.listD A s s.heap) (hS : va_S A s.heap H locs) (hsize : ls.size = c.maxLocals)
    (d0 : decode cc pc = .ok (.new ik, 3)) (d3 : decode cc (pc + 3) = .ok (.dup, 1)) (d4 : decode cc (pc + 4) = .ok (.invokespecial ic, 3)) (d7 : decode cc (pc + 7) = .ok (.athrow, 1))
    (hout : ∀ x ∈ c.exceptionTable.toList, covers x (pc + 7) = false)
    (hRframes : names.length + 3 < R.frames) (hRlocals : (rest.map fun v => v.category).sum + (13 * (names.length + 1) + 42) ≤ R.locals) (hRcells : cells + 1 ≤ R.cells) (hRslots : slots + 6 ≤ R.slots) (hlocks : meth.locks = false)
    (hx : ∀ t : State, s.vm.Alike t.vm → H.size ≤ t.heap.size → (∀ q : Nat, q < H.size → t.heap[q]? = H[q]?) → XC cls s t)
    (hf : ∀ z ∈ locs, free z.base) (hc : cells + 1 ≤ mc) (hs : slots + 6 ≤ ms) :
    W p l e R s m args below meth c H locs cells slots (vx_MQ below Qc XC args s mc ms free) (F0 m pc ls rest) := by
  intro T hT X
  have htr : e.platform.stackTraces = false := (show e.platform.stackTraces = l.stackTraces by rw [X.admits.platform]).trans hl
  have Y := vx_rebase X (R' := { frames := R.frames, locals := R.locals, cells := 1, slots := 6 }) (Nat.le_refl _) (Nat.le_refl _) hRcells hRslots
  obtain ⟨s', hA⟩ : ∃ z, z = (T.setVm s.vm).setFrames (.invoking m args :: below) := ⟨_, rfl⟩
  rw [← hA] at Y
  have hvm : s'.vm = s.vm := by rw [hA]; rfl
  have hhp : s'.heap = H := by rw [hA]; exact hT
  have hW0 : s.WarmedH s'.vm := by rw [hvm]; exact State.WarmedH.refl s
  have hat' : ∀ w ∈ vx_at0 own ic cls names, w.before args s' = true := fun w hw => vx_ot_at hW0 hvm.symm (hgood w (List.mem_cons_of_mem _ (List.mem_cons_of_mem _ hw))) (hat w hw)
  have hk' : (Cond.classLink own ik cls).before args s' = true := vx_ot_at hW0 hvm.symm (hgood _ List.mem_cons_self) hk
  have hini' : (Cond.initialized cls).before args s' = true := vx_ot_at hW0 hvm.symm (hgood _ (List.mem_cons_of_mem _ List.mem_cons_self)) hini
  have hU' : vx_Zq Bundle.tN "UNASSIGNED_STACK" Bundle.steD A s' s'.heap := by rw [hhp]; exact vx_Zq.moved hW0.alike (hU.kept hS.2.1)
  have hN' : vx_Zq Bundle.tN "SUPPRESSED_SENTINEL" Bundle.listD A s' s'.heap := by rw [hhp]; exact vx_Zq.moved hW0.alike (hN.kept hS.2.1)
  have h : ∀ w ∈ Bundle.ownAtoms0 own ic cls names, w.before args s' = true := vx_own hat' (vx_isRefq hU'.1) (vx_isRefq hN'.1) hU'.2.word hN'.2.word
  have hown' : s'.vm.findClass own = some m.cls := by rw [hvm]; exact hown
  have hins : (Cond.instantiable cls 6).before args s' = true := h _ (by simp [Bundle.ownAtoms0])
  obtain ⟨vm₁, cX, kX, hfX, hkX, -, -, X₁, st1⟩ := Y.newCold hexec (own := own) (C := cls) (index := ik) (n := 6) hown' hk' hins hini'
    (g := F0 m pc ls rest) rfl (by rw [hb]; exact d0) (Nat.le_refl _) (Nat.le_refl _)
  generalize hT1 : (T.setVm vm₁).pushCell { cls := cX, slots := kX.instanceTypes.map defaultValue, vm := .none } = T1 at X₁ st1
  have hcat : (Value.ref T.heap.size).category = 1 := rfl
  have hcellA : T1.heap[T.heap.size]? = some (freshCell cX kX) := by rw [← hT1]; exact State.heap_pushCell_size _ _
  have d3' : decode c.code (pc + 3) = .ok (.dup, 1) := by rw [hb]; exact d3
  obtain ⟨U, hsteps, hrun, hend, hW, hsame, ce, hce, hO⟩ := X₁.ctorThrow0 hexec htr (own := own) (cls := cls) (names := names) (ic := ic) hown' hcls hnames h (fun x hx => nomatch hx) hfX hkX hcellA (by rw [hhp, hT]; exact Nat.le_refl _)
    (g := { method := m, pc := pc + 4, locals := ls, stack := .ref T.heap.size :: .ref T.heap.size :: rest, locked := none }) rfl hsize rfl rfl (rest := rest) rfl
    (by rw [hb]; exact d4) (by rw [hb]; exact d7) hout hRframes (by simp only [List.map_cons, List.sum_cons, hcat]; omega) hlocks
  obtain ⟨f1, f2⟩ := vx_frame hsame
  rw [hhp] at f1 f2
  have hWs : s.WarmedH U.vm := State.WarmedH.trans hW0 hW
  have hcl : s.vm.findClass cls = some ce.cls := by
    have h9 := hO.cls
    rw [hvm] at h9
    exact h9
  have hall : s.sameButNew ({ U with vm := s.vm } : State) locs mc ms := by
    subst hA
    obtain ⟨e1, e2⟩ := hsame
    rw [State.setFrames_setFrames] at e1
    have h2 : (T.setVm s.vm).sameButNew ({ U with vm := s.vm } : State) [] (0 + 1) (0 + 6) := ⟨e1, e2⟩
    have h3 := X.same.trans h2
    rw [List.append_nil] at h3
    exact h3.mono hc hs
  refine ⟨U, ?_, .threw T.heap.size, hrun, hend, Or.inr ⟨T.heap.size, rfl, cls, ce, locs, hx U hWs.alike f1 (fun q hq => f2 q hq (fun z hz => nomatch hz)), hce, hO.vm, hcl, hWs, hall, hf⟩⟩
  refine st1 _ ?_
  show Steps p.tables e below (T1.setTop { method := m, pc := pc + 3, locals := ls, stack := .ref T.heap.size :: rest, locked := none }) _
  jvm_step X₁.here [X₁.here.top, hexec, d3', Value.category]
  exact hsteps
/-- 'throw new E("text")': new; dup; ldc; invokespecial; athrow -/
theorem vx_throwS {cc : ByteArray} {pc : Nat} (hexec : p.tables.exec = Jvm.exec) (hb : c.code = cc) (hl : l.stackTraces = false) {own cls text : String} {names : List String} {ik is ic mc ms sa : Nat} {A : Nat → Prop}
    (hown : s.vm.findClass own = some m.cls) (hcls : Bundle.fit cls = true) (hnames : ∀ n ∈ names, Bundle.fit n = true)
    (hk : (Cond.classLink own ik cls).before args s = true) (hini : (Cond.initialized cls).before args s = true) (hstr : vk_R own is text sa s) (hat : ∀ w ∈ vx_atS own ic cls names, w.before args s = true)
    (hgood : ∀ w ∈ Cond.classLink own ik cls :: Cond.initialized cls :: vx_atS own ic cls names, vx_ot w = true)
    (hU : vx_Zq Bundle.tN "UNASSIGNED_STACK" Bundle.steD A s s.heap) (hN : vx_Zq Bundle.tN "SUPPRESSED_SENTINEL" Bundle.listD A s s.heap) (hS : va_S A s.heap H locs) (hsize : ls.size = c.maxLocals)
    (d0 : decode cc pc = .ok (.new ik, 3)) (d3 : decode cc (pc + 3) = .ok (.dup, 1)) (d4 : decode cc (pc + 4) = .ok (.ldc is, 2)) (d6 : decode cc (pc + 6) = .ok (.invokespecial ic, 3)) (d9 : decode cc (pc + 9) = .ok (.athrow, 1))
    (hout : ∀ x ∈ c.exceptionTable.toList, covers x (pc + 9) = false)
    (hRframes : names.length + 3 < R.frames) (hRlocals : (rest.map fun v => v.category).sum + (13 * (names.length + 1) + 43) ≤ R.locals) (hRcells : cells + 1 ≤ R.cells) (hRslots : slots + 6 ≤ R.slots) (hlocks : meth.locks = false)
    (hx : ∀ t : State, s.vm.Alike t.vm → H.size ≤ t.heap.size → (∀ q : Nat, q < H.size → t.heap[q]? = H[q]?) → XC cls s t)
    (hf : ∀ z ∈ locs, free z.base) (hc : cells + 1 ≤ mc) (hs : slots + 6 ≤ ms) :
    W p l e R s m args below meth c H locs cells slots (vx_MQ below Qc XC args s mc ms free) (F0 m pc ls rest) := by
  intro T hT X
  have htr : e.platform.stackTraces = false := (show e.platform.stackTraces = l.stackTraces by rw [X.admits.platform]).trans hl
  have Y := vx_rebase X (R' := { frames := R.frames, locals := R.locals, cells := 1, slots := 6 }) (Nat.le_refl _) (Nat.le_refl _) hRcells hRslots
  obtain ⟨s', hA⟩ : ∃ z, z = (T.setVm s.vm).setFrames (.invoking m args :: below) := ⟨_, rfl⟩
  rw [← hA] at Y
  have hvm : s'.vm = s.vm := by rw [hA]; rfl
  have hhp : s'.heap = H := by rw [hA]; exact hT
  have hW0 : s.WarmedH s'.vm := by rw [hvm]; exact State.WarmedH.refl s
  have hat' : ∀ w ∈ vx_atS own ic cls names, w.before args s' = true := fun w hw => vx_ot_at hW0 hvm.symm (hgood w (List.mem_cons_of_mem _ (List.mem_cons_of_mem _ hw))) (hat w hw)
  have hk' : (Cond.classLink own ik cls).before args s' = true := vx_ot_at hW0 hvm.symm (hgood _ List.mem_cons_self) hk
  have hini' : (Cond.initialized cls).before args s' = true := vx_ot_at hW0 hvm.symm (hgood _ (List.mem_cons_of_mem _ List.mem_cons_self)) hini
  have hU' : vx_Zq Bundle.tN "UNASSIGNED_STACK" Bundle.steD A s' s'.heap := by rw [hhp]; exact vx_Zq.moved hW0.alike (hU.kept hS.2.1)
  have hN' : vx_Zq Bundle.tN "SUPPRESSED_SENTINEL" Bundle.listD A s' s'.heap := by rw [hhp]; exact vx_Zq.moved hW0.alike (hN.kept hS.2.1)
  have h : ∀ w ∈ Bundle.ownAtoms own ic cls names, w.before args s' = true := vx_own hat' (vx_isRefq hU'.1) (vx_isRefq hN'.1) hU'.2.word hN'.2.word
  have hown' : s'.vm.findClass own = some m.cls := by rw [hvm]; exact hown
  have hins : (Cond.instantiable cls 6).before args s' = true := h _ (by simp [Bundle.ownAtoms])
  obtain ⟨vm₁, cX, kX, hfX, hkX, -, -, X₁, st1⟩ := Y.newCold hexec (own := own) (C := cls) (index := ik) (n := 6) hown' hk' hins hini'
    (g := F0 m pc ls rest) rfl (by rw [hb]; exact d0) (Nat.le_refl _) (Nat.le_refl _)
  generalize hT1 : (T.setVm vm₁).pushCell { cls := cX, slots := kX.instanceTypes.map defaultValue, vm := .none } = T1 at X₁ st1
  have hcat : (Value.ref T.heap.size).category = 1 := rfl
  have hcellA : T1.heap[T.heap.size]? = some (freshCell cX kX) := by rw [← hT1]; exact State.heap_pushCell_size _ _
  have d3' : decode c.code (pc + 3) = .ok (.dup, 1) := by rw [hb]; exact d3
  have d4' : decode c.code (pc + 4) = .ok (.ldc is, 2) := by rw [hb]; exact d4
  have hstr' : vk_R own is text sa s' := vk_R.warm hW0 hstr
  obtain ⟨U, hsteps, hrun, hend, hW, hsame, ce, hce, hO⟩ := X₁.ctorThrowS hexec htr (own := own) (cls := cls) (names := names) (ic := ic) hown' hcls hnames h (fun x hx => nomatch hx) hfX hkX hcellA (by rw [hhp, hT]; exact Nat.le_refl _) (msg := .ref sa) rfl
    (g := { method := m, pc := pc + 6, locals := ls, stack := .ref sa :: .ref T.heap.size :: .ref T.heap.size :: rest, locked := none }) rfl hsize rfl rfl (rest := rest) rfl
    (by rw [hb]; exact d6) (by rw [hb]; exact d9) hout hRframes (by simp only [List.map_cons, List.sum_cons, hcat]; omega) hlocks
  obtain ⟨f1, f2⟩ := vx_frame hsame
  rw [hhp] at f1 f2
  have hWs : s.WarmedH U.vm := State.WarmedH.trans hW0 hW
  have hcl : s.vm.findClass cls = some ce.cls := by
    have h9 := hO.cls
    rw [hvm] at h9
    exact h9
  have hall : s.sameButNew ({ U with vm := s.vm } : State) locs mc ms := by
    subst hA
    obtain ⟨e1, e2⟩ := hsame
    rw [State.setFrames_setFrames] at e1
    have h2 : (T.setVm s.vm).sameButNew ({ U with vm := s.vm } : State) [] (0 + 1) (0 + 6) := ⟨e1, e2⟩
    have h3 := X.same.trans h2
    rw [List.append_nil] at h3
    exact h3.mono hc hs
  refine ⟨U, ?_, .threw T.heap.size, hrun, hend, Or.inr ⟨T.heap.size, rfl, cls, ce, locs, hx U hWs.alike f1 (fun q hq => f2 q hq (fun z hz => nomatch hz)), hce, hO.vm, hcl, hWs, hall, hf⟩⟩
  refine st1 _ ?_
  show Steps p.tables e below (T1.setTop { method := m, pc := pc + 3, locals := ls, stack := .ref T.heap.size :: rest, locked := none }) _
  jvm_step X₁.here [X₁.here.top, hexec, d3', Value.category]
  exact X₁.ldcString hexec (own := own) (text := text) (index := is) (a := sa) hown' hstr'.1 hstr'.2
    (g := { method := m, pc := pc + 4, locals := ls, stack := .ref T.heap.size :: .ref T.heap.size :: rest, locked := none }) rfl d4' _ hsteps
/-- 'throw new E("text")', the text by a wide index -/
theorem vx_throwSW {cc : ByteArray} {pc : Nat} (hexec : p.tables.exec = Jvm.exec) (hb : c.code = cc) (hl : l.stackTraces = false) {own cls text : String} {names : List String} {ik is ic mc ms sa : Nat} {A : Nat → Prop}
    (hown : s.vm.findClass own = some m.cls) (hcls : Bundle.fit cls = true) (hnames : ∀ n ∈ names, Bundle.fit n = true)
    (hk : (Cond.classLink own ik cls).before args s = true) (hini : (Cond.initialized cls).before args s = true) (hstr : vk_R own is text sa s) (hat : ∀ w ∈ vx_atS own ic cls names, w.before args s = true)
    (hgood : ∀ w ∈ Cond.classLink own ik cls :: Cond.initialized cls :: vx_atS own ic cls names, vx_ot w = true)
    (hU : vx_Zq Bundle.tN "UNASSIGNED_STACK" Bundle.steD A s s.heap) (hN : vx_Zq Bundle.tN "SUPPRESSED_SENTINEL" Bundle.listD A s s.heap) (hS : va_S A s.heap H locs) (hsize : ls.size = c.maxLocals)
    (d0 : decode cc pc = .ok (.new ik, 3)) (d3 : decode cc (pc + 3) = .ok (.dup, 1)) (d4 : decode cc (pc + 4) = .ok (.ldc_w is, 3)) (d7 : decode cc (pc + 7) = .ok (.invokespecial ic, 3)) (d10 : decode cc (pc + 10) = .ok (.athrow, 1))
    (hout : ∀ x ∈ c.exceptionTable.toList, covers x (pc + 10) = false)
    (hRframes : names.length + 3 < R.frames) (hRlocals : (rest.map fun v => v.category).sum + (13 * (names.length + 1) + 43) ≤ R.locals) (hRcells : cells + 1 ≤ R.cells) (hRslots : slots + 6 ≤ R.slots) (hlocks : meth.locks = false)
    (hx : ∀ t : State, s.vm.Alike t.vm → H.size ≤ t.heap.size → (∀ q : Nat, q < H.size → t.heap[q]? = H[q]?) → XC cls s t)
    (hf : ∀ z ∈ locs, free z.base) (hc : cells + 1 ≤ mc) (hs : slots + 6 ≤ ms) :
    W p l e R s m args below meth c H locs cells slots (vx_MQ below Qc XC args s mc ms free) (F0 m pc ls rest) := by
  intro T hT X
  have htr : e.platform.stackTraces = false := (show e.platform.stackTraces = l.stackTraces by rw [X.admits.platform]).trans hl
  have Y := vx_rebase X (R' := { frames := R.frames, locals := R.locals, cells := 1, slots := 6 }) (Nat.le_refl _) (Nat.le_refl _) hRcells hRslots
  obtain ⟨s', hA⟩ : ∃ z, z = (T.setVm s.vm).setFrames (.invoking m args :: below) := ⟨_, rfl⟩
  rw [← hA] at Y
  have hvm : s'.vm = s.vm := by rw [hA]; rfl
  have hhp : s'.heap = H := by rw [hA]; exact hT
  have hW0 : s.WarmedH s'.vm := by rw [hvm]; exact State.WarmedH.refl s
  have hat' : ∀ w ∈ vx_atS own ic cls names, w.before args s' = true := fun w hw => vx_ot_at hW0 hvm.symm (hgood w (List.mem_cons_of_mem _ (List.mem_cons_of_mem _ hw))) (hat w hw)
  have hk' : (Cond.classLink own ik cls).before args s' = true := vx_ot_at hW0 hvm.symm (hgood _ List.mem_cons_self) hk
  have hini' : (Cond.initialized cls).before args s' = true := vx_ot_at hW0 hvm.symm (hgood _ (List.mem_cons_of_mem _ List.mem_cons_self)) hini
  have hU' : vx_Zq Bundle.tN "UNASSIGNED_STACK" Bundle.steD A s' s'.heap := by rw [hhp]; exact vx_Zq.moved hW0.alike (hU.kept hS.2.1)
  have hN' : vx_Zq Bundle.tN "SUPPRESSED_SENTINEL" Bundle.listD A s' s'.heap := by rw [hhp]; exact vx_Zq.moved hW0.alike (hN.kept hS.2.1)
  have h : ∀ w ∈ Bundle.ownAtoms own ic cls names, w.before args s' = true := vx_own hat' (vx_isRefq hU'.1) (vx_isRefq hN'.1) hU'.2.word hN'.2.word
  have hown' : s'.vm.findClass own = some m.cls := by rw [hvm]; exact hown
  have hins : (Cond.instantiable cls 6).before args s' = true := h _ (by simp [Bundle.ownAtoms])
  obtain ⟨vm₁, cX, kX, hfX, hkX, -, -, X₁, st1⟩ := Y.newCold hexec (own := own) (C := cls) (index := ik) (n := 6) hown' hk' hins hini'
    (g := F0 m pc ls rest) rfl (by rw [hb]; exact d0) (Nat.le_refl _) (Nat.le_refl _)
  generalize hT1 : (T.setVm vm₁).pushCell { cls := cX, slots := kX.instanceTypes.map defaultValue, vm := .none } = T1 at X₁ st1
  have hcat : (Value.ref T.heap.size).category = 1 := rfl
  have hcellA : T1.heap[T.heap.size]? = some (freshCell cX kX) := by rw [← hT1]; exact State.heap_pushCell_size _ _
  have d3' : decode c.code (pc + 3) = .ok (.dup, 1) := by rw [hb]; exact d3
  have d4' : decode c.code (pc + 4) = .ok (.ldc_w is, 3) := by rw [hb]; exact d4
  have hstr' : vk_R own is text sa s' := vk_R.warm hW0 hstr
  obtain ⟨U, hsteps, hrun, hend, hW, hsame, ce, hce, hO⟩ := X₁.ctorThrowS hexec htr (own := own) (cls := cls) (names := names) (ic := ic) hown' hcls hnames h (fun x hx => nomatch hx) hfX hkX hcellA (by rw [hhp, hT]; exact Nat.le_refl _) (msg := .ref sa) rfl
    (g := { method := m, pc := pc + 7, locals := ls, stack := .ref sa :: .ref T.heap.size :: .ref T.heap.size :: rest, locked := none }) rfl hsize rfl rfl (rest := rest) rfl
    (by rw [hb]; exact d7) (by rw [hb]; exact d10) hout hRframes (by simp only [List.map_cons, List.sum_cons, hcat]; omega) hlocks
  obtain ⟨f1, f2⟩ := vx_frame hsame
  rw [hhp] at f1 f2
  have hWs : s.WarmedH U.vm := State.WarmedH.trans hW0 hW
  have hcl : s.vm.findClass cls = some ce.cls := by
    have h9 := hO.cls
    rw [hvm] at h9
    exact h9
  have hall : s.sameButNew ({ U with vm := s.vm } : State) locs mc ms := by
    subst hA
    obtain ⟨e1, e2⟩ := hsame
    rw [State.setFrames_setFrames] at e1
    have h2 : (T.setVm s.vm).sameButNew ({ U with vm := s.vm } : State) [] (0 + 1) (0 + 6) := ⟨e1, e2⟩
    have h3 := X.same.trans h2
    rw [List.append_nil] at h3
    exact h3.mono hc hs
  refine ⟨U, ?_, .threw T.heap.size, hrun, hend, Or.inr ⟨T.heap.size, rfl, cls, ce, locs, hx U hWs.alike f1 (fun q hq => f2 q hq (fun z hz => nomatch hz)), hce, hO.vm, hcl, hWs, hall, hf⟩⟩
  refine st1 _ ?_
  show Steps p.tables e below (T1.setTop { method := m, pc := pc + 3, locals := ls, stack := .ref T.heap.size :: rest, locked := none }) _
  jvm_step X₁.here [X₁.here.top, hexec, d3', Value.category]
  exact X₁.ldcStringW hexec (own := own) (text := text) (index := is) (a := sa) hown' hstr'.1 hstr'.2
    (g := { method := m, pc := pc + 4, locals := ls, stack := .ref T.heap.size :: .ref T.heap.size :: rest, locked := none }) rfl d4' _ hsteps
end Ends
section Bodies
variable {l : Launch}
theorem vx_ofW {y : MethodName} {ws ws' : List Cond} {rm : Room} {Pc : Array Value → State → Prop} {Qc : Array Value → State → Outcome → State → Prop} {XC : String → State → State → Prop} {mc ms : Nat} {free : Addr → Prop} {cc : ByteArray} {maxL : Nat} {ret : Option FieldType}
    (hy : plainName y.cls = true) (hw : ws = Cond.code y cc maxL ret :: ws')
    (body : ∀ p e s m args below meth c s₁, BodyLoose p l y (headSpec ws rm) cc maxL ret e s m args below meth c s₁ → c.maxLocals = maxL → (∀ x ∈ c.exceptionTable.toList, False) → Pc args s →
      W p l e (headSpec ws rm).room s m args below meth c s.heap [] 0 0 (vx_MQ below Qc XC args s mc ms free) (entryFrame m args maxL)) : vx_Met l y ws rm Pc Qc XC mc ms free := by
  refine MetFree.of_bodyS (code := cc) (maxLocals := maxL) (ret := ret) hy ?_ ?_
  · intro args s m h hn
    obtain ⟨meth, c, h1, h2, h3, h4, h5, h6, -, -⟩ := Cond.code_spec hn (atoms_spec (ws := ws) h _ (by rw [hw]; exact List.mem_cons_self))
    exact ⟨meth, c, h1, h2, h3, h4, h5, h6⟩
  · intro p e s m args below meth c s₁ B hml hP _
    have hh0 : s₁.heap = s.heap := by rw [B.state]; rfl
    have ht : ∀ x ∈ c.exceptionTable.toList, False := by
      obtain ⟨meth9, c9, h1, h2, -, -, -, -, h7, -⟩ := Cond.code_spec B.named (atoms_spec (ws := ws) B.pre _ (by rw [hw]; exact List.mem_cons_self))
      cases Option.some.inj (h1.symm.trans B.method)
      cases Option.some.inj (h2.symm.trans (Stand.of_body B).code)
      intro x hx
      rw [Array.isEmpty_iff.mp h7] at hx
      cases hx
    obtain ⟨t, a1, o, b1, b2, b3⟩ := body p e s m args below meth c s₁ B hml ht hP s₁ hh0 (Stand.of_body B)
    exact ⟨t, o, a1, b1, b2, b3⟩
/-- the table of a body with handlers -/
theorem vx_table {p : Program} {x y : MethodName} {S : Spec} {cc bytes : ByteArray} {maxL maxL' : Nat} {ret ret' : Option FieldType} {e : Env} {s s₁ : State} {m : MethodId} {args : Array Value} {below : List Frame} {meth : Method} {c : Code} {hh : List (Nat × Nat × Nat × Nat)}
    (B : BodyLoose p l y S cc maxL ret e s m args below meth c s₁) (h : (Cond.codeWith y bytes maxL' ret' hh).before args s = true) : c.exceptionTable.toList = tableOf hh := by
  obtain ⟨m9, meth9, c9, hn9, h1, h2, -, -, h6, -⟩ := Cond.codeWith_spec h
  cases Option.some.inj (hn9.symm.trans B.named)
  cases Option.some.inj (h1.symm.trans B.method)
  cases Option.some.inj (h2.symm.trans (Stand.of_body B).code)
  rw [← h6, table_eq]
end Bodies
end VXA
/-! ===== END ===== -/
/-! ===== BEGIN a static call of a method with an exception table ===== -/
section VXS
variable {p : Program} {l : Launch} {e : Env} {R : Room} {s : State} {m : MethodId} {args : Array Value} {below : List Frame} {meth : Method} {c : Code} {T : State} {H : Heap} {locs : List Loc} {cells slots : Nat}
abbrev vx_CSW (R : Room) (s : State) (args : Array Value) (own : String) (index : Nat) (y : MethodName) (bytes : ByteArray) (maxL : Nat) (ret : Option FieldType) (hh : List (Nat × Nat × Nat × Nat)) (ws : List Cond) (rm : Room) (mc ms n : Nat) : Prop :=
  (rm.cells = mc ∧ rm.slots = ms ∧ rm.frames + 1 ≤ R.frames ∧ 8 + (maxL + 11) + rm.locals ≤ R.locals ∧ (∀ w ∈ ws, ∀ (a' : Array Value) (U : State), s.WarmedH U.vm → w.before a' U = true) ∧ Cond.codeWith y bytes maxL ret hh ∈ ws) ∧
  (Cond.codeWith y bytes maxL ret hh).before args s = true ∧ (Cond.initialized y.cls).before args s = true ∧ (y.cls ≠ "java/lang/invoke/MethodHandle" ∧ y.cls ≠ "java/lang/invoke/VarHandle") ∧
  (∀ sig, parseMethodDescriptor y.desc = some sig → n = sig.parameters.length) ∧ (Cond.methodLink own index y).before args s = true ∧ (Cond.static y).before args s = true
theorem vx_cwSW {own : String} {index maxL mc ms : Nat} {y : MethodName} {bytes : ByteArray} {ret : Option FieldType} {hh : List (Nat × Nat × Nat × Nat)} {Ts ws ws' : List Cond} {rm : Room} (n : Nat) (ht : ∀ w ∈ Ts, w.before args s = true) (hT : GoodIn Ts (va_wsS own index y ws)) (hw : ws = Cond.codeWith y bytes maxL ret hh :: ws') (hrc : rm.cells = mc) (hrs : rm.slots = ms)
    (hd : y.cls ≠ "java/lang/invoke/MethodHandle" ∧ y.cls ≠ "java/lang/invoke/VarHandle" ∧ (parseMethodDescriptor y.desc).map (fun d => d.parameters.length) = some n) (hR : rm.frames + 1 ≤ R.frames ∧ 8 + (maxL + 11) + rm.locals ≤ R.locals) :
    vx_CSW R s args own index y bytes maxL ret hh ws rm mc ms n := by
  have ok : ∀ w ∈ va_wsS own index y ws, w.before args s = true := fun w h => ht w (hT w h).1
  have hG : GoodIn Ts ws := fun w h => hT w (by unfold va_wsS; exact List.mem_append_right _ h)
  have hc : Cond.codeWith y bytes maxL ret hh ∈ ws := by rw [hw]; exact List.mem_cons_self
  refine ⟨⟨hrc, hrs, hR.1, hR.2, pay_in ht hG, hc⟩, ht _ (hG _ hc).1, ok _ (by simp [va_wsS]), ⟨hd.1, hd.2.1⟩, fun sig h => ?_, ok _ (by simp [va_wsS]), ok _ (by simp [va_wsS])⟩
  have h2 := hd.2.2
  rw [h] at h2
  exact (Option.some.inj h2).symm
theorem vx_callSW (X : Stand p l e R s m args below meth c T locs cells slots) (hexec : p.tables.exec = Jvm.exec) {own : String} {index : Nat} {y : MethodName} {bytes : ByteArray} {maxL : Nat} {ret : Option FieldType} {hh : List (Nat × Nat × Nat × Nat)}
    (hown : s.vm.findClass own = some m.cls) (hlink : (Cond.methodLink own index y).before args s = true) (hstat : (Cond.static y).before args s = true) (hinit : (Cond.initialized y.cls).before args s = true)
    (hcode : (Cond.codeWith y bytes maxL ret hh).before args s = true) (hy : y.cls ≠ "java/lang/invoke/MethodHandle" ∧ y.cls ≠ "java/lang/invoke/VarHandle")
    {W9 : Nat} {Pre : Pt → Array Value → Prop} {Post : Pt → Array Value → Option Value → Pt → Prop} (hK : Back l R p e below s args y 3 W9 Pre Post)
    {g : JFrame} (hg : g.method = m) (hsize : g.locals.size = c.maxLocals) {argsL rest : List Value} (hlen : ∀ sig, parseMethodDescriptor y.desc = some sig → argsL.length = sig.parameters.length)
    (hstack : g.stack = argsL.reverse ++ rest) (hW : 2 * g.monitorRoom + (rest.map fun v => v.category).sum ≤ W9) (hdg : decode c.code g.pc = .ok (.invokestatic index, 3))
    (hpre : ∀ vm₁, s.WarmedH vm₁ → Pre ⟨T.setVm vm₁, locs, cells, slots⟩ argsL.toArray) :
    ∃ (v : Option Value) (vm₁ : Vm) (B : Pt), s.WarmedH vm₁ ∧ Stand p l e R s m args below meth c B.U B.locs B.cells B.slots ∧ Post ⟨T.setVm vm₁, locs, cells, slots⟩ argsL.toArray v B ∧
      ∀ target, Steps p.tables e below (B.U.setTop { g with pc := g.pc + 3, stack := v.toList ++ rest }) target → Steps p.tables e below (T.setTop g) target := by
  obtain ⟨mk, methM, cM, hnamed, hmethM, -, -, -, -, -, -, hsigM⟩ := Cond.codeWith_spec hcode
  have hstatic : methM.isStatic = true := Cond.static_spec hnamed hmethM hstat
  obtain ⟨kP, hkP, -⟩ := className_of_methodNamed hnamed
  have hinitP : kP.init = .initialized := Cond.initialized_spec (findClass_of_methodNamed hnamed) hkP hinit
  obtain ⟨vm₁, X₁, hstep₁⟩ := X.invokestatic hexec hown hlink hnamed hmethM hstatic hkP hinitP hy (g := g) hg (argsL := argsL) (rest := rest) (hlen _ hsigM) hstack hdg
  obtain ⟨v, B, X', hpost, hsteps⟩ := hK m meth c ⟨T.setVm vm₁, locs, cells, slots⟩ { g with stack := rest } (.invokestatic index) mk argsL.toArray X₁ hg hsize hdg hW (X₁.named hnamed) (hpre vm₁ X₁.warmed)
  exact ⟨v, vm₁, B, X₁.warmed, X', hpost, fun target h => hstep₁ _ fun acts => by rw [doInvoke_state]; exact hsteps.trans h⟩
theorem vx_runSW {y : MethodName} {bytes cc : ByteArray} {maxL nL mc ms n index : Nat} {ret : Option FieldType} {hh : List (Nat × Nat × Nat × Nat)} {ws : List Cond} {rm : Room} {Pc : Array Value → State → Prop} {Qc : Array Value → State → Outcome → State → Prop} {free : Addr → Prop} {Ts : List Cond} {own : String} {As rest : List Value} {g : JFrame}
    (S : CallFix p m c cc nL s args Ts own) (hM : Met l y ws rm Pc Qc mc ms free) (cw : vx_CSW R s args own index y bytes maxL ret hh ws rm mc ms n) (hp : PreS s H Pc As)
    (hg : g.method = m) (hn : As.length = n) (hsize : g.locals.size = nL) (hstack : g.stack = As.reverse ++ rest) (hW : 2 * g.monitorRoom + (rest.map fun v => v.category).sum ≤ 8) (hdg : decode cc g.pc = .ok (.invokestatic index, 3)) (hf : cells + mc ≤ R.cells ∧ slots + ms ≤ R.slots) :
    va_Run p l e R s m args below meth c H locs cells slots mc ms g rest (Qc As.toArray) (free) := by
  obtain ⟨⟨hrc, hrs, hfr, hlo, hws, hcw⟩, hcode, hini, hy, hlen, hl, hstt⟩ := cw
  have hK : Back l R p e below s args y 3 8 (PreOf R mc ms Pc) (PostOf Qc mc ms free) := va_backW (hh := hh) (bytes := bytes) (maxL := maxL) (ret := ret) hM hp.1 hrc hrs hfr hlo hws hcw (fun a' U hW => word_at hW (Or.inl (by first | rfl | simp [Cond.onTables, Cond.keeps, Cond.steady])) hini)
  obtain ⟨hx, hb, hml, ho, -⟩ := S
  intro T hT X
  obtain ⟨v, vm₁, ⟨U', l2, c2, s2⟩, hW₁, X', ⟨g', mk, t, L, e1, e2, hq, h1, hL, h2, h3⟩, st⟩ := vx_callSW X hx (hh := hh) (bytes := bytes) (maxL := maxL) (ret := ret) ho hl hstt hini hcode hy hK hg (hsize.trans hml.symm) (argsL := As) (rest := rest) (fun sig h => hn.trans (hlen sig h)) hstack hW (by rw [hb]; exact hdg)
    (fun vm₁ hW₁ => ⟨hf.1, hf.2, hp.2 (T.setVm vm₁) hT hW₁⟩)
  dsimp only [Pt.U, Pt.locs, Pt.cells, Pt.slots] at X' e1 e2 h1 h2 h3 st
  subst h1; subst h2; subst h3
  exact ⟨v, (T.setVm vm₁).calling g' mk As.toArray, t, U', L, hT, X', hL, e1, e2, hq, st⟩
/-- not caught here, past rows that name other classes: it goes on to the caller -/
theorem vx_outP {p : Program} {l : Launch} {e : Env} {R : Room} {s : State} {m : MethodId} {args : Array Value} {below : List Frame} {meth : Method} {c : Code} {H : Heap} {locs : List Loc} {cells slots : Nat} {free : Addr → Prop} {ls : Array Slot} {rest : List Value} {Qc : Array Value → State → Outcome → State → Prop} {XC : String → State → State → Prop}
    {pc : Nat} {own E : String} {ce : Cell} {q : Addr} {mc ms : Nat} (hown : s.vm.findClass own = some m.cls) (hlocks : meth.locks = false)
    (hpass : ∀ z ∈ c.exceptionTable.toList, covers z pc = false ∨ (z.catchType ≠ 0 ∧ ∃ nm : String, (Cond.classLink own z.catchType nm).before args s = true ∧ va_Nc E nm s)) (hcell : H[q]? = some ce) (hv : ce.vm = .none) (hcl : s.vm.findClass E = some ce.cls)
    (hx : ∀ t : State, t.heap = H → s.vm.Alike t.vm → XC E s t) (hf : ∀ z ∈ locs, free z.base) (hc : cells ≤ mc) (hs : slots ≤ ms) :
    vx_W p l e R s m args below meth c H locs cells slots (vx_MQ below Qc XC args s mc ms free) (F0 m pc ls rest) q := by
  intro T hT X
  have hpl : e.platform.magicAccessors = ({} : Platform).magicAccessors := by rw [X.admits.platform]
  obtain ⟨vm', hW', X', st⟩ := X.outThrough hlocks q (g := F0 m pc ls rest) rfl rfl rfl (cell := ce) (by rw [hT]; exact hcell) (by rw [hv]; rfl)
    (by obtain ⟨k9, h9, -⟩ := Vm.findClass_spec hcl; exact ⟨k9, h9⟩) (fun z hz => by
      rcases hpass z hz with h | ⟨hz0, nm, hl1, hn1⟩
      · exact Or.inl h
      · obtain ⟨c6, hc6, hcl6⟩ := Cond.classLink_spec hown hl1 e.platform hpl
        obtain ⟨a8, b8, h1, h2, h3⟩ := hn1
        cases Option.some.inj (h1.symm.trans hcl)
        cases Option.some.inj (h2.symm.trans hc6)
        exact Or.inr ⟨hz0, _, hcl6, h3⟩)
  obtain ⟨g₀, hfr⟩ := X'.frames_eq
  have hcell9 : ((T.setVm vm').setFrames (.throwing q :: below)).heap[q]? = some ce := by
    show T.heap[q]? = some ce
    rw [hT]; exact hcell
  have hend : Ended ((T.setVm vm').setFrames (.throwing q :: below)) below (.threw q) := State.frames_setFrames _ (State.cur_lt_of_frames hfr)
  refine ⟨(T.setVm vm').setFrames (.throwing q :: below), ?_, .threw q, X'.here.running, hend, Or.inr ⟨q, rfl, E, ce, locs, hx _ hT (X'.ends _).1.alike, hcell9, hv, hcl, (X'.ends _).1, (X'.ends _).2.mono hc hs, hf⟩⟩
  rw [X.pushThrowing_eq]
  exact st
/-- a thing of a world lies in the heap -/
theorem vx_lt {D : va_G} {cl : List vw_C} {ws : va_W} {H1 : Heap} (h : va_P D cl ws H1) {k : Nat} {q : Nat × va_E} (hk : ws[k]? = some q) : q.1 < H1.size := (h k q hk).lt
end VXS
/-! ===== END ===== -/
/-! ===== BEGIN methods with a table of their own: called by a name, returning or throwing ===== -/
section VXH
/-! vx_backW, vx_callVX, vx_callSX, vx_callVW, vx_runVW, vx_runVX, vx_runSX, vx_ofWH follow the same proofs as their sisters above (Free/Laws.lean, Shelf42/LK1.lean); vx_outP calls Shelf42/NT130.lean (outThrough). -/
section
variable {l : Launch} {R : Room} {p : Program} {e : Env} {below : List Frame} {s : State} {sargs : Array Value} {y : MethodName} {len W9 : Nat}
theorem vx_backW {ws : List Cond} {rm : Room} {Pc : Array Value → State → Prop} {Qc : Array Value → State → Outcome → State → Prop} {XC : String → State → State → Prop} {mc ms : Nat} {free : Addr → Prop} {bytes : ByteArray} {maxL : Nat} {ret : Option FieldType} {hh : List (Nat × Nat × Nat × Nat)}
    (hM : vx_Met l y ws rm Pc Qc XC mc ms free) (hblind : FrameBlind Pc) (hrc : rm.cells = mc) (hrs : rm.slots = ms)
    (hframes : rm.frames + 1 ≤ R.frames) (hlocals : W9 + (maxL + 11) + rm.locals ≤ R.locals)
    (hws : ∀ w ∈ ws, ∀ a' U, s.WarmedH U.vm → w.before a' U = true) (hcode : Cond.codeWith y bytes maxL ret hh ∈ ws) (hinit : ∀ a' U, s.WarmedH U.vm → (Cond.initialized y.cls).before a' U = true) :
    vx_Back l R p e below s sargs y len W9 (PreOf R mc ms Pc) (PostOf Qc mc ms free) (vx_Post XC mc ms free) := by
  intro m meth c A g ig mk a X hg hsize hdg hW hn hp
  have h1 : (headSpec ws rm).pre.before a A.U = true := atoms_intro fun w hw => hws w hw _ _ X.warmed
  have h2 : (Cond.codeWith y bytes maxL ret hh).before a A.U = true := hws _ hcode _ _ X.warmed
  have h3 : (Cond.initialized y.cls).before a A.U = true := hinit _ _ X.warmed
  have h4 : A.cells + (headSpec ws rm).room.cells ≤ R.cells := by rw [show (headSpec ws rm).room.cells = mc from hrc]; exact hp.1
  have h5 : A.slots + (headSpec ws rm).room.slots ≤ R.slots := by rw [show (headSpec ws rm).room.slots = ms from hrs]; exact hp.2.1
  have hPc : Pc a (A.U.calling g mk a) := hblind _ _ _ _ hp.2.2
  obtain ⟨U, Ls, c0, s0⟩ := A
  dsimp only [Pt.U, Pt.locs, Pt.cells, Pt.slots] at h1 h2 h3 h4 h5 X hn hPc ⊢
  obtain ⟨m9, methY, cY, hn9, hmY, hcY, -, hlY, -⟩ := Cond.codeWith_spec h2
  cases Option.some.inj (hn9.symm.trans hn)
  obtain ⟨kY, hkY, -⟩ := className_of_methodNamed hn
  have hinitY : kY.init = .initialized := Cond.initialized_spec (findClass_of_methodNamed hn) hkY h3
  have h : At U g.method c below := by rw [hg]; exact X.here
  have hlocals9 : W9 + (maxL + 11) + (headSpec ws rm).room.locals ≤ R.locals := hlocals
  have happ : (headSpec ws rm).appliesLoose y e.platform (U.calling g mk a) = true :=
    Spec.appliesLoose_calling (g := g) h hdg hn hkY hinitY
      (X.room_calling (g := g) (R' := (headSpec ws rm).room) hsize hmY hcY hframes (by rw [hlY]; omega) h4 h5) h1
  obtain ⟨mid, hmid⟩ := h.above
  have hfr : (U.setTop g).frames = (.java g :: mid) ++ below := by rw [State.frames_setTop' g h.top, hmid]; rfl
  obtain ⟨o, s₂, hsteps, -, hend, hq⟩ := Steps.callFree hM p X.admits X.cas X.clock (acts := []) hfr happ hPc trivial
  have hq' : vx_Q Qc XC mc ms free a (U.calling g mk a) o s₂ := hq
  rw [State.frames_setTop' g h.top] at hend
  obtain ⟨g₀, hg0⟩ := Option.isSome_iff_exists.mp h.top
  obtain ⟨r, hr⟩ := State.topJava?_eq_some.mp hg0
  have hr' : (({ U with heap := s₂.heap, slotsUsed := s₂.slotsUsed } : State).setVm s₂.vm).frames = .java g₀ :: r := hr
  rcases hq' with ⟨hqc, L, hfe, hL⟩ | ⟨q, rfl, E, ce, L, hx, hce, hcv, hcl, hW₂, hsm, hL⟩
  · obtain ⟨⟨v, rfl⟩, hW₂, e2, q2, q3, q4, q5, q6⟩ := id hfe
    have e3 : s₂ = ({ (U.calling g mk a).setFrames s₂.frames with heap := s₂.heap, slotsUsed := s₂.slotsUsed } : State).setVm s₂.vm := by
      have : s₂ = ({ s₂ with vm := (U.calling g mk a).vm } : State).setVm s₂.vm := rfl
      rw [e2] at this
      exact this
    obtain ⟨c₂, i₂, len₂, hc₂, hd₂, hf₂⟩ := hend
    have hW' : U.WarmedH s₂.vm := hW₂
    have hcc : c₂ = c := by
      have h1 : s₂.code? g.method = U.code? g.method := by
        rw [State.code?_eq, State.code?_eq, hW'.alike.method?]
      exact Option.some.inj (hc₂.symm.trans (h1.trans h.code))
    subst hcc
    have hlen : len₂ = len := by rw [hdg] at hd₂; cases hd₂; rfl
    subst hlen
    have hs₂ : s₂ = (({ U with heap := s₂.heap, slotsUsed := s₂.slotsUsed } : State).setVm s₂.vm).setTop { g with pc := g.pc + len₂, stack := v.toList ++ g.stack } := by
      refine e3.trans ?_
      rw [hf₂, State.calling_eq h.top, State.setFrames_setFrames, State.setTop_of_frames _ hr', hr]
      rfl
    have hsame : U.sameButNew ({ U with heap := s₂.heap, slotsUsed := s₂.slotsUsed } : State) L mc ms := by
      refine ⟨?_, q2, q3, q4, q5, q6⟩
      obtain ⟨t, ht, -⟩ := State.frames_cons hr
      show ({ U with heap := s₂.heap, slotsUsed := s₂.slotsUsed } : State) = { U.setFrames U.frames with heap := s₂.heap, slotsUsed := s₂.slotsUsed }
      rw [State.setFrames_self ht]
    subst hg
    refine Or.inl ⟨v, ⟨(({ U with heap := s₂.heap, slotsUsed := s₂.slotsUsed } : State).setVm s₂.vm), Ls ++ L, c0 + mc, s0 + ms⟩,
      ⟨X.admits, X.cas, X.clock, X.frames, X.room, X.hears, X.method, X.code, (X.here.setHeapUsed s₂.heap s₂.slotsUsed).setVm hW'.alike, X.tail, State.WarmedH.trans X.warmed hW', X.limits, X.bytes, X.same.trans (hsame.setVm s.vm)⟩,
      ⟨g, mk, s₂, L, rfl, rfl, hqc, rfl, hL, rfl, rfl⟩, ?_⟩
    show Steps p.tables e below _ ((({ U with heap := s₂.heap, slotsUsed := s₂.slotsUsed } : State).setVm s₂.vm).setTop { g with pc := g.pc + len₂, stack := v.toList ++ g.stack })
    rw [← hs₂]
    exact hsteps
  · obtain ⟨e2, q2, q3, q4, q5, q6⟩ := id hsm
    have e3 : s₂ = ({ (U.calling g mk a).setFrames s₂.frames with heap := s₂.heap, slotsUsed := s₂.slotsUsed } : State).setVm s₂.vm := by
      have : s₂ = ({ s₂ with vm := (U.calling g mk a).vm } : State).setVm s₂.vm := rfl
      rw [e2] at this
      exact this
    have hf₂ : s₂.frames = .throwing q :: .java g :: U.frames.tail := hend
    have hW' : U.WarmedH s₂.vm := hW₂
    have hs₂ : s₂ = ((({ U with heap := s₂.heap, slotsUsed := s₂.slotsUsed } : State).setVm s₂.vm).setTop g).pushFrame (.throwing q) := by
      refine e3.trans ?_
      rw [hf₂, State.calling_eq h.top, State.setFrames_setFrames, State.pushFrame, State.frames_setTop _ hr', State.setTop_of_frames _ hr', State.setFrames_setFrames, hr]
      rfl
    have hsame : U.sameButNew ({ U with heap := s₂.heap, slotsUsed := s₂.slotsUsed } : State) L mc ms := by
      refine ⟨?_, q2, q3, q4, q5, q6⟩
      obtain ⟨t, ht, -⟩ := State.frames_cons hr
      show ({ U with heap := s₂.heap, slotsUsed := s₂.slotsUsed } : State) = { U.setFrames U.frames with heap := s₂.heap, slotsUsed := s₂.slotsUsed }
      rw [State.setFrames_self ht]
    subst hg
    refine Or.inr ⟨q, ⟨(({ U with heap := s₂.heap, slotsUsed := s₂.slotsUsed } : State).setVm s₂.vm), Ls ++ L, c0 + mc, s0 + ms⟩,
      ⟨X.admits, X.cas, X.clock, X.frames, X.room, X.hears, X.method, X.code, (X.here.setHeapUsed s₂.heap s₂.slotsUsed).setVm hW'.alike, X.tail, State.WarmedH.trans X.warmed hW', X.limits, X.bytes, X.same.trans (hsame.setVm s.vm)⟩,
      ⟨g, mk, s₂, L, E, ce, rfl, rfl, hx, hce, hcv, hcl, rfl, hL, rfl, rfl⟩, ?_⟩
    show Steps p.tables e below _ (((({ U with heap := s₂.heap, slotsUsed := s₂.slotsUsed } : State).setVm s₂.vm).setTop g).pushFrame (.throwing q))
    rw [← hs₂]
    exact hsteps
end
variable {p : Program} {l : Launch} {e : Env} {R : Room} {s : State} {m : MethodId} {args : Array Value} {below : List Frame} {meth : Method} {c : Code} {T : State} {H : Heap} {locs : List Loc} {cells slots : Nat}
theorem vx_callVX (X : Stand p l e R s m args below meth c T locs cells slots) (hexec : p.tables.exec = Jvm.exec) {own C : String} {index : Nat} {y : MethodName} {bytes : ByteArray} {maxL : Nat} {ret : Option FieldType} {hh : List (Nat × Nat × Nat × Nat)}
    (hown : s.vm.findClass own = some m.cls) (hlink : (Cond.methodLink own index y).before args s = true) (hinst : (Cond.instanceMethod y).before args s = true) (hsel : (Cond.selects C y y).before args s = true)
    (hcode : (Cond.codeWith y bytes maxL ret hh).before args s = true) (hy : y.cls ≠ "java/lang/invoke/MethodHandle" ∧ y.cls ≠ "java/lang/invoke/VarHandle")
    {W9 : Nat} {Pre : Pt → Array Value → Prop} {Post : Pt → Array Value → Option Value → Pt → Prop} {PostX : Pt → Array Value → Addr → Pt → Prop} (hK : vx_Back l R p e below s args y 3 W9 Pre Post PostX)
    {b : Addr} {cellB : Cell} (hcell : T.heap[b]? = some cellB) (hobj : cellB.vm.isStatics = false) (hcls : s.vm.findClass C = some cellB.cls)
    {g : JFrame} (hg : g.method = m) (hsize : g.locals.size = c.maxLocals) {argsL rest : List Value} (hlen : ∀ sig, parseMethodDescriptor y.desc = some sig → argsL.length = sig.parameters.length)
    (hstack : g.stack = argsL.reverse ++ .ref b :: rest) (hW : 2 * g.monitorRoom + (rest.map fun v => v.category).sum ≤ W9) (hdg : decode c.code g.pc = .ok (.invokevirtual index, 3))
    (hpre : ∀ vm₁, s.WarmedH vm₁ → Pre ⟨T.setVm vm₁, locs, cells, slots⟩ (Value.ref b :: argsL).toArray) :
    (∃ (v : Option Value) (vm₁ : Vm) (B : Pt), s.WarmedH vm₁ ∧ Stand p l e R s m args below meth c B.U B.locs B.cells B.slots ∧ Post ⟨T.setVm vm₁, locs, cells, slots⟩ (Value.ref b :: argsL).toArray v B ∧
      ∀ target, Steps p.tables e below (B.U.setTop { g with pc := g.pc + 3, stack := v.toList ++ rest }) target → Steps p.tables e below (T.setTop g) target) ∨
    (∃ (q : Addr) (vm₁ : Vm) (B : Pt), s.WarmedH vm₁ ∧ Stand p l e R s m args below meth c B.U B.locs B.cells B.slots ∧ PostX ⟨T.setVm vm₁, locs, cells, slots⟩ (Value.ref b :: argsL).toArray q B ∧
      Steps p.tables e below (T.setTop g) ((B.U.setTop { g with stack := rest }).pushFrame (.throwing q))) := by
  obtain ⟨mk, methM, hnamed, hmethM, hstM, habM⟩ := Cond.instanceMethod_spec hinst
  obtain ⟨m8, methM', cM, hn8, hmethM', -, -, -, -, -, -, hsigM⟩ := Cond.codeWith_spec hcode
  cases Option.some.inj (hn8.symm.trans hnamed)
  cases hmethM.symm.trans hmethM'
  obtain ⟨c2, r2, m2, q1, q2, q3, q4, kP, hkP, hkPi⟩ := Cond.selects_spec hsel
  cases hcls.symm.trans q1
  cases (State.methodFound?_of_named hnamed hy).symm.trans q2
  cases hnamed.symm.trans q3
  have hselP : selectMethod e.platform s.vm cellB.cls mk = .method mk := by rw [Launch.admits_selectMethod X.admits]; exact q4
  obtain ⟨vm₁, X₁, hstep₁⟩ := X.invokevirtual hexec hown hlink hnamed hmethM hstM hkP hkPi hy (a := b) (cell := cellB) hcell
    (fun z h => by rw [h] at hobj; cases hobj) hselP hmethM habM hkP hkPi (g := g) hg (argsL := argsL) (rest := rest) (hlen _ hsigM) hstack hdg
  rcases hK m meth c ⟨T.setVm vm₁, locs, cells, slots⟩ { g with stack := rest } (.invokevirtual index) mk (Value.ref b :: argsL).toArray X₁ hg hsize hdg hW (X₁.named hnamed) (hpre vm₁ X₁.warmed) with ⟨v, B, X', hpost, hsteps⟩ | ⟨q, B, X', hpost, hsteps⟩
  · exact Or.inl ⟨v, vm₁, B, X₁.warmed, X', hpost, fun target h => hstep₁ _ fun acts => by rw [doInvoke_state]; exact hsteps.trans h⟩
  · exact Or.inr ⟨q, vm₁, B, X₁.warmed, X', hpost, hstep₁ _ fun acts => by rw [doInvoke_state]; exact hsteps⟩
theorem vx_callSX (X : Stand p l e R s m args below meth c T locs cells slots) (hexec : p.tables.exec = Jvm.exec) {own : String} {index : Nat} {y : MethodName} {bytes : ByteArray} {maxL : Nat} {ret : Option FieldType} {hh : List (Nat × Nat × Nat × Nat)}
    (hown : s.vm.findClass own = some m.cls) (hlink : (Cond.methodLink own index y).before args s = true) (hstat : (Cond.static y).before args s = true) (hinit : (Cond.initialized y.cls).before args s = true)
    (hcode : (Cond.codeWith y bytes maxL ret hh).before args s = true) (hy : y.cls ≠ "java/lang/invoke/MethodHandle" ∧ y.cls ≠ "java/lang/invoke/VarHandle")
    {W9 : Nat} {Pre : Pt → Array Value → Prop} {Post : Pt → Array Value → Option Value → Pt → Prop} {PostX : Pt → Array Value → Addr → Pt → Prop} (hK : vx_Back l R p e below s args y 3 W9 Pre Post PostX)
    {g : JFrame} (hg : g.method = m) (hsize : g.locals.size = c.maxLocals) {argsL rest : List Value} (hlen : ∀ sig, parseMethodDescriptor y.desc = some sig → argsL.length = sig.parameters.length)
    (hstack : g.stack = argsL.reverse ++ rest) (hW : 2 * g.monitorRoom + (rest.map fun v => v.category).sum ≤ W9) (hdg : decode c.code g.pc = .ok (.invokestatic index, 3))
    (hpre : ∀ vm₁, s.WarmedH vm₁ → Pre ⟨T.setVm vm₁, locs, cells, slots⟩ argsL.toArray) :
    (∃ (v : Option Value) (vm₁ : Vm) (B : Pt), s.WarmedH vm₁ ∧ Stand p l e R s m args below meth c B.U B.locs B.cells B.slots ∧ Post ⟨T.setVm vm₁, locs, cells, slots⟩ argsL.toArray v B ∧
      ∀ target, Steps p.tables e below (B.U.setTop { g with pc := g.pc + 3, stack := v.toList ++ rest }) target → Steps p.tables e below (T.setTop g) target) ∨
    (∃ (q : Addr) (vm₁ : Vm) (B : Pt), s.WarmedH vm₁ ∧ Stand p l e R s m args below meth c B.U B.locs B.cells B.slots ∧ PostX ⟨T.setVm vm₁, locs, cells, slots⟩ argsL.toArray q B ∧
      Steps p.tables e below (T.setTop g) ((B.U.setTop { g with stack := rest }).pushFrame (.throwing q))) := by
  obtain ⟨mk, methM, cM, hnamed, hmethM, -, -, -, -, -, -, hsigM⟩ := Cond.codeWith_spec hcode
  have hstatic : methM.isStatic = true := Cond.static_spec hnamed hmethM hstat
  obtain ⟨kP, hkP, -⟩ := className_of_methodNamed hnamed
  have hinitP : kP.init = .initialized := Cond.initialized_spec (findClass_of_methodNamed hnamed) hkP hinit
  obtain ⟨vm₁, X₁, hstep₁⟩ := X.invokestatic hexec hown hlink hnamed hmethM hstatic hkP hinitP hy (g := g) hg (argsL := argsL) (rest := rest) (hlen _ hsigM) hstack hdg
  rcases hK m meth c ⟨T.setVm vm₁, locs, cells, slots⟩ { g with stack := rest } (.invokestatic index) mk argsL.toArray X₁ hg hsize hdg hW (X₁.named hnamed) (hpre vm₁ X₁.warmed) with ⟨v, B, X', hpost, hsteps⟩ | ⟨q, B, X', hpost, hsteps⟩
  · exact Or.inl ⟨v, vm₁, B, X₁.warmed, X', hpost, fun target h => hstep₁ _ fun acts => by rw [doInvoke_state]; exact hsteps.trans h⟩
  · exact Or.inr ⟨q, vm₁, B, X₁.warmed, X', hpost, hstep₁ _ fun acts => by rw [doInvoke_state]; exact hsteps⟩
theorem vx_callVW (X : Stand p l e R s m args below meth c T locs cells slots) (hexec : p.tables.exec = Jvm.exec) {own C : String} {index : Nat} {y : MethodName} {bytes : ByteArray} {maxL : Nat} {ret : Option FieldType} {hh : List (Nat × Nat × Nat × Nat)}
    (hown : s.vm.findClass own = some m.cls) (hlink : (Cond.methodLink own index y).before args s = true) (hinst : (Cond.instanceMethod y).before args s = true) (hsel : (Cond.selects C y y).before args s = true)
    (hcode : (Cond.codeWith y bytes maxL ret hh).before args s = true) (hy : y.cls ≠ "java/lang/invoke/MethodHandle" ∧ y.cls ≠ "java/lang/invoke/VarHandle")
    {W9 : Nat} {Pre : Pt → Array Value → Prop} {Post : Pt → Array Value → Option Value → Pt → Prop} (hK : Back l R p e below s args y 3 W9 Pre Post)
    {b : Addr} {cellB : Cell} (hcell : T.heap[b]? = some cellB) (hobj : cellB.vm.isStatics = false) (hcls : s.vm.findClass C = some cellB.cls)
    {g : JFrame} (hg : g.method = m) (hsize : g.locals.size = c.maxLocals) {argsL rest : List Value} (hlen : ∀ sig, parseMethodDescriptor y.desc = some sig → argsL.length = sig.parameters.length)
    (hstack : g.stack = argsL.reverse ++ .ref b :: rest) (hW : 2 * g.monitorRoom + (rest.map fun v => v.category).sum ≤ W9) (hdg : decode c.code g.pc = .ok (.invokevirtual index, 3))
    (hpre : ∀ vm₁, s.WarmedH vm₁ → Pre ⟨T.setVm vm₁, locs, cells, slots⟩ (Value.ref b :: argsL).toArray) :
    ∃ (v : Option Value) (vm₁ : Vm) (B : Pt), s.WarmedH vm₁ ∧ Stand p l e R s m args below meth c B.U B.locs B.cells B.slots ∧ Post ⟨T.setVm vm₁, locs, cells, slots⟩ (Value.ref b :: argsL).toArray v B ∧
      ∀ target, Steps p.tables e below (B.U.setTop { g with pc := g.pc + 3, stack := v.toList ++ rest }) target → Steps p.tables e below (T.setTop g) target := by
  obtain ⟨mk, methM, hnamed, hmethM, hstM, habM⟩ := Cond.instanceMethod_spec hinst
  obtain ⟨m8, methM', cM, hn8, hmethM', -, -, -, -, -, -, hsigM⟩ := Cond.codeWith_spec hcode
  cases Option.some.inj (hn8.symm.trans hnamed)
  cases hmethM.symm.trans hmethM'
  obtain ⟨c2, r2, m2, q1, q2, q3, q4, kP, hkP, hkPi⟩ := Cond.selects_spec hsel
  cases hcls.symm.trans q1
  cases (State.methodFound?_of_named hnamed hy).symm.trans q2
  cases hnamed.symm.trans q3
  have hselP : selectMethod e.platform s.vm cellB.cls mk = .method mk := by rw [Launch.admits_selectMethod X.admits]; exact q4
  obtain ⟨vm₁, X₁, hstep₁⟩ := X.invokevirtual hexec hown hlink hnamed hmethM hstM hkP hkPi hy (a := b) (cell := cellB) hcell
    (fun z h => by rw [h] at hobj; cases hobj) hselP hmethM habM hkP hkPi (g := g) hg (argsL := argsL) (rest := rest) (hlen _ hsigM) hstack hdg
  obtain ⟨v, B, X', hpost, hsteps⟩ := hK m meth c ⟨T.setVm vm₁, locs, cells, slots⟩ { g with stack := rest } (.invokevirtual index) mk (Value.ref b :: argsL).toArray X₁ hg hsize hdg hW (X₁.named hnamed) (hpre vm₁ X₁.warmed)
  exact ⟨v, vm₁, B, X₁.warmed, X', hpost, fun target h => hstep₁ _ fun acts => by rw [doInvoke_state]; exact hsteps.trans h⟩
abbrev vx_CVW (R : Room) (s : State) (args : Array Value) (own C : String) (index : Nat) (y : MethodName) (bytes : ByteArray) (maxL : Nat) (ret : Option FieldType) (hh : List (Nat × Nat × Nat × Nat)) (ws : List Cond) (rm : Room) (mc ms n : Nat) : Prop :=
  (rm.cells = mc ∧ rm.slots = ms ∧ rm.frames + 1 ≤ R.frames ∧ 8 + (maxL + 11) + rm.locals ≤ R.locals ∧ (∀ w ∈ ws, ∀ (a' : Array Value) (U : State), s.WarmedH U.vm → w.before a' U = true) ∧ Cond.codeWith y bytes maxL ret hh ∈ ws) ∧
  (Cond.codeWith y bytes maxL ret hh).before args s = true ∧ (Cond.initialized y.cls).before args s = true ∧ (y.cls ≠ "java/lang/invoke/MethodHandle" ∧ y.cls ≠ "java/lang/invoke/VarHandle") ∧
  (∀ sig, parseMethodDescriptor y.desc = some sig → n = sig.parameters.length) ∧ (Cond.methodLink own index y).before args s = true ∧ (Cond.instanceMethod y).before args s = true ∧ (Cond.selects C y y).before args s = true
theorem vx_cwVW {own C : String} {index maxL mc ms : Nat} {y : MethodName} {bytes : ByteArray} {ret : Option FieldType} {hh : List (Nat × Nat × Nat × Nat)} {Ts ws ws' : List Cond} {rm : Room} (n : Nat) (ht : ∀ w ∈ Ts, w.before args s = true) (hT : GoodIn Ts (wsV own index C y ws)) (hw : ws = Cond.codeWith y bytes maxL ret hh :: ws') (hrc : rm.cells = mc) (hrs : rm.slots = ms)
    (hd : y.cls = C ∧ y.cls ≠ "java/lang/invoke/MethodHandle" ∧ y.cls ≠ "java/lang/invoke/VarHandle" ∧ (parseMethodDescriptor y.desc).map (fun d => d.parameters.length) = some n) (hR : rm.frames + 1 ≤ R.frames ∧ 8 + (maxL + 11) + rm.locals ≤ R.locals) :
    vx_CVW R s args own C index y bytes maxL ret hh ws rm mc ms n := by
  obtain ⟨hC, hd⟩ := hd
  subst hC
  have ok : ∀ w ∈ wsV own index y.cls y ws, w.before args s = true := fun w h => ht w (hT w h).1
  have hG : GoodIn Ts ws := fun w h => hT w (by unfold wsV; exact List.mem_append_right _ h)
  have hc : Cond.codeWith y bytes maxL ret hh ∈ ws := by rw [hw]; exact List.mem_cons_self
  refine ⟨⟨hrc, hrs, hR.1, hR.2, pay_in ht hG, hc⟩, ht _ (hG _ hc).1, ok _ (by simp [wsV]), ⟨hd.1, hd.2.1⟩, fun sig h => ?_, ok _ (by simp [wsV]), ok _ (by simp [wsV]), ok _ (by simp [wsV])⟩
  have h2 := hd.2.2
  rw [h] at h2
  exact (Option.some.inj h2).symm
theorem vx_runVW {y : MethodName} {bytes cc : ByteArray} {maxL nL mc ms n index : Nat} {ret : Option FieldType} {hh : List (Nat × Nat × Nat × Nat)} {ws : List Cond} {rm : Room} {Pc : Array Value → State → Prop} {Qc : Array Value → State → Outcome → State → Prop} {free : Addr → Prop} {Ts : List Cond} {own C : String} {b : Addr} {As rest : List Value} {g : JFrame}
    (S : CallFix p m c cc nL s args Ts own) (hM : Met l y ws rm Pc Qc mc ms free) (cw : vx_CVW R s args own C index y bytes maxL ret hh ws rm mc ms n) (hp : PreV s H C b Pc As)
    (hg : g.method = m) (hn : As.length = n) (hsize : g.locals.size = nL) (hstack : g.stack = As.reverse ++ .ref b :: rest) (hW : 2 * g.monitorRoom + (rest.map fun v => v.category).sum ≤ 8) (hdg : decode cc g.pc = .ok (.invokevirtual index, 3)) (hf : cells + mc ≤ R.cells ∧ slots + ms ≤ R.slots) :
    va_Run p l e R s m args below meth c H locs cells slots mc ms g rest (Qc (Value.ref b :: As).toArray) free := by
  obtain ⟨⟨hrc, hrs, hfr, hlo, hws, hcw⟩, hcode, hini, hy, hlen, hl, hin, hse⟩ := cw
  have hK : Back l R p e below s args y 3 8 (PreOf R mc ms Pc) (PostOf Qc mc ms free) := va_backW (hh := hh) (bytes := bytes) (maxL := maxL) (ret := ret) hM hp.1 hrc hrs hfr hlo hws hcw (fun a' U hW => word_at hW (Or.inl (by first | rfl | simp [Cond.onTables, Cond.keeps, Cond.steady])) hini)
  obtain ⟨hx, hb, hml, ho, -⟩ := S
  obtain ⟨-, ⟨cellB, hcB, hoB, hclB⟩, hPc⟩ := hp
  intro T hT X
  obtain ⟨v, vm₁, ⟨U', l2, c2, s2⟩, hW₁, X', ⟨g', mk, t, L, e1, e2, hq, h1, hL, h2, h3⟩, st⟩ := vx_callVW X hx (C := C) (hh := hh) (bytes := bytes) (maxL := maxL) (ret := ret) ho hl hin hse hcode hy hK (by rw [hT]; exact hcB) hoB hclB hg (hsize.trans hml.symm) (argsL := As) (rest := rest) (fun sig h => hn.trans (hlen sig h)) hstack hW (by rw [hb]; exact hdg)
    (fun vm₁ hW₁ => ⟨hf.1, hf.2, hPc (T.setVm vm₁) hT hW₁⟩)
  dsimp only [Pt.U, Pt.locs, Pt.cells, Pt.slots] at X' e1 e2 h1 h2 h3 st
  subst h1; subst h2; subst h3
  exact ⟨v, (T.setVm vm₁).calling g' mk (Value.ref b :: As).toArray, t, U', L, hT, X', hL, e1, e2, hq, st⟩
section
variable {y : MethodName} {bytes cc : ByteArray} {maxL nL mc ms n index : Nat} {ret : Option FieldType} {ws : List Cond} {rm : Room} {Pc : Array Value → State → Prop} {Qc : Array Value → State → Outcome → State → Prop} {XC : String → State → State → Prop} {free : Addr → Prop} {Ts : List Cond} {own C : String} {b : Addr} {As rest : List Value} {g : JFrame}
theorem vx_runVX {hh : List (Nat × Nat × Nat × Nat)} (S : CallFix p m c cc nL s args Ts own) (hM : vx_Met l y ws rm Pc Qc XC mc ms free) (cw : vx_CVW R s args own C index y bytes maxL ret hh ws rm mc ms n) (hp : PreV s H C b Pc As)
    (hg : g.method = m) (hn : As.length = n) (hsize : g.locals.size = nL) (hstack : g.stack = As.reverse ++ .ref b :: rest) (hW : 2 * g.monitorRoom + (rest.map fun v => v.category).sum ≤ 8) (hdg : decode cc g.pc = .ok (.invokevirtual index, 3)) (hf : cells + mc ≤ R.cells ∧ slots + ms ≤ R.slots) :
    vx_Run p l e R s m args below meth c H locs cells slots mc ms g rest (Qc (Value.ref b :: As).toArray) XC free := by
  obtain ⟨⟨hrc, hrs, hfr, hlo, hws, hcw⟩, hcode, hini, hy, hlen, hl, hin, hse⟩ := cw
  have hK : vx_Back l R p e below s args y 3 8 (PreOf R mc ms Pc) (PostOf Qc mc ms free) (vx_Post XC mc ms free) := vx_backW (hh := hh) (bytes := bytes) (maxL := maxL) (ret := ret) hM hp.1 hrc hrs hfr hlo hws hcw (fun a' U hW => word_at hW (Or.inl (by first | rfl | simp [Cond.onTables, Cond.keeps, Cond.steady])) hini)
  obtain ⟨hx, hb, hml, ho, -⟩ := S
  obtain ⟨-, ⟨cellB, hcB, hoB, hclB⟩, hPc⟩ := hp
  intro T hT X
  rcases vx_callVX X hx (C := C) (hh := hh) (bytes := bytes) (maxL := maxL) (ret := ret) ho hl hin hse hcode hy hK (by rw [hT]; exact hcB) hoB hclB hg (hsize.trans hml.symm) (argsL := As) (rest := rest) (fun sig h => hn.trans (hlen sig h)) hstack hW (by rw [hb]; exact hdg)
    (fun vm₁ hW₁ => ⟨hf.1, hf.2, hPc (T.setVm vm₁) hT hW₁⟩) with ⟨v, vm₁, ⟨U', l2, c2, s2⟩, hW₁, X', ⟨g', mk, t, L, e1, e2, hq, h1, hL, h2, h3⟩, st⟩ | ⟨q, vm₁, ⟨U', l2, c2, s2⟩, hW₁, X', ⟨g', mk, t, L, E, ce, e1, e2, hq, hce, hcv, hcl, h1, hL, h2, h3⟩, st⟩
  · dsimp only [Pt.U, Pt.locs, Pt.cells, Pt.slots] at X' e1 e2 h1 h2 h3 st
    subst h1; subst h2; subst h3
    exact Or.inl ⟨v, (T.setVm vm₁).calling g' mk (Value.ref b :: As).toArray, t, U', L, hT, X', hL, e1, e2, hq, st⟩
  · dsimp only [Pt.U, Pt.locs, Pt.cells, Pt.slots] at X' e1 e2 h1 h2 h3 st hcl
    subst h1; subst h2; subst h3
    exact Or.inr ⟨q, (T.setVm vm₁).calling g' mk (Value.ref b :: As).toArray, t, U', L, E, ce, hT, X', hL, e1, e2, hq, hce, hcv, vx_cls hW₁ hcl, st⟩
theorem vx_runSX {hh : List (Nat × Nat × Nat × Nat)} (S : CallFix p m c cc nL s args Ts own) (hM : vx_Met l y ws rm Pc Qc XC mc ms free) (cw : vx_CSW R s args own index y bytes maxL ret hh ws rm mc ms n) (hp : PreS s H Pc As)
    (hg : g.method = m) (hn : As.length = n) (hsize : g.locals.size = nL) (hstack : g.stack = As.reverse ++ rest) (hW : 2 * g.monitorRoom + (rest.map fun v => v.category).sum ≤ 8) (hdg : decode cc g.pc = .ok (.invokestatic index, 3)) (hf : cells + mc ≤ R.cells ∧ slots + ms ≤ R.slots) :
    vx_Run p l e R s m args below meth c H locs cells slots mc ms g rest (Qc As.toArray) XC free := by
  obtain ⟨⟨hrc, hrs, hfr, hlo, hws, hcw⟩, hcode, hini, hy, hlen, hl, hstt⟩ := cw
  have hK : vx_Back l R p e below s args y 3 8 (PreOf R mc ms Pc) (PostOf Qc mc ms free) (vx_Post XC mc ms free) := vx_backW (hh := hh) (bytes := bytes) (maxL := maxL) (ret := ret) hM hp.1 hrc hrs hfr hlo hws hcw (fun a' U hW => word_at hW (Or.inl (by first | rfl | simp [Cond.onTables, Cond.keeps, Cond.steady])) hini)
  obtain ⟨hx, hb, hml, ho, -⟩ := S
  intro T hT X
  rcases vx_callSX X hx (hh := hh) (bytes := bytes) (maxL := maxL) (ret := ret) ho hl hstt hini hcode hy hK hg (hsize.trans hml.symm) (argsL := As) (rest := rest) (fun sig h => hn.trans (hlen sig h)) hstack hW (by rw [hb]; exact hdg)
    (fun vm₁ hW₁ => ⟨hf.1, hf.2, hp.2 (T.setVm vm₁) hT hW₁⟩) with ⟨v, vm₁, ⟨U', l2, c2, s2⟩, hW₁, X', ⟨g', mk, t, L, e1, e2, hq, h1, hL, h2, h3⟩, st⟩ | ⟨q, vm₁, ⟨U', l2, c2, s2⟩, hW₁, X', ⟨g', mk, t, L, E, ce, e1, e2, hq, hce, hcv, hcl, h1, hL, h2, h3⟩, st⟩
  · dsimp only [Pt.U, Pt.locs, Pt.cells, Pt.slots] at X' e1 e2 h1 h2 h3 st
    subst h1; subst h2; subst h3
    exact Or.inl ⟨v, (T.setVm vm₁).calling g' mk As.toArray, t, U', L, hT, X', hL, e1, e2, hq, st⟩
  · dsimp only [Pt.U, Pt.locs, Pt.cells, Pt.slots] at X' e1 e2 h1 h2 h3 st hcl
    subst h1; subst h2; subst h3
    exact Or.inr ⟨q, (T.setVm vm₁).calling g' mk As.toArray, t, U', L, E, ce, hT, X', hL, e1, e2, hq, hce, hcv, vx_cls hW₁ hcl, st⟩
end
end VXH
theorem vx_ofWH {l : Launch} {y : MethodName} {ws ws' : List Cond} {rm : Room} {Pc : Array Value → State → Prop} {Qc : Array Value → State → Outcome → State → Prop} {XC : String → State → State → Prop} {mc ms : Nat} {free : Addr → Prop} {cc : ByteArray} {maxL : Nat} {ret : Option FieldType} {hh : List (Nat × Nat × Nat × Nat)}
    (hy : plainName y.cls = true) (hw : ws = Cond.codeWith y cc maxL ret hh :: ws')
    (body : ∀ p e s m args below meth c s₁, BodyLoose p l y (headSpec ws rm) cc maxL ret e s m args below meth c s₁ → c.maxLocals = maxL → Pc args s →
      W p l e (headSpec ws rm).room s m args below meth c s.heap [] 0 0 (vx_MQ below Qc XC args s mc ms free) (entryFrame m args maxL)) : vx_Met l y ws rm Pc Qc XC mc ms free := by
  refine MetFree.of_bodyS (code := cc) (maxLocals := maxL) (ret := ret) hy ?_ ?_
  · intro args s m h hn
    obtain ⟨m9, meth, c, hn9, h1, h2, h3, h4, -, h5, h6, -⟩ := Cond.codeWith_spec (atoms_spec (ws := ws) h _ (by rw [hw]; exact List.mem_cons_self))
    cases hn.symm.trans hn9
    exact ⟨meth, c, h1, h2, h3, h4, h5, h6⟩
  · intro p e s m args below meth c s₁ B hml hP _
    have hh0 : s₁.heap = s.heap := by rw [B.state]; rfl
    obtain ⟨t, a1, o, b1, b2, b3⟩ := body p e s m args below meth c s₁ B hml hP s₁ hh0 (Stand.of_body B)
    exact ⟨t, o, a1, b1, b2, b3⟩
/-! ===== END ===== -/
end
section
/-! ===== BEGIN printed: names, fields, word lists, decode rows ===== -/
def RX0 : String := "CoauthorText$Sign"
def TX0 : u_T := fun k => match k with
  | 0 => ("CoauthorText$Sign", "number", "I", true)
  | 1 => ("CoauthorText$Sign", "author", "I", true)
  | 2 => ("CoauthorText$Sign", "letter", "I", true)
  | 3 => ("CoauthorText$Sign", "stamp", "I", true)
  | 4 => ("CoauthorText$Sign", "ahead", "LCoauthorText$Sign;", true)
  | 5 => ("CoauthorText$Sign", "next", "LCoauthorText$Sign;", false)
  | 6 => ("CoauthorText$Sign", "stampsInCopies", "[I", true)
  | _ => ("CoauthorText$Sign", "removedInCopies", "[Z", true)
def tyX0 : Nat → FieldType := fun k => match k with
  | 0 => .int
  | 1 => .int
  | 2 => .int
  | 3 => .int
  | 4 => .object "CoauthorText$Sign"
  | 5 => .object "CoauthorText$Sign"
  | 6 => .array .int
  | _ => .array .boolean
abbrev wsX00 : List Cond := u_ws RX0 TX0 8
theorem nmX0 : ∀ a, a < 8 → ∀ b, b < 8 → a ≠ b → (TX0 a).2.1 ≠ (TX0 b).2.1 := by decide +kernel
theorem tyX0_ok : ∀ k, k < 8 → parseFieldDescriptor (TX0 k).2.2.1 = some (tyX0 k) := by decide +kernel
abbrev cX0_init : ByteArray := prog_2_method_1_code
def yX0_init : MethodName := ⟨RX0, "<init>", "(IIIILCoauthorText$Sign;)V"⟩
abbrev cX0_isKnownIn : ByteArray := prog_2_method_2_code
def yX0_isKnownIn : MethodName := ⟨RX0, "isKnownIn", "(I)Z"⟩
abbrev cX0_isRemovedIn : ByteArray := prog_2_method_3_code
def yX0_isRemovedIn : MethodName := ⟨RX0, "isRemovedIn", "(I)Z"⟩
abbrev cX0_isInTextOf : ByteArray := prog_2_method_4_code
def yX0_isInTextOf : MethodName := ⟨RX0, "isInTextOf", "(I)Z"⟩
abbrev cX0_setRemoved : ByteArray := prog_2_method_5_code
def yX0_setRemoved : MethodName := ⟨RX0, "setRemoved", "(IZI)V"⟩
abbrev cX0_bringNewer : ByteArray := prog_2_method_6_code
def yX0_bringNewer : MethodName := ⟨RX0, "bringNewer", "(II)V"⟩
def RX1 : String := "CoauthorText"
def TX1 : u_T := fun k => match k with
  | 0 => ("CoauthorText", "signsByNumber", "[LCoauthorText$Sign;", true)
  | 1 => ("CoauthorText", "signCount", "I", false)
  | 2 => ("CoauthorText", "firstInOrder", "LCoauthorText$Sign;", false)
  | 3 => ("CoauthorText", "clocks", "[I", true)
  | 4 => ("CoauthorText", "signsInEditions", "[[I", true)
  | 5 => ("CoauthorText", "editionCount", "I", false)
  | 6 => ("CoauthorText", "floorPercent", "I", false)
  | 7 => ("CoauthorText", "advancesLeft", "[I", true)
  | _ => ("CoauthorText", "paidBySales", "[J", true)
def tyX1 : Nat → FieldType := fun k => match k with
  | 0 => .array (.object "CoauthorText$Sign")
  | 1 => .int
  | 2 => .object "CoauthorText$Sign"
  | 3 => .array .int
  | 4 => .array (.array .int)
  | 5 => .int
  | 6 => .int
  | 7 => .array .int
  | _ => .array .long
abbrev wsX10 : List Cond := u_ws RX1 TX1 9
theorem nmX1 : ∀ a, a < 9 → ∀ b, b < 9 → a ≠ b → (TX1 a).2.1 ≠ (TX1 b).2.1 := by decide +kernel
theorem tyX1_ok : ∀ k, k < 9 → parseFieldDescriptor (TX1 k).2.2.1 = some (tyX1 k) := by decide +kernel
abbrev cX1_init : ByteArray := prog_1_method_1_code
def yX1_init : MethodName := ⟨RX1, "<init>", "()V"⟩
abbrev cX1_insert : ByteArray := prog_1_method_2_code
def yX1_insert : MethodName := ⟨RX1, "insert", "(III)I"⟩
abbrev cX1_remove : ByteArray := prog_1_method_3_code
def yX1_remove : MethodName := ⟨RX1, "remove", "(II)I"⟩
abbrev cX1_restore : ByteArray := prog_1_method_4_code
def yX1_restore : MethodName := ⟨RX1, "restore", "(II)I"⟩
abbrev cX1_learn : ByteArray := prog_1_method_5_code
def yX1_learn : MethodName := ⟨RX1, "learn", "(II)I"⟩
abbrev cX1_length : ByteArray := prog_1_method_6_code
def yX1_length : MethodName := ⟨RX1, "length", "(I)I"⟩
abbrev cX1_signAt : ByteArray := prog_1_method_7_code
def yX1_signAt : MethodName := ⟨RX1, "signAt", "(II)I"⟩
abbrev cX1_letterAt : ByteArray := prog_1_method_8_code
def yX1_letterAt : MethodName := ⟨RX1, "letterAt", "(II)I"⟩
abbrev cX1_areAlike : ByteArray := prog_1_method_9_code
def yX1_areAlike : MethodName := ⟨RX1, "areAlike", "(II)Z"⟩
abbrev cX1_signs : ByteArray := prog_1_method_10_code
def yX1_signs : MethodName := ⟨RX1, "signs", "()I"⟩
abbrev cX1_authorOf : ByteArray := prog_1_method_11_code
def yX1_authorOf : MethodName := ⟨RX1, "authorOf", "(I)I"⟩
abbrev cX1_behind : ByteArray := prog_1_method_12_code
def yX1_behind : MethodName := ⟨RX1, "behind", "(I)I"⟩
abbrev cX1_clock : ByteArray := prog_1_method_13_code
def yX1_clock : MethodName := ⟨RX1, "clock", "(I)I"⟩
abbrev cX1_print : ByteArray := prog_1_method_14_code
def yX1_print : MethodName := ⟨RX1, "print", "(I)I"⟩
abbrev cX1_printed : ByteArray := prog_1_method_15_code
def yX1_printed : MethodName := ⟨RX1, "printed", "(II)I"⟩
abbrev cX1_setFloor : ByteArray := prog_1_method_16_code
def yX1_setFloor : MethodName := ⟨RX1, "setFloor", "(I)I"⟩
abbrev cX1_advance : ByteArray := prog_1_method_17_code
def yX1_advance : MethodName := ⟨RX1, "advance", "(II)I"⟩
abbrev cX1_sell : ByteArray := prog_1_method_18_code
def yX1_sell : MethodName := ⟨RX1, "sell", "(II)I"⟩
abbrev cX1_paid : ByteArray := prog_1_method_19_code
def yX1_paid : MethodName := ⟨RX1, "paid", "(I)J"⟩
abbrev cX1_left : ByteArray := prog_1_method_20_code
def yX1_left : MethodName := ⟨RX1, "left", "(I)I"⟩
abbrev cX1_checkAuthor : ByteArray := prog_1_method_21_code
def yX1_checkAuthor : MethodName := ⟨RX1, "checkAuthor", "(I)V"⟩
abbrev cX1_checkRange : ByteArray := prog_1_method_22_code
def yX1_checkRange : MethodName := ⟨RX1, "checkRange", "(III)V"⟩
abbrev cX1_checkEdition : ByteArray := prog_1_method_23_code
def yX1_checkEdition : MethodName := ⟨RX1, "checkEdition", "(I)V"⟩
abbrev cX1_findByNumber : ByteArray := prog_1_method_24_code
def yX1_findByNumber : MethodName := ⟨RX1, "findByNumber", "(I)LCoauthorText$Sign;"⟩
abbrev cX1_findAtPlace : ByteArray := prog_1_method_25_code
def yX1_findAtPlace : MethodName := ⟨RX1, "findAtPlace", "(II)LCoauthorText$Sign;"⟩
abbrev cX1_nextStamp : ByteArray := prog_1_method_26_code
def yX1_nextStamp : MethodName := ⟨RX1, "nextStamp", "(I)I"⟩
abbrev cX1_putInOrder : ByteArray := prog_1_method_27_code
def yX1_putInOrder : MethodName := ⟨RX1, "putInOrder", "(LCoauthorText$Sign;)V"⟩
abbrev cX1_countAheadOf : ByteArray := prog_1_method_28_code
def yX1_countAheadOf : MethodName := ⟨RX1, "countAheadOf", "(ILCoauthorText$Sign;)I"⟩
abbrev cX1_countWrittenBy : ByteArray := prog_1_method_29_code
def yX1_countWrittenBy : MethodName := ⟨RX1, "countWrittenBy", "(II)I"⟩
abbrev cX1_shareOf : ByteArray := prog_1_method_30_code
def yX1_shareOf : MethodName := ⟨RX1, "shareOf", "(I[II)I"⟩
abbrev cX1_credit : ByteArray := prog_1_method_31_code
def yX1_credit : MethodName := ⟨RX1, "credit", "(II)I"⟩
def RX2 : String := "CoauthorTextModel"
def TX2 : u_T := fun k => match k with
  | 0 => ("CoauthorTextModel", "signs", "I", false)
  | 1 => ("CoauthorTextModel", "authors", "[I", true)
  | 2 => ("CoauthorTextModel", "letters", "[I", true)
  | 3 => ("CoauthorTextModel", "clocksOf", "[I", true)
  | 4 => ("CoauthorTextModel", "behinds", "[I", true)
  | 5 => ("CoauthorTextModel", "knows", "[Z", true)
  | 6 => ("CoauthorTextModel", "isRemoved", "[Z", true)
  | 7 => ("CoauthorTextModel", "stamps", "[I", true)
  | 8 => ("CoauthorTextModel", "clocks", "[I", true)
  | 9 => ("CoauthorTextModel", "editions", "I", false)
  | 10 => ("CoauthorTextModel", "printed", "[I", true)
  | 11 => ("CoauthorTextModel", "floor", "I", false)
  | 12 => ("CoauthorTextModel", "advances", "[I", true)
  | 13 => ("CoauthorTextModel", "paid", "[J", true)
  | 14 => ("CoauthorTextModel", "text", "[I", true)
  | 15 => ("CoauthorTextModel", "stack", "[I", true)
  | 16 => ("CoauthorTextModel", "length", "I", false)
  | 17 => ("CoauthorTextModel", "top", "I", false)
  | _ => ("CoauthorTextModel", "thrown", "I", false)
def tyX2 : Nat → FieldType := fun k => match k with
  | 0 => .int
  | 1 => .array .int
  | 2 => .array .int
  | 3 => .array .int
  | 4 => .array .int
  | 5 => .array .boolean
  | 6 => .array .boolean
  | 7 => .array .int
  | 8 => .array .int
  | 9 => .int
  | 10 => .array .int
  | 11 => .int
  | 12 => .array .int
  | 13 => .array .long
  | 14 => .array .int
  | 15 => .array .int
  | 16 => .int
  | 17 => .int
  | _ => .int
abbrev wsX20 : List Cond := u_ws RX2 TX2 19
theorem nmX2 : ∀ a, a < 19 → ∀ b, b < 19 → a ≠ b → (TX2 a).2.1 ≠ (TX2 b).2.1 := by decide +kernel
theorem tyX2_ok : ∀ k, k < 19 → parseFieldDescriptor (TX2 k).2.2.1 = some (tyX2 k) := by decide +kernel
abbrev cX2_init : ByteArray := prog_4_method_1_code
def yX2_init : MethodName := ⟨RX2, "<init>", "()V"⟩
abbrev cX2_thrown : ByteArray := prog_4_method_2_code
def yX2_thrown : MethodName := ⟨RX2, "thrown", "()I"⟩
abbrev cX2_goes : ByteArray := prog_4_method_3_code
def yX2_goes : MethodName := ⟨RX2, "goes", "(I)Z"⟩
abbrev cX2_isIn : ByteArray := prog_4_method_4_code
def yX2_isIn : MethodName := ⟨RX2, "isIn", "(III)Z"⟩
abbrev cX2_isAuthor : ByteArray := prog_4_method_5_code
def yX2_isAuthor : MethodName := ⟨RX2, "isAuthor", "(I)Z"⟩
abbrev cX2_isSign : ByteArray := prog_4_method_6_code
def yX2_isSign : MethodName := ⟨RX2, "isSign", "(I)Z"⟩
abbrev cX2_isEdition : ByteArray := prog_4_method_7_code
def yX2_isEdition : MethodName := ⟨RX2, "isEdition", "(I)Z"⟩
abbrev cX2_at : ByteArray := prog_4_method_8_code
def yX2_at : MethodName := ⟨RX2, "at", "(II)I"⟩
abbrev cX2_key : ByteArray := prog_4_method_9_code
def yX2_key : MethodName := ⟨RX2, "key", "(I)I"⟩
abbrev cX2_puts : ByteArray := prog_4_method_10_code
def yX2_puts : MethodName := ⟨RX2, "puts", "(II)V"⟩
abbrev cX2_laysText : ByteArray := prog_4_method_11_code
def yX2_laysText : MethodName := ⟨RX2, "laysText", "(I)V"⟩
abbrev cX2_stamp : ByteArray := prog_4_method_12_code
def yX2_stamp : MethodName := ⟨RX2, "stamp", "(I)I"⟩
abbrev cX2_insert : ByteArray := prog_4_method_13_code
def yX2_insert : MethodName := ⟨RX2, "insert", "(III)I"⟩
abbrev cX2_remove : ByteArray := prog_4_method_14_code
def yX2_remove : MethodName := ⟨RX2, "remove", "(II)I"⟩
abbrev cX2_placeOf : ByteArray := prog_4_method_15_code
def yX2_placeOf : MethodName := ⟨RX2, "placeOf", "(I)I"⟩
abbrev cX2_restore : ByteArray := prog_4_method_16_code
def yX2_restore : MethodName := ⟨RX2, "restore", "(II)I"⟩
abbrev cX2_learn : ByteArray := prog_4_method_17_code
def yX2_learn : MethodName := ⟨RX2, "learn", "(II)I"⟩
abbrev cX2_asks : ByteArray := prog_4_method_18_code
def yX2_asks : MethodName := ⟨RX2, "asks", "(I)Z"⟩
abbrev cX2_length : ByteArray := prog_4_method_19_code
def yX2_length : MethodName := ⟨RX2, "length", "(I)I"⟩
abbrev cX2_asksPlace : ByteArray := prog_4_method_20_code
def yX2_asksPlace : MethodName := ⟨RX2, "asksPlace", "(II)Z"⟩
abbrev cX2_signAt : ByteArray := prog_4_method_21_code
def yX2_signAt : MethodName := ⟨RX2, "signAt", "(II)I"⟩
abbrev cX2_letterAt : ByteArray := prog_4_method_22_code
def yX2_letterAt : MethodName := ⟨RX2, "letterAt", "(II)I"⟩
abbrev cX2_areAlike : ByteArray := prog_4_method_23_code
def yX2_areAlike : MethodName := ⟨RX2, "areAlike", "(II)Z"⟩
abbrev cX2_signs : ByteArray := prog_4_method_24_code
def yX2_signs : MethodName := ⟨RX2, "signs", "()I"⟩
abbrev cX2_authorOf : ByteArray := prog_4_method_25_code
def yX2_authorOf : MethodName := ⟨RX2, "authorOf", "(I)I"⟩
abbrev cX2_behind : ByteArray := prog_4_method_26_code
def yX2_behind : MethodName := ⟨RX2, "behind", "(I)I"⟩
abbrev cX2_clock : ByteArray := prog_4_method_27_code
def yX2_clock : MethodName := ⟨RX2, "clock", "(I)I"⟩
abbrev cX2_print : ByteArray := prog_4_method_28_code
def yX2_print : MethodName := ⟨RX2, "print", "(I)I"⟩
abbrev cX2_printed : ByteArray := prog_4_method_29_code
def yX2_printed : MethodName := ⟨RX2, "printed", "(II)I"⟩
abbrev cX2_setFloor : ByteArray := prog_4_method_30_code
def yX2_setFloor : MethodName := ⟨RX2, "setFloor", "(I)I"⟩
abbrev cX2_advance : ByteArray := prog_4_method_31_code
def yX2_advance : MethodName := ⟨RX2, "advance", "(II)I"⟩
abbrev cX2_sell : ByteArray := prog_4_method_32_code
def yX2_sell : MethodName := ⟨RX2, "sell", "(II)I"⟩
abbrev cX2_paid : ByteArray := prog_4_method_33_code
def yX2_paid : MethodName := ⟨RX2, "paid", "(I)J"⟩
abbrev cX2_left : ByteArray := prog_4_method_34_code
def yX2_left : MethodName := ⟨RX2, "left", "(I)I"⟩
def RJ9 : String := "java/lang/Math"
def TJ9 : u_T := fun k => match k with
  | _ => ("", "", "", false)
def tyJ9 : Nat → FieldType := fun k => match k with
  | _ => .int
abbrev wsJ90 : List Cond := u_ws RJ9 TJ9 0
theorem nmJ9 : ∀ a, a < 0 → ∀ b, b < 0 → a ≠ b → (TJ9 a).2.1 ≠ (TJ9 b).2.1 := by decide +kernel
theorem tyJ9_ok : ∀ k, k < 0 → parseFieldDescriptor (TJ9 k).2.2.1 = some (tyJ9 k) := by decide +kernel
abbrev cJ9_max_7cf53 : ByteArray := prog_9_method_65_code
def yJ9_max_7cf53 : MethodName := ⟨RJ9, "max", "(II)I"⟩
abbrev cJ9_min_7cf53 : ByteArray := prog_9_method_69_code
def yJ9_min_7cf53 : MethodName := ⟨RJ9, "min", "(II)I"⟩
def RJ0 : String := "java/lang/String"
def TJ0 : u_T := fun k => match k with
  | _ => ("", "", "", false)
def tyJ0 : Nat → FieldType := fun k => match k with
  | _ => .int
abbrev wsJ00 : List Cond := u_ws RJ0 TJ0 0
theorem nmJ0 : ∀ a, a < 0 → ∀ b, b < 0 → a ≠ b → (TJ0 a).2.1 ≠ (TJ0 b).2.1 := by decide +kernel
theorem tyJ0_ok : ∀ k, k < 0 → parseFieldDescriptor (TJ0 k).2.2.1 = some (tyJ0 k) := by decide +kernel
def RL : String := "CoauthorTextLaw"
abbrev cL_insert : ByteArray := method_3_code
def yL_insert : MethodName := ⟨RL, "insert", "(LCoauthorText;III[J)I"⟩
abbrev cL_remove : ByteArray := method_4_code
def yL_remove : MethodName := ⟨RL, "remove", "(LCoauthorText;II[J)I"⟩
abbrev cL_restore : ByteArray := method_5_code
def yL_restore : MethodName := ⟨RL, "restore", "(LCoauthorText;II[J)I"⟩
abbrev cL_learn : ByteArray := method_6_code
def yL_learn : MethodName := ⟨RL, "learn", "(LCoauthorText;II[J)I"⟩
abbrev cL_length : ByteArray := method_7_code
def yL_length : MethodName := ⟨RL, "length", "(LCoauthorText;I[J)I"⟩
abbrev cL_signAt : ByteArray := method_8_code
def yL_signAt : MethodName := ⟨RL, "signAt", "(LCoauthorText;II[J)I"⟩
abbrev cL_letterAt : ByteArray := method_9_code
def yL_letterAt : MethodName := ⟨RL, "letterAt", "(LCoauthorText;II[J)I"⟩
abbrev cL_areAlike : ByteArray := method_10_code
def yL_areAlike : MethodName := ⟨RL, "areAlike", "(LCoauthorText;II[J)I"⟩
abbrev cL_authorOf : ByteArray := method_11_code
def yL_authorOf : MethodName := ⟨RL, "authorOf", "(LCoauthorText;I[J)I"⟩
abbrev cL_behind : ByteArray := method_12_code
def yL_behind : MethodName := ⟨RL, "behind", "(LCoauthorText;I[J)I"⟩
abbrev cL_clock : ByteArray := method_13_code
def yL_clock : MethodName := ⟨RL, "clock", "(LCoauthorText;I[J)I"⟩
abbrev cL_print : ByteArray := method_14_code
def yL_print : MethodName := ⟨RL, "print", "(LCoauthorText;I[J)I"⟩
abbrev cL_printed : ByteArray := method_15_code
def yL_printed : MethodName := ⟨RL, "printed", "(LCoauthorText;II[J)I"⟩
abbrev cL_setFloor : ByteArray := method_16_code
def yL_setFloor : MethodName := ⟨RL, "setFloor", "(LCoauthorText;I[J)I"⟩
abbrev cL_advance : ByteArray := method_17_code
def yL_advance : MethodName := ⟨RL, "advance", "(LCoauthorText;II[J)I"⟩
abbrev cL_sell : ByteArray := method_18_code
def yL_sell : MethodName := ⟨RL, "sell", "(LCoauthorText;II[J)I"⟩
abbrev cL_paid : ByteArray := method_19_code
def yL_paid : MethodName := ⟨RL, "paid", "(LCoauthorText;I[J)I"⟩
abbrev cL_left : ByteArray := method_20_code
def yL_left : MethodName := ⟨RL, "left", "(LCoauthorText;I[J)I"⟩
abbrev cL_law : ByteArray := code
def yL_law : MethodName := ⟨RL, "law", "([I)Z"⟩
def wsX0_init : List Cond := .code yX0_init cX0_init 7 none :: ([.methodLink RX0 3 objectInit, .instanceMethod objectInit, .code objectInit ⟨#[0xb1]⟩ 1 none, .fieldLink RX0 9 "CoauthorText$Sign" "next" "LCoauthorText$Sign;", .arrayClass .int, .fieldLink RX0 15 "CoauthorText$Sign" "stampsInCopies" "[I", .arrayClass .boolean, .fieldLink RX0 19 "CoauthorText$Sign" "removedInCopies" "[Z", .fieldLink RX0 23 "CoauthorText$Sign" "number" "I", .fieldLink RX0 27 "CoauthorText$Sign" "author" "I", .fieldLink RX0 30 "CoauthorText$Sign" "letter" "I", .fieldLink RX0 33 "CoauthorText$Sign" "stamp" "I", .fieldLink RX0 36 "CoauthorText$Sign" "ahead" "LCoauthorText$Sign;"] ++ wsX00)
def wsX0_isKnownIn : List Cond := .code yX0_isKnownIn cX0_isKnownIn 2 (some .boolean) :: ([.fieldLink RX0 15 "CoauthorText$Sign" "stampsInCopies" "[I"] ++ wsX00)
def wsX0_isRemovedIn : List Cond := .code yX0_isRemovedIn cX0_isRemovedIn 2 (some .boolean) :: ([.fieldLink RX0 19 "CoauthorText$Sign" "removedInCopies" "[Z", .methodLink RX0 39 yX0_isKnownIn, .instanceMethod yX0_isKnownIn, .selects RX0 yX0_isKnownIn yX0_isKnownIn, .initialized RX0, .code yX0_isKnownIn cX0_isKnownIn 2 (some .boolean), .fieldLink RX0 15 "CoauthorText$Sign" "stampsInCopies" "[I"] ++ wsX00)
def wsX0_isInTextOf : List Cond := .code yX0_isInTextOf cX0_isInTextOf 2 (some .boolean) :: ([.fieldLink RX0 19 "CoauthorText$Sign" "removedInCopies" "[Z", .methodLink RX0 39 yX0_isKnownIn, .instanceMethod yX0_isKnownIn, .selects RX0 yX0_isKnownIn yX0_isKnownIn, .initialized RX0, .code yX0_isKnownIn cX0_isKnownIn 2 (some .boolean), .fieldLink RX0 15 "CoauthorText$Sign" "stampsInCopies" "[I"] ++ wsX00)
def wsX0_setRemoved : List Cond := .code yX0_setRemoved cX0_setRemoved 4 none :: ([.fieldLink RX0 19 "CoauthorText$Sign" "removedInCopies" "[Z", .fieldLink RX0 15 "CoauthorText$Sign" "stampsInCopies" "[I"] ++ wsX00)
def wsX0_bringNewer : List Cond := .code yX0_bringNewer cX0_bringNewer 3 none :: ([.fieldLink RX0 15 "CoauthorText$Sign" "stampsInCopies" "[I", .fieldLink RX0 19 "CoauthorText$Sign" "removedInCopies" "[Z", .methodLink RX0 43 yX0_setRemoved, .instanceMethod yX0_setRemoved, .selects RX0 yX0_setRemoved yX0_setRemoved, .initialized RX0, .code yX0_setRemoved cX0_setRemoved 4 none] ++ wsX00)
def wsX1_init : List Cond := .code yX1_init cX1_init 1 none :: ([.methodLink RX1 1 objectInit, .instanceMethod objectInit, .code objectInit ⟨#[0xb1]⟩ 1 none, .classLink RX1 9 RX0, .fieldLink RX1 11 "CoauthorText" "signsByNumber" "[LCoauthorText$Sign;", .fieldLink RX1 15 "CoauthorText" "signCount" "I", .fieldLink RX1 19 "CoauthorText" "firstInOrder" "LCoauthorText$Sign;", .arrayClass .int, .fieldLink RX1 23 "CoauthorText" "clocks" "[I", .classLink RX1 27 "[[I", .fieldLink RX1 29 "CoauthorText" "signsInEditions" "[[I", .fieldLink RX1 32 "CoauthorText" "editionCount" "I", .fieldLink RX1 35 "CoauthorText" "floorPercent" "I", .fieldLink RX1 38 "CoauthorText" "advancesLeft" "[I", .arrayClass .long, .fieldLink RX1 41 "CoauthorText" "paidBySales" "[J"] ++ wsX10)
def wsX1_checkRange : List Cond := .code yX1_checkRange cX1_checkRange 3 none :: ([.classLink RX1 101 "java/lang/IllegalArgumentException", .initialized "java/lang/IllegalArgumentException"] ++ (vx_atS RX1 105 "java/lang/IllegalArgumentException" ["java/lang/RuntimeException", "java/lang/Exception"]).filter goodWord)
def wsX1_checkAuthor : List Cond := .code yX1_checkAuthor cX1_checkAuthor 1 none :: ([.methodLink RX1 49 yX1_checkRange, .static yX1_checkRange, .initialized RX1, .code yX1_checkRange cX1_checkRange 3 none, .classLink RX1 101 "java/lang/IllegalArgumentException", .initialized "java/lang/IllegalArgumentException"] ++ (vx_atS RX1 105 "java/lang/IllegalArgumentException" ["java/lang/RuntimeException", "java/lang/Exception"]).filter goodWord)
def wsX1_findAtPlace : List Cond := .code yX1_findAtPlace cX1_findAtPlace 5 (some (.object "CoauthorText$Sign")) :: ([.classLink RX1 53 "java/lang/IndexOutOfBoundsException", .initialized "java/lang/IndexOutOfBoundsException", .fieldLink RX1 19 "CoauthorText" "firstInOrder" "LCoauthorText$Sign;", .instanceMethod yX0_isInTextOf, .initialized RX0, .selects RX0 yX0_isInTextOf yX0_isInTextOf, .code yX0_isInTextOf cX0_isInTextOf 2 (some .boolean), .fieldLink RX0 19 "CoauthorText$Sign" "removedInCopies" "[Z", .methodLink RX0 39 yX0_isKnownIn, .instanceMethod yX0_isKnownIn, .selects RX0 yX0_isKnownIn yX0_isKnownIn, .code yX0_isKnownIn cX0_isKnownIn 2 (some .boolean), .fieldLink RX0 15 "CoauthorText$Sign" "stampsInCopies" "[I"] ++ wsX10 ++ wsX00 ++ (vx_atS RX1 57 "java/lang/IndexOutOfBoundsException" ["java/lang/RuntimeException", "java/lang/Exception"]).filter goodWord)
def wsX1_nextStamp : List Cond := .code yX1_nextStamp cX1_nextStamp 2 (some .int) :: ([.fieldLink RX1 23 "CoauthorText" "clocks" "[I"] ++ wsX10)
def wsX1_putInOrder : List Cond := .code yX1_putInOrder cX1_putInOrder 4 none :: ([.fieldLink RX1 19 "CoauthorText" "firstInOrder" "LCoauthorText$Sign;"] ++ wsX00 ++ wsX10)
def wsX1_insert_r1 : List Cond := [Cond.classLink RX1 53 "java/lang/IndexOutOfBoundsException", Cond.initialized "java/lang/IndexOutOfBoundsException", Cond.classLink RX1 64 "java/lang/IllegalStateException", Cond.initialized "java/lang/IllegalStateException", Cond.fieldLink RX1 15 "CoauthorText" "signCount" "I", Cond.classLink RX1 9 RX0, Cond.instantiable RX0 8, Cond.initialized RX0, Cond.fieldLink RX1 11 "CoauthorText" "signsByNumber" "[LCoauthorText$Sign;", Cond.methodLink RX1 45 yX1_checkAuthor, Cond.static yX1_checkAuthor, Cond.initialized RX1, Cond.code yX1_checkAuthor cX1_checkAuthor 1 none, Cond.methodLink RX1 49 yX1_checkRange, Cond.static yX1_checkRange, Cond.code yX1_checkRange cX1_checkRange 3 none, Cond.classLink RX1 101 "java/lang/IllegalArgumentException", Cond.initialized "java/lang/IllegalArgumentException", Cond.methodLink RX1 60 yX1_findAtPlace, Cond.instanceMethod yX1_findAtPlace, Cond.selects RX1 yX1_findAtPlace yX1_findAtPlace, Cond.code yX1_findAtPlace cX1_findAtPlace 5 (some (.object "CoauthorText$Sign")), Cond.fieldLink RX1 19 "CoauthorText" "firstInOrder" "LCoauthorText$Sign;", Cond.instanceMethod yX0_isInTextOf]
def wsX1_insert_r2 : List Cond := [Cond.selects RX0 yX0_isInTextOf yX0_isInTextOf, Cond.code yX0_isInTextOf cX0_isInTextOf 2 (some .boolean), Cond.fieldLink RX0 19 "CoauthorText$Sign" "removedInCopies" "[Z", Cond.methodLink RX0 39 yX0_isKnownIn, Cond.instanceMethod yX0_isKnownIn, Cond.selects RX0 yX0_isKnownIn yX0_isKnownIn, Cond.code yX0_isKnownIn cX0_isKnownIn 2 (some .boolean), Cond.fieldLink RX0 15 "CoauthorText$Sign" "stampsInCopies" "[I", Cond.methodLink RX1 69 yX1_nextStamp, Cond.instanceMethod yX1_nextStamp, Cond.selects RX1 yX1_nextStamp yX1_nextStamp, Cond.code yX1_nextStamp cX1_nextStamp 2 (some .int), Cond.fieldLink RX1 23 "CoauthorText" "clocks" "[I", Cond.instanceMethod yX0_init, Cond.code yX0_init cX0_init 7 none, Cond.methodLink RX0 3 objectInit, Cond.instanceMethod objectInit, Cond.code objectInit ⟨#[0xb1]⟩ 1 none, Cond.fieldLink RX0 9 "CoauthorText$Sign" "next" "LCoauthorText$Sign;", Cond.arrayClass .int, Cond.arrayClass .boolean, Cond.fieldLink RX0 23 "CoauthorText$Sign" "number" "I", Cond.fieldLink RX0 27 "CoauthorText$Sign" "author" "I", Cond.fieldLink RX0 30 "CoauthorText$Sign" "letter" "I"]
def wsX1_insert_r3 : List Cond := [Cond.fieldLink RX0 33 "CoauthorText$Sign" "stamp" "I", Cond.fieldLink RX0 36 "CoauthorText$Sign" "ahead" "LCoauthorText$Sign;", Cond.methodLink RX1 76 yX1_putInOrder, Cond.instanceMethod yX1_putInOrder, Cond.selects RX1 yX1_putInOrder yX1_putInOrder, Cond.code yX1_putInOrder cX1_putInOrder 4 none]
def wsX1_insert : List Cond := .code yX1_insert cX1_insert 6 (some .int) :: ((wsX1_insert_r1 ++ (wsX1_insert_r2 ++ wsX1_insert_r3)) ++ wsX10 ++ wsX00 ++ (vx_atS RX1 57 "java/lang/IndexOutOfBoundsException" ["java/lang/RuntimeException", "java/lang/Exception"]).filter goodWord ++ (vx_atS RX1 68 "java/lang/IllegalStateException" ["java/lang/RuntimeException", "java/lang/Exception"]).filter goodWord ++ (vx_atS RX1 105 "java/lang/IllegalArgumentException" ["java/lang/RuntimeException", "java/lang/Exception"]).filter goodWord)
def wsX1_remove_r1 : List Cond := [Cond.methodLink RX1 45 yX1_checkAuthor, Cond.static yX1_checkAuthor, Cond.initialized RX1, Cond.code yX1_checkAuthor cX1_checkAuthor 1 none, Cond.methodLink RX1 49 yX1_checkRange, Cond.static yX1_checkRange, Cond.code yX1_checkRange cX1_checkRange 3 none, Cond.classLink RX1 101 "java/lang/IllegalArgumentException", Cond.initialized "java/lang/IllegalArgumentException", Cond.methodLink RX1 60 yX1_findAtPlace, Cond.instanceMethod yX1_findAtPlace, Cond.selects RX1 yX1_findAtPlace yX1_findAtPlace, Cond.code yX1_findAtPlace cX1_findAtPlace 5 (some (.object "CoauthorText$Sign")), Cond.classLink RX1 53 "java/lang/IndexOutOfBoundsException", Cond.initialized "java/lang/IndexOutOfBoundsException", Cond.fieldLink RX1 19 "CoauthorText" "firstInOrder" "LCoauthorText$Sign;", Cond.instanceMethod yX0_isInTextOf, Cond.initialized RX0, Cond.selects RX0 yX0_isInTextOf yX0_isInTextOf, Cond.code yX0_isInTextOf cX0_isInTextOf 2 (some .boolean), Cond.fieldLink RX0 19 "CoauthorText$Sign" "removedInCopies" "[Z", Cond.methodLink RX0 39 yX0_isKnownIn, Cond.instanceMethod yX0_isKnownIn, Cond.selects RX0 yX0_isKnownIn yX0_isKnownIn]
def wsX1_remove_r2 : List Cond := [Cond.code yX0_isKnownIn cX0_isKnownIn 2 (some .boolean), Cond.fieldLink RX0 15 "CoauthorText$Sign" "stampsInCopies" "[I", Cond.methodLink RX1 69 yX1_nextStamp, Cond.instanceMethod yX1_nextStamp, Cond.selects RX1 yX1_nextStamp yX1_nextStamp, Cond.code yX1_nextStamp cX1_nextStamp 2 (some .int), Cond.fieldLink RX1 23 "CoauthorText" "clocks" "[I", Cond.instanceMethod yX0_setRemoved, Cond.selects RX0 yX0_setRemoved yX0_setRemoved, Cond.code yX0_setRemoved cX0_setRemoved 4 none]
def wsX1_remove : List Cond := .code yX1_remove cX1_remove 4 (some .int) :: ((wsX1_remove_r1 ++ wsX1_remove_r2) ++ wsX00 ++ wsX10 ++ (vx_atS RX1 105 "java/lang/IllegalArgumentException" ["java/lang/RuntimeException", "java/lang/Exception"]).filter goodWord ++ (vx_atS RX1 57 "java/lang/IndexOutOfBoundsException" ["java/lang/RuntimeException", "java/lang/Exception"]).filter goodWord)
def wsX1_findByNumber : List Cond := .code yX1_findByNumber cX1_findByNumber 3 (some (.object "CoauthorText$Sign")) :: ([.classLink RX1 53 "java/lang/IndexOutOfBoundsException", .initialized "java/lang/IndexOutOfBoundsException", .fieldLink RX1 15 "CoauthorText" "signCount" "I", .fieldLink RX1 11 "CoauthorText" "signsByNumber" "[LCoauthorText$Sign;"] ++ wsX10 ++ (vx_atS RX1 57 "java/lang/IndexOutOfBoundsException" ["java/lang/RuntimeException", "java/lang/Exception"]).filter goodWord)
def wsX1_countAheadOf : List Cond := .code yX1_countAheadOf cX1_countAheadOf 5 (some .int) :: ([.fieldLink RX1 19 "CoauthorText" "firstInOrder" "LCoauthorText$Sign;", .instanceMethod yX0_isInTextOf, .initialized RX0, .selects RX0 yX0_isInTextOf yX0_isInTextOf, .code yX0_isInTextOf cX0_isInTextOf 2 (some .boolean), .fieldLink RX0 19 "CoauthorText$Sign" "removedInCopies" "[Z", .methodLink RX0 39 yX0_isKnownIn, .instanceMethod yX0_isKnownIn, .selects RX0 yX0_isKnownIn yX0_isKnownIn, .code yX0_isKnownIn cX0_isKnownIn 2 (some .boolean), .fieldLink RX0 15 "CoauthorText$Sign" "stampsInCopies" "[I"] ++ wsX10 ++ wsX00)
def wsX1_restore_r1 : List Cond := [Cond.classLink RX1 64 "java/lang/IllegalStateException", Cond.initialized "java/lang/IllegalStateException", Cond.methodLink RX1 87 yX1_findByNumber, Cond.instanceMethod yX1_findByNumber, Cond.selects RX1 yX1_findByNumber yX1_findByNumber, Cond.initialized RX1, Cond.code yX1_findByNumber cX1_findByNumber 3 (some (.object "CoauthorText$Sign")), Cond.classLink RX1 53 "java/lang/IndexOutOfBoundsException", Cond.initialized "java/lang/IndexOutOfBoundsException", Cond.fieldLink RX1 15 "CoauthorText" "signCount" "I", Cond.fieldLink RX1 11 "CoauthorText" "signsByNumber" "[LCoauthorText$Sign;", Cond.methodLink RX1 45 yX1_checkAuthor, Cond.static yX1_checkAuthor, Cond.code yX1_checkAuthor cX1_checkAuthor 1 none, Cond.methodLink RX1 49 yX1_checkRange, Cond.static yX1_checkRange, Cond.code yX1_checkRange cX1_checkRange 3 none, Cond.classLink RX1 101 "java/lang/IllegalArgumentException", Cond.initialized "java/lang/IllegalArgumentException", Cond.instanceMethod yX0_isRemovedIn, Cond.initialized RX0, Cond.selects RX0 yX0_isRemovedIn yX0_isRemovedIn, Cond.code yX0_isRemovedIn cX0_isRemovedIn 2 (some .boolean), Cond.fieldLink RX0 19 "CoauthorText$Sign" "removedInCopies" "[Z"]
def wsX1_restore_r2 : List Cond := [Cond.methodLink RX0 39 yX0_isKnownIn, Cond.instanceMethod yX0_isKnownIn, Cond.selects RX0 yX0_isKnownIn yX0_isKnownIn, Cond.code yX0_isKnownIn cX0_isKnownIn 2 (some .boolean), Cond.fieldLink RX0 15 "CoauthorText$Sign" "stampsInCopies" "[I", Cond.methodLink RX1 69 yX1_nextStamp, Cond.instanceMethod yX1_nextStamp, Cond.selects RX1 yX1_nextStamp yX1_nextStamp, Cond.code yX1_nextStamp cX1_nextStamp 2 (some .int), Cond.fieldLink RX1 23 "CoauthorText" "clocks" "[I", Cond.instanceMethod yX0_setRemoved, Cond.selects RX0 yX0_setRemoved yX0_setRemoved, Cond.code yX0_setRemoved cX0_setRemoved 4 none, Cond.methodLink RX1 97 yX1_countAheadOf, Cond.instanceMethod yX1_countAheadOf, Cond.selects RX1 yX1_countAheadOf yX1_countAheadOf, Cond.code yX1_countAheadOf cX1_countAheadOf 5 (some .int), Cond.fieldLink RX1 19 "CoauthorText" "firstInOrder" "LCoauthorText$Sign;", Cond.instanceMethod yX0_isInTextOf, Cond.selects RX0 yX0_isInTextOf yX0_isInTextOf, Cond.code yX0_isInTextOf cX0_isInTextOf 2 (some .boolean)]
def wsX1_restore : List Cond := .code yX1_restore cX1_restore 4 (some .int) :: ((wsX1_restore_r1 ++ wsX1_restore_r2) ++ wsX10 ++ wsX00 ++ (vx_atS RX1 68 "java/lang/IllegalStateException" ["java/lang/RuntimeException", "java/lang/Exception"]).filter goodWord ++ (vx_atS RX1 57 "java/lang/IndexOutOfBoundsException" ["java/lang/RuntimeException", "java/lang/Exception"]).filter goodWord ++ (vx_atS RX1 105 "java/lang/IllegalArgumentException" ["java/lang/RuntimeException", "java/lang/Exception"]).filter goodWord)
def wsX1_learn_r1 : List Cond := [Cond.classLink RX1 101 "java/lang/IllegalArgumentException", Cond.initialized "java/lang/IllegalArgumentException", Cond.fieldLink RX1 19 "CoauthorText" "firstInOrder" "LCoauthorText$Sign;", Cond.fieldLink RX1 23 "CoauthorText" "clocks" "[I", Cond.methodLink RX1 116 Lib.Math.max.name, Cond.static Lib.Math.max.name, Cond.initialized "java/lang/Math", Cond.code Lib.Math.max.name Lib.Math.max.code 2 (some .int), Cond.methodLink RX1 45 yX1_checkAuthor, Cond.static yX1_checkAuthor, Cond.initialized RX1, Cond.code yX1_checkAuthor cX1_checkAuthor 1 none, Cond.methodLink RX1 49 yX1_checkRange, Cond.static yX1_checkRange, Cond.code yX1_checkRange cX1_checkRange 3 none, Cond.instanceMethod yX0_isKnownIn, Cond.initialized RX0, Cond.selects RX0 yX0_isKnownIn yX0_isKnownIn, Cond.code yX0_isKnownIn cX0_isKnownIn 2 (some .boolean), Cond.fieldLink RX0 15 "CoauthorText$Sign" "stampsInCopies" "[I", Cond.instanceMethod yX0_bringNewer, Cond.selects RX0 yX0_bringNewer yX0_bringNewer, Cond.code yX0_bringNewer cX0_bringNewer 3 none, Cond.fieldLink RX0 19 "CoauthorText$Sign" "removedInCopies" "[Z"]
def wsX1_learn_r2 : List Cond := [Cond.methodLink RX0 43 yX0_setRemoved, Cond.instanceMethod yX0_setRemoved, Cond.selects RX0 yX0_setRemoved yX0_setRemoved, Cond.code yX0_setRemoved cX0_setRemoved 4 none]
def wsX1_learn : List Cond := .code yX1_learn cX1_learn 5 (some .int) :: ((wsX1_learn_r1 ++ wsX1_learn_r2) ++ wsX10 ++ wsX00 ++ (vx_atS RX1 105 "java/lang/IllegalArgumentException" ["java/lang/RuntimeException", "java/lang/Exception"]).filter goodWord)
def wsX1_length : List Cond := .code yX1_length cX1_length 2 (some .int) :: ([.methodLink RX1 45 yX1_checkAuthor, .static yX1_checkAuthor, .initialized RX1, .code yX1_checkAuthor cX1_checkAuthor 1 none, .methodLink RX1 49 yX1_checkRange, .static yX1_checkRange, .code yX1_checkRange cX1_checkRange 3 none, .classLink RX1 101 "java/lang/IllegalArgumentException", .initialized "java/lang/IllegalArgumentException", .methodLink RX1 97 yX1_countAheadOf, .instanceMethod yX1_countAheadOf, .selects RX1 yX1_countAheadOf yX1_countAheadOf, .code yX1_countAheadOf cX1_countAheadOf 5 (some .int), .fieldLink RX1 19 "CoauthorText" "firstInOrder" "LCoauthorText$Sign;", .instanceMethod yX0_isInTextOf, .initialized RX0, .selects RX0 yX0_isInTextOf yX0_isInTextOf, .code yX0_isInTextOf cX0_isInTextOf 2 (some .boolean), .fieldLink RX0 19 "CoauthorText$Sign" "removedInCopies" "[Z", .methodLink RX0 39 yX0_isKnownIn, .instanceMethod yX0_isKnownIn, .selects RX0 yX0_isKnownIn yX0_isKnownIn, .code yX0_isKnownIn cX0_isKnownIn 2 (some .boolean), .fieldLink RX0 15 "CoauthorText$Sign" "stampsInCopies" "[I"] ++ wsX10 ++ wsX00 ++ (vx_atS RX1 105 "java/lang/IllegalArgumentException" ["java/lang/RuntimeException", "java/lang/Exception"]).filter goodWord)
def wsX1_signAt_r1 : List Cond := [Cond.methodLink RX1 45 yX1_checkAuthor, Cond.static yX1_checkAuthor, Cond.initialized RX1, Cond.code yX1_checkAuthor cX1_checkAuthor 1 none, Cond.methodLink RX1 49 yX1_checkRange, Cond.static yX1_checkRange, Cond.code yX1_checkRange cX1_checkRange 3 none, Cond.classLink RX1 101 "java/lang/IllegalArgumentException", Cond.initialized "java/lang/IllegalArgumentException", Cond.methodLink RX1 60 yX1_findAtPlace, Cond.instanceMethod yX1_findAtPlace, Cond.selects RX1 yX1_findAtPlace yX1_findAtPlace, Cond.code yX1_findAtPlace cX1_findAtPlace 5 (some (.object "CoauthorText$Sign")), Cond.classLink RX1 53 "java/lang/IndexOutOfBoundsException", Cond.initialized "java/lang/IndexOutOfBoundsException", Cond.fieldLink RX1 19 "CoauthorText" "firstInOrder" "LCoauthorText$Sign;", Cond.instanceMethod yX0_isInTextOf, Cond.initialized RX0, Cond.selects RX0 yX0_isInTextOf yX0_isInTextOf, Cond.code yX0_isInTextOf cX0_isInTextOf 2 (some .boolean), Cond.fieldLink RX0 19 "CoauthorText$Sign" "removedInCopies" "[Z", Cond.methodLink RX0 39 yX0_isKnownIn, Cond.instanceMethod yX0_isKnownIn, Cond.selects RX0 yX0_isKnownIn yX0_isKnownIn]
def wsX1_signAt_r2 : List Cond := [Cond.code yX0_isKnownIn cX0_isKnownIn 2 (some .boolean), Cond.fieldLink RX0 15 "CoauthorText$Sign" "stampsInCopies" "[I"]
def wsX1_signAt : List Cond := .code yX1_signAt cX1_signAt 3 (some .int) :: ((wsX1_signAt_r1 ++ wsX1_signAt_r2) ++ wsX00 ++ wsX10 ++ (vx_atS RX1 105 "java/lang/IllegalArgumentException" ["java/lang/RuntimeException", "java/lang/Exception"]).filter goodWord ++ (vx_atS RX1 57 "java/lang/IndexOutOfBoundsException" ["java/lang/RuntimeException", "java/lang/Exception"]).filter goodWord)
def wsX1_letterAt_r1 : List Cond := [Cond.methodLink RX1 45 yX1_checkAuthor, Cond.static yX1_checkAuthor, Cond.initialized RX1, Cond.code yX1_checkAuthor cX1_checkAuthor 1 none, Cond.methodLink RX1 49 yX1_checkRange, Cond.static yX1_checkRange, Cond.code yX1_checkRange cX1_checkRange 3 none, Cond.classLink RX1 101 "java/lang/IllegalArgumentException", Cond.initialized "java/lang/IllegalArgumentException", Cond.methodLink RX1 60 yX1_findAtPlace, Cond.instanceMethod yX1_findAtPlace, Cond.selects RX1 yX1_findAtPlace yX1_findAtPlace, Cond.code yX1_findAtPlace cX1_findAtPlace 5 (some (.object "CoauthorText$Sign")), Cond.classLink RX1 53 "java/lang/IndexOutOfBoundsException", Cond.initialized "java/lang/IndexOutOfBoundsException", Cond.fieldLink RX1 19 "CoauthorText" "firstInOrder" "LCoauthorText$Sign;", Cond.instanceMethod yX0_isInTextOf, Cond.initialized RX0, Cond.selects RX0 yX0_isInTextOf yX0_isInTextOf, Cond.code yX0_isInTextOf cX0_isInTextOf 2 (some .boolean), Cond.fieldLink RX0 19 "CoauthorText$Sign" "removedInCopies" "[Z", Cond.methodLink RX0 39 yX0_isKnownIn, Cond.instanceMethod yX0_isKnownIn, Cond.selects RX0 yX0_isKnownIn yX0_isKnownIn]
def wsX1_letterAt_r2 : List Cond := [Cond.code yX0_isKnownIn cX0_isKnownIn 2 (some .boolean), Cond.fieldLink RX0 15 "CoauthorText$Sign" "stampsInCopies" "[I"]
def wsX1_letterAt : List Cond := .code yX1_letterAt cX1_letterAt 3 (some .int) :: ((wsX1_letterAt_r1 ++ wsX1_letterAt_r2) ++ wsX00 ++ wsX10 ++ (vx_atS RX1 105 "java/lang/IllegalArgumentException" ["java/lang/RuntimeException", "java/lang/Exception"]).filter goodWord ++ (vx_atS RX1 57 "java/lang/IndexOutOfBoundsException" ["java/lang/RuntimeException", "java/lang/Exception"]).filter goodWord)
def wsX1_areAlike : List Cond := .code yX1_areAlike cX1_areAlike 4 (some .boolean) :: ([.fieldLink RX1 19 "CoauthorText" "firstInOrder" "LCoauthorText$Sign;", .methodLink RX1 45 yX1_checkAuthor, .static yX1_checkAuthor, .initialized RX1, .code yX1_checkAuthor cX1_checkAuthor 1 none, .methodLink RX1 49 yX1_checkRange, .static yX1_checkRange, .code yX1_checkRange cX1_checkRange 3 none, .classLink RX1 101 "java/lang/IllegalArgumentException", .initialized "java/lang/IllegalArgumentException", .instanceMethod yX0_isInTextOf, .initialized RX0, .selects RX0 yX0_isInTextOf yX0_isInTextOf, .code yX0_isInTextOf cX0_isInTextOf 2 (some .boolean), .fieldLink RX0 19 "CoauthorText$Sign" "removedInCopies" "[Z", .methodLink RX0 39 yX0_isKnownIn, .instanceMethod yX0_isKnownIn, .selects RX0 yX0_isKnownIn yX0_isKnownIn, .code yX0_isKnownIn cX0_isKnownIn 2 (some .boolean), .fieldLink RX0 15 "CoauthorText$Sign" "stampsInCopies" "[I"] ++ wsX10 ++ wsX00 ++ (vx_atS RX1 105 "java/lang/IllegalArgumentException" ["java/lang/RuntimeException", "java/lang/Exception"]).filter goodWord)
def wsX1_signs : List Cond := .code yX1_signs cX1_signs 1 (some .int) :: ([.fieldLink RX1 15 "CoauthorText" "signCount" "I"] ++ wsX10)
def wsX1_authorOf : List Cond := .code yX1_authorOf cX1_authorOf 2 (some .int) :: ([.methodLink RX1 87 yX1_findByNumber, .instanceMethod yX1_findByNumber, .selects RX1 yX1_findByNumber yX1_findByNumber, .initialized RX1, .code yX1_findByNumber cX1_findByNumber 3 (some (.object "CoauthorText$Sign")), .classLink RX1 53 "java/lang/IndexOutOfBoundsException", .initialized "java/lang/IndexOutOfBoundsException", .fieldLink RX1 15 "CoauthorText" "signCount" "I", .fieldLink RX1 11 "CoauthorText" "signsByNumber" "[LCoauthorText$Sign;"] ++ wsX00 ++ wsX10 ++ (vx_atS RX1 57 "java/lang/IndexOutOfBoundsException" ["java/lang/RuntimeException", "java/lang/Exception"]).filter goodWord)
def wsX1_behind : List Cond := .code yX1_behind cX1_behind 3 (some .int) :: ([.methodLink RX1 87 yX1_findByNumber, .instanceMethod yX1_findByNumber, .selects RX1 yX1_findByNumber yX1_findByNumber, .initialized RX1, .code yX1_findByNumber cX1_findByNumber 3 (some (.object "CoauthorText$Sign")), .classLink RX1 53 "java/lang/IndexOutOfBoundsException", .initialized "java/lang/IndexOutOfBoundsException", .fieldLink RX1 15 "CoauthorText" "signCount" "I", .fieldLink RX1 11 "CoauthorText" "signsByNumber" "[LCoauthorText$Sign;"] ++ wsX00 ++ wsX10 ++ (vx_atS RX1 57 "java/lang/IndexOutOfBoundsException" ["java/lang/RuntimeException", "java/lang/Exception"]).filter goodWord)
def wsX1_clock : List Cond := .code yX1_clock cX1_clock 2 (some .int) :: ([.fieldLink RX1 23 "CoauthorText" "clocks" "[I", .methodLink RX1 45 yX1_checkAuthor, .static yX1_checkAuthor, .initialized RX1, .code yX1_checkAuthor cX1_checkAuthor 1 none, .methodLink RX1 49 yX1_checkRange, .static yX1_checkRange, .code yX1_checkRange cX1_checkRange 3 none, .classLink RX1 101 "java/lang/IllegalArgumentException", .initialized "java/lang/IllegalArgumentException"] ++ wsX10 ++ (vx_atS RX1 105 "java/lang/IllegalArgumentException" ["java/lang/RuntimeException", "java/lang/Exception"]).filter goodWord)
def wsX1_countWrittenBy : List Cond := .code yX1_countWrittenBy cX1_countWrittenBy 5 (some .int) :: ([.fieldLink RX1 19 "CoauthorText" "firstInOrder" "LCoauthorText$Sign;", .instanceMethod yX0_isInTextOf, .initialized RX0, .selects RX0 yX0_isInTextOf yX0_isInTextOf, .code yX0_isInTextOf cX0_isInTextOf 2 (some .boolean), .fieldLink RX0 19 "CoauthorText$Sign" "removedInCopies" "[Z", .methodLink RX0 39 yX0_isKnownIn, .instanceMethod yX0_isKnownIn, .selects RX0 yX0_isKnownIn yX0_isKnownIn, .code yX0_isKnownIn cX0_isKnownIn 2 (some .boolean), .fieldLink RX0 15 "CoauthorText$Sign" "stampsInCopies" "[I"] ++ wsX10 ++ wsX00)
def wsX1_print_r1 : List Cond := [Cond.classLink RX1 64 "java/lang/IllegalStateException", Cond.initialized "java/lang/IllegalStateException", Cond.fieldLink RX1 32 "CoauthorText" "editionCount" "I", Cond.fieldLink RX1 29 "CoauthorText" "signsInEditions" "[[I", Cond.methodLink RX1 45 yX1_checkAuthor, Cond.static yX1_checkAuthor, Cond.initialized RX1, Cond.code yX1_checkAuthor cX1_checkAuthor 1 none, Cond.methodLink RX1 49 yX1_checkRange, Cond.static yX1_checkRange, Cond.code yX1_checkRange cX1_checkRange 3 none, Cond.classLink RX1 101 "java/lang/IllegalArgumentException", Cond.initialized "java/lang/IllegalArgumentException", Cond.methodLink RX1 97 yX1_countAheadOf, Cond.instanceMethod yX1_countAheadOf, Cond.selects RX1 yX1_countAheadOf yX1_countAheadOf, Cond.code yX1_countAheadOf cX1_countAheadOf 5 (some .int), Cond.fieldLink RX1 19 "CoauthorText" "firstInOrder" "LCoauthorText$Sign;", Cond.instanceMethod yX0_isInTextOf, Cond.initialized RX0, Cond.selects RX0 yX0_isInTextOf yX0_isInTextOf, Cond.code yX0_isInTextOf cX0_isInTextOf 2 (some .boolean), Cond.fieldLink RX0 19 "CoauthorText$Sign" "removedInCopies" "[Z", Cond.methodLink RX0 39 yX0_isKnownIn]
def wsX1_print_r2 : List Cond := [Cond.instanceMethod yX0_isKnownIn, Cond.selects RX0 yX0_isKnownIn yX0_isKnownIn, Cond.code yX0_isKnownIn cX0_isKnownIn 2 (some .boolean), Cond.fieldLink RX0 15 "CoauthorText$Sign" "stampsInCopies" "[I", Cond.methodLink RX1 138 yX1_countWrittenBy, Cond.instanceMethod yX1_countWrittenBy, Cond.selects RX1 yX1_countWrittenBy yX1_countWrittenBy, Cond.code yX1_countWrittenBy cX1_countWrittenBy 5 (some .int)]
def wsX1_print : List Cond := .code yX1_print cX1_print 4 (some .int) :: ((wsX1_print_r1 ++ wsX1_print_r2) ++ wsX10 ++ wsX00 ++ (vx_atS RX1 68 "java/lang/IllegalStateException" ["java/lang/RuntimeException", "java/lang/Exception"]).filter goodWord ++ (vx_atS RX1 105 "java/lang/IllegalArgumentException" ["java/lang/RuntimeException", "java/lang/Exception"]).filter goodWord)
def wsX1_checkEdition : List Cond := .code yX1_checkEdition cX1_checkEdition 2 none :: ([.classLink RX1 53 "java/lang/IndexOutOfBoundsException", .initialized "java/lang/IndexOutOfBoundsException", .fieldLink RX1 32 "CoauthorText" "editionCount" "I"] ++ wsX10 ++ (vx_atS RX1 57 "java/lang/IndexOutOfBoundsException" ["java/lang/RuntimeException", "java/lang/Exception"]).filter goodWord)
def wsX1_printed : List Cond := .code yX1_printed cX1_printed 3 (some .int) :: ([.fieldLink RX1 29 "CoauthorText" "signsInEditions" "[[I", .methodLink RX1 141 yX1_checkEdition, .instanceMethod yX1_checkEdition, .selects RX1 yX1_checkEdition yX1_checkEdition, .initialized RX1, .code yX1_checkEdition cX1_checkEdition 2 none, .classLink RX1 53 "java/lang/IndexOutOfBoundsException", .initialized "java/lang/IndexOutOfBoundsException", .fieldLink RX1 32 "CoauthorText" "editionCount" "I", .methodLink RX1 45 yX1_checkAuthor, .static yX1_checkAuthor, .code yX1_checkAuthor cX1_checkAuthor 1 none, .methodLink RX1 49 yX1_checkRange, .static yX1_checkRange, .code yX1_checkRange cX1_checkRange 3 none, .classLink RX1 101 "java/lang/IllegalArgumentException", .initialized "java/lang/IllegalArgumentException"] ++ wsX10 ++ (vx_atS RX1 57 "java/lang/IndexOutOfBoundsException" ["java/lang/RuntimeException", "java/lang/Exception"]).filter goodWord ++ (vx_atS RX1 105 "java/lang/IllegalArgumentException" ["java/lang/RuntimeException", "java/lang/Exception"]).filter goodWord)
def wsX1_setFloor : List Cond := .code yX1_setFloor cX1_setFloor 3 (some .int) :: ([.fieldLink RX1 35 "CoauthorText" "floorPercent" "I", .methodLink RX1 49 yX1_checkRange, .static yX1_checkRange, .initialized RX1, .code yX1_checkRange cX1_checkRange 3 none, .classLink RX1 101 "java/lang/IllegalArgumentException", .initialized "java/lang/IllegalArgumentException"] ++ wsX10 ++ (vx_atS RX1 105 "java/lang/IllegalArgumentException" ["java/lang/RuntimeException", "java/lang/Exception"]).filter goodWord)
def wsX1_advance : List Cond := .code yX1_advance cX1_advance 3 (some .int) :: ([.constant RX1 144 (100000), .fieldLink RX1 38 "CoauthorText" "advancesLeft" "[I", .methodLink RX1 45 yX1_checkAuthor, .static yX1_checkAuthor, .initialized RX1, .code yX1_checkAuthor cX1_checkAuthor 1 none, .methodLink RX1 49 yX1_checkRange, .static yX1_checkRange, .code yX1_checkRange cX1_checkRange 3 none, .classLink RX1 101 "java/lang/IllegalArgumentException", .initialized "java/lang/IllegalArgumentException"] ++ wsX10 ++ (vx_atS RX1 105 "java/lang/IllegalArgumentException" ["java/lang/RuntimeException", "java/lang/Exception"]).filter goodWord)
def wsX1_shareOf : List Cond := .code yX1_shareOf cX1_shareOf 8 (some .int) :: ([.fieldLink RX1 35 "CoauthorText" "floorPercent" "I"] ++ wsX10)
def wsX1_credit : List Cond := .code yX1_credit cX1_credit 4 (some .int) :: ([.fieldLink RX1 38 "CoauthorText" "advancesLeft" "[I", .methodLink RX1 162 Lib.Math.min.name, .static Lib.Math.min.name, .initialized "java/lang/Math", .code Lib.Math.min.name Lib.Math.min.code 2 (some .int), .fieldLink RX1 41 "CoauthorText" "paidBySales" "[J"] ++ wsX10)
def wsX1_sell_r1 : List Cond := [Cond.constant RX1 145 (1000000), Cond.fieldLink RX1 29 "CoauthorText" "signsInEditions" "[[I", Cond.methodLink RX1 141 yX1_checkEdition, Cond.instanceMethod yX1_checkEdition, Cond.selects RX1 yX1_checkEdition yX1_checkEdition, Cond.initialized RX1, Cond.code yX1_checkEdition cX1_checkEdition 2 none, Cond.classLink RX1 53 "java/lang/IndexOutOfBoundsException", Cond.initialized "java/lang/IndexOutOfBoundsException", Cond.fieldLink RX1 32 "CoauthorText" "editionCount" "I", Cond.methodLink RX1 49 yX1_checkRange, Cond.static yX1_checkRange, Cond.code yX1_checkRange cX1_checkRange 3 none, Cond.classLink RX1 101 "java/lang/IllegalArgumentException", Cond.initialized "java/lang/IllegalArgumentException", Cond.methodLink RX1 146 yX1_shareOf, Cond.instanceMethod yX1_shareOf, Cond.selects RX1 yX1_shareOf yX1_shareOf, Cond.code yX1_shareOf cX1_shareOf 8 (some .int), Cond.fieldLink RX1 35 "CoauthorText" "floorPercent" "I", Cond.methodLink RX1 150 yX1_credit, Cond.instanceMethod yX1_credit, Cond.selects RX1 yX1_credit yX1_credit, Cond.code yX1_credit cX1_credit 4 (some .int)]
def wsX1_sell_r2 : List Cond := [Cond.fieldLink RX1 38 "CoauthorText" "advancesLeft" "[I", Cond.methodLink RX1 162 Lib.Math.min.name, Cond.static Lib.Math.min.name, Cond.initialized "java/lang/Math", Cond.code Lib.Math.min.name Lib.Math.min.code 2 (some .int), Cond.fieldLink RX1 41 "CoauthorText" "paidBySales" "[J"]
def wsX1_sell : List Cond := .code yX1_sell cX1_sell 7 (some .int) :: ((wsX1_sell_r1 ++ wsX1_sell_r2) ++ wsX10 ++ (vx_atS RX1 57 "java/lang/IndexOutOfBoundsException" ["java/lang/RuntimeException", "java/lang/Exception"]).filter goodWord ++ (vx_atS RX1 105 "java/lang/IllegalArgumentException" ["java/lang/RuntimeException", "java/lang/Exception"]).filter goodWord)
def wsX1_paid : List Cond := .code yX1_paid cX1_paid 2 (some .long) :: ([.fieldLink RX1 41 "CoauthorText" "paidBySales" "[J", .methodLink RX1 45 yX1_checkAuthor, .static yX1_checkAuthor, .initialized RX1, .code yX1_checkAuthor cX1_checkAuthor 1 none, .methodLink RX1 49 yX1_checkRange, .static yX1_checkRange, .code yX1_checkRange cX1_checkRange 3 none, .classLink RX1 101 "java/lang/IllegalArgumentException", .initialized "java/lang/IllegalArgumentException"] ++ wsX10 ++ (vx_atS RX1 105 "java/lang/IllegalArgumentException" ["java/lang/RuntimeException", "java/lang/Exception"]).filter goodWord)
def wsX1_left : List Cond := .code yX1_left cX1_left 2 (some .int) :: ([.fieldLink RX1 38 "CoauthorText" "advancesLeft" "[I", .methodLink RX1 45 yX1_checkAuthor, .static yX1_checkAuthor, .initialized RX1, .code yX1_checkAuthor cX1_checkAuthor 1 none, .methodLink RX1 49 yX1_checkRange, .static yX1_checkRange, .code yX1_checkRange cX1_checkRange 3 none, .classLink RX1 101 "java/lang/IllegalArgumentException", .initialized "java/lang/IllegalArgumentException"] ++ wsX10 ++ (vx_atS RX1 105 "java/lang/IllegalArgumentException" ["java/lang/RuntimeException", "java/lang/Exception"]).filter goodWord)
def wsX2_init : List Cond := .code yX2_init cX2_init 1 none :: ([.methodLink RX2 1 objectInit, .instanceMethod objectInit, .code objectInit ⟨#[0xb1]⟩ 1 none, .arrayClass .int, .fieldLink RX2 7 "CoauthorTextModel" "authors" "[I", .fieldLink RX2 13 "CoauthorTextModel" "letters" "[I", .fieldLink RX2 16 "CoauthorTextModel" "clocksOf" "[I", .fieldLink RX2 19 "CoauthorTextModel" "behinds" "[I", .arrayClass .boolean, .fieldLink RX2 22 "CoauthorTextModel" "knows" "[Z", .fieldLink RX2 26 "CoauthorTextModel" "isRemoved" "[Z", .fieldLink RX2 29 "CoauthorTextModel" "stamps" "[I", .fieldLink RX2 32 "CoauthorTextModel" "clocks" "[I", .fieldLink RX2 35 "CoauthorTextModel" "printed" "[I", .fieldLink RX2 38 "CoauthorTextModel" "advances" "[I", .arrayClass .long, .fieldLink RX2 41 "CoauthorTextModel" "paid" "[J", .fieldLink RX2 45 "CoauthorTextModel" "text" "[I", .fieldLink RX2 48 "CoauthorTextModel" "stack" "[I"] ++ wsX20)
def wsX2_thrown : List Cond := .code yX2_thrown cX2_thrown 1 (some .int) :: ([.fieldLink RX2 51 "CoauthorTextModel" "thrown" "I"] ++ wsX20)
def wsX2_goes : List Cond := .code yX2_goes cX2_goes 2 (some .boolean) :: ([.fieldLink RX2 51 "CoauthorTextModel" "thrown" "I"] ++ wsX20)
def wsX2_isIn : List Cond := .code yX2_isIn cX2_isIn 3 (some .boolean) :: ([])
def wsX2_isAuthor : List Cond := .code yX2_isAuthor cX2_isAuthor 1 (some .boolean) :: ([.methodLink RX2 55 yX2_isIn, .static yX2_isIn, .initialized RX2, .code yX2_isIn cX2_isIn 3 (some .boolean)])
def wsX2_isSign : List Cond := .code yX2_isSign cX2_isSign 2 (some .boolean) :: ([.fieldLink RX2 59 "CoauthorTextModel" "signs" "I", .methodLink RX2 55 yX2_isIn, .static yX2_isIn, .initialized RX2, .code yX2_isIn cX2_isIn 3 (some .boolean)] ++ wsX20)
def wsX2_isEdition : List Cond := .code yX2_isEdition cX2_isEdition 2 (some .boolean) :: ([.fieldLink RX2 62 "CoauthorTextModel" "editions" "I", .methodLink RX2 55 yX2_isIn, .static yX2_isIn, .initialized RX2, .code yX2_isIn cX2_isIn 3 (some .boolean)] ++ wsX20)
def wsX2_at : List Cond := .code yX2_at cX2_at 2 (some .int) :: ([])
def wsX2_key : List Cond := .code yX2_key cX2_key 2 (some .int) :: ([.fieldLink RX2 16 "CoauthorTextModel" "clocksOf" "[I", .fieldLink RX2 7 "CoauthorTextModel" "authors" "[I"] ++ wsX20)
def wsX2_puts : List Cond := .code yX2_puts cX2_puts 8 none :: ([.fieldLink RX2 59 "CoauthorTextModel" "signs" "I", .fieldLink RX2 22 "CoauthorTextModel" "knows" "[Z", .fieldLink RX2 19 "CoauthorTextModel" "behinds" "[I", .fieldLink RX2 48 "CoauthorTextModel" "stack" "[I", .fieldLink RX2 73 "CoauthorTextModel" "top" "I", .methodLink RX2 65 yX2_at, .static yX2_at, .initialized RX2, .code yX2_at cX2_at 2 (some .int), .methodLink RX2 69 yX2_key, .instanceMethod yX2_key, .selects RX2 yX2_key yX2_key, .code yX2_key cX2_key 2 (some .int), .fieldLink RX2 16 "CoauthorTextModel" "clocksOf" "[I", .fieldLink RX2 7 "CoauthorTextModel" "authors" "[I"] ++ wsX20)
def wsX2_laysText : List Cond := .code yX2_laysText cX2_laysText 3 none :: ([.fieldLink RX2 76 "CoauthorTextModel" "length" "I", .fieldLink RX2 73 "CoauthorTextModel" "top" "I", .fieldLink RX2 48 "CoauthorTextModel" "stack" "[I", .fieldLink RX2 26 "CoauthorTextModel" "isRemoved" "[Z", .fieldLink RX2 45 "CoauthorTextModel" "text" "[I", .methodLink RX2 79 yX2_puts, .instanceMethod yX2_puts, .selects RX2 yX2_puts yX2_puts, .initialized RX2, .code yX2_puts cX2_puts 8 none, .fieldLink RX2 59 "CoauthorTextModel" "signs" "I", .fieldLink RX2 22 "CoauthorTextModel" "knows" "[Z", .fieldLink RX2 19 "CoauthorTextModel" "behinds" "[I", .methodLink RX2 65 yX2_at, .static yX2_at, .code yX2_at cX2_at 2 (some .int), .methodLink RX2 69 yX2_key, .instanceMethod yX2_key, .selects RX2 yX2_key yX2_key, .code yX2_key cX2_key 2 (some .int), .fieldLink RX2 16 "CoauthorTextModel" "clocksOf" "[I", .fieldLink RX2 7 "CoauthorTextModel" "authors" "[I"] ++ wsX20)
def wsX2_stamp : List Cond := .code yX2_stamp cX2_stamp 2 (some .int) :: ([.fieldLink RX2 32 "CoauthorTextModel" "clocks" "[I"] ++ wsX20)
def wsX2_insert_r1 : List Cond := [Cond.fieldLink RX2 76 "CoauthorTextModel" "length" "I", Cond.fieldLink RX2 59 "CoauthorTextModel" "signs" "I", Cond.fieldLink RX2 7 "CoauthorTextModel" "authors" "[I", Cond.fieldLink RX2 13 "CoauthorTextModel" "letters" "[I", Cond.fieldLink RX2 16 "CoauthorTextModel" "clocksOf" "[I", Cond.fieldLink RX2 32 "CoauthorTextModel" "clocks" "[I", Cond.fieldLink RX2 19 "CoauthorTextModel" "behinds" "[I", Cond.fieldLink RX2 45 "CoauthorTextModel" "text" "[I", Cond.fieldLink RX2 22 "CoauthorTextModel" "knows" "[Z", Cond.methodLink RX2 83 yX2_isAuthor, Cond.static yX2_isAuthor, Cond.initialized RX2, Cond.code yX2_isAuthor cX2_isAuthor 1 (some .boolean), Cond.methodLink RX2 55 yX2_isIn, Cond.static yX2_isIn, Cond.code yX2_isIn cX2_isIn 3 (some .boolean), Cond.methodLink RX2 87 yX2_goes, Cond.instanceMethod yX2_goes, Cond.selects RX2 yX2_goes yX2_goes, Cond.code yX2_goes cX2_goes 2 (some .boolean), Cond.fieldLink RX2 51 "CoauthorTextModel" "thrown" "I", Cond.methodLink RX2 90 yX2_laysText, Cond.instanceMethod yX2_laysText, Cond.selects RX2 yX2_laysText yX2_laysText]
def wsX2_insert_r2 : List Cond := [Cond.code yX2_laysText cX2_laysText 3 none, Cond.fieldLink RX2 73 "CoauthorTextModel" "top" "I", Cond.fieldLink RX2 48 "CoauthorTextModel" "stack" "[I", Cond.fieldLink RX2 26 "CoauthorTextModel" "isRemoved" "[Z", Cond.methodLink RX2 79 yX2_puts, Cond.instanceMethod yX2_puts, Cond.selects RX2 yX2_puts yX2_puts, Cond.code yX2_puts cX2_puts 8 none, Cond.methodLink RX2 65 yX2_at, Cond.static yX2_at, Cond.code yX2_at cX2_at 2 (some .int), Cond.methodLink RX2 69 yX2_key, Cond.instanceMethod yX2_key, Cond.selects RX2 yX2_key yX2_key, Cond.code yX2_key cX2_key 2 (some .int), Cond.methodLink RX2 94 yX2_stamp, Cond.instanceMethod yX2_stamp, Cond.selects RX2 yX2_stamp yX2_stamp, Cond.code yX2_stamp cX2_stamp 2 (some .int)]
def wsX2_insert : List Cond := .code yX2_insert cX2_insert 4 (some .int) :: ((wsX2_insert_r1 ++ wsX2_insert_r2) ++ wsX20)
def wsX2_remove_r1 : List Cond := [Cond.fieldLink RX2 76 "CoauthorTextModel" "length" "I", Cond.fieldLink RX2 45 "CoauthorTextModel" "text" "[I", Cond.fieldLink RX2 26 "CoauthorTextModel" "isRemoved" "[Z", Cond.fieldLink RX2 29 "CoauthorTextModel" "stamps" "[I", Cond.methodLink RX2 83 yX2_isAuthor, Cond.static yX2_isAuthor, Cond.initialized RX2, Cond.code yX2_isAuthor cX2_isAuthor 1 (some .boolean), Cond.methodLink RX2 55 yX2_isIn, Cond.static yX2_isIn, Cond.code yX2_isIn cX2_isIn 3 (some .boolean), Cond.methodLink RX2 87 yX2_goes, Cond.instanceMethod yX2_goes, Cond.selects RX2 yX2_goes yX2_goes, Cond.code yX2_goes cX2_goes 2 (some .boolean), Cond.fieldLink RX2 51 "CoauthorTextModel" "thrown" "I", Cond.methodLink RX2 90 yX2_laysText, Cond.instanceMethod yX2_laysText, Cond.selects RX2 yX2_laysText yX2_laysText, Cond.code yX2_laysText cX2_laysText 3 none, Cond.fieldLink RX2 73 "CoauthorTextModel" "top" "I", Cond.fieldLink RX2 48 "CoauthorTextModel" "stack" "[I", Cond.methodLink RX2 79 yX2_puts, Cond.instanceMethod yX2_puts]
def wsX2_remove_r2 : List Cond := [Cond.selects RX2 yX2_puts yX2_puts, Cond.code yX2_puts cX2_puts 8 none, Cond.fieldLink RX2 59 "CoauthorTextModel" "signs" "I", Cond.fieldLink RX2 22 "CoauthorTextModel" "knows" "[Z", Cond.fieldLink RX2 19 "CoauthorTextModel" "behinds" "[I", Cond.methodLink RX2 65 yX2_at, Cond.static yX2_at, Cond.code yX2_at cX2_at 2 (some .int), Cond.methodLink RX2 69 yX2_key, Cond.instanceMethod yX2_key, Cond.selects RX2 yX2_key yX2_key, Cond.code yX2_key cX2_key 2 (some .int), Cond.fieldLink RX2 16 "CoauthorTextModel" "clocksOf" "[I", Cond.fieldLink RX2 7 "CoauthorTextModel" "authors" "[I", Cond.methodLink RX2 94 yX2_stamp, Cond.instanceMethod yX2_stamp, Cond.selects RX2 yX2_stamp yX2_stamp, Cond.code yX2_stamp cX2_stamp 2 (some .int), Cond.fieldLink RX2 32 "CoauthorTextModel" "clocks" "[I"]
def wsX2_remove : List Cond := .code yX2_remove cX2_remove 4 (some .int) :: ((wsX2_remove_r1 ++ wsX2_remove_r2) ++ wsX20)
def wsX2_placeOf : List Cond := .code yX2_placeOf cX2_placeOf 4 (some .int) :: ([.fieldLink RX2 76 "CoauthorTextModel" "length" "I", .fieldLink RX2 45 "CoauthorTextModel" "text" "[I"] ++ wsX20)
def wsX2_restore_r1 : List Cond := [Cond.fieldLink RX2 22 "CoauthorTextModel" "knows" "[Z", Cond.fieldLink RX2 26 "CoauthorTextModel" "isRemoved" "[Z", Cond.fieldLink RX2 29 "CoauthorTextModel" "stamps" "[I", Cond.methodLink RX2 97 yX2_isSign, Cond.instanceMethod yX2_isSign, Cond.selects RX2 yX2_isSign yX2_isSign, Cond.initialized RX2, Cond.code yX2_isSign cX2_isSign 2 (some .boolean), Cond.fieldLink RX2 59 "CoauthorTextModel" "signs" "I", Cond.methodLink RX2 55 yX2_isIn, Cond.static yX2_isIn, Cond.code yX2_isIn cX2_isIn 3 (some .boolean), Cond.methodLink RX2 83 yX2_isAuthor, Cond.static yX2_isAuthor, Cond.code yX2_isAuthor cX2_isAuthor 1 (some .boolean), Cond.methodLink RX2 65 yX2_at, Cond.static yX2_at, Cond.code yX2_at cX2_at 2 (some .int), Cond.methodLink RX2 87 yX2_goes, Cond.instanceMethod yX2_goes, Cond.selects RX2 yX2_goes yX2_goes, Cond.code yX2_goes cX2_goes 2 (some .boolean), Cond.fieldLink RX2 51 "CoauthorTextModel" "thrown" "I", Cond.methodLink RX2 94 yX2_stamp]
def wsX2_restore_r2 : List Cond := [Cond.instanceMethod yX2_stamp, Cond.selects RX2 yX2_stamp yX2_stamp, Cond.code yX2_stamp cX2_stamp 2 (some .int), Cond.fieldLink RX2 32 "CoauthorTextModel" "clocks" "[I", Cond.methodLink RX2 90 yX2_laysText, Cond.instanceMethod yX2_laysText, Cond.selects RX2 yX2_laysText yX2_laysText, Cond.code yX2_laysText cX2_laysText 3 none, Cond.fieldLink RX2 76 "CoauthorTextModel" "length" "I", Cond.fieldLink RX2 73 "CoauthorTextModel" "top" "I", Cond.fieldLink RX2 48 "CoauthorTextModel" "stack" "[I", Cond.fieldLink RX2 45 "CoauthorTextModel" "text" "[I", Cond.methodLink RX2 79 yX2_puts, Cond.instanceMethod yX2_puts, Cond.selects RX2 yX2_puts yX2_puts, Cond.code yX2_puts cX2_puts 8 none, Cond.fieldLink RX2 19 "CoauthorTextModel" "behinds" "[I", Cond.methodLink RX2 69 yX2_key, Cond.instanceMethod yX2_key, Cond.selects RX2 yX2_key yX2_key, Cond.code yX2_key cX2_key 2 (some .int), Cond.fieldLink RX2 16 "CoauthorTextModel" "clocksOf" "[I", Cond.fieldLink RX2 7 "CoauthorTextModel" "authors" "[I", Cond.methodLink RX2 100 yX2_placeOf]
def wsX2_restore_r3 : List Cond := [Cond.instanceMethod yX2_placeOf, Cond.selects RX2 yX2_placeOf yX2_placeOf, Cond.code yX2_placeOf cX2_placeOf 4 (some .int)]
def wsX2_restore : List Cond := .code yX2_restore cX2_restore 3 (some .int) :: ((wsX2_restore_r1 ++ (wsX2_restore_r2 ++ wsX2_restore_r3)) ++ wsX20)
def wsX2_learn : List Cond := .code yX2_learn cX2_learn 7 (some .int) :: ([.fieldLink RX2 59 "CoauthorTextModel" "signs" "I", .fieldLink RX2 22 "CoauthorTextModel" "knows" "[Z", .fieldLink RX2 29 "CoauthorTextModel" "stamps" "[I", .fieldLink RX2 26 "CoauthorTextModel" "isRemoved" "[Z", .fieldLink RX2 32 "CoauthorTextModel" "clocks" "[I", .methodLink RX2 83 yX2_isAuthor, .static yX2_isAuthor, .initialized RX2, .code yX2_isAuthor cX2_isAuthor 1 (some .boolean), .methodLink RX2 55 yX2_isIn, .static yX2_isIn, .code yX2_isIn cX2_isIn 3 (some .boolean), .methodLink RX2 87 yX2_goes, .instanceMethod yX2_goes, .selects RX2 yX2_goes yX2_goes, .code yX2_goes cX2_goes 2 (some .boolean), .fieldLink RX2 51 "CoauthorTextModel" "thrown" "I", .methodLink RX2 65 yX2_at, .static yX2_at, .code yX2_at cX2_at 2 (some .int)] ++ wsX20)
def wsX2_asks : List Cond := .code yX2_asks cX2_asks 2 (some .boolean) :: ([.methodLink RX2 83 yX2_isAuthor, .static yX2_isAuthor, .initialized RX2, .code yX2_isAuthor cX2_isAuthor 1 (some .boolean), .methodLink RX2 55 yX2_isIn, .static yX2_isIn, .code yX2_isIn cX2_isIn 3 (some .boolean), .methodLink RX2 87 yX2_goes, .instanceMethod yX2_goes, .selects RX2 yX2_goes yX2_goes, .code yX2_goes cX2_goes 2 (some .boolean), .fieldLink RX2 51 "CoauthorTextModel" "thrown" "I"] ++ wsX20)
def wsX2_length_r1 : List Cond := [Cond.fieldLink RX2 76 "CoauthorTextModel" "length" "I", Cond.methodLink RX2 103 yX2_asks, Cond.instanceMethod yX2_asks, Cond.selects RX2 yX2_asks yX2_asks, Cond.initialized RX2, Cond.code yX2_asks cX2_asks 2 (some .boolean), Cond.methodLink RX2 83 yX2_isAuthor, Cond.static yX2_isAuthor, Cond.code yX2_isAuthor cX2_isAuthor 1 (some .boolean), Cond.methodLink RX2 55 yX2_isIn, Cond.static yX2_isIn, Cond.code yX2_isIn cX2_isIn 3 (some .boolean), Cond.methodLink RX2 87 yX2_goes, Cond.instanceMethod yX2_goes, Cond.selects RX2 yX2_goes yX2_goes, Cond.code yX2_goes cX2_goes 2 (some .boolean), Cond.fieldLink RX2 51 "CoauthorTextModel" "thrown" "I", Cond.methodLink RX2 90 yX2_laysText, Cond.instanceMethod yX2_laysText, Cond.selects RX2 yX2_laysText yX2_laysText, Cond.code yX2_laysText cX2_laysText 3 none, Cond.fieldLink RX2 73 "CoauthorTextModel" "top" "I", Cond.fieldLink RX2 48 "CoauthorTextModel" "stack" "[I", Cond.fieldLink RX2 26 "CoauthorTextModel" "isRemoved" "[Z"]
def wsX2_length_r2 : List Cond := [Cond.fieldLink RX2 45 "CoauthorTextModel" "text" "[I", Cond.methodLink RX2 79 yX2_puts, Cond.instanceMethod yX2_puts, Cond.selects RX2 yX2_puts yX2_puts, Cond.code yX2_puts cX2_puts 8 none, Cond.fieldLink RX2 59 "CoauthorTextModel" "signs" "I", Cond.fieldLink RX2 22 "CoauthorTextModel" "knows" "[Z", Cond.fieldLink RX2 19 "CoauthorTextModel" "behinds" "[I", Cond.methodLink RX2 65 yX2_at, Cond.static yX2_at, Cond.code yX2_at cX2_at 2 (some .int), Cond.methodLink RX2 69 yX2_key, Cond.instanceMethod yX2_key, Cond.selects RX2 yX2_key yX2_key, Cond.code yX2_key cX2_key 2 (some .int), Cond.fieldLink RX2 16 "CoauthorTextModel" "clocksOf" "[I", Cond.fieldLink RX2 7 "CoauthorTextModel" "authors" "[I"]
def wsX2_length : List Cond := .code yX2_length cX2_length 2 (some .int) :: ((wsX2_length_r1 ++ wsX2_length_r2) ++ wsX20)
def wsX2_asksPlace_r1 : List Cond := [Cond.fieldLink RX2 76 "CoauthorTextModel" "length" "I", Cond.methodLink RX2 103 yX2_asks, Cond.instanceMethod yX2_asks, Cond.selects RX2 yX2_asks yX2_asks, Cond.initialized RX2, Cond.code yX2_asks cX2_asks 2 (some .boolean), Cond.methodLink RX2 83 yX2_isAuthor, Cond.static yX2_isAuthor, Cond.code yX2_isAuthor cX2_isAuthor 1 (some .boolean), Cond.methodLink RX2 55 yX2_isIn, Cond.static yX2_isIn, Cond.code yX2_isIn cX2_isIn 3 (some .boolean), Cond.methodLink RX2 87 yX2_goes, Cond.instanceMethod yX2_goes, Cond.selects RX2 yX2_goes yX2_goes, Cond.code yX2_goes cX2_goes 2 (some .boolean), Cond.fieldLink RX2 51 "CoauthorTextModel" "thrown" "I", Cond.methodLink RX2 90 yX2_laysText, Cond.instanceMethod yX2_laysText, Cond.selects RX2 yX2_laysText yX2_laysText, Cond.code yX2_laysText cX2_laysText 3 none, Cond.fieldLink RX2 73 "CoauthorTextModel" "top" "I", Cond.fieldLink RX2 48 "CoauthorTextModel" "stack" "[I", Cond.fieldLink RX2 26 "CoauthorTextModel" "isRemoved" "[Z"]
def wsX2_asksPlace_r2 : List Cond := [Cond.fieldLink RX2 45 "CoauthorTextModel" "text" "[I", Cond.methodLink RX2 79 yX2_puts, Cond.instanceMethod yX2_puts, Cond.selects RX2 yX2_puts yX2_puts, Cond.code yX2_puts cX2_puts 8 none, Cond.fieldLink RX2 59 "CoauthorTextModel" "signs" "I", Cond.fieldLink RX2 22 "CoauthorTextModel" "knows" "[Z", Cond.fieldLink RX2 19 "CoauthorTextModel" "behinds" "[I", Cond.methodLink RX2 65 yX2_at, Cond.static yX2_at, Cond.code yX2_at cX2_at 2 (some .int), Cond.methodLink RX2 69 yX2_key, Cond.instanceMethod yX2_key, Cond.selects RX2 yX2_key yX2_key, Cond.code yX2_key cX2_key 2 (some .int), Cond.fieldLink RX2 16 "CoauthorTextModel" "clocksOf" "[I", Cond.fieldLink RX2 7 "CoauthorTextModel" "authors" "[I"]
def wsX2_asksPlace : List Cond := .code yX2_asksPlace cX2_asksPlace 3 (some .boolean) :: ((wsX2_asksPlace_r1 ++ wsX2_asksPlace_r2) ++ wsX20)
def wsX2_signAt_r1 : List Cond := [Cond.fieldLink RX2 45 "CoauthorTextModel" "text" "[I", Cond.methodLink RX2 106 yX2_asksPlace, Cond.instanceMethod yX2_asksPlace, Cond.selects RX2 yX2_asksPlace yX2_asksPlace, Cond.initialized RX2, Cond.code yX2_asksPlace cX2_asksPlace 3 (some .boolean), Cond.fieldLink RX2 76 "CoauthorTextModel" "length" "I", Cond.methodLink RX2 103 yX2_asks, Cond.instanceMethod yX2_asks, Cond.selects RX2 yX2_asks yX2_asks, Cond.code yX2_asks cX2_asks 2 (some .boolean), Cond.methodLink RX2 83 yX2_isAuthor, Cond.static yX2_isAuthor, Cond.code yX2_isAuthor cX2_isAuthor 1 (some .boolean), Cond.methodLink RX2 55 yX2_isIn, Cond.static yX2_isIn, Cond.code yX2_isIn cX2_isIn 3 (some .boolean), Cond.methodLink RX2 87 yX2_goes, Cond.instanceMethod yX2_goes, Cond.selects RX2 yX2_goes yX2_goes, Cond.code yX2_goes cX2_goes 2 (some .boolean), Cond.fieldLink RX2 51 "CoauthorTextModel" "thrown" "I", Cond.methodLink RX2 90 yX2_laysText, Cond.instanceMethod yX2_laysText]
def wsX2_signAt_r2 : List Cond := [Cond.selects RX2 yX2_laysText yX2_laysText, Cond.code yX2_laysText cX2_laysText 3 none, Cond.fieldLink RX2 73 "CoauthorTextModel" "top" "I", Cond.fieldLink RX2 48 "CoauthorTextModel" "stack" "[I", Cond.fieldLink RX2 26 "CoauthorTextModel" "isRemoved" "[Z", Cond.methodLink RX2 79 yX2_puts, Cond.instanceMethod yX2_puts, Cond.selects RX2 yX2_puts yX2_puts, Cond.code yX2_puts cX2_puts 8 none, Cond.fieldLink RX2 59 "CoauthorTextModel" "signs" "I", Cond.fieldLink RX2 22 "CoauthorTextModel" "knows" "[Z", Cond.fieldLink RX2 19 "CoauthorTextModel" "behinds" "[I", Cond.methodLink RX2 65 yX2_at, Cond.static yX2_at, Cond.code yX2_at cX2_at 2 (some .int), Cond.methodLink RX2 69 yX2_key, Cond.instanceMethod yX2_key, Cond.selects RX2 yX2_key yX2_key, Cond.code yX2_key cX2_key 2 (some .int), Cond.fieldLink RX2 16 "CoauthorTextModel" "clocksOf" "[I", Cond.fieldLink RX2 7 "CoauthorTextModel" "authors" "[I"]
def wsX2_signAt : List Cond := .code yX2_signAt cX2_signAt 3 (some .int) :: ((wsX2_signAt_r1 ++ wsX2_signAt_r2) ++ wsX20)
def wsX2_letterAt_r1 : List Cond := [Cond.fieldLink RX2 13 "CoauthorTextModel" "letters" "[I", Cond.fieldLink RX2 45 "CoauthorTextModel" "text" "[I", Cond.methodLink RX2 106 yX2_asksPlace, Cond.instanceMethod yX2_asksPlace, Cond.selects RX2 yX2_asksPlace yX2_asksPlace, Cond.initialized RX2, Cond.code yX2_asksPlace cX2_asksPlace 3 (some .boolean), Cond.fieldLink RX2 76 "CoauthorTextModel" "length" "I", Cond.methodLink RX2 103 yX2_asks, Cond.instanceMethod yX2_asks, Cond.selects RX2 yX2_asks yX2_asks, Cond.code yX2_asks cX2_asks 2 (some .boolean), Cond.methodLink RX2 83 yX2_isAuthor, Cond.static yX2_isAuthor, Cond.code yX2_isAuthor cX2_isAuthor 1 (some .boolean), Cond.methodLink RX2 55 yX2_isIn, Cond.static yX2_isIn, Cond.code yX2_isIn cX2_isIn 3 (some .boolean), Cond.methodLink RX2 87 yX2_goes, Cond.instanceMethod yX2_goes, Cond.selects RX2 yX2_goes yX2_goes, Cond.code yX2_goes cX2_goes 2 (some .boolean), Cond.fieldLink RX2 51 "CoauthorTextModel" "thrown" "I", Cond.methodLink RX2 90 yX2_laysText]
def wsX2_letterAt_r2 : List Cond := [Cond.instanceMethod yX2_laysText, Cond.selects RX2 yX2_laysText yX2_laysText, Cond.code yX2_laysText cX2_laysText 3 none, Cond.fieldLink RX2 73 "CoauthorTextModel" "top" "I", Cond.fieldLink RX2 48 "CoauthorTextModel" "stack" "[I", Cond.fieldLink RX2 26 "CoauthorTextModel" "isRemoved" "[Z", Cond.methodLink RX2 79 yX2_puts, Cond.instanceMethod yX2_puts, Cond.selects RX2 yX2_puts yX2_puts, Cond.code yX2_puts cX2_puts 8 none, Cond.fieldLink RX2 59 "CoauthorTextModel" "signs" "I", Cond.fieldLink RX2 22 "CoauthorTextModel" "knows" "[Z", Cond.fieldLink RX2 19 "CoauthorTextModel" "behinds" "[I", Cond.methodLink RX2 65 yX2_at, Cond.static yX2_at, Cond.code yX2_at cX2_at 2 (some .int), Cond.methodLink RX2 69 yX2_key, Cond.instanceMethod yX2_key, Cond.selects RX2 yX2_key yX2_key, Cond.code yX2_key cX2_key 2 (some .int), Cond.fieldLink RX2 16 "CoauthorTextModel" "clocksOf" "[I", Cond.fieldLink RX2 7 "CoauthorTextModel" "authors" "[I"]
def wsX2_letterAt : List Cond := .code yX2_letterAt cX2_letterAt 3 (some .int) :: ((wsX2_letterAt_r1 ++ wsX2_letterAt_r2) ++ wsX20)
def wsX2_areAlike : List Cond := .code yX2_areAlike cX2_areAlike 7 (some .boolean) :: ([.fieldLink RX2 59 "CoauthorTextModel" "signs" "I", .fieldLink RX2 22 "CoauthorTextModel" "knows" "[Z", .fieldLink RX2 26 "CoauthorTextModel" "isRemoved" "[Z", .methodLink RX2 83 yX2_isAuthor, .static yX2_isAuthor, .initialized RX2, .code yX2_isAuthor cX2_isAuthor 1 (some .boolean), .methodLink RX2 55 yX2_isIn, .static yX2_isIn, .code yX2_isIn cX2_isIn 3 (some .boolean), .methodLink RX2 87 yX2_goes, .instanceMethod yX2_goes, .selects RX2 yX2_goes yX2_goes, .code yX2_goes cX2_goes 2 (some .boolean), .fieldLink RX2 51 "CoauthorTextModel" "thrown" "I", .methodLink RX2 65 yX2_at, .static yX2_at, .code yX2_at cX2_at 2 (some .int)] ++ wsX20)
def wsX2_signs : List Cond := .code yX2_signs cX2_signs 1 (some .int) :: ([.fieldLink RX2 51 "CoauthorTextModel" "thrown" "I", .fieldLink RX2 59 "CoauthorTextModel" "signs" "I"] ++ wsX20)
def wsX2_authorOf : List Cond := .code yX2_authorOf cX2_authorOf 2 (some .int) :: ([.fieldLink RX2 7 "CoauthorTextModel" "authors" "[I", .methodLink RX2 97 yX2_isSign, .instanceMethod yX2_isSign, .selects RX2 yX2_isSign yX2_isSign, .initialized RX2, .code yX2_isSign cX2_isSign 2 (some .boolean), .fieldLink RX2 59 "CoauthorTextModel" "signs" "I", .methodLink RX2 55 yX2_isIn, .static yX2_isIn, .code yX2_isIn cX2_isIn 3 (some .boolean), .methodLink RX2 87 yX2_goes, .instanceMethod yX2_goes, .selects RX2 yX2_goes yX2_goes, .code yX2_goes cX2_goes 2 (some .boolean), .fieldLink RX2 51 "CoauthorTextModel" "thrown" "I"] ++ wsX20)
def wsX2_behind : List Cond := .code yX2_behind cX2_behind 2 (some .int) :: ([.fieldLink RX2 19 "CoauthorTextModel" "behinds" "[I", .methodLink RX2 97 yX2_isSign, .instanceMethod yX2_isSign, .selects RX2 yX2_isSign yX2_isSign, .initialized RX2, .code yX2_isSign cX2_isSign 2 (some .boolean), .fieldLink RX2 59 "CoauthorTextModel" "signs" "I", .methodLink RX2 55 yX2_isIn, .static yX2_isIn, .code yX2_isIn cX2_isIn 3 (some .boolean), .methodLink RX2 87 yX2_goes, .instanceMethod yX2_goes, .selects RX2 yX2_goes yX2_goes, .code yX2_goes cX2_goes 2 (some .boolean), .fieldLink RX2 51 "CoauthorTextModel" "thrown" "I"] ++ wsX20)
def wsX2_clock : List Cond := .code yX2_clock cX2_clock 2 (some .int) :: ([.fieldLink RX2 32 "CoauthorTextModel" "clocks" "[I", .methodLink RX2 103 yX2_asks, .instanceMethod yX2_asks, .selects RX2 yX2_asks yX2_asks, .initialized RX2, .code yX2_asks cX2_asks 2 (some .boolean), .methodLink RX2 83 yX2_isAuthor, .static yX2_isAuthor, .code yX2_isAuthor cX2_isAuthor 1 (some .boolean), .methodLink RX2 55 yX2_isIn, .static yX2_isIn, .code yX2_isIn cX2_isIn 3 (some .boolean), .methodLink RX2 87 yX2_goes, .instanceMethod yX2_goes, .selects RX2 yX2_goes yX2_goes, .code yX2_goes cX2_goes 2 (some .boolean), .fieldLink RX2 51 "CoauthorTextModel" "thrown" "I"] ++ wsX20)
def wsX2_print_r1 : List Cond := [Cond.fieldLink RX2 76 "CoauthorTextModel" "length" "I", Cond.fieldLink RX2 62 "CoauthorTextModel" "editions" "I", Cond.fieldLink RX2 35 "CoauthorTextModel" "printed" "[I", Cond.fieldLink RX2 7 "CoauthorTextModel" "authors" "[I", Cond.fieldLink RX2 45 "CoauthorTextModel" "text" "[I", Cond.methodLink RX2 103 yX2_asks, Cond.instanceMethod yX2_asks, Cond.selects RX2 yX2_asks yX2_asks, Cond.initialized RX2, Cond.code yX2_asks cX2_asks 2 (some .boolean), Cond.methodLink RX2 83 yX2_isAuthor, Cond.static yX2_isAuthor, Cond.code yX2_isAuthor cX2_isAuthor 1 (some .boolean), Cond.methodLink RX2 55 yX2_isIn, Cond.static yX2_isIn, Cond.code yX2_isIn cX2_isIn 3 (some .boolean), Cond.methodLink RX2 87 yX2_goes, Cond.instanceMethod yX2_goes, Cond.selects RX2 yX2_goes yX2_goes, Cond.code yX2_goes cX2_goes 2 (some .boolean), Cond.fieldLink RX2 51 "CoauthorTextModel" "thrown" "I", Cond.methodLink RX2 90 yX2_laysText, Cond.instanceMethod yX2_laysText, Cond.selects RX2 yX2_laysText yX2_laysText]
def wsX2_print_r2 : List Cond := [Cond.code yX2_laysText cX2_laysText 3 none, Cond.fieldLink RX2 73 "CoauthorTextModel" "top" "I", Cond.fieldLink RX2 48 "CoauthorTextModel" "stack" "[I", Cond.fieldLink RX2 26 "CoauthorTextModel" "isRemoved" "[Z", Cond.methodLink RX2 79 yX2_puts, Cond.instanceMethod yX2_puts, Cond.selects RX2 yX2_puts yX2_puts, Cond.code yX2_puts cX2_puts 8 none, Cond.fieldLink RX2 59 "CoauthorTextModel" "signs" "I", Cond.fieldLink RX2 22 "CoauthorTextModel" "knows" "[Z", Cond.fieldLink RX2 19 "CoauthorTextModel" "behinds" "[I", Cond.methodLink RX2 65 yX2_at, Cond.static yX2_at, Cond.code yX2_at cX2_at 2 (some .int), Cond.methodLink RX2 69 yX2_key, Cond.instanceMethod yX2_key, Cond.selects RX2 yX2_key yX2_key, Cond.code yX2_key cX2_key 2 (some .int), Cond.fieldLink RX2 16 "CoauthorTextModel" "clocksOf" "[I"]
def wsX2_print : List Cond := .code yX2_print cX2_print 3 (some .int) :: ((wsX2_print_r1 ++ wsX2_print_r2) ++ wsX20)
def wsX2_printed : List Cond := .code yX2_printed cX2_printed 3 (some .int) :: ([.fieldLink RX2 35 "CoauthorTextModel" "printed" "[I", .methodLink RX2 110 yX2_isEdition, .instanceMethod yX2_isEdition, .selects RX2 yX2_isEdition yX2_isEdition, .initialized RX2, .code yX2_isEdition cX2_isEdition 2 (some .boolean), .fieldLink RX2 62 "CoauthorTextModel" "editions" "I", .methodLink RX2 55 yX2_isIn, .static yX2_isIn, .code yX2_isIn cX2_isIn 3 (some .boolean), .methodLink RX2 83 yX2_isAuthor, .static yX2_isAuthor, .code yX2_isAuthor cX2_isAuthor 1 (some .boolean), .methodLink RX2 87 yX2_goes, .instanceMethod yX2_goes, .selects RX2 yX2_goes yX2_goes, .code yX2_goes cX2_goes 2 (some .boolean), .fieldLink RX2 51 "CoauthorTextModel" "thrown" "I"] ++ wsX20)
def wsX2_setFloor : List Cond := .code yX2_setFloor cX2_setFloor 3 (some .int) :: ([.fieldLink RX2 113 "CoauthorTextModel" "floor" "I", .methodLink RX2 55 yX2_isIn, .static yX2_isIn, .initialized RX2, .code yX2_isIn cX2_isIn 3 (some .boolean), .methodLink RX2 87 yX2_goes, .instanceMethod yX2_goes, .selects RX2 yX2_goes yX2_goes, .code yX2_goes cX2_goes 2 (some .boolean), .fieldLink RX2 51 "CoauthorTextModel" "thrown" "I"] ++ wsX20)
def wsX2_advance : List Cond := .code yX2_advance cX2_advance 3 (some .int) :: ([.constant RX2 116 (100000), .fieldLink RX2 38 "CoauthorTextModel" "advances" "[I", .methodLink RX2 83 yX2_isAuthor, .static yX2_isAuthor, .initialized RX2, .code yX2_isAuthor cX2_isAuthor 1 (some .boolean), .methodLink RX2 55 yX2_isIn, .static yX2_isIn, .code yX2_isIn cX2_isIn 3 (some .boolean), .methodLink RX2 87 yX2_goes, .instanceMethod yX2_goes, .selects RX2 yX2_goes yX2_goes, .code yX2_goes cX2_goes 2 (some .boolean), .fieldLink RX2 51 "CoauthorTextModel" "thrown" "I"] ++ wsX20)
def wsX2_sell : List Cond := .code yX2_sell cX2_sell 12 (some .int) :: ([.constant RX2 117 (1000000), .fieldLink RX2 35 "CoauthorTextModel" "printed" "[I", .fieldLink RX2 113 "CoauthorTextModel" "floor" "I", .fieldLink RX2 38 "CoauthorTextModel" "advances" "[I", .fieldLink RX2 41 "CoauthorTextModel" "paid" "[J", .methodLink RX2 110 yX2_isEdition, .instanceMethod yX2_isEdition, .selects RX2 yX2_isEdition yX2_isEdition, .initialized RX2, .code yX2_isEdition cX2_isEdition 2 (some .boolean), .fieldLink RX2 62 "CoauthorTextModel" "editions" "I", .methodLink RX2 55 yX2_isIn, .static yX2_isIn, .code yX2_isIn cX2_isIn 3 (some .boolean), .methodLink RX2 87 yX2_goes, .instanceMethod yX2_goes, .selects RX2 yX2_goes yX2_goes, .code yX2_goes cX2_goes 2 (some .boolean), .fieldLink RX2 51 "CoauthorTextModel" "thrown" "I"] ++ wsX20)
def wsX2_paid : List Cond := .code yX2_paid cX2_paid 2 (some .long) :: ([.fieldLink RX2 41 "CoauthorTextModel" "paid" "[J", .methodLink RX2 103 yX2_asks, .instanceMethod yX2_asks, .selects RX2 yX2_asks yX2_asks, .initialized RX2, .code yX2_asks cX2_asks 2 (some .boolean), .methodLink RX2 83 yX2_isAuthor, .static yX2_isAuthor, .code yX2_isAuthor cX2_isAuthor 1 (some .boolean), .methodLink RX2 55 yX2_isIn, .static yX2_isIn, .code yX2_isIn cX2_isIn 3 (some .boolean), .methodLink RX2 87 yX2_goes, .instanceMethod yX2_goes, .selects RX2 yX2_goes yX2_goes, .code yX2_goes cX2_goes 2 (some .boolean), .fieldLink RX2 51 "CoauthorTextModel" "thrown" "I"] ++ wsX20)
def wsX2_left : List Cond := .code yX2_left cX2_left 2 (some .int) :: ([.fieldLink RX2 38 "CoauthorTextModel" "advances" "[I", .methodLink RX2 103 yX2_asks, .instanceMethod yX2_asks, .selects RX2 yX2_asks yX2_asks, .initialized RX2, .code yX2_asks cX2_asks 2 (some .boolean), .methodLink RX2 83 yX2_isAuthor, .static yX2_isAuthor, .code yX2_isAuthor cX2_isAuthor 1 (some .boolean), .methodLink RX2 55 yX2_isIn, .static yX2_isIn, .code yX2_isIn cX2_isIn 3 (some .boolean), .methodLink RX2 87 yX2_goes, .instanceMethod yX2_goes, .selects RX2 yX2_goes yX2_goes, .code yX2_goes cX2_goes 2 (some .boolean), .fieldLink RX2 51 "CoauthorTextModel" "thrown" "I"] ++ wsX20)
def wsJ9_max_7cf53 : List Cond := .code yJ9_max_7cf53 cJ9_max_7cf53 2 (some .int) :: ([])
def wsJ9_min_7cf53 : List Cond := .code yJ9_min_7cf53 cJ9_min_7cf53 2 (some .int) :: ([])
def wsL_insert_r1 : List Cond := [Cond.classLink RL 13 "java/lang/IllegalArgumentException", Cond.classLink RL 15 "java/lang/IndexOutOfBoundsException", Cond.classLink RL 17 "java/lang/IllegalStateException", Cond.methodLink RL 7 yX1_insert, Cond.instanceMethod yX1_insert, Cond.selects RX1 yX1_insert yX1_insert, Cond.initialized RX1, Cond.code yX1_insert cX1_insert 6 (some .int), Cond.classLink RX1 53 "java/lang/IndexOutOfBoundsException", Cond.initialized "java/lang/IndexOutOfBoundsException", Cond.classLink RX1 64 "java/lang/IllegalStateException", Cond.initialized "java/lang/IllegalStateException", Cond.fieldLink RX1 15 "CoauthorText" "signCount" "I", Cond.classLink RX1 9 RX0, Cond.instantiable RX0 8, Cond.initialized RX0, Cond.fieldLink RX1 11 "CoauthorText" "signsByNumber" "[LCoauthorText$Sign;", Cond.methodLink RX1 45 yX1_checkAuthor, Cond.static yX1_checkAuthor, Cond.code yX1_checkAuthor cX1_checkAuthor 1 none, Cond.methodLink RX1 49 yX1_checkRange, Cond.static yX1_checkRange, Cond.code yX1_checkRange cX1_checkRange 3 none, Cond.classLink RX1 101 "java/lang/IllegalArgumentException"]
def wsL_insert_r2 : List Cond := [Cond.initialized "java/lang/IllegalArgumentException", Cond.methodLink RX1 60 yX1_findAtPlace, Cond.instanceMethod yX1_findAtPlace, Cond.selects RX1 yX1_findAtPlace yX1_findAtPlace, Cond.code yX1_findAtPlace cX1_findAtPlace 5 (some (.object "CoauthorText$Sign")), Cond.fieldLink RX1 19 "CoauthorText" "firstInOrder" "LCoauthorText$Sign;", Cond.instanceMethod yX0_isInTextOf, Cond.selects RX0 yX0_isInTextOf yX0_isInTextOf, Cond.code yX0_isInTextOf cX0_isInTextOf 2 (some .boolean), Cond.fieldLink RX0 19 "CoauthorText$Sign" "removedInCopies" "[Z", Cond.methodLink RX0 39 yX0_isKnownIn, Cond.instanceMethod yX0_isKnownIn, Cond.selects RX0 yX0_isKnownIn yX0_isKnownIn, Cond.code yX0_isKnownIn cX0_isKnownIn 2 (some .boolean), Cond.fieldLink RX0 15 "CoauthorText$Sign" "stampsInCopies" "[I", Cond.methodLink RX1 69 yX1_nextStamp, Cond.instanceMethod yX1_nextStamp, Cond.selects RX1 yX1_nextStamp yX1_nextStamp, Cond.code yX1_nextStamp cX1_nextStamp 2 (some .int), Cond.fieldLink RX1 23 "CoauthorText" "clocks" "[I", Cond.instanceMethod yX0_init, Cond.code yX0_init cX0_init 7 none, Cond.methodLink RX0 3 objectInit, Cond.instanceMethod objectInit]
def wsL_insert_r3 : List Cond := [Cond.code objectInit ⟨#[0xb1]⟩ 1 none, Cond.fieldLink RX0 9 "CoauthorText$Sign" "next" "LCoauthorText$Sign;", Cond.arrayClass .int, Cond.arrayClass .boolean, Cond.fieldLink RX0 23 "CoauthorText$Sign" "number" "I", Cond.fieldLink RX0 27 "CoauthorText$Sign" "author" "I", Cond.fieldLink RX0 30 "CoauthorText$Sign" "letter" "I", Cond.fieldLink RX0 33 "CoauthorText$Sign" "stamp" "I", Cond.fieldLink RX0 36 "CoauthorText$Sign" "ahead" "LCoauthorText$Sign;", Cond.methodLink RX1 76 yX1_putInOrder, Cond.instanceMethod yX1_putInOrder, Cond.selects RX1 yX1_putInOrder yX1_putInOrder, Cond.code yX1_putInOrder cX1_putInOrder 4 none]
def wsL_insert : List Cond := .codeWith yL_insert cL_insert 6 (some .int) [(0, 12, 15, 13), (0, 12, 19, 15), (0, 12, 23, 17)] :: ((wsL_insert_r1 ++ (wsL_insert_r2 ++ wsL_insert_r3)) ++ wsX10 ++ wsX00 ++ (vx_atS RX1 57 "java/lang/IndexOutOfBoundsException" ["java/lang/RuntimeException", "java/lang/Exception"]).filter goodWord ++ (vx_atS RX1 68 "java/lang/IllegalStateException" ["java/lang/RuntimeException", "java/lang/Exception"]).filter goodWord ++ (vx_atS RX1 105 "java/lang/IllegalArgumentException" ["java/lang/RuntimeException", "java/lang/Exception"]).filter goodWord)
def wsL_remove_r1 : List Cond := [Cond.classLink RL 13 "java/lang/IllegalArgumentException", Cond.classLink RL 15 "java/lang/IndexOutOfBoundsException", Cond.methodLink RL 19 yX1_remove, Cond.instanceMethod yX1_remove, Cond.selects RX1 yX1_remove yX1_remove, Cond.initialized RX1, Cond.code yX1_remove cX1_remove 4 (some .int), Cond.methodLink RX1 45 yX1_checkAuthor, Cond.static yX1_checkAuthor, Cond.code yX1_checkAuthor cX1_checkAuthor 1 none, Cond.methodLink RX1 49 yX1_checkRange, Cond.static yX1_checkRange, Cond.code yX1_checkRange cX1_checkRange 3 none, Cond.classLink RX1 101 "java/lang/IllegalArgumentException", Cond.initialized "java/lang/IllegalArgumentException", Cond.methodLink RX1 60 yX1_findAtPlace, Cond.instanceMethod yX1_findAtPlace, Cond.selects RX1 yX1_findAtPlace yX1_findAtPlace, Cond.code yX1_findAtPlace cX1_findAtPlace 5 (some (.object "CoauthorText$Sign")), Cond.classLink RX1 53 "java/lang/IndexOutOfBoundsException", Cond.initialized "java/lang/IndexOutOfBoundsException", Cond.fieldLink RX1 19 "CoauthorText" "firstInOrder" "LCoauthorText$Sign;", Cond.instanceMethod yX0_isInTextOf, Cond.initialized RX0]
def wsL_remove_r2 : List Cond := [Cond.selects RX0 yX0_isInTextOf yX0_isInTextOf, Cond.code yX0_isInTextOf cX0_isInTextOf 2 (some .boolean), Cond.fieldLink RX0 19 "CoauthorText$Sign" "removedInCopies" "[Z", Cond.methodLink RX0 39 yX0_isKnownIn, Cond.instanceMethod yX0_isKnownIn, Cond.selects RX0 yX0_isKnownIn yX0_isKnownIn, Cond.code yX0_isKnownIn cX0_isKnownIn 2 (some .boolean), Cond.fieldLink RX0 15 "CoauthorText$Sign" "stampsInCopies" "[I", Cond.methodLink RX1 69 yX1_nextStamp, Cond.instanceMethod yX1_nextStamp, Cond.selects RX1 yX1_nextStamp yX1_nextStamp, Cond.code yX1_nextStamp cX1_nextStamp 2 (some .int), Cond.fieldLink RX1 23 "CoauthorText" "clocks" "[I", Cond.instanceMethod yX0_setRemoved, Cond.selects RX0 yX0_setRemoved yX0_setRemoved, Cond.code yX0_setRemoved cX0_setRemoved 4 none]
def wsL_remove : List Cond := .codeWith yL_remove cL_remove 5 (some .int) [(0, 10, 13, 13), (0, 10, 17, 15)] :: ((wsL_remove_r1 ++ wsL_remove_r2) ++ wsX00 ++ wsX10 ++ (vx_atS RX1 105 "java/lang/IllegalArgumentException" ["java/lang/RuntimeException", "java/lang/Exception"]).filter goodWord ++ (vx_atS RX1 57 "java/lang/IndexOutOfBoundsException" ["java/lang/RuntimeException", "java/lang/Exception"]).filter goodWord)
def wsL_restore_r1 : List Cond := [Cond.classLink RL 15 "java/lang/IndexOutOfBoundsException", Cond.classLink RL 13 "java/lang/IllegalArgumentException", Cond.classLink RL 17 "java/lang/IllegalStateException", Cond.methodLink RL 23 yX1_restore, Cond.instanceMethod yX1_restore, Cond.selects RX1 yX1_restore yX1_restore, Cond.initialized RX1, Cond.code yX1_restore cX1_restore 4 (some .int), Cond.classLink RX1 64 "java/lang/IllegalStateException", Cond.initialized "java/lang/IllegalStateException", Cond.methodLink RX1 87 yX1_findByNumber, Cond.instanceMethod yX1_findByNumber, Cond.selects RX1 yX1_findByNumber yX1_findByNumber, Cond.code yX1_findByNumber cX1_findByNumber 3 (some (.object "CoauthorText$Sign")), Cond.classLink RX1 53 "java/lang/IndexOutOfBoundsException", Cond.initialized "java/lang/IndexOutOfBoundsException", Cond.fieldLink RX1 15 "CoauthorText" "signCount" "I", Cond.fieldLink RX1 11 "CoauthorText" "signsByNumber" "[LCoauthorText$Sign;", Cond.methodLink RX1 45 yX1_checkAuthor, Cond.static yX1_checkAuthor, Cond.code yX1_checkAuthor cX1_checkAuthor 1 none, Cond.methodLink RX1 49 yX1_checkRange, Cond.static yX1_checkRange, Cond.code yX1_checkRange cX1_checkRange 3 none]
def wsL_restore_r2 : List Cond := [Cond.classLink RX1 101 "java/lang/IllegalArgumentException", Cond.initialized "java/lang/IllegalArgumentException", Cond.instanceMethod yX0_isRemovedIn, Cond.initialized RX0, Cond.selects RX0 yX0_isRemovedIn yX0_isRemovedIn, Cond.code yX0_isRemovedIn cX0_isRemovedIn 2 (some .boolean), Cond.fieldLink RX0 19 "CoauthorText$Sign" "removedInCopies" "[Z", Cond.methodLink RX0 39 yX0_isKnownIn, Cond.instanceMethod yX0_isKnownIn, Cond.selects RX0 yX0_isKnownIn yX0_isKnownIn, Cond.code yX0_isKnownIn cX0_isKnownIn 2 (some .boolean), Cond.fieldLink RX0 15 "CoauthorText$Sign" "stampsInCopies" "[I", Cond.methodLink RX1 69 yX1_nextStamp, Cond.instanceMethod yX1_nextStamp, Cond.selects RX1 yX1_nextStamp yX1_nextStamp, Cond.code yX1_nextStamp cX1_nextStamp 2 (some .int), Cond.fieldLink RX1 23 "CoauthorText" "clocks" "[I", Cond.instanceMethod yX0_setRemoved, Cond.selects RX0 yX0_setRemoved yX0_setRemoved, Cond.code yX0_setRemoved cX0_setRemoved 4 none, Cond.methodLink RX1 97 yX1_countAheadOf, Cond.instanceMethod yX1_countAheadOf, Cond.selects RX1 yX1_countAheadOf yX1_countAheadOf, Cond.code yX1_countAheadOf cX1_countAheadOf 5 (some .int)]
def wsL_restore_r3 : List Cond := [Cond.fieldLink RX1 19 "CoauthorText" "firstInOrder" "LCoauthorText$Sign;", Cond.instanceMethod yX0_isInTextOf, Cond.selects RX0 yX0_isInTextOf yX0_isInTextOf, Cond.code yX0_isInTextOf cX0_isInTextOf 2 (some .boolean)]
def wsL_restore : List Cond := .codeWith yL_restore cL_restore 5 (some .int) [(0, 10, 13, 15), (0, 10, 17, 13), (0, 10, 21, 17)] :: ((wsL_restore_r1 ++ (wsL_restore_r2 ++ wsL_restore_r3)) ++ wsX10 ++ wsX00 ++ (vx_atS RX1 68 "java/lang/IllegalStateException" ["java/lang/RuntimeException", "java/lang/Exception"]).filter goodWord ++ (vx_atS RX1 57 "java/lang/IndexOutOfBoundsException" ["java/lang/RuntimeException", "java/lang/Exception"]).filter goodWord ++ (vx_atS RX1 105 "java/lang/IllegalArgumentException" ["java/lang/RuntimeException", "java/lang/Exception"]).filter goodWord)
def wsL_learn_r1 : List Cond := [Cond.classLink RL 13 "java/lang/IllegalArgumentException", Cond.methodLink RL 26 yX1_learn, Cond.instanceMethod yX1_learn, Cond.selects RX1 yX1_learn yX1_learn, Cond.initialized RX1, Cond.code yX1_learn cX1_learn 5 (some .int), Cond.classLink RX1 101 "java/lang/IllegalArgumentException", Cond.initialized "java/lang/IllegalArgumentException", Cond.fieldLink RX1 19 "CoauthorText" "firstInOrder" "LCoauthorText$Sign;", Cond.fieldLink RX1 23 "CoauthorText" "clocks" "[I", Cond.methodLink RX1 116 Lib.Math.max.name, Cond.static Lib.Math.max.name, Cond.initialized "java/lang/Math", Cond.code Lib.Math.max.name Lib.Math.max.code 2 (some .int), Cond.methodLink RX1 45 yX1_checkAuthor, Cond.static yX1_checkAuthor, Cond.code yX1_checkAuthor cX1_checkAuthor 1 none, Cond.methodLink RX1 49 yX1_checkRange, Cond.static yX1_checkRange, Cond.code yX1_checkRange cX1_checkRange 3 none, Cond.instanceMethod yX0_isKnownIn, Cond.initialized RX0, Cond.selects RX0 yX0_isKnownIn yX0_isKnownIn, Cond.code yX0_isKnownIn cX0_isKnownIn 2 (some .boolean)]
def wsL_learn_r2 : List Cond := [Cond.fieldLink RX0 15 "CoauthorText$Sign" "stampsInCopies" "[I", Cond.instanceMethod yX0_bringNewer, Cond.selects RX0 yX0_bringNewer yX0_bringNewer, Cond.code yX0_bringNewer cX0_bringNewer 3 none, Cond.fieldLink RX0 19 "CoauthorText$Sign" "removedInCopies" "[Z", Cond.methodLink RX0 43 yX0_setRemoved, Cond.instanceMethod yX0_setRemoved, Cond.selects RX0 yX0_setRemoved yX0_setRemoved, Cond.code yX0_setRemoved cX0_setRemoved 4 none]
def wsL_learn : List Cond := .codeWith yL_learn cL_learn 5 (some .int) [(0, 10, 13, 13)] :: ((wsL_learn_r1 ++ wsL_learn_r2) ++ wsX10 ++ wsX00 ++ (vx_atS RX1 105 "java/lang/IllegalArgumentException" ["java/lang/RuntimeException", "java/lang/Exception"]).filter goodWord)
def wsL_length_r1 : List Cond := [Cond.classLink RL 13 "java/lang/IllegalArgumentException", Cond.methodLink RL 29 yX1_length, Cond.instanceMethod yX1_length, Cond.selects RX1 yX1_length yX1_length, Cond.initialized RX1, Cond.code yX1_length cX1_length 2 (some .int), Cond.methodLink RX1 45 yX1_checkAuthor, Cond.static yX1_checkAuthor, Cond.code yX1_checkAuthor cX1_checkAuthor 1 none, Cond.methodLink RX1 49 yX1_checkRange, Cond.static yX1_checkRange, Cond.code yX1_checkRange cX1_checkRange 3 none, Cond.classLink RX1 101 "java/lang/IllegalArgumentException", Cond.initialized "java/lang/IllegalArgumentException", Cond.methodLink RX1 97 yX1_countAheadOf, Cond.instanceMethod yX1_countAheadOf, Cond.selects RX1 yX1_countAheadOf yX1_countAheadOf, Cond.code yX1_countAheadOf cX1_countAheadOf 5 (some .int), Cond.fieldLink RX1 19 "CoauthorText" "firstInOrder" "LCoauthorText$Sign;", Cond.instanceMethod yX0_isInTextOf, Cond.initialized RX0, Cond.selects RX0 yX0_isInTextOf yX0_isInTextOf, Cond.code yX0_isInTextOf cX0_isInTextOf 2 (some .boolean), Cond.fieldLink RX0 19 "CoauthorText$Sign" "removedInCopies" "[Z"]
def wsL_length_r2 : List Cond := [Cond.methodLink RX0 39 yX0_isKnownIn, Cond.instanceMethod yX0_isKnownIn, Cond.selects RX0 yX0_isKnownIn yX0_isKnownIn, Cond.code yX0_isKnownIn cX0_isKnownIn 2 (some .boolean), Cond.fieldLink RX0 15 "CoauthorText$Sign" "stampsInCopies" "[I"]
def wsL_length : List Cond := .codeWith yL_length cL_length 4 (some .int) [(0, 9, 12, 13)] :: ((wsL_length_r1 ++ wsL_length_r2) ++ wsX10 ++ wsX00 ++ (vx_atS RX1 105 "java/lang/IllegalArgumentException" ["java/lang/RuntimeException", "java/lang/Exception"]).filter goodWord)
def wsL_signAt_r1 : List Cond := [Cond.classLink RL 13 "java/lang/IllegalArgumentException", Cond.classLink RL 15 "java/lang/IndexOutOfBoundsException", Cond.methodLink RL 33 yX1_signAt, Cond.instanceMethod yX1_signAt, Cond.selects RX1 yX1_signAt yX1_signAt, Cond.initialized RX1, Cond.code yX1_signAt cX1_signAt 3 (some .int), Cond.methodLink RX1 45 yX1_checkAuthor, Cond.static yX1_checkAuthor, Cond.code yX1_checkAuthor cX1_checkAuthor 1 none, Cond.methodLink RX1 49 yX1_checkRange, Cond.static yX1_checkRange, Cond.code yX1_checkRange cX1_checkRange 3 none, Cond.classLink RX1 101 "java/lang/IllegalArgumentException", Cond.initialized "java/lang/IllegalArgumentException", Cond.methodLink RX1 60 yX1_findAtPlace, Cond.instanceMethod yX1_findAtPlace, Cond.selects RX1 yX1_findAtPlace yX1_findAtPlace, Cond.code yX1_findAtPlace cX1_findAtPlace 5 (some (.object "CoauthorText$Sign")), Cond.classLink RX1 53 "java/lang/IndexOutOfBoundsException", Cond.initialized "java/lang/IndexOutOfBoundsException", Cond.fieldLink RX1 19 "CoauthorText" "firstInOrder" "LCoauthorText$Sign;", Cond.instanceMethod yX0_isInTextOf, Cond.initialized RX0]
def wsL_signAt_r2 : List Cond := [Cond.selects RX0 yX0_isInTextOf yX0_isInTextOf, Cond.code yX0_isInTextOf cX0_isInTextOf 2 (some .boolean), Cond.fieldLink RX0 19 "CoauthorText$Sign" "removedInCopies" "[Z", Cond.methodLink RX0 39 yX0_isKnownIn, Cond.instanceMethod yX0_isKnownIn, Cond.selects RX0 yX0_isKnownIn yX0_isKnownIn, Cond.code yX0_isKnownIn cX0_isKnownIn 2 (some .boolean), Cond.fieldLink RX0 15 "CoauthorText$Sign" "stampsInCopies" "[I"]
def wsL_signAt : List Cond := .codeWith yL_signAt cL_signAt 5 (some .int) [(0, 10, 13, 13), (0, 10, 17, 15)] :: ((wsL_signAt_r1 ++ wsL_signAt_r2) ++ wsX00 ++ wsX10 ++ (vx_atS RX1 105 "java/lang/IllegalArgumentException" ["java/lang/RuntimeException", "java/lang/Exception"]).filter goodWord ++ (vx_atS RX1 57 "java/lang/IndexOutOfBoundsException" ["java/lang/RuntimeException", "java/lang/Exception"]).filter goodWord)
def wsL_letterAt_r1 : List Cond := [Cond.classLink RL 13 "java/lang/IllegalArgumentException", Cond.classLink RL 15 "java/lang/IndexOutOfBoundsException", Cond.methodLink RL 36 yX1_letterAt, Cond.instanceMethod yX1_letterAt, Cond.selects RX1 yX1_letterAt yX1_letterAt, Cond.initialized RX1, Cond.code yX1_letterAt cX1_letterAt 3 (some .int), Cond.methodLink RX1 45 yX1_checkAuthor, Cond.static yX1_checkAuthor, Cond.code yX1_checkAuthor cX1_checkAuthor 1 none, Cond.methodLink RX1 49 yX1_checkRange, Cond.static yX1_checkRange, Cond.code yX1_checkRange cX1_checkRange 3 none, Cond.classLink RX1 101 "java/lang/IllegalArgumentException", Cond.initialized "java/lang/IllegalArgumentException", Cond.methodLink RX1 60 yX1_findAtPlace, Cond.instanceMethod yX1_findAtPlace, Cond.selects RX1 yX1_findAtPlace yX1_findAtPlace, Cond.code yX1_findAtPlace cX1_findAtPlace 5 (some (.object "CoauthorText$Sign")), Cond.classLink RX1 53 "java/lang/IndexOutOfBoundsException", Cond.initialized "java/lang/IndexOutOfBoundsException", Cond.fieldLink RX1 19 "CoauthorText" "firstInOrder" "LCoauthorText$Sign;", Cond.instanceMethod yX0_isInTextOf, Cond.initialized RX0]
def wsL_letterAt_r2 : List Cond := [Cond.selects RX0 yX0_isInTextOf yX0_isInTextOf, Cond.code yX0_isInTextOf cX0_isInTextOf 2 (some .boolean), Cond.fieldLink RX0 19 "CoauthorText$Sign" "removedInCopies" "[Z", Cond.methodLink RX0 39 yX0_isKnownIn, Cond.instanceMethod yX0_isKnownIn, Cond.selects RX0 yX0_isKnownIn yX0_isKnownIn, Cond.code yX0_isKnownIn cX0_isKnownIn 2 (some .boolean), Cond.fieldLink RX0 15 "CoauthorText$Sign" "stampsInCopies" "[I"]
def wsL_letterAt : List Cond := .codeWith yL_letterAt cL_letterAt 5 (some .int) [(0, 10, 13, 13), (0, 10, 17, 15)] :: ((wsL_letterAt_r1 ++ wsL_letterAt_r2) ++ wsX00 ++ wsX10 ++ (vx_atS RX1 105 "java/lang/IllegalArgumentException" ["java/lang/RuntimeException", "java/lang/Exception"]).filter goodWord ++ (vx_atS RX1 57 "java/lang/IndexOutOfBoundsException" ["java/lang/RuntimeException", "java/lang/Exception"]).filter goodWord)
def wsL_areAlike_r1 : List Cond := [Cond.classLink RL 13 "java/lang/IllegalArgumentException", Cond.methodLink RL 39 yX1_areAlike, Cond.instanceMethod yX1_areAlike, Cond.selects RX1 yX1_areAlike yX1_areAlike, Cond.initialized RX1, Cond.code yX1_areAlike cX1_areAlike 4 (some .boolean), Cond.fieldLink RX1 19 "CoauthorText" "firstInOrder" "LCoauthorText$Sign;", Cond.methodLink RX1 45 yX1_checkAuthor, Cond.static yX1_checkAuthor, Cond.code yX1_checkAuthor cX1_checkAuthor 1 none, Cond.methodLink RX1 49 yX1_checkRange, Cond.static yX1_checkRange, Cond.code yX1_checkRange cX1_checkRange 3 none, Cond.classLink RX1 101 "java/lang/IllegalArgumentException", Cond.initialized "java/lang/IllegalArgumentException", Cond.instanceMethod yX0_isInTextOf, Cond.initialized RX0, Cond.selects RX0 yX0_isInTextOf yX0_isInTextOf, Cond.code yX0_isInTextOf cX0_isInTextOf 2 (some .boolean), Cond.fieldLink RX0 19 "CoauthorText$Sign" "removedInCopies" "[Z", Cond.methodLink RX0 39 yX0_isKnownIn, Cond.instanceMethod yX0_isKnownIn, Cond.selects RX0 yX0_isKnownIn yX0_isKnownIn, Cond.code yX0_isKnownIn cX0_isKnownIn 2 (some .boolean)]
def wsL_areAlike_r2 : List Cond := [Cond.fieldLink RX0 15 "CoauthorText$Sign" "stampsInCopies" "[I"]
def wsL_areAlike : List Cond := .codeWith yL_areAlike cL_areAlike 5 (some .int) [(0, 17, 20, 13)] :: ((wsL_areAlike_r1 ++ wsL_areAlike_r2) ++ wsX10 ++ wsX00 ++ (vx_atS RX1 105 "java/lang/IllegalArgumentException" ["java/lang/RuntimeException", "java/lang/Exception"]).filter goodWord)
def wsL_authorOf : List Cond := .codeWith yL_authorOf cL_authorOf 4 (some .int) [(0, 9, 12, 15)] :: ([.classLink RL 15 "java/lang/IndexOutOfBoundsException", .methodLink RL 43 yX1_authorOf, .instanceMethod yX1_authorOf, .selects RX1 yX1_authorOf yX1_authorOf, .initialized RX1, .code yX1_authorOf cX1_authorOf 2 (some .int), .methodLink RX1 87 yX1_findByNumber, .instanceMethod yX1_findByNumber, .selects RX1 yX1_findByNumber yX1_findByNumber, .code yX1_findByNumber cX1_findByNumber 3 (some (.object "CoauthorText$Sign")), .classLink RX1 53 "java/lang/IndexOutOfBoundsException", .initialized "java/lang/IndexOutOfBoundsException", .fieldLink RX1 15 "CoauthorText" "signCount" "I", .fieldLink RX1 11 "CoauthorText" "signsByNumber" "[LCoauthorText$Sign;"] ++ wsX00 ++ wsX10 ++ (vx_atS RX1 57 "java/lang/IndexOutOfBoundsException" ["java/lang/RuntimeException", "java/lang/Exception"]).filter goodWord)
def wsL_behind : List Cond := .codeWith yL_behind cL_behind 4 (some .int) [(0, 9, 12, 15)] :: ([.classLink RL 15 "java/lang/IndexOutOfBoundsException", .methodLink RL 46 yX1_behind, .instanceMethod yX1_behind, .selects RX1 yX1_behind yX1_behind, .initialized RX1, .code yX1_behind cX1_behind 3 (some .int), .methodLink RX1 87 yX1_findByNumber, .instanceMethod yX1_findByNumber, .selects RX1 yX1_findByNumber yX1_findByNumber, .code yX1_findByNumber cX1_findByNumber 3 (some (.object "CoauthorText$Sign")), .classLink RX1 53 "java/lang/IndexOutOfBoundsException", .initialized "java/lang/IndexOutOfBoundsException", .fieldLink RX1 15 "CoauthorText" "signCount" "I", .fieldLink RX1 11 "CoauthorText" "signsByNumber" "[LCoauthorText$Sign;"] ++ wsX00 ++ wsX10 ++ (vx_atS RX1 57 "java/lang/IndexOutOfBoundsException" ["java/lang/RuntimeException", "java/lang/Exception"]).filter goodWord)
def wsL_clock : List Cond := .codeWith yL_clock cL_clock 4 (some .int) [(0, 9, 12, 13)] :: ([.classLink RL 13 "java/lang/IllegalArgumentException", .methodLink RL 49 yX1_clock, .instanceMethod yX1_clock, .selects RX1 yX1_clock yX1_clock, .initialized RX1, .code yX1_clock cX1_clock 2 (some .int), .fieldLink RX1 23 "CoauthorText" "clocks" "[I", .methodLink RX1 45 yX1_checkAuthor, .static yX1_checkAuthor, .code yX1_checkAuthor cX1_checkAuthor 1 none, .methodLink RX1 49 yX1_checkRange, .static yX1_checkRange, .code yX1_checkRange cX1_checkRange 3 none, .classLink RX1 101 "java/lang/IllegalArgumentException", .initialized "java/lang/IllegalArgumentException"] ++ wsX10 ++ (vx_atS RX1 105 "java/lang/IllegalArgumentException" ["java/lang/RuntimeException", "java/lang/Exception"]).filter goodWord)
def wsL_print_r1 : List Cond := [Cond.classLink RL 13 "java/lang/IllegalArgumentException", Cond.classLink RL 17 "java/lang/IllegalStateException", Cond.methodLink RL 52 yX1_print, Cond.instanceMethod yX1_print, Cond.selects RX1 yX1_print yX1_print, Cond.initialized RX1, Cond.code yX1_print cX1_print 4 (some .int), Cond.classLink RX1 64 "java/lang/IllegalStateException", Cond.initialized "java/lang/IllegalStateException", Cond.fieldLink RX1 32 "CoauthorText" "editionCount" "I", Cond.fieldLink RX1 29 "CoauthorText" "signsInEditions" "[[I", Cond.methodLink RX1 45 yX1_checkAuthor, Cond.static yX1_checkAuthor, Cond.code yX1_checkAuthor cX1_checkAuthor 1 none, Cond.methodLink RX1 49 yX1_checkRange, Cond.static yX1_checkRange, Cond.code yX1_checkRange cX1_checkRange 3 none, Cond.classLink RX1 101 "java/lang/IllegalArgumentException", Cond.initialized "java/lang/IllegalArgumentException", Cond.methodLink RX1 97 yX1_countAheadOf, Cond.instanceMethod yX1_countAheadOf, Cond.selects RX1 yX1_countAheadOf yX1_countAheadOf, Cond.code yX1_countAheadOf cX1_countAheadOf 5 (some .int), Cond.fieldLink RX1 19 "CoauthorText" "firstInOrder" "LCoauthorText$Sign;"]
def wsL_print_r2 : List Cond := [Cond.instanceMethod yX0_isInTextOf, Cond.initialized RX0, Cond.selects RX0 yX0_isInTextOf yX0_isInTextOf, Cond.code yX0_isInTextOf cX0_isInTextOf 2 (some .boolean), Cond.fieldLink RX0 19 "CoauthorText$Sign" "removedInCopies" "[Z", Cond.methodLink RX0 39 yX0_isKnownIn, Cond.instanceMethod yX0_isKnownIn, Cond.selects RX0 yX0_isKnownIn yX0_isKnownIn, Cond.code yX0_isKnownIn cX0_isKnownIn 2 (some .boolean), Cond.fieldLink RX0 15 "CoauthorText$Sign" "stampsInCopies" "[I", Cond.methodLink RX1 138 yX1_countWrittenBy, Cond.instanceMethod yX1_countWrittenBy, Cond.selects RX1 yX1_countWrittenBy yX1_countWrittenBy, Cond.code yX1_countWrittenBy cX1_countWrittenBy 5 (some .int)]
def wsL_print : List Cond := .codeWith yL_print cL_print 4 (some .int) [(0, 9, 12, 13), (0, 9, 15, 17)] :: ((wsL_print_r1 ++ wsL_print_r2) ++ wsX10 ++ wsX00 ++ (vx_atS RX1 68 "java/lang/IllegalStateException" ["java/lang/RuntimeException", "java/lang/Exception"]).filter goodWord ++ (vx_atS RX1 105 "java/lang/IllegalArgumentException" ["java/lang/RuntimeException", "java/lang/Exception"]).filter goodWord)
def wsL_printed : List Cond := .codeWith yL_printed cL_printed 5 (some .int) [(0, 10, 13, 15), (0, 10, 17, 13)] :: ([.classLink RL 15 "java/lang/IndexOutOfBoundsException", .classLink RL 13 "java/lang/IllegalArgumentException", .methodLink RL 55 yX1_printed, .instanceMethod yX1_printed, .selects RX1 yX1_printed yX1_printed, .initialized RX1, .code yX1_printed cX1_printed 3 (some .int), .fieldLink RX1 29 "CoauthorText" "signsInEditions" "[[I", .methodLink RX1 141 yX1_checkEdition, .instanceMethod yX1_checkEdition, .selects RX1 yX1_checkEdition yX1_checkEdition, .code yX1_checkEdition cX1_checkEdition 2 none, .classLink RX1 53 "java/lang/IndexOutOfBoundsException", .initialized "java/lang/IndexOutOfBoundsException", .fieldLink RX1 32 "CoauthorText" "editionCount" "I", .methodLink RX1 45 yX1_checkAuthor, .static yX1_checkAuthor, .code yX1_checkAuthor cX1_checkAuthor 1 none, .methodLink RX1 49 yX1_checkRange, .static yX1_checkRange, .code yX1_checkRange cX1_checkRange 3 none, .classLink RX1 101 "java/lang/IllegalArgumentException", .initialized "java/lang/IllegalArgumentException"] ++ wsX10 ++ (vx_atS RX1 57 "java/lang/IndexOutOfBoundsException" ["java/lang/RuntimeException", "java/lang/Exception"]).filter goodWord ++ (vx_atS RX1 105 "java/lang/IllegalArgumentException" ["java/lang/RuntimeException", "java/lang/Exception"]).filter goodWord)
def wsL_setFloor : List Cond := .codeWith yL_setFloor cL_setFloor 4 (some .int) [(0, 9, 12, 13)] :: ([.classLink RL 13 "java/lang/IllegalArgumentException", .methodLink RL 58 yX1_setFloor, .instanceMethod yX1_setFloor, .selects RX1 yX1_setFloor yX1_setFloor, .initialized RX1, .code yX1_setFloor cX1_setFloor 3 (some .int), .fieldLink RX1 35 "CoauthorText" "floorPercent" "I", .methodLink RX1 49 yX1_checkRange, .static yX1_checkRange, .code yX1_checkRange cX1_checkRange 3 none, .classLink RX1 101 "java/lang/IllegalArgumentException", .initialized "java/lang/IllegalArgumentException"] ++ wsX10 ++ (vx_atS RX1 105 "java/lang/IllegalArgumentException" ["java/lang/RuntimeException", "java/lang/Exception"]).filter goodWord)
def wsL_advance : List Cond := .codeWith yL_advance cL_advance 5 (some .int) [(0, 10, 13, 13)] :: ([.classLink RL 13 "java/lang/IllegalArgumentException", .methodLink RL 61 yX1_advance, .instanceMethod yX1_advance, .selects RX1 yX1_advance yX1_advance, .initialized RX1, .code yX1_advance cX1_advance 3 (some .int), .constant RX1 144 (100000), .fieldLink RX1 38 "CoauthorText" "advancesLeft" "[I", .methodLink RX1 45 yX1_checkAuthor, .static yX1_checkAuthor, .code yX1_checkAuthor cX1_checkAuthor 1 none, .methodLink RX1 49 yX1_checkRange, .static yX1_checkRange, .code yX1_checkRange cX1_checkRange 3 none, .classLink RX1 101 "java/lang/IllegalArgumentException", .initialized "java/lang/IllegalArgumentException"] ++ wsX10 ++ (vx_atS RX1 105 "java/lang/IllegalArgumentException" ["java/lang/RuntimeException", "java/lang/Exception"]).filter goodWord)
def wsL_sell_r1 : List Cond := [Cond.classLink RL 15 "java/lang/IndexOutOfBoundsException", Cond.classLink RL 13 "java/lang/IllegalArgumentException", Cond.methodLink RL 64 yX1_sell, Cond.instanceMethod yX1_sell, Cond.selects RX1 yX1_sell yX1_sell, Cond.initialized RX1, Cond.code yX1_sell cX1_sell 7 (some .int), Cond.constant RX1 145 (1000000), Cond.fieldLink RX1 29 "CoauthorText" "signsInEditions" "[[I", Cond.methodLink RX1 141 yX1_checkEdition, Cond.instanceMethod yX1_checkEdition, Cond.selects RX1 yX1_checkEdition yX1_checkEdition, Cond.code yX1_checkEdition cX1_checkEdition 2 none, Cond.classLink RX1 53 "java/lang/IndexOutOfBoundsException", Cond.initialized "java/lang/IndexOutOfBoundsException", Cond.fieldLink RX1 32 "CoauthorText" "editionCount" "I", Cond.methodLink RX1 49 yX1_checkRange, Cond.static yX1_checkRange, Cond.code yX1_checkRange cX1_checkRange 3 none, Cond.classLink RX1 101 "java/lang/IllegalArgumentException", Cond.initialized "java/lang/IllegalArgumentException", Cond.methodLink RX1 146 yX1_shareOf, Cond.instanceMethod yX1_shareOf, Cond.selects RX1 yX1_shareOf yX1_shareOf]
def wsL_sell_r2 : List Cond := [Cond.code yX1_shareOf cX1_shareOf 8 (some .int), Cond.fieldLink RX1 35 "CoauthorText" "floorPercent" "I", Cond.methodLink RX1 150 yX1_credit, Cond.instanceMethod yX1_credit, Cond.selects RX1 yX1_credit yX1_credit, Cond.code yX1_credit cX1_credit 4 (some .int), Cond.fieldLink RX1 38 "CoauthorText" "advancesLeft" "[I", Cond.methodLink RX1 162 Lib.Math.min.name, Cond.static Lib.Math.min.name, Cond.initialized "java/lang/Math", Cond.code Lib.Math.min.name Lib.Math.min.code 2 (some .int), Cond.fieldLink RX1 41 "CoauthorText" "paidBySales" "[J"]
def wsL_sell : List Cond := .codeWith yL_sell cL_sell 5 (some .int) [(0, 10, 13, 15), (0, 10, 17, 13)] :: ((wsL_sell_r1 ++ wsL_sell_r2) ++ wsX10 ++ (vx_atS RX1 57 "java/lang/IndexOutOfBoundsException" ["java/lang/RuntimeException", "java/lang/Exception"]).filter goodWord ++ (vx_atS RX1 105 "java/lang/IllegalArgumentException" ["java/lang/RuntimeException", "java/lang/Exception"]).filter goodWord)
def wsL_paid : List Cond := .codeWith yL_paid cL_paid 4 (some .int) [(0, 8, 11, 13)] :: ([.classLink RL 13 "java/lang/IllegalArgumentException", .methodLink RL 67 yX1_paid, .instanceMethod yX1_paid, .selects RX1 yX1_paid yX1_paid, .initialized RX1, .code yX1_paid cX1_paid 2 (some .long), .fieldLink RX1 41 "CoauthorText" "paidBySales" "[J", .methodLink RX1 45 yX1_checkAuthor, .static yX1_checkAuthor, .code yX1_checkAuthor cX1_checkAuthor 1 none, .methodLink RX1 49 yX1_checkRange, .static yX1_checkRange, .code yX1_checkRange cX1_checkRange 3 none, .classLink RX1 101 "java/lang/IllegalArgumentException", .initialized "java/lang/IllegalArgumentException"] ++ wsX10 ++ (vx_atS RX1 105 "java/lang/IllegalArgumentException" ["java/lang/RuntimeException", "java/lang/Exception"]).filter goodWord)
def wsL_left : List Cond := .codeWith yL_left cL_left 4 (some .int) [(0, 9, 12, 13)] :: ([.classLink RL 13 "java/lang/IllegalArgumentException", .methodLink RL 71 yX1_left, .instanceMethod yX1_left, .selects RX1 yX1_left yX1_left, .initialized RX1, .code yX1_left cX1_left 2 (some .int), .fieldLink RX1 38 "CoauthorText" "advancesLeft" "[I", .methodLink RX1 45 yX1_checkAuthor, .static yX1_checkAuthor, .code yX1_checkAuthor cX1_checkAuthor 1 none, .methodLink RX1 49 yX1_checkRange, .static yX1_checkRange, .code yX1_checkRange cX1_checkRange 3 none, .classLink RX1 101 "java/lang/IllegalArgumentException", .initialized "java/lang/IllegalArgumentException"] ++ wsX10 ++ (vx_atS RX1 105 "java/lang/IllegalArgumentException" ["java/lang/RuntimeException", "java/lang/Exception"]).filter goodWord)
def wsL_law0_r1 : List Cond := [Cond.classLink RL 8 RX1, Cond.instantiable RX1 9, Cond.initialized RX1, Cond.classLink RL 75 RX2, Cond.instantiable RX2 19, Cond.initialized RX2, Cond.arrayClass .long, Cond.methodLink RL 74 yX1_init, Cond.instanceMethod yX1_init, Cond.code yX1_init cX1_init 1 none, Cond.methodLink RX1 1 objectInit, Cond.instanceMethod objectInit, Cond.code objectInit ⟨#[0xb1]⟩ 1 none, Cond.classLink RX1 9 RX0, Cond.fieldLink RX1 11 "CoauthorText" "signsByNumber" "[LCoauthorText$Sign;", Cond.fieldLink RX1 15 "CoauthorText" "signCount" "I", Cond.fieldLink RX1 19 "CoauthorText" "firstInOrder" "LCoauthorText$Sign;", Cond.arrayClass .int, Cond.fieldLink RX1 23 "CoauthorText" "clocks" "[I", Cond.classLink RX1 27 "[[I", Cond.fieldLink RX1 29 "CoauthorText" "signsInEditions" "[[I", Cond.fieldLink RX1 32 "CoauthorText" "editionCount" "I", Cond.fieldLink RX1 35 "CoauthorText" "floorPercent" "I", Cond.fieldLink RX1 38 "CoauthorText" "advancesLeft" "[I"]
def wsL_law0_r2 : List Cond := [Cond.fieldLink RX1 41 "CoauthorText" "paidBySales" "[J", Cond.methodLink RL 77 yX2_init, Cond.instanceMethod yX2_init, Cond.code yX2_init cX2_init 1 none, Cond.methodLink RX2 1 objectInit, Cond.fieldLink RX2 7 "CoauthorTextModel" "authors" "[I", Cond.fieldLink RX2 13 "CoauthorTextModel" "letters" "[I", Cond.fieldLink RX2 16 "CoauthorTextModel" "clocksOf" "[I", Cond.fieldLink RX2 19 "CoauthorTextModel" "behinds" "[I", Cond.arrayClass .boolean, Cond.fieldLink RX2 22 "CoauthorTextModel" "knows" "[Z", Cond.fieldLink RX2 26 "CoauthorTextModel" "isRemoved" "[Z", Cond.fieldLink RX2 29 "CoauthorTextModel" "stamps" "[I", Cond.fieldLink RX2 32 "CoauthorTextModel" "clocks" "[I", Cond.fieldLink RX2 35 "CoauthorTextModel" "printed" "[I", Cond.fieldLink RX2 38 "CoauthorTextModel" "advances" "[I", Cond.fieldLink RX2 41 "CoauthorTextModel" "paid" "[J", Cond.fieldLink RX2 45 "CoauthorTextModel" "text" "[I", Cond.fieldLink RX2 48 "CoauthorTextModel" "stack" "[I", Cond.methodLink RL 78 yL_insert, Cond.static yL_insert, Cond.initialized RL, Cond.codeWith yL_insert cL_insert 6 (some .int) [(0, 12, 15, 13), (0, 12, 19, 15), (0, 12, 23, 17)], Cond.classLink RL 13 "java/lang/IllegalArgumentException"]
def wsL_law0_r3 : List Cond := [Cond.classLink RL 15 "java/lang/IndexOutOfBoundsException", Cond.classLink RL 17 "java/lang/IllegalStateException", Cond.methodLink RL 7 yX1_insert, Cond.instanceMethod yX1_insert, Cond.selects RX1 yX1_insert yX1_insert, Cond.code yX1_insert cX1_insert 6 (some .int), Cond.classLink RX1 53 "java/lang/IndexOutOfBoundsException", Cond.initialized "java/lang/IndexOutOfBoundsException", Cond.classLink RX1 64 "java/lang/IllegalStateException", Cond.initialized "java/lang/IllegalStateException", Cond.instantiable RX0 8, Cond.initialized RX0, Cond.methodLink RX1 45 yX1_checkAuthor, Cond.static yX1_checkAuthor, Cond.code yX1_checkAuthor cX1_checkAuthor 1 none, Cond.methodLink RX1 49 yX1_checkRange, Cond.static yX1_checkRange, Cond.code yX1_checkRange cX1_checkRange 3 none, Cond.classLink RX1 101 "java/lang/IllegalArgumentException", Cond.initialized "java/lang/IllegalArgumentException", Cond.methodLink RX1 60 yX1_findAtPlace, Cond.instanceMethod yX1_findAtPlace, Cond.selects RX1 yX1_findAtPlace yX1_findAtPlace, Cond.code yX1_findAtPlace cX1_findAtPlace 5 (some (.object "CoauthorText$Sign"))]
def wsL_law0_r4 : List Cond := [Cond.instanceMethod yX0_isInTextOf, Cond.selects RX0 yX0_isInTextOf yX0_isInTextOf, Cond.code yX0_isInTextOf cX0_isInTextOf 2 (some .boolean), Cond.fieldLink RX0 19 "CoauthorText$Sign" "removedInCopies" "[Z", Cond.methodLink RX0 39 yX0_isKnownIn, Cond.instanceMethod yX0_isKnownIn, Cond.selects RX0 yX0_isKnownIn yX0_isKnownIn, Cond.code yX0_isKnownIn cX0_isKnownIn 2 (some .boolean), Cond.fieldLink RX0 15 "CoauthorText$Sign" "stampsInCopies" "[I", Cond.methodLink RX1 69 yX1_nextStamp, Cond.instanceMethod yX1_nextStamp, Cond.selects RX1 yX1_nextStamp yX1_nextStamp, Cond.code yX1_nextStamp cX1_nextStamp 2 (some .int), Cond.instanceMethod yX0_init, Cond.code yX0_init cX0_init 7 none, Cond.methodLink RX0 3 objectInit, Cond.fieldLink RX0 9 "CoauthorText$Sign" "next" "LCoauthorText$Sign;", Cond.fieldLink RX0 23 "CoauthorText$Sign" "number" "I", Cond.fieldLink RX0 27 "CoauthorText$Sign" "author" "I", Cond.fieldLink RX0 30 "CoauthorText$Sign" "letter" "I", Cond.fieldLink RX0 33 "CoauthorText$Sign" "stamp" "I", Cond.fieldLink RX0 36 "CoauthorText$Sign" "ahead" "LCoauthorText$Sign;", Cond.methodLink RX1 76 yX1_putInOrder, Cond.instanceMethod yX1_putInOrder]
def wsL_law0_r5 : List Cond := [Cond.selects RX1 yX1_putInOrder yX1_putInOrder, Cond.code yX1_putInOrder cX1_putInOrder 4 none, Cond.methodLink RL 83 yX2_insert, Cond.instanceMethod yX2_insert, Cond.selects RX2 yX2_insert yX2_insert, Cond.code yX2_insert cX2_insert 4 (some .int), Cond.fieldLink RX2 76 "CoauthorTextModel" "length" "I", Cond.fieldLink RX2 59 "CoauthorTextModel" "signs" "I", Cond.methodLink RX2 83 yX2_isAuthor, Cond.static yX2_isAuthor, Cond.code yX2_isAuthor cX2_isAuthor 1 (some .boolean), Cond.methodLink RX2 55 yX2_isIn, Cond.static yX2_isIn, Cond.code yX2_isIn cX2_isIn 3 (some .boolean), Cond.methodLink RX2 87 yX2_goes, Cond.instanceMethod yX2_goes, Cond.selects RX2 yX2_goes yX2_goes, Cond.code yX2_goes cX2_goes 2 (some .boolean), Cond.fieldLink RX2 51 "CoauthorTextModel" "thrown" "I", Cond.methodLink RX2 90 yX2_laysText, Cond.instanceMethod yX2_laysText, Cond.selects RX2 yX2_laysText yX2_laysText, Cond.code yX2_laysText cX2_laysText 3 none, Cond.fieldLink RX2 73 "CoauthorTextModel" "top" "I"]
def wsL_law0_r6 : List Cond := [Cond.methodLink RX2 79 yX2_puts, Cond.instanceMethod yX2_puts, Cond.selects RX2 yX2_puts yX2_puts, Cond.code yX2_puts cX2_puts 8 none, Cond.methodLink RX2 65 yX2_at, Cond.static yX2_at, Cond.code yX2_at cX2_at 2 (some .int), Cond.methodLink RX2 69 yX2_key, Cond.instanceMethod yX2_key, Cond.selects RX2 yX2_key yX2_key, Cond.code yX2_key cX2_key 2 (some .int), Cond.methodLink RX2 94 yX2_stamp, Cond.instanceMethod yX2_stamp, Cond.selects RX2 yX2_stamp yX2_stamp, Cond.code yX2_stamp cX2_stamp 2 (some .int), Cond.methodLink RL 84 yX2_thrown, Cond.instanceMethod yX2_thrown, Cond.selects RX2 yX2_thrown yX2_thrown, Cond.code yX2_thrown cX2_thrown 1 (some .int), Cond.methodLink RL 88 yL_remove, Cond.static yL_remove, Cond.codeWith yL_remove cL_remove 5 (some .int) [(0, 10, 13, 13), (0, 10, 17, 15)], Cond.methodLink RL 19 yX1_remove, Cond.instanceMethod yX1_remove]
def wsL_law0_r7 : List Cond := [Cond.selects RX1 yX1_remove yX1_remove, Cond.code yX1_remove cX1_remove 4 (some .int), Cond.instanceMethod yX0_setRemoved, Cond.selects RX0 yX0_setRemoved yX0_setRemoved, Cond.code yX0_setRemoved cX0_setRemoved 4 none, Cond.methodLink RL 91 yX2_remove, Cond.instanceMethod yX2_remove, Cond.selects RX2 yX2_remove yX2_remove, Cond.code yX2_remove cX2_remove 4 (some .int), Cond.methodLink RL 92 yL_restore, Cond.static yL_restore, Cond.codeWith yL_restore cL_restore 5 (some .int) [(0, 10, 13, 15), (0, 10, 17, 13), (0, 10, 21, 17)], Cond.methodLink RL 23 yX1_restore, Cond.instanceMethod yX1_restore, Cond.selects RX1 yX1_restore yX1_restore, Cond.code yX1_restore cX1_restore 4 (some .int), Cond.methodLink RX1 87 yX1_findByNumber, Cond.instanceMethod yX1_findByNumber, Cond.selects RX1 yX1_findByNumber yX1_findByNumber, Cond.code yX1_findByNumber cX1_findByNumber 3 (some (.object "CoauthorText$Sign")), Cond.instanceMethod yX0_isRemovedIn, Cond.selects RX0 yX0_isRemovedIn yX0_isRemovedIn, Cond.code yX0_isRemovedIn cX0_isRemovedIn 2 (some .boolean), Cond.methodLink RX1 97 yX1_countAheadOf]
def wsL_law0_r8 : List Cond := [Cond.instanceMethod yX1_countAheadOf, Cond.selects RX1 yX1_countAheadOf yX1_countAheadOf, Cond.code yX1_countAheadOf cX1_countAheadOf 5 (some .int), Cond.methodLink RL 94 yX2_restore, Cond.instanceMethod yX2_restore, Cond.selects RX2 yX2_restore yX2_restore, Cond.code yX2_restore cX2_restore 3 (some .int), Cond.methodLink RX2 97 yX2_isSign, Cond.instanceMethod yX2_isSign, Cond.selects RX2 yX2_isSign yX2_isSign, Cond.code yX2_isSign cX2_isSign 2 (some .boolean), Cond.methodLink RX2 100 yX2_placeOf, Cond.instanceMethod yX2_placeOf, Cond.selects RX2 yX2_placeOf yX2_placeOf, Cond.code yX2_placeOf cX2_placeOf 4 (some .int), Cond.methodLink RL 95 yL_learn, Cond.static yL_learn, Cond.codeWith yL_learn cL_learn 5 (some .int) [(0, 10, 13, 13)], Cond.methodLink RL 26 yX1_learn, Cond.instanceMethod yX1_learn, Cond.selects RX1 yX1_learn yX1_learn, Cond.code yX1_learn cX1_learn 5 (some .int), Cond.methodLink RX1 116 Lib.Math.max.name, Cond.static Lib.Math.max.name]
def wsL_law0_r9 : List Cond := [Cond.initialized "java/lang/Math", Cond.code Lib.Math.max.name Lib.Math.max.code 2 (some .int), Cond.instanceMethod yX0_bringNewer, Cond.selects RX0 yX0_bringNewer yX0_bringNewer, Cond.code yX0_bringNewer cX0_bringNewer 3 none, Cond.methodLink RX0 43 yX0_setRemoved, Cond.methodLink RL 97 yX2_learn, Cond.instanceMethod yX2_learn, Cond.selects RX2 yX2_learn yX2_learn, Cond.code yX2_learn cX2_learn 7 (some .int), Cond.methodLink RL 98 yL_length, Cond.static yL_length, Cond.codeWith yL_length cL_length 4 (some .int) [(0, 9, 12, 13)], Cond.methodLink RL 29 yX1_length, Cond.instanceMethod yX1_length, Cond.selects RX1 yX1_length yX1_length, Cond.code yX1_length cX1_length 2 (some .int), Cond.methodLink RL 101 yX2_length, Cond.instanceMethod yX2_length, Cond.selects RX2 yX2_length yX2_length, Cond.code yX2_length cX2_length 2 (some .int), Cond.methodLink RX2 103 yX2_asks, Cond.instanceMethod yX2_asks, Cond.selects RX2 yX2_asks yX2_asks]
def wsL_law0_r10 : List Cond := [Cond.code yX2_asks cX2_asks 2 (some .boolean), Cond.methodLink RL 102 yL_signAt, Cond.static yL_signAt, Cond.codeWith yL_signAt cL_signAt 5 (some .int) [(0, 10, 13, 13), (0, 10, 17, 15)], Cond.methodLink RL 33 yX1_signAt, Cond.instanceMethod yX1_signAt, Cond.selects RX1 yX1_signAt yX1_signAt, Cond.code yX1_signAt cX1_signAt 3 (some .int), Cond.methodLink RL 104 yX2_signAt, Cond.instanceMethod yX2_signAt, Cond.selects RX2 yX2_signAt yX2_signAt, Cond.code yX2_signAt cX2_signAt 3 (some .int), Cond.methodLink RX2 106 yX2_asksPlace, Cond.instanceMethod yX2_asksPlace, Cond.selects RX2 yX2_asksPlace yX2_asksPlace, Cond.code yX2_asksPlace cX2_asksPlace 3 (some .boolean), Cond.methodLink RL 105 yL_letterAt, Cond.static yL_letterAt, Cond.codeWith yL_letterAt cL_letterAt 5 (some .int) [(0, 10, 13, 13), (0, 10, 17, 15)], Cond.methodLink RL 36 yX1_letterAt, Cond.instanceMethod yX1_letterAt, Cond.selects RX1 yX1_letterAt yX1_letterAt, Cond.code yX1_letterAt cX1_letterAt 3 (some .int), Cond.methodLink RL 107 yX2_letterAt]
def wsL_law0_r11 : List Cond := [Cond.instanceMethod yX2_letterAt, Cond.selects RX2 yX2_letterAt yX2_letterAt, Cond.code yX2_letterAt cX2_letterAt 3 (some .int), Cond.methodLink RL 108 yL_areAlike, Cond.static yL_areAlike, Cond.codeWith yL_areAlike cL_areAlike 5 (some .int) [(0, 17, 20, 13)], Cond.methodLink RL 39 yX1_areAlike, Cond.instanceMethod yX1_areAlike, Cond.selects RX1 yX1_areAlike yX1_areAlike, Cond.code yX1_areAlike cX1_areAlike 4 (some .boolean), Cond.methodLink RL 110 yX2_areAlike, Cond.instanceMethod yX2_areAlike, Cond.selects RX2 yX2_areAlike yX2_areAlike, Cond.code yX2_areAlike cX2_areAlike 7 (some .boolean), Cond.methodLink RL 111 yX1_signs, Cond.instanceMethod yX1_signs, Cond.selects RX1 yX1_signs yX1_signs, Cond.code yX1_signs cX1_signs 1 (some .int), Cond.methodLink RL 114 yX2_signs, Cond.instanceMethod yX2_signs, Cond.selects RX2 yX2_signs yX2_signs, Cond.code yX2_signs cX2_signs 1 (some .int), Cond.methodLink RL 115 yL_authorOf, Cond.static yL_authorOf]
def wsL_law0_r12 : List Cond := [Cond.codeWith yL_authorOf cL_authorOf 4 (some .int) [(0, 9, 12, 15)], Cond.methodLink RL 43 yX1_authorOf, Cond.instanceMethod yX1_authorOf, Cond.selects RX1 yX1_authorOf yX1_authorOf, Cond.code yX1_authorOf cX1_authorOf 2 (some .int), Cond.methodLink RL 117 yX2_authorOf, Cond.instanceMethod yX2_authorOf, Cond.selects RX2 yX2_authorOf yX2_authorOf, Cond.code yX2_authorOf cX2_authorOf 2 (some .int), Cond.methodLink RL 118 yL_behind, Cond.static yL_behind, Cond.codeWith yL_behind cL_behind 4 (some .int) [(0, 9, 12, 15)], Cond.methodLink RL 46 yX1_behind, Cond.instanceMethod yX1_behind, Cond.selects RX1 yX1_behind yX1_behind, Cond.code yX1_behind cX1_behind 3 (some .int), Cond.methodLink RL 120 yX2_behind, Cond.instanceMethod yX2_behind, Cond.selects RX2 yX2_behind yX2_behind, Cond.code yX2_behind cX2_behind 2 (some .int), Cond.methodLink RL 121 yL_clock, Cond.static yL_clock, Cond.codeWith yL_clock cL_clock 4 (some .int) [(0, 9, 12, 13)], Cond.methodLink RL 49 yX1_clock]
def wsL_law0_r13 : List Cond := [Cond.instanceMethod yX1_clock, Cond.selects RX1 yX1_clock yX1_clock, Cond.code yX1_clock cX1_clock 2 (some .int), Cond.methodLink RL 123 yX2_clock, Cond.instanceMethod yX2_clock, Cond.selects RX2 yX2_clock yX2_clock, Cond.code yX2_clock cX2_clock 2 (some .int), Cond.methodLink RL 124 yL_print, Cond.static yL_print, Cond.codeWith yL_print cL_print 4 (some .int) [(0, 9, 12, 13), (0, 9, 15, 17)], Cond.methodLink RL 52 yX1_print, Cond.instanceMethod yX1_print, Cond.selects RX1 yX1_print yX1_print, Cond.code yX1_print cX1_print 4 (some .int), Cond.methodLink RX1 138 yX1_countWrittenBy, Cond.instanceMethod yX1_countWrittenBy, Cond.selects RX1 yX1_countWrittenBy yX1_countWrittenBy, Cond.code yX1_countWrittenBy cX1_countWrittenBy 5 (some .int), Cond.methodLink RL 126 yX2_print, Cond.instanceMethod yX2_print, Cond.selects RX2 yX2_print yX2_print, Cond.code yX2_print cX2_print 3 (some .int), Cond.fieldLink RX2 62 "CoauthorTextModel" "editions" "I", Cond.methodLink RL 127 yL_printed]
def wsL_law0_r14 : List Cond := [Cond.static yL_printed, Cond.codeWith yL_printed cL_printed 5 (some .int) [(0, 10, 13, 15), (0, 10, 17, 13)], Cond.methodLink RL 55 yX1_printed, Cond.instanceMethod yX1_printed, Cond.selects RX1 yX1_printed yX1_printed, Cond.code yX1_printed cX1_printed 3 (some .int), Cond.methodLink RX1 141 yX1_checkEdition, Cond.instanceMethod yX1_checkEdition, Cond.selects RX1 yX1_checkEdition yX1_checkEdition, Cond.code yX1_checkEdition cX1_checkEdition 2 none, Cond.methodLink RL 129 yX2_printed, Cond.instanceMethod yX2_printed, Cond.selects RX2 yX2_printed yX2_printed, Cond.code yX2_printed cX2_printed 3 (some .int), Cond.methodLink RX2 110 yX2_isEdition, Cond.instanceMethod yX2_isEdition, Cond.selects RX2 yX2_isEdition yX2_isEdition, Cond.code yX2_isEdition cX2_isEdition 2 (some .boolean), Cond.methodLink RL 130 yL_setFloor, Cond.static yL_setFloor, Cond.codeWith yL_setFloor cL_setFloor 4 (some .int) [(0, 9, 12, 13)], Cond.methodLink RL 58 yX1_setFloor, Cond.instanceMethod yX1_setFloor, Cond.selects RX1 yX1_setFloor yX1_setFloor]
def wsL_law0_r15 : List Cond := [Cond.code yX1_setFloor cX1_setFloor 3 (some .int), Cond.methodLink RL 132 yX2_setFloor, Cond.instanceMethod yX2_setFloor, Cond.selects RX2 yX2_setFloor yX2_setFloor, Cond.code yX2_setFloor cX2_setFloor 3 (some .int), Cond.fieldLink RX2 113 "CoauthorTextModel" "floor" "I", Cond.methodLink RL 133 yL_advance, Cond.static yL_advance, Cond.codeWith yL_advance cL_advance 5 (some .int) [(0, 10, 13, 13)], Cond.methodLink RL 61 yX1_advance, Cond.instanceMethod yX1_advance, Cond.selects RX1 yX1_advance yX1_advance, Cond.code yX1_advance cX1_advance 3 (some .int), Cond.constant RX1 144 (100000), Cond.methodLink RL 135 yX2_advance, Cond.instanceMethod yX2_advance, Cond.selects RX2 yX2_advance yX2_advance, Cond.code yX2_advance cX2_advance 3 (some .int), Cond.constant RX2 116 (100000), Cond.methodLink RL 136 yL_sell, Cond.static yL_sell, Cond.codeWith yL_sell cL_sell 5 (some .int) [(0, 10, 13, 15), (0, 10, 17, 13)], Cond.methodLink RL 64 yX1_sell, Cond.instanceMethod yX1_sell]
def wsL_law0_r16 : List Cond := [Cond.selects RX1 yX1_sell yX1_sell, Cond.code yX1_sell cX1_sell 7 (some .int), Cond.constant RX1 145 (1000000), Cond.methodLink RX1 146 yX1_shareOf, Cond.instanceMethod yX1_shareOf, Cond.selects RX1 yX1_shareOf yX1_shareOf, Cond.code yX1_shareOf cX1_shareOf 8 (some .int), Cond.methodLink RX1 150 yX1_credit, Cond.instanceMethod yX1_credit, Cond.selects RX1 yX1_credit yX1_credit, Cond.code yX1_credit cX1_credit 4 (some .int), Cond.methodLink RX1 162 Lib.Math.min.name, Cond.static Lib.Math.min.name, Cond.code Lib.Math.min.name Lib.Math.min.code 2 (some .int), Cond.methodLink RL 138 yX2_sell, Cond.instanceMethod yX2_sell, Cond.selects RX2 yX2_sell yX2_sell, Cond.code yX2_sell cX2_sell 12 (some .int), Cond.constant RX2 117 (1000000), Cond.methodLink RL 139 yL_paid, Cond.static yL_paid, Cond.codeWith yL_paid cL_paid 4 (some .int) [(0, 8, 11, 13)], Cond.methodLink RL 67 yX1_paid, Cond.instanceMethod yX1_paid]
def wsL_law0_r17 : List Cond := [Cond.selects RX1 yX1_paid yX1_paid, Cond.code yX1_paid cX1_paid 2 (some .long), Cond.methodLink RL 141 yX2_paid, Cond.instanceMethod yX2_paid, Cond.selects RX2 yX2_paid yX2_paid, Cond.code yX2_paid cX2_paid 2 (some .long), Cond.methodLink RL 142 yL_left, Cond.static yL_left, Cond.codeWith yL_left cL_left 4 (some .int) [(0, 9, 12, 13)], Cond.methodLink RL 71 yX1_left, Cond.instanceMethod yX1_left, Cond.selects RX1 yX1_left yX1_left, Cond.code yX1_left cX1_left 2 (some .int), Cond.methodLink RL 144 yX2_left, Cond.instanceMethod yX2_left, Cond.selects RX2 yX2_left yX2_left, Cond.code yX2_left cX2_left 2 (some .int)]
def wsL_law0 : List Cond := (wsL_law0_r1 ++ (wsL_law0_r2 ++ (wsL_law0_r3 ++ (wsL_law0_r4 ++ (wsL_law0_r5 ++ (wsL_law0_r6 ++ (wsL_law0_r7 ++ (wsL_law0_r8 ++ (wsL_law0_r9 ++ (wsL_law0_r10 ++ (wsL_law0_r11 ++ (wsL_law0_r12 ++ (wsL_law0_r13 ++ (wsL_law0_r14 ++ (wsL_law0_r15 ++ (wsL_law0_r16 ++ wsL_law0_r17)))))))))))))))) ++ wsX10 ++ wsX20 ++ wsX00 ++ ([] : List Cond)
def wsL_law : List Cond := wsL_law0 ++ (vx_atS RX1 57 "java/lang/IndexOutOfBoundsException" ["java/lang/RuntimeException", "java/lang/Exception"]).filter goodWord ++ (vx_atS RX1 68 "java/lang/IllegalStateException" ["java/lang/RuntimeException", "java/lang/Exception"]).filter goodWord ++ (vx_atS RX1 105 "java/lang/IllegalArgumentException" ["java/lang/RuntimeException", "java/lang/Exception"]).filter goodWord
end
section
theorem dX0_init_0 : decode cX0_init 0 = .ok (.aload_n 0, 1) := by decide +kernel
theorem dX0_init_1 : decode cX0_init 1 = .ok (.invokespecial 3, 3) := by decide +kernel
theorem dX0_init_4 : decode cX0_init 4 = .ok (.aload_n 0, 1) := by decide +kernel
theorem dX0_init_5 : decode cX0_init 5 = .ok (.aconst_null, 1) := by decide +kernel
theorem dX0_init_6 : decode cX0_init 6 = .ok (.putfield 9, 3) := by decide +kernel
theorem dX0_init_9 : decode cX0_init 9 = .ok (.aload_n 0, 1) := by decide +kernel
theorem dX0_init_10 : decode cX0_init 10 = .ok (.iconst 4, 1) := by decide +kernel
theorem dX0_init_11 : decode cX0_init 11 = .ok (.newarray .int, 2) := by decide +kernel
theorem dX0_init_13 : decode cX0_init 13 = .ok (.putfield 15, 3) := by decide +kernel
theorem dX0_init_16 : decode cX0_init 16 = .ok (.aload_n 0, 1) := by decide +kernel
theorem dX0_init_17 : decode cX0_init 17 = .ok (.iconst 4, 1) := by decide +kernel
theorem dX0_init_18 : decode cX0_init 18 = .ok (.newarray .boolean, 2) := by decide +kernel
theorem dX0_init_20 : decode cX0_init 20 = .ok (.putfield 19, 3) := by decide +kernel
theorem dX0_init_23 : decode cX0_init 23 = .ok (.aload_n 0, 1) := by decide +kernel
theorem dX0_init_24 : decode cX0_init 24 = .ok (.iload_n 1, 1) := by decide +kernel
theorem dX0_init_25 : decode cX0_init 25 = .ok (.putfield 23, 3) := by decide +kernel
theorem dX0_init_28 : decode cX0_init 28 = .ok (.aload_n 0, 1) := by decide +kernel
theorem dX0_init_29 : decode cX0_init 29 = .ok (.iload_n 2, 1) := by decide +kernel
theorem dX0_init_30 : decode cX0_init 30 = .ok (.putfield 27, 3) := by decide +kernel
theorem dX0_init_33 : decode cX0_init 33 = .ok (.aload_n 0, 1) := by decide +kernel
theorem dX0_init_34 : decode cX0_init 34 = .ok (.iload_n 3, 1) := by decide +kernel
theorem dX0_init_35 : decode cX0_init 35 = .ok (.putfield 30, 3) := by decide +kernel
theorem dX0_init_38 : decode cX0_init 38 = .ok (.aload_n 0, 1) := by decide +kernel
theorem dX0_init_39 : decode cX0_init 39 = .ok (.iload 4, 2) := by decide +kernel
theorem dX0_init_41 : decode cX0_init 41 = .ok (.putfield 33, 3) := by decide +kernel
theorem dX0_init_44 : decode cX0_init 44 = .ok (.aload_n 0, 1) := by decide +kernel
theorem dX0_init_45 : decode cX0_init 45 = .ok (.aload 5, 2) := by decide +kernel
theorem dX0_init_47 : decode cX0_init 47 = .ok (.putfield 36, 3) := by decide +kernel
theorem dX0_init_50 : decode cX0_init 50 = .ok (.iconst 0, 1) := by decide +kernel
theorem dX0_init_51 : decode cX0_init 51 = .ok (.istore 6, 2) := by decide +kernel
theorem dX0_init_53 : decode cX0_init 53 = .ok (.iload 6, 2) := by decide +kernel
theorem dX0_init_55 : decode cX0_init 55 = .ok (.iconst 4, 1) := by decide +kernel
theorem dX0_init_56 : decode cX0_init 56 = .ok (.if_icmp .ge 27, 3) := by decide +kernel
theorem dX0_init_59 : decode cX0_init 59 = .ok (.aload_n 0, 1) := by decide +kernel
theorem dX0_init_60 : decode cX0_init 60 = .ok (.getfield 15, 3) := by decide +kernel
theorem dX0_init_63 : decode cX0_init 63 = .ok (.iload 6, 2) := by decide +kernel
theorem dX0_init_65 : decode cX0_init 65 = .ok (.iload 6, 2) := by decide +kernel
theorem dX0_init_67 : decode cX0_init 67 = .ok (.iload_n 2, 1) := by decide +kernel
theorem dX0_init_68 : decode cX0_init 68 = .ok (.if_icmp .ne 7, 3) := by decide +kernel
theorem dX0_init_71 : decode cX0_init 71 = .ok (.iconst 0, 1) := by decide +kernel
theorem dX0_init_72 : decode cX0_init 72 = .ok (.goto 4, 3) := by decide +kernel
theorem dX0_init_75 : decode cX0_init 75 = .ok (.iconst (-1), 1) := by decide +kernel
theorem dX0_init_76 : decode cX0_init 76 = .ok (.iastore, 1) := by decide +kernel
theorem dX0_init_77 : decode cX0_init 77 = .ok (.iinc 6 1, 3) := by decide +kernel
theorem dX0_init_80 : decode cX0_init 80 = .ok (.goto (-27), 3) := by decide +kernel
theorem dX0_init_83 : decode cX0_init 83 = .ok (.return_, 1) := by decide +kernel
theorem dX0_isKnownIn_0 : decode cX0_isKnownIn 0 = .ok (.aload_n 0, 1) := by decide +kernel
theorem dX0_isKnownIn_1 : decode cX0_isKnownIn 1 = .ok (.getfield 15, 3) := by decide +kernel
theorem dX0_isKnownIn_4 : decode cX0_isKnownIn 4 = .ok (.iload_n 1, 1) := by decide +kernel
theorem dX0_isKnownIn_5 : decode cX0_isKnownIn 5 = .ok (.iaload, 1) := by decide +kernel
theorem dX0_isKnownIn_6 : decode cX0_isKnownIn 6 = .ok (.iconst (-1), 1) := by decide +kernel
theorem dX0_isKnownIn_7 : decode cX0_isKnownIn 7 = .ok (.if_icmp .eq 7, 3) := by decide +kernel
theorem dX0_isKnownIn_10 : decode cX0_isKnownIn 10 = .ok (.iconst 1, 1) := by decide +kernel
theorem dX0_isKnownIn_11 : decode cX0_isKnownIn 11 = .ok (.goto 4, 3) := by decide +kernel
theorem dX0_isKnownIn_14 : decode cX0_isKnownIn 14 = .ok (.iconst 0, 1) := by decide +kernel
theorem dX0_isKnownIn_15 : decode cX0_isKnownIn 15 = .ok (.ireturn, 1) := by decide +kernel
set_option maxRecDepth 20000 in
theorem ggX0_isRemovedIn_X0_isKnownIn : GoodIn wsX0_isRemovedIn wsX0_isKnownIn := goodIn_r _ [6, 7, 8, 9, 10, 11, 12, 13, 14, 15] (by decide +kernel) (by decide +kernel)
set_option maxRecDepth 20000 in
theorem gX0_isRemovedIn_X0_isKnownIn : GoodIn wsX0_isRemovedIn (wsV RX0 39 RX0 yX0_isKnownIn wsX0_isKnownIn) := goodIn_app (goodIn_of _ (by decide +kernel)) ggX0_isRemovedIn_X0_isKnownIn
theorem dX0_isRemovedIn_0 : decode cX0_isRemovedIn 0 = .ok (.aload_n 0, 1) := by decide +kernel
theorem dX0_isRemovedIn_1 : decode cX0_isRemovedIn 1 = .ok (.iload_n 1, 1) := by decide +kernel
theorem dX0_isRemovedIn_2 : decode cX0_isRemovedIn 2 = .ok (.invokevirtual 39, 3) := by decide +kernel
theorem dX0_isRemovedIn_5 : decode cX0_isRemovedIn 5 = .ok (.ifCond .eq 16, 3) := by decide +kernel
theorem dX0_isRemovedIn_8 : decode cX0_isRemovedIn 8 = .ok (.aload_n 0, 1) := by decide +kernel
theorem dX0_isRemovedIn_9 : decode cX0_isRemovedIn 9 = .ok (.getfield 19, 3) := by decide +kernel
theorem dX0_isRemovedIn_12 : decode cX0_isRemovedIn 12 = .ok (.iload_n 1, 1) := by decide +kernel
theorem dX0_isRemovedIn_13 : decode cX0_isRemovedIn 13 = .ok (.baload, 1) := by decide +kernel
theorem dX0_isRemovedIn_14 : decode cX0_isRemovedIn 14 = .ok (.ifCond .eq 7, 3) := by decide +kernel
theorem dX0_isRemovedIn_17 : decode cX0_isRemovedIn 17 = .ok (.iconst 1, 1) := by decide +kernel
theorem dX0_isRemovedIn_18 : decode cX0_isRemovedIn 18 = .ok (.goto 4, 3) := by decide +kernel
theorem dX0_isRemovedIn_21 : decode cX0_isRemovedIn 21 = .ok (.iconst 0, 1) := by decide +kernel
theorem dX0_isRemovedIn_22 : decode cX0_isRemovedIn 22 = .ok (.ireturn, 1) := by decide +kernel
set_option maxRecDepth 20000 in
theorem ggX0_isInTextOf_X0_isKnownIn : GoodIn wsX0_isInTextOf wsX0_isKnownIn := goodIn_r _ [6, 7, 8, 9, 10, 11, 12, 13, 14, 15] (by decide +kernel) (by decide +kernel)
set_option maxRecDepth 20000 in
theorem gX0_isInTextOf_X0_isKnownIn : GoodIn wsX0_isInTextOf (wsV RX0 39 RX0 yX0_isKnownIn wsX0_isKnownIn) := goodIn_app (goodIn_of _ (by decide +kernel)) ggX0_isInTextOf_X0_isKnownIn
theorem dX0_isInTextOf_0 : decode cX0_isInTextOf 0 = .ok (.aload_n 0, 1) := by decide +kernel
theorem dX0_isInTextOf_1 : decode cX0_isInTextOf 1 = .ok (.iload_n 1, 1) := by decide +kernel
theorem dX0_isInTextOf_2 : decode cX0_isInTextOf 2 = .ok (.invokevirtual 39, 3) := by decide +kernel
theorem dX0_isInTextOf_5 : decode cX0_isInTextOf 5 = .ok (.ifCond .eq 16, 3) := by decide +kernel
theorem dX0_isInTextOf_8 : decode cX0_isInTextOf 8 = .ok (.aload_n 0, 1) := by decide +kernel
theorem dX0_isInTextOf_9 : decode cX0_isInTextOf 9 = .ok (.getfield 19, 3) := by decide +kernel
theorem dX0_isInTextOf_12 : decode cX0_isInTextOf 12 = .ok (.iload_n 1, 1) := by decide +kernel
theorem dX0_isInTextOf_13 : decode cX0_isInTextOf 13 = .ok (.baload, 1) := by decide +kernel
theorem dX0_isInTextOf_14 : decode cX0_isInTextOf 14 = .ok (.ifCond .ne 7, 3) := by decide +kernel
theorem dX0_isInTextOf_17 : decode cX0_isInTextOf 17 = .ok (.iconst 1, 1) := by decide +kernel
theorem dX0_isInTextOf_18 : decode cX0_isInTextOf 18 = .ok (.goto 4, 3) := by decide +kernel
theorem dX0_isInTextOf_21 : decode cX0_isInTextOf 21 = .ok (.iconst 0, 1) := by decide +kernel
theorem dX0_isInTextOf_22 : decode cX0_isInTextOf 22 = .ok (.ireturn, 1) := by decide +kernel
theorem dX0_setRemoved_0 : decode cX0_setRemoved 0 = .ok (.aload_n 0, 1) := by decide +kernel
theorem dX0_setRemoved_1 : decode cX0_setRemoved 1 = .ok (.getfield 19, 3) := by decide +kernel
theorem dX0_setRemoved_4 : decode cX0_setRemoved 4 = .ok (.iload_n 1, 1) := by decide +kernel
theorem dX0_setRemoved_5 : decode cX0_setRemoved 5 = .ok (.iload_n 2, 1) := by decide +kernel
theorem dX0_setRemoved_6 : decode cX0_setRemoved 6 = .ok (.bastore, 1) := by decide +kernel
theorem dX0_setRemoved_7 : decode cX0_setRemoved 7 = .ok (.aload_n 0, 1) := by decide +kernel
theorem dX0_setRemoved_8 : decode cX0_setRemoved 8 = .ok (.getfield 15, 3) := by decide +kernel
theorem dX0_setRemoved_11 : decode cX0_setRemoved 11 = .ok (.iload_n 1, 1) := by decide +kernel
theorem dX0_setRemoved_12 : decode cX0_setRemoved 12 = .ok (.iload_n 3, 1) := by decide +kernel
theorem dX0_setRemoved_13 : decode cX0_setRemoved 13 = .ok (.iastore, 1) := by decide +kernel
theorem dX0_setRemoved_14 : decode cX0_setRemoved 14 = .ok (.return_, 1) := by decide +kernel
set_option maxRecDepth 20000 in
theorem ggX0_bringNewer_X0_setRemoved : GoodIn wsX0_bringNewer wsX0_setRemoved := goodIn_r _ [7, 2, 1, 8, 9, 10, 11, 12, 13, 14, 15] (by decide +kernel) (by decide +kernel)
set_option maxRecDepth 20000 in
theorem gX0_bringNewer_X0_setRemoved : GoodIn wsX0_bringNewer (wsV RX0 43 RX0 yX0_setRemoved wsX0_setRemoved) := goodIn_app (goodIn_of _ (by decide +kernel)) ggX0_bringNewer_X0_setRemoved
theorem dX0_bringNewer_0 : decode cX0_bringNewer 0 = .ok (.aload_n 0, 1) := by decide +kernel
theorem dX0_bringNewer_1 : decode cX0_bringNewer 1 = .ok (.getfield 15, 3) := by decide +kernel
theorem dX0_bringNewer_4 : decode cX0_bringNewer 4 = .ok (.iload_n 2, 1) := by decide +kernel
theorem dX0_bringNewer_5 : decode cX0_bringNewer 5 = .ok (.iaload, 1) := by decide +kernel
theorem dX0_bringNewer_6 : decode cX0_bringNewer 6 = .ok (.aload_n 0, 1) := by decide +kernel
theorem dX0_bringNewer_7 : decode cX0_bringNewer 7 = .ok (.getfield 15, 3) := by decide +kernel
theorem dX0_bringNewer_10 : decode cX0_bringNewer 10 = .ok (.iload_n 1, 1) := by decide +kernel
theorem dX0_bringNewer_11 : decode cX0_bringNewer 11 = .ok (.iaload, 1) := by decide +kernel
theorem dX0_bringNewer_12 : decode cX0_bringNewer 12 = .ok (.if_icmp .le 20, 3) := by decide +kernel
theorem dX0_bringNewer_15 : decode cX0_bringNewer 15 = .ok (.aload_n 0, 1) := by decide +kernel
theorem dX0_bringNewer_16 : decode cX0_bringNewer 16 = .ok (.iload_n 1, 1) := by decide +kernel
theorem dX0_bringNewer_17 : decode cX0_bringNewer 17 = .ok (.aload_n 0, 1) := by decide +kernel
theorem dX0_bringNewer_18 : decode cX0_bringNewer 18 = .ok (.getfield 19, 3) := by decide +kernel
theorem dX0_bringNewer_21 : decode cX0_bringNewer 21 = .ok (.iload_n 2, 1) := by decide +kernel
theorem dX0_bringNewer_22 : decode cX0_bringNewer 22 = .ok (.baload, 1) := by decide +kernel
theorem dX0_bringNewer_23 : decode cX0_bringNewer 23 = .ok (.aload_n 0, 1) := by decide +kernel
theorem dX0_bringNewer_24 : decode cX0_bringNewer 24 = .ok (.getfield 15, 3) := by decide +kernel
theorem dX0_bringNewer_27 : decode cX0_bringNewer 27 = .ok (.iload_n 2, 1) := by decide +kernel
theorem dX0_bringNewer_28 : decode cX0_bringNewer 28 = .ok (.iaload, 1) := by decide +kernel
theorem dX0_bringNewer_29 : decode cX0_bringNewer 29 = .ok (.invokevirtual 43, 3) := by decide +kernel
theorem dX0_bringNewer_32 : decode cX0_bringNewer 32 = .ok (.return_, 1) := by decide +kernel
theorem dX1_init_0 : decode cX1_init 0 = .ok (.aload_n 0, 1) := by decide +kernel
theorem dX1_init_1 : decode cX1_init 1 = .ok (.invokespecial 1, 3) := by decide +kernel
theorem dX1_init_4 : decode cX1_init 4 = .ok (.aload_n 0, 1) := by decide +kernel
theorem dX1_init_5 : decode cX1_init 5 = .ok (.bipush 60, 2) := by decide +kernel
theorem dX1_init_7 : decode cX1_init 7 = .ok (.anewarray 9, 3) := by decide +kernel
theorem dX1_init_10 : decode cX1_init 10 = .ok (.putfield 11, 3) := by decide +kernel
theorem dX1_init_13 : decode cX1_init 13 = .ok (.aload_n 0, 1) := by decide +kernel
theorem dX1_init_14 : decode cX1_init 14 = .ok (.iconst 0, 1) := by decide +kernel
theorem dX1_init_15 : decode cX1_init 15 = .ok (.putfield 15, 3) := by decide +kernel
theorem dX1_init_18 : decode cX1_init 18 = .ok (.aload_n 0, 1) := by decide +kernel
theorem dX1_init_19 : decode cX1_init 19 = .ok (.aconst_null, 1) := by decide +kernel
theorem dX1_init_20 : decode cX1_init 20 = .ok (.putfield 19, 3) := by decide +kernel
theorem dX1_init_23 : decode cX1_init 23 = .ok (.aload_n 0, 1) := by decide +kernel
theorem dX1_init_24 : decode cX1_init 24 = .ok (.iconst 4, 1) := by decide +kernel
theorem dX1_init_25 : decode cX1_init 25 = .ok (.newarray .int, 2) := by decide +kernel
theorem dX1_init_27 : decode cX1_init 27 = .ok (.putfield 23, 3) := by decide +kernel
theorem dX1_init_30 : decode cX1_init 30 = .ok (.aload_n 0, 1) := by decide +kernel
theorem dX1_init_31 : decode cX1_init 31 = .ok (.bipush 20, 2) := by decide +kernel
theorem dX1_init_33 : decode cX1_init 33 = .ok (.iconst 4, 1) := by decide +kernel
theorem dX1_init_34 : decode cX1_init 34 = .ok (.multianewarray 27 2, 4) := by decide +kernel
theorem dX1_init_38 : decode cX1_init 38 = .ok (.putfield 29, 3) := by decide +kernel
theorem dX1_init_41 : decode cX1_init 41 = .ok (.aload_n 0, 1) := by decide +kernel
theorem dX1_init_42 : decode cX1_init 42 = .ok (.iconst 0, 1) := by decide +kernel
theorem dX1_init_43 : decode cX1_init 43 = .ok (.putfield 32, 3) := by decide +kernel
theorem dX1_init_46 : decode cX1_init 46 = .ok (.aload_n 0, 1) := by decide +kernel
theorem dX1_init_47 : decode cX1_init 47 = .ok (.iconst 0, 1) := by decide +kernel
theorem dX1_init_48 : decode cX1_init 48 = .ok (.putfield 35, 3) := by decide +kernel
theorem dX1_init_51 : decode cX1_init 51 = .ok (.aload_n 0, 1) := by decide +kernel
theorem dX1_init_52 : decode cX1_init 52 = .ok (.iconst 4, 1) := by decide +kernel
theorem dX1_init_53 : decode cX1_init 53 = .ok (.newarray .int, 2) := by decide +kernel
theorem dX1_init_55 : decode cX1_init 55 = .ok (.putfield 38, 3) := by decide +kernel
theorem dX1_init_58 : decode cX1_init 58 = .ok (.aload_n 0, 1) := by decide +kernel
theorem dX1_init_59 : decode cX1_init 59 = .ok (.iconst 4, 1) := by decide +kernel
theorem dX1_init_60 : decode cX1_init 60 = .ok (.newarray .long, 2) := by decide +kernel
theorem dX1_init_62 : decode cX1_init 62 = .ok (.putfield 41, 3) := by decide +kernel
theorem dX1_init_65 : decode cX1_init 65 = .ok (.return_, 1) := by decide +kernel
set_option maxRecDepth 20000 in
theorem ggX1_insert_X1_checkAuthor : GoodIn wsX1_insert wsX1_checkAuthor := goodIn_ca (goodIn_r _ [13, 14, 15, 12, 16, 17, 18] (by decide +kernel) (by decide +kernel)) (goodIn_sub (fun _ h => List.mem_cons_of_mem _ (List.mem_append_right _ h)) (by decide +kernel))
set_option maxRecDepth 20000 in
theorem gX1_insert_X1_checkAuthor : GoodIn wsX1_insert (va_wsS RX1 45 yX1_checkAuthor wsX1_checkAuthor) := goodIn_app (goodIn_of _ (by decide +kernel)) ggX1_insert_X1_checkAuthor
set_option maxRecDepth 20000 in
theorem ggX1_insert_X1_checkRange : GoodIn wsX1_insert wsX1_checkRange := goodIn_ca (goodIn_r _ [16, 17, 18] (by decide +kernel) (by decide +kernel)) (goodIn_sub (fun _ h => List.mem_cons_of_mem _ (List.mem_append_right _ h)) (by decide +kernel))
set_option maxRecDepth 20000 in
theorem gX1_insert_X1_checkRange : GoodIn wsX1_insert (va_wsS RX1 49 yX1_checkRange wsX1_checkRange) := goodIn_app (goodIn_of _ (by decide +kernel)) ggX1_insert_X1_checkRange
set_option maxRecDepth 20000 in
theorem ggX1_insert_X1_findAtPlace : GoodIn wsX1_insert wsX1_findAtPlace := goodIn_ca (goodIn_r _ [22, 1, 2, 23, 24, 8, 25, 26, 27, 28, 29, 30, 31, 32, 55, 56, 57, 58, 59, 60, 61, 62, 63, 64, 65, 66, 67, 68, 69, 70, 71] (by decide +kernel) (by decide +kernel)) (goodIn_sub (fun _ h => List.mem_cons_of_mem _ (List.mem_append_left _ (List.mem_append_left _ (List.mem_append_right _ h)))) (by decide +kernel))
set_option maxRecDepth 20000 in
theorem gX1_insert_X1_findAtPlace : GoodIn wsX1_insert (wsV RX1 60 RX1 yX1_findAtPlace wsX1_findAtPlace) := goodIn_app (goodIn_of _ (by decide +kernel)) ggX1_insert_X1_findAtPlace
set_option maxRecDepth 20000 in
theorem ggX1_insert_X1_nextStamp : GoodIn wsX1_insert wsX1_nextStamp := goodIn_r _ [36, 37, 55, 56, 57, 58, 59, 60, 61, 62, 63] (by decide +kernel) (by decide +kernel)
set_option maxRecDepth 20000 in
theorem gX1_insert_X1_nextStamp : GoodIn wsX1_insert (wsV RX1 69 RX1 yX1_nextStamp wsX1_nextStamp) := goodIn_app (goodIn_of _ (by decide +kernel)) ggX1_insert_X1_nextStamp
set_option maxRecDepth 20000 in
theorem ggX1_insert_X0_init : GoodIn wsX1_insert wsX0_init := goodIn_r _ [39, 40, 41, 42, 43, 44, 32, 45, 27, 46, 47, 48, 49, 50, 64, 65, 66, 67, 68, 69, 70, 71] (by decide +kernel) (by decide +kernel)
set_option maxRecDepth 20000 in
theorem gX1_insert_X0_init_n73 : GoodIn wsX1_insert (wsX0_init) := ggX1_insert_X0_init
set_option maxRecDepth 20000 in
theorem ggX1_insert_X1_putInOrder : GoodIn wsX1_insert wsX1_putInOrder := goodIn_r _ [54, 23, 64, 65, 66, 67, 68, 69, 70, 71, 55, 56, 57, 58, 59, 60, 61, 62, 63] (by decide +kernel) (by decide +kernel)
set_option maxRecDepth 20000 in
theorem gX1_insert_X1_putInOrder : GoodIn wsX1_insert (wsV RX1 76 RX1 yX1_putInOrder wsX1_putInOrder) := goodIn_app (goodIn_of _ (by decide +kernel)) ggX1_insert_X1_putInOrder
theorem dX1_insert_0 : decode cX1_insert 0 = .ok (.iload_n 1, 1) := by decide +kernel
theorem dX1_insert_1 : decode cX1_insert 1 = .ok (.invokestatic 45, 3) := by decide +kernel
theorem dX1_insert_4 : decode cX1_insert 4 = .ok (.iload_n 3, 1) := by decide +kernel
theorem dX1_insert_5 : decode cX1_insert 5 = .ok (.iconst 0, 1) := by decide +kernel
theorem dX1_insert_6 : decode cX1_insert 6 = .ok (.bipush 25, 2) := by decide +kernel
theorem dX1_insert_8 : decode cX1_insert 8 = .ok (.invokestatic 49, 3) := by decide +kernel
theorem dX1_insert_11 : decode cX1_insert 11 = .ok (.iload_n 2, 1) := by decide +kernel
theorem dX1_insert_12 : decode cX1_insert 12 = .ok (.ifCond .ge 13, 3) := by decide +kernel
theorem dX1_insert_15 : decode cX1_insert 15 = .ok (.new 53, 3) := by decide +kernel
theorem dX1_insert_18 : decode cX1_insert 18 = .ok (.dup, 1) := by decide +kernel
theorem dX1_insert_19 : decode cX1_insert 19 = .ok (.ldc 55, 2) := by decide +kernel
theorem dX1_insert_21 : decode cX1_insert 21 = .ok (.invokespecial 57, 3) := by decide +kernel
theorem dX1_insert_24 : decode cX1_insert 24 = .ok (.athrow, 1) := by decide +kernel
theorem dX1_insert_25 : decode cX1_insert 25 = .ok (.iload_n 2, 1) := by decide +kernel
theorem dX1_insert_26 : decode cX1_insert 26 = .ok (.ifCond .ne 7, 3) := by decide +kernel
theorem dX1_insert_29 : decode cX1_insert 29 = .ok (.aconst_null, 1) := by decide +kernel
theorem dX1_insert_30 : decode cX1_insert 30 = .ok (.goto 11, 3) := by decide +kernel
theorem dX1_insert_33 : decode cX1_insert 33 = .ok (.aload_n 0, 1) := by decide +kernel
theorem dX1_insert_34 : decode cX1_insert 34 = .ok (.iload_n 1, 1) := by decide +kernel
theorem dX1_insert_35 : decode cX1_insert 35 = .ok (.iload_n 2, 1) := by decide +kernel
theorem dX1_insert_36 : decode cX1_insert 36 = .ok (.iconst 1, 1) := by decide +kernel
theorem dX1_insert_37 : decode cX1_insert 37 = .ok (.isub, 1) := by decide +kernel
theorem dX1_insert_38 : decode cX1_insert 38 = .ok (.invokevirtual 60, 3) := by decide +kernel
theorem dX1_insert_41 : decode cX1_insert 41 = .ok (.astore 4, 2) := by decide +kernel
theorem dX1_insert_43 : decode cX1_insert 43 = .ok (.aload_n 0, 1) := by decide +kernel
theorem dX1_insert_44 : decode cX1_insert 44 = .ok (.getfield 15, 3) := by decide +kernel
theorem dX1_insert_47 : decode cX1_insert 47 = .ok (.bipush 60, 2) := by decide +kernel
theorem dX1_insert_49 : decode cX1_insert 49 = .ok (.if_icmp .lt 13, 3) := by decide +kernel
theorem dX1_insert_52 : decode cX1_insert 52 = .ok (.new 64, 3) := by decide +kernel
theorem dX1_insert_55 : decode cX1_insert 55 = .ok (.dup, 1) := by decide +kernel
theorem dX1_insert_56 : decode cX1_insert 56 = .ok (.ldc 66, 2) := by decide +kernel
theorem dX1_insert_58 : decode cX1_insert 58 = .ok (.invokespecial 68, 3) := by decide +kernel
theorem dX1_insert_61 : decode cX1_insert 61 = .ok (.athrow, 1) := by decide +kernel
theorem dX1_insert_62 : decode cX1_insert 62 = .ok (.new 9, 3) := by decide +kernel
theorem dX1_insert_65 : decode cX1_insert 65 = .ok (.dup, 1) := by decide +kernel
theorem dX1_insert_66 : decode cX1_insert 66 = .ok (.aload_n 0, 1) := by decide +kernel
theorem dX1_insert_67 : decode cX1_insert 67 = .ok (.getfield 15, 3) := by decide +kernel
theorem dX1_insert_70 : decode cX1_insert 70 = .ok (.iload_n 1, 1) := by decide +kernel
theorem dX1_insert_71 : decode cX1_insert 71 = .ok (.iload_n 3, 1) := by decide +kernel
theorem dX1_insert_72 : decode cX1_insert 72 = .ok (.aload_n 0, 1) := by decide +kernel
theorem dX1_insert_73 : decode cX1_insert 73 = .ok (.iload_n 1, 1) := by decide +kernel
theorem dX1_insert_74 : decode cX1_insert 74 = .ok (.invokevirtual 69, 3) := by decide +kernel
theorem dX1_insert_77 : decode cX1_insert 77 = .ok (.aload 4, 2) := by decide +kernel
theorem dX1_insert_79 : decode cX1_insert 79 = .ok (.invokespecial 73, 3) := by decide +kernel
theorem dX1_insert_82 : decode cX1_insert 82 = .ok (.astore 5, 2) := by decide +kernel
theorem dX1_insert_84 : decode cX1_insert 84 = .ok (.aload_n 0, 1) := by decide +kernel
theorem dX1_insert_85 : decode cX1_insert 85 = .ok (.getfield 11, 3) := by decide +kernel
theorem dX1_insert_88 : decode cX1_insert 88 = .ok (.aload_n 0, 1) := by decide +kernel
theorem dX1_insert_89 : decode cX1_insert 89 = .ok (.getfield 15, 3) := by decide +kernel
theorem dX1_insert_92 : decode cX1_insert 92 = .ok (.aload 5, 2) := by decide +kernel
theorem dX1_insert_94 : decode cX1_insert 94 = .ok (.aastore, 1) := by decide +kernel
theorem dX1_insert_95 : decode cX1_insert 95 = .ok (.aload_n 0, 1) := by decide +kernel
theorem dX1_insert_96 : decode cX1_insert 96 = .ok (.dup, 1) := by decide +kernel
theorem dX1_insert_97 : decode cX1_insert 97 = .ok (.getfield 15, 3) := by decide +kernel
theorem dX1_insert_100 : decode cX1_insert 100 = .ok (.iconst 1, 1) := by decide +kernel
theorem dX1_insert_101 : decode cX1_insert 101 = .ok (.iadd, 1) := by decide +kernel
theorem dX1_insert_102 : decode cX1_insert 102 = .ok (.putfield 15, 3) := by decide +kernel
theorem dX1_insert_105 : decode cX1_insert 105 = .ok (.aload_n 0, 1) := by decide +kernel
theorem dX1_insert_106 : decode cX1_insert 106 = .ok (.aload 5, 2) := by decide +kernel
theorem dX1_insert_108 : decode cX1_insert 108 = .ok (.invokevirtual 76, 3) := by decide +kernel
theorem dX1_insert_111 : decode cX1_insert 111 = .ok (.aload 5, 2) := by decide +kernel
theorem dX1_insert_113 : decode cX1_insert 113 = .ok (.getfield 80, 3) := by decide +kernel
theorem dX1_insert_116 : decode cX1_insert 116 = .ok (.ireturn, 1) := by decide +kernel
set_option maxRecDepth 20000 in
theorem ggX1_remove_X1_checkAuthor : GoodIn wsX1_remove wsX1_checkAuthor := goodIn_ca (goodIn_r _ [4, 5, 6, 3, 7, 8, 9] (by decide +kernel) (by decide +kernel)) (goodIn_sub (fun _ h => List.mem_cons_of_mem _ (List.mem_append_left _ (List.mem_append_right _ h))) (by decide +kernel))
set_option maxRecDepth 20000 in
theorem gX1_remove_X1_checkAuthor : GoodIn wsX1_remove (va_wsS RX1 45 yX1_checkAuthor wsX1_checkAuthor) := goodIn_app (goodIn_of _ (by decide +kernel)) ggX1_remove_X1_checkAuthor
set_option maxRecDepth 20000 in
theorem ggX1_remove_X1_findAtPlace : GoodIn wsX1_remove wsX1_findAtPlace := goodIn_ca (goodIn_r _ [13, 14, 15, 16, 17, 18, 19, 20, 21, 22, 23, 24, 25, 26, 43, 44, 45, 46, 47, 48, 49, 50, 51, 35, 36, 37, 38, 39, 40, 41, 42] (by decide +kernel) (by decide +kernel)) (goodIn_sub (fun _ h => List.mem_cons_of_mem _ (List.mem_append_right _ h)) (by decide +kernel))
set_option maxRecDepth 20000 in
theorem gX1_remove_X1_findAtPlace : GoodIn wsX1_remove (wsV RX1 60 RX1 yX1_findAtPlace wsX1_findAtPlace) := goodIn_app (goodIn_of _ (by decide +kernel)) ggX1_remove_X1_findAtPlace
set_option maxRecDepth 20000 in
theorem ggX1_remove_X1_nextStamp : GoodIn wsX1_remove wsX1_nextStamp := goodIn_r _ [30, 31, 43, 44, 45, 46, 47, 48, 49, 50, 51] (by decide +kernel) (by decide +kernel)
set_option maxRecDepth 20000 in
theorem gX1_remove_X1_nextStamp : GoodIn wsX1_remove (wsV RX1 69 RX1 yX1_nextStamp wsX1_nextStamp) := goodIn_app (goodIn_of _ (by decide +kernel)) ggX1_remove_X1_nextStamp
set_option maxRecDepth 20000 in
theorem ggX1_remove_X0_setRemoved : GoodIn wsX1_remove wsX0_setRemoved := goodIn_r _ [34, 21, 26, 35, 36, 37, 38, 39, 40, 41, 42] (by decide +kernel) (by decide +kernel)
set_option maxRecDepth 20000 in
theorem gX1_remove_X0_setRemoved_n83 : GoodIn wsX1_remove (wsX0_setRemoved) := ggX1_remove_X0_setRemoved
theorem dX1_remove_0 : decode cX1_remove 0 = .ok (.iload_n 1, 1) := by decide +kernel
theorem dX1_remove_1 : decode cX1_remove 1 = .ok (.invokestatic 45, 3) := by decide +kernel
theorem dX1_remove_4 : decode cX1_remove 4 = .ok (.aload_n 0, 1) := by decide +kernel
theorem dX1_remove_5 : decode cX1_remove 5 = .ok (.iload_n 1, 1) := by decide +kernel
theorem dX1_remove_6 : decode cX1_remove 6 = .ok (.iload_n 2, 1) := by decide +kernel
theorem dX1_remove_7 : decode cX1_remove 7 = .ok (.invokevirtual 60, 3) := by decide +kernel
theorem dX1_remove_10 : decode cX1_remove 10 = .ok (.astore_n 3, 1) := by decide +kernel
theorem dX1_remove_11 : decode cX1_remove 11 = .ok (.aload_n 3, 1) := by decide +kernel
theorem dX1_remove_12 : decode cX1_remove 12 = .ok (.iload_n 1, 1) := by decide +kernel
theorem dX1_remove_13 : decode cX1_remove 13 = .ok (.iconst 1, 1) := by decide +kernel
theorem dX1_remove_14 : decode cX1_remove 14 = .ok (.aload_n 0, 1) := by decide +kernel
theorem dX1_remove_15 : decode cX1_remove 15 = .ok (.iload_n 1, 1) := by decide +kernel
theorem dX1_remove_16 : decode cX1_remove 16 = .ok (.invokevirtual 69, 3) := by decide +kernel
theorem dX1_remove_19 : decode cX1_remove 19 = .ok (.invokevirtual 83, 3) := by decide +kernel
theorem dX1_remove_22 : decode cX1_remove 22 = .ok (.aload_n 3, 1) := by decide +kernel
theorem dX1_remove_23 : decode cX1_remove 23 = .ok (.getfield 80, 3) := by decide +kernel
theorem dX1_remove_26 : decode cX1_remove 26 = .ok (.ireturn, 1) := by decide +kernel
set_option maxRecDepth 20000 in
theorem ggX1_restore_X1_findByNumber : GoodIn wsX1_restore wsX1_findByNumber := goodIn_ca (goodIn_r _ [7, 8, 9, 10, 11, 46, 47, 48, 49, 50, 51, 52, 53, 54] (by decide +kernel) (by decide +kernel)) (goodIn_sub (fun _ h => List.mem_cons_of_mem _ (List.mem_append_left _ (List.mem_append_right _ h))) (by decide +kernel))
set_option maxRecDepth 20000 in
theorem gX1_restore_X1_findByNumber : GoodIn wsX1_restore (wsV RX1 87 RX1 yX1_findByNumber wsX1_findByNumber) := goodIn_app (goodIn_of _ (by decide +kernel)) ggX1_restore_X1_findByNumber
set_option maxRecDepth 20000 in
theorem ggX1_restore_X1_checkAuthor : GoodIn wsX1_restore wsX1_checkAuthor := goodIn_ca (goodIn_r _ [14, 15, 16, 6, 17, 18, 19] (by decide +kernel) (by decide +kernel)) (goodIn_sub (fun _ h => List.mem_cons_of_mem _ (List.mem_append_right _ h)) (by decide +kernel))
set_option maxRecDepth 20000 in
theorem gX1_restore_X1_checkAuthor : GoodIn wsX1_restore (va_wsS RX1 45 yX1_checkAuthor wsX1_checkAuthor) := goodIn_app (goodIn_of _ (by decide +kernel)) ggX1_restore_X1_checkAuthor
set_option maxRecDepth 20000 in
theorem ggX1_restore_X0_isRemovedIn : GoodIn wsX1_restore wsX0_isRemovedIn := goodIn_r _ [23, 24, 25, 26, 27, 21, 28, 29, 55, 56, 57, 58, 59, 60, 61, 62] (by decide +kernel) (by decide +kernel)
set_option maxRecDepth 20000 in
theorem gX1_restore_X0_isRemovedIn_n91 : GoodIn wsX1_restore (wsX0_isRemovedIn) := ggX1_restore_X0_isRemovedIn
set_option maxRecDepth 20000 in
theorem ggX1_restore_X1_nextStamp : GoodIn wsX1_restore wsX1_nextStamp := goodIn_r _ [33, 34, 46, 47, 48, 49, 50, 51, 52, 53, 54] (by decide +kernel) (by decide +kernel)
set_option maxRecDepth 20000 in
theorem gX1_restore_X1_nextStamp : GoodIn wsX1_restore (wsV RX1 69 RX1 yX1_nextStamp wsX1_nextStamp) := goodIn_app (goodIn_of _ (by decide +kernel)) ggX1_restore_X1_nextStamp
set_option maxRecDepth 20000 in
theorem ggX1_restore_X0_setRemoved : GoodIn wsX1_restore wsX0_setRemoved := goodIn_r _ [37, 24, 29, 55, 56, 57, 58, 59, 60, 61, 62] (by decide +kernel) (by decide +kernel)
set_option maxRecDepth 20000 in
theorem gX1_restore_X0_setRemoved_n83 : GoodIn wsX1_restore (wsX0_setRemoved) := ggX1_restore_X0_setRemoved
set_option maxRecDepth 20000 in
theorem ggX1_restore_X1_countAheadOf : GoodIn wsX1_restore wsX1_countAheadOf := goodIn_r _ [41, 42, 43, 21, 44, 45, 24, 25, 26, 27, 28, 29, 46, 47, 48, 49, 50, 51, 52, 53, 54, 55, 56, 57, 58, 59, 60, 61, 62] (by decide +kernel) (by decide +kernel)
set_option maxRecDepth 20000 in
theorem gX1_restore_X1_countAheadOf : GoodIn wsX1_restore (wsV RX1 97 RX1 yX1_countAheadOf wsX1_countAheadOf) := goodIn_app (goodIn_of _ (by decide +kernel)) ggX1_restore_X1_countAheadOf
theorem dX1_restore_0 : decode cX1_restore 0 = .ok (.aload_n 0, 1) := by decide +kernel
theorem dX1_restore_1 : decode cX1_restore 1 = .ok (.iload_n 2, 1) := by decide +kernel
theorem dX1_restore_2 : decode cX1_restore 2 = .ok (.invokevirtual 87, 3) := by decide +kernel
theorem dX1_restore_5 : decode cX1_restore 5 = .ok (.astore_n 3, 1) := by decide +kernel
theorem dX1_restore_6 : decode cX1_restore 6 = .ok (.iload_n 1, 1) := by decide +kernel
theorem dX1_restore_7 : decode cX1_restore 7 = .ok (.invokestatic 45, 3) := by decide +kernel
theorem dX1_restore_10 : decode cX1_restore 10 = .ok (.aload_n 3, 1) := by decide +kernel
theorem dX1_restore_11 : decode cX1_restore 11 = .ok (.iload_n 1, 1) := by decide +kernel
theorem dX1_restore_12 : decode cX1_restore 12 = .ok (.invokevirtual 91, 3) := by decide +kernel
theorem dX1_restore_15 : decode cX1_restore 15 = .ok (.ifCond .ne 13, 3) := by decide +kernel
theorem dX1_restore_18 : decode cX1_restore 18 = .ok (.new 64, 3) := by decide +kernel
theorem dX1_restore_21 : decode cX1_restore 21 = .ok (.dup, 1) := by decide +kernel
theorem dX1_restore_22 : decode cX1_restore 22 = .ok (.ldc 95, 2) := by decide +kernel
theorem dX1_restore_24 : decode cX1_restore 24 = .ok (.invokespecial 68, 3) := by decide +kernel
theorem dX1_restore_27 : decode cX1_restore 27 = .ok (.athrow, 1) := by decide +kernel
theorem dX1_restore_28 : decode cX1_restore 28 = .ok (.aload_n 3, 1) := by decide +kernel
theorem dX1_restore_29 : decode cX1_restore 29 = .ok (.iload_n 1, 1) := by decide +kernel
theorem dX1_restore_30 : decode cX1_restore 30 = .ok (.iconst 0, 1) := by decide +kernel
theorem dX1_restore_31 : decode cX1_restore 31 = .ok (.aload_n 0, 1) := by decide +kernel
theorem dX1_restore_32 : decode cX1_restore 32 = .ok (.iload_n 1, 1) := by decide +kernel
theorem dX1_restore_33 : decode cX1_restore 33 = .ok (.invokevirtual 69, 3) := by decide +kernel
theorem dX1_restore_36 : decode cX1_restore 36 = .ok (.invokevirtual 83, 3) := by decide +kernel
theorem dX1_restore_39 : decode cX1_restore 39 = .ok (.aload_n 0, 1) := by decide +kernel
theorem dX1_restore_40 : decode cX1_restore 40 = .ok (.iload_n 1, 1) := by decide +kernel
theorem dX1_restore_41 : decode cX1_restore 41 = .ok (.aload_n 3, 1) := by decide +kernel
theorem dX1_restore_42 : decode cX1_restore 42 = .ok (.invokevirtual 97, 3) := by decide +kernel
theorem dX1_restore_45 : decode cX1_restore 45 = .ok (.ireturn, 1) := by decide +kernel
set_option maxRecDepth 20000 in
theorem ggX1_learn_X1_checkAuthor : GoodIn wsX1_learn wsX1_checkAuthor := goodIn_ca (goodIn_r _ [12, 13, 14, 11, 15, 1, 2] (by decide +kernel) (by decide +kernel)) (goodIn_sub (fun _ h => List.mem_cons_of_mem _ (List.mem_append_right _ h)) (by decide +kernel))
set_option maxRecDepth 20000 in
theorem gX1_learn_X1_checkAuthor : GoodIn wsX1_learn (va_wsS RX1 45 yX1_checkAuthor wsX1_checkAuthor) := goodIn_app (goodIn_of _ (by decide +kernel)) ggX1_learn_X1_checkAuthor
set_option maxRecDepth 20000 in
theorem ggX1_learn_X0_isKnownIn : GoodIn wsX1_learn wsX0_isKnownIn := goodIn_r _ [19, 20, 38, 39, 40, 41, 42, 43, 44, 45] (by decide +kernel) (by decide +kernel)
set_option maxRecDepth 20000 in
theorem gX1_learn_X0_isKnownIn_n106 : GoodIn wsX1_learn (wsX0_isKnownIn) := ggX1_learn_X0_isKnownIn
set_option maxRecDepth 20000 in
theorem ggX1_learn_X0_bringNewer : GoodIn wsX1_learn wsX0_bringNewer := goodIn_r _ [23, 20, 24, 25, 26, 27, 17, 28, 38, 39, 40, 41, 42, 43, 44, 45] (by decide +kernel) (by decide +kernel)
set_option maxRecDepth 20000 in
theorem gX1_learn_X0_bringNewer_n109 : GoodIn wsX1_learn (wsX0_bringNewer) := ggX1_learn_X0_bringNewer
theorem dX1_learn_0 : decode cX1_learn 0 = .ok (.iload_n 1, 1) := by decide +kernel
theorem dX1_learn_1 : decode cX1_learn 1 = .ok (.invokestatic 45, 3) := by decide +kernel
theorem dX1_learn_4 : decode cX1_learn 4 = .ok (.iload_n 2, 1) := by decide +kernel
theorem dX1_learn_5 : decode cX1_learn 5 = .ok (.invokestatic 45, 3) := by decide +kernel
theorem dX1_learn_8 : decode cX1_learn 8 = .ok (.iload_n 1, 1) := by decide +kernel
theorem dX1_learn_9 : decode cX1_learn 9 = .ok (.iload_n 2, 1) := by decide +kernel
theorem dX1_learn_10 : decode cX1_learn 10 = .ok (.if_icmp .ne 13, 3) := by decide +kernel
theorem dX1_learn_13 : decode cX1_learn 13 = .ok (.new 101, 3) := by decide +kernel
theorem dX1_learn_16 : decode cX1_learn 16 = .ok (.dup, 1) := by decide +kernel
theorem dX1_learn_17 : decode cX1_learn 17 = .ok (.ldc 103, 2) := by decide +kernel
theorem dX1_learn_19 : decode cX1_learn 19 = .ok (.invokespecial 105, 3) := by decide +kernel
theorem dX1_learn_22 : decode cX1_learn 22 = .ok (.athrow, 1) := by decide +kernel
theorem dX1_learn_23 : decode cX1_learn 23 = .ok (.iconst 0, 1) := by decide +kernel
theorem dX1_learn_24 : decode cX1_learn 24 = .ok (.istore_n 3, 1) := by decide +kernel
theorem dX1_learn_25 : decode cX1_learn 25 = .ok (.aload_n 0, 1) := by decide +kernel
theorem dX1_learn_26 : decode cX1_learn 26 = .ok (.getfield 19, 3) := by decide +kernel
theorem dX1_learn_29 : decode cX1_learn 29 = .ok (.astore 4, 2) := by decide +kernel
theorem dX1_learn_31 : decode cX1_learn 31 = .ok (.aload 4, 2) := by decide +kernel
theorem dX1_learn_33 : decode cX1_learn 33 = .ok (.ifnull 41, 3) := by decide +kernel
theorem dX1_learn_36 : decode cX1_learn 36 = .ok (.aload 4, 2) := by decide +kernel
theorem dX1_learn_38 : decode cX1_learn 38 = .ok (.iload_n 2, 1) := by decide +kernel
theorem dX1_learn_39 : decode cX1_learn 39 = .ok (.invokevirtual 106, 3) := by decide +kernel
theorem dX1_learn_42 : decode cX1_learn 42 = .ok (.ifCond .eq 15, 3) := by decide +kernel
theorem dX1_learn_45 : decode cX1_learn 45 = .ok (.aload 4, 2) := by decide +kernel
theorem dX1_learn_47 : decode cX1_learn 47 = .ok (.iload_n 1, 1) := by decide +kernel
theorem dX1_learn_48 : decode cX1_learn 48 = .ok (.invokevirtual 106, 3) := by decide +kernel
theorem dX1_learn_51 : decode cX1_learn 51 = .ok (.ifCond .ne 6, 3) := by decide +kernel
theorem dX1_learn_54 : decode cX1_learn 54 = .ok (.iinc 3 1, 3) := by decide +kernel
theorem dX1_learn_57 : decode cX1_learn 57 = .ok (.aload 4, 2) := by decide +kernel
theorem dX1_learn_59 : decode cX1_learn 59 = .ok (.iload_n 1, 1) := by decide +kernel
theorem dX1_learn_60 : decode cX1_learn 60 = .ok (.iload_n 2, 1) := by decide +kernel
theorem dX1_learn_61 : decode cX1_learn 61 = .ok (.invokevirtual 109, 3) := by decide +kernel
theorem dX1_learn_64 : decode cX1_learn 64 = .ok (.aload 4, 2) := by decide +kernel
theorem dX1_learn_66 : decode cX1_learn 66 = .ok (.getfield 113, 3) := by decide +kernel
theorem dX1_learn_69 : decode cX1_learn 69 = .ok (.astore 4, 2) := by decide +kernel
theorem dX1_learn_71 : decode cX1_learn 71 = .ok (.goto (-40), 3) := by decide +kernel
theorem dX1_learn_74 : decode cX1_learn 74 = .ok (.aload_n 0, 1) := by decide +kernel
theorem dX1_learn_75 : decode cX1_learn 75 = .ok (.getfield 23, 3) := by decide +kernel
theorem dX1_learn_78 : decode cX1_learn 78 = .ok (.iload_n 1, 1) := by decide +kernel
theorem dX1_learn_79 : decode cX1_learn 79 = .ok (.aload_n 0, 1) := by decide +kernel
theorem dX1_learn_80 : decode cX1_learn 80 = .ok (.getfield 23, 3) := by decide +kernel
theorem dX1_learn_83 : decode cX1_learn 83 = .ok (.iload_n 1, 1) := by decide +kernel
theorem dX1_learn_84 : decode cX1_learn 84 = .ok (.iaload, 1) := by decide +kernel
theorem dX1_learn_85 : decode cX1_learn 85 = .ok (.aload_n 0, 1) := by decide +kernel
theorem dX1_learn_86 : decode cX1_learn 86 = .ok (.getfield 23, 3) := by decide +kernel
theorem dX1_learn_89 : decode cX1_learn 89 = .ok (.iload_n 2, 1) := by decide +kernel
theorem dX1_learn_90 : decode cX1_learn 90 = .ok (.iaload, 1) := by decide +kernel
theorem dX1_learn_91 : decode cX1_learn 91 = .ok (.invokestatic 116, 3) := by decide +kernel
theorem dX1_learn_94 : decode cX1_learn 94 = .ok (.iastore, 1) := by decide +kernel
theorem dX1_learn_95 : decode cX1_learn 95 = .ok (.iload_n 3, 1) := by decide +kernel
theorem dX1_learn_96 : decode cX1_learn 96 = .ok (.ireturn, 1) := by decide +kernel
set_option maxRecDepth 20000 in
theorem ggX1_length_X1_checkAuthor : GoodIn wsX1_length wsX1_checkAuthor := goodIn_ca (goodIn_r _ [4, 5, 6, 3, 7, 8, 9] (by decide +kernel) (by decide +kernel)) (goodIn_sub (fun _ h => List.mem_cons_of_mem _ (List.mem_append_right _ h)) (by decide +kernel))
set_option maxRecDepth 20000 in
theorem gX1_length_X1_checkAuthor : GoodIn wsX1_length (va_wsS RX1 45 yX1_checkAuthor wsX1_checkAuthor) := goodIn_app (goodIn_of _ (by decide +kernel)) ggX1_length_X1_checkAuthor
set_option maxRecDepth 20000 in
theorem ggX1_length_X1_countAheadOf : GoodIn wsX1_length wsX1_countAheadOf := goodIn_r _ [13, 14, 15, 16, 17, 18, 19, 20, 21, 22, 23, 24, 25, 26, 27, 28, 29, 30, 31, 32, 33, 34, 35, 36, 37, 38, 39, 40, 41] (by decide +kernel) (by decide +kernel)
set_option maxRecDepth 20000 in
theorem gX1_length_X1_countAheadOf : GoodIn wsX1_length (wsV RX1 97 RX1 yX1_countAheadOf wsX1_countAheadOf) := goodIn_app (goodIn_of _ (by decide +kernel)) ggX1_length_X1_countAheadOf
theorem dX1_length_0 : decode cX1_length 0 = .ok (.iload_n 1, 1) := by decide +kernel
theorem dX1_length_1 : decode cX1_length 1 = .ok (.invokestatic 45, 3) := by decide +kernel
theorem dX1_length_4 : decode cX1_length 4 = .ok (.aload_n 0, 1) := by decide +kernel
theorem dX1_length_5 : decode cX1_length 5 = .ok (.iload_n 1, 1) := by decide +kernel
theorem dX1_length_6 : decode cX1_length 6 = .ok (.aconst_null, 1) := by decide +kernel
theorem dX1_length_7 : decode cX1_length 7 = .ok (.invokevirtual 97, 3) := by decide +kernel
theorem dX1_length_10 : decode cX1_length 10 = .ok (.ireturn, 1) := by decide +kernel
set_option maxRecDepth 20000 in
theorem ggX1_signAt_X1_checkAuthor : GoodIn wsX1_signAt wsX1_checkAuthor := goodIn_ca (goodIn_r _ [4, 5, 6, 3, 7, 8, 9] (by decide +kernel) (by decide +kernel)) (goodIn_sub (fun _ h => List.mem_cons_of_mem _ (List.mem_append_left _ (List.mem_append_right _ h))) (by decide +kernel))
set_option maxRecDepth 20000 in
theorem gX1_signAt_X1_checkAuthor : GoodIn wsX1_signAt (va_wsS RX1 45 yX1_checkAuthor wsX1_checkAuthor) := goodIn_app (goodIn_of _ (by decide +kernel)) ggX1_signAt_X1_checkAuthor
set_option maxRecDepth 20000 in
theorem ggX1_signAt_X1_findAtPlace : GoodIn wsX1_signAt wsX1_findAtPlace := goodIn_ca (goodIn_r _ [13, 14, 15, 16, 17, 18, 19, 20, 21, 22, 23, 24, 25, 26, 35, 36, 37, 38, 39, 40, 41, 42, 43, 27, 28, 29, 30, 31, 32, 33, 34] (by decide +kernel) (by decide +kernel)) (goodIn_sub (fun _ h => List.mem_cons_of_mem _ (List.mem_append_right _ h)) (by decide +kernel))
set_option maxRecDepth 20000 in
theorem gX1_signAt_X1_findAtPlace : GoodIn wsX1_signAt (wsV RX1 60 RX1 yX1_findAtPlace wsX1_findAtPlace) := goodIn_app (goodIn_of _ (by decide +kernel)) ggX1_signAt_X1_findAtPlace
theorem dX1_signAt_0 : decode cX1_signAt 0 = .ok (.iload_n 1, 1) := by decide +kernel
theorem dX1_signAt_1 : decode cX1_signAt 1 = .ok (.invokestatic 45, 3) := by decide +kernel
theorem dX1_signAt_4 : decode cX1_signAt 4 = .ok (.aload_n 0, 1) := by decide +kernel
theorem dX1_signAt_5 : decode cX1_signAt 5 = .ok (.iload_n 1, 1) := by decide +kernel
theorem dX1_signAt_6 : decode cX1_signAt 6 = .ok (.iload_n 2, 1) := by decide +kernel
theorem dX1_signAt_7 : decode cX1_signAt 7 = .ok (.invokevirtual 60, 3) := by decide +kernel
theorem dX1_signAt_10 : decode cX1_signAt 10 = .ok (.getfield 80, 3) := by decide +kernel
theorem dX1_signAt_13 : decode cX1_signAt 13 = .ok (.ireturn, 1) := by decide +kernel
set_option maxRecDepth 20000 in
theorem ggX1_letterAt_X1_checkAuthor : GoodIn wsX1_letterAt wsX1_checkAuthor := goodIn_ca (goodIn_r _ [4, 5, 6, 3, 7, 8, 9] (by decide +kernel) (by decide +kernel)) (goodIn_sub (fun _ h => List.mem_cons_of_mem _ (List.mem_append_left _ (List.mem_append_right _ h))) (by decide +kernel))
set_option maxRecDepth 20000 in
theorem gX1_letterAt_X1_checkAuthor : GoodIn wsX1_letterAt (va_wsS RX1 45 yX1_checkAuthor wsX1_checkAuthor) := goodIn_app (goodIn_of _ (by decide +kernel)) ggX1_letterAt_X1_checkAuthor
set_option maxRecDepth 20000 in
theorem ggX1_letterAt_X1_findAtPlace : GoodIn wsX1_letterAt wsX1_findAtPlace := goodIn_ca (goodIn_r _ [13, 14, 15, 16, 17, 18, 19, 20, 21, 22, 23, 24, 25, 26, 35, 36, 37, 38, 39, 40, 41, 42, 43, 27, 28, 29, 30, 31, 32, 33, 34] (by decide +kernel) (by decide +kernel)) (goodIn_sub (fun _ h => List.mem_cons_of_mem _ (List.mem_append_right _ h)) (by decide +kernel))
set_option maxRecDepth 20000 in
theorem gX1_letterAt_X1_findAtPlace : GoodIn wsX1_letterAt (wsV RX1 60 RX1 yX1_findAtPlace wsX1_findAtPlace) := goodIn_app (goodIn_of _ (by decide +kernel)) ggX1_letterAt_X1_findAtPlace
theorem dX1_letterAt_0 : decode cX1_letterAt 0 = .ok (.iload_n 1, 1) := by decide +kernel
theorem dX1_letterAt_1 : decode cX1_letterAt 1 = .ok (.invokestatic 45, 3) := by decide +kernel
theorem dX1_letterAt_4 : decode cX1_letterAt 4 = .ok (.aload_n 0, 1) := by decide +kernel
theorem dX1_letterAt_5 : decode cX1_letterAt 5 = .ok (.iload_n 1, 1) := by decide +kernel
theorem dX1_letterAt_6 : decode cX1_letterAt 6 = .ok (.iload_n 2, 1) := by decide +kernel
theorem dX1_letterAt_7 : decode cX1_letterAt 7 = .ok (.invokevirtual 60, 3) := by decide +kernel
theorem dX1_letterAt_10 : decode cX1_letterAt 10 = .ok (.getfield 122, 3) := by decide +kernel
theorem dX1_letterAt_13 : decode cX1_letterAt 13 = .ok (.ireturn, 1) := by decide +kernel
set_option maxRecDepth 20000 in
theorem ggX1_areAlike_X1_checkAuthor : GoodIn wsX1_areAlike wsX1_checkAuthor := goodIn_ca (goodIn_r _ [5, 6, 7, 4, 8, 9, 10] (by decide +kernel) (by decide +kernel)) (goodIn_sub (fun _ h => List.mem_cons_of_mem _ (List.mem_append_right _ h)) (by decide +kernel))
set_option maxRecDepth 20000 in
theorem gX1_areAlike_X1_checkAuthor : GoodIn wsX1_areAlike (va_wsS RX1 45 yX1_checkAuthor wsX1_checkAuthor) := goodIn_app (goodIn_of _ (by decide +kernel)) ggX1_areAlike_X1_checkAuthor
set_option maxRecDepth 20000 in
theorem ggX1_areAlike_X0_isInTextOf : GoodIn wsX1_areAlike wsX0_isInTextOf := goodIn_r _ [14, 15, 16, 17, 18, 12, 19, 20, 30, 31, 32, 33, 34, 35, 36, 37] (by decide +kernel) (by decide +kernel)
set_option maxRecDepth 20000 in
theorem gX1_areAlike_X0_isInTextOf_n125 : GoodIn wsX1_areAlike (wsX0_isInTextOf) := ggX1_areAlike_X0_isInTextOf
theorem dX1_areAlike_0 : decode cX1_areAlike 0 = .ok (.iload_n 1, 1) := by decide +kernel
theorem dX1_areAlike_1 : decode cX1_areAlike 1 = .ok (.invokestatic 45, 3) := by decide +kernel
theorem dX1_areAlike_4 : decode cX1_areAlike 4 = .ok (.iload_n 2, 1) := by decide +kernel
theorem dX1_areAlike_5 : decode cX1_areAlike 5 = .ok (.invokestatic 45, 3) := by decide +kernel
theorem dX1_areAlike_8 : decode cX1_areAlike 8 = .ok (.aload_n 0, 1) := by decide +kernel
theorem dX1_areAlike_9 : decode cX1_areAlike 9 = .ok (.getfield 19, 3) := by decide +kernel
theorem dX1_areAlike_12 : decode cX1_areAlike 12 = .ok (.astore_n 3, 1) := by decide +kernel
theorem dX1_areAlike_13 : decode cX1_areAlike 13 = .ok (.aload_n 3, 1) := by decide +kernel
theorem dX1_areAlike_14 : decode cX1_areAlike 14 = .ok (.ifnull 26, 3) := by decide +kernel
theorem dX1_areAlike_17 : decode cX1_areAlike 17 = .ok (.aload_n 3, 1) := by decide +kernel
theorem dX1_areAlike_18 : decode cX1_areAlike 18 = .ok (.iload_n 1, 1) := by decide +kernel
theorem dX1_areAlike_19 : decode cX1_areAlike 19 = .ok (.invokevirtual 125, 3) := by decide +kernel
theorem dX1_areAlike_22 : decode cX1_areAlike 22 = .ok (.aload_n 3, 1) := by decide +kernel
theorem dX1_areAlike_23 : decode cX1_areAlike 23 = .ok (.iload_n 2, 1) := by decide +kernel
theorem dX1_areAlike_24 : decode cX1_areAlike 24 = .ok (.invokevirtual 125, 3) := by decide +kernel
theorem dX1_areAlike_27 : decode cX1_areAlike 27 = .ok (.if_icmp .eq 5, 3) := by decide +kernel
theorem dX1_areAlike_30 : decode cX1_areAlike 30 = .ok (.iconst 0, 1) := by decide +kernel
theorem dX1_areAlike_31 : decode cX1_areAlike 31 = .ok (.ireturn, 1) := by decide +kernel
theorem dX1_areAlike_32 : decode cX1_areAlike 32 = .ok (.aload_n 3, 1) := by decide +kernel
theorem dX1_areAlike_33 : decode cX1_areAlike 33 = .ok (.getfield 113, 3) := by decide +kernel
theorem dX1_areAlike_36 : decode cX1_areAlike 36 = .ok (.astore_n 3, 1) := by decide +kernel
theorem dX1_areAlike_37 : decode cX1_areAlike 37 = .ok (.goto (-24), 3) := by decide +kernel
theorem dX1_areAlike_40 : decode cX1_areAlike 40 = .ok (.iconst 1, 1) := by decide +kernel
theorem dX1_areAlike_41 : decode cX1_areAlike 41 = .ok (.ireturn, 1) := by decide +kernel
theorem dX1_signs_0 : decode cX1_signs 0 = .ok (.aload_n 0, 1) := by decide +kernel
theorem dX1_signs_1 : decode cX1_signs 1 = .ok (.getfield 15, 3) := by decide +kernel
theorem dX1_signs_4 : decode cX1_signs 4 = .ok (.ireturn, 1) := by decide +kernel
set_option maxRecDepth 20000 in
theorem ggX1_authorOf_X1_findByNumber : GoodIn wsX1_authorOf wsX1_findByNumber := goodIn_ca (goodIn_r _ [5, 6, 7, 8, 9, 18, 19, 20, 21, 22, 23, 24, 25, 26] (by decide +kernel) (by decide +kernel)) (goodIn_sub (fun _ h => List.mem_cons_of_mem _ (List.mem_append_right _ h)) (by decide +kernel))
set_option maxRecDepth 20000 in
theorem gX1_authorOf_X1_findByNumber : GoodIn wsX1_authorOf (wsV RX1 87 RX1 yX1_findByNumber wsX1_findByNumber) := goodIn_app (goodIn_of _ (by decide +kernel)) ggX1_authorOf_X1_findByNumber
theorem dX1_authorOf_0 : decode cX1_authorOf 0 = .ok (.aload_n 0, 1) := by decide +kernel
theorem dX1_authorOf_1 : decode cX1_authorOf 1 = .ok (.iload_n 1, 1) := by decide +kernel
theorem dX1_authorOf_2 : decode cX1_authorOf 2 = .ok (.invokevirtual 87, 3) := by decide +kernel
theorem dX1_authorOf_5 : decode cX1_authorOf 5 = .ok (.getfield 128, 3) := by decide +kernel
theorem dX1_authorOf_8 : decode cX1_authorOf 8 = .ok (.ireturn, 1) := by decide +kernel
set_option maxRecDepth 20000 in
theorem ggX1_behind_X1_findByNumber : GoodIn wsX1_behind wsX1_findByNumber := goodIn_ca (goodIn_r _ [5, 6, 7, 8, 9, 18, 19, 20, 21, 22, 23, 24, 25, 26] (by decide +kernel) (by decide +kernel)) (goodIn_sub (fun _ h => List.mem_cons_of_mem _ (List.mem_append_right _ h)) (by decide +kernel))
set_option maxRecDepth 20000 in
theorem gX1_behind_X1_findByNumber : GoodIn wsX1_behind (wsV RX1 87 RX1 yX1_findByNumber wsX1_findByNumber) := goodIn_app (goodIn_of _ (by decide +kernel)) ggX1_behind_X1_findByNumber
theorem dX1_behind_0 : decode cX1_behind 0 = .ok (.aload_n 0, 1) := by decide +kernel
theorem dX1_behind_1 : decode cX1_behind 1 = .ok (.iload_n 1, 1) := by decide +kernel
theorem dX1_behind_2 : decode cX1_behind 2 = .ok (.invokevirtual 87, 3) := by decide +kernel
theorem dX1_behind_5 : decode cX1_behind 5 = .ok (.getfield 131, 3) := by decide +kernel
theorem dX1_behind_8 : decode cX1_behind 8 = .ok (.astore_n 2, 1) := by decide +kernel
theorem dX1_behind_9 : decode cX1_behind 9 = .ok (.aload_n 2, 1) := by decide +kernel
theorem dX1_behind_10 : decode cX1_behind 10 = .ok (.ifnonnull 7, 3) := by decide +kernel
theorem dX1_behind_13 : decode cX1_behind 13 = .ok (.iconst (-1), 1) := by decide +kernel
theorem dX1_behind_14 : decode cX1_behind 14 = .ok (.goto 7, 3) := by decide +kernel
theorem dX1_behind_17 : decode cX1_behind 17 = .ok (.aload_n 2, 1) := by decide +kernel
theorem dX1_behind_18 : decode cX1_behind 18 = .ok (.getfield 80, 3) := by decide +kernel
theorem dX1_behind_21 : decode cX1_behind 21 = .ok (.ireturn, 1) := by decide +kernel
set_option maxRecDepth 20000 in
theorem ggX1_clock_X1_checkAuthor : GoodIn wsX1_clock wsX1_checkAuthor := goodIn_ca (goodIn_r _ [5, 6, 7, 4, 8, 9, 10] (by decide +kernel) (by decide +kernel)) (goodIn_sub (fun _ h => List.mem_cons_of_mem _ (List.mem_append_right _ h)) (by decide +kernel))
set_option maxRecDepth 20000 in
theorem gX1_clock_X1_checkAuthor : GoodIn wsX1_clock (va_wsS RX1 45 yX1_checkAuthor wsX1_checkAuthor) := goodIn_app (goodIn_of _ (by decide +kernel)) ggX1_clock_X1_checkAuthor
theorem dX1_clock_0 : decode cX1_clock 0 = .ok (.iload_n 1, 1) := by decide +kernel
theorem dX1_clock_1 : decode cX1_clock 1 = .ok (.invokestatic 45, 3) := by decide +kernel
theorem dX1_clock_4 : decode cX1_clock 4 = .ok (.aload_n 0, 1) := by decide +kernel
theorem dX1_clock_5 : decode cX1_clock 5 = .ok (.getfield 23, 3) := by decide +kernel
theorem dX1_clock_8 : decode cX1_clock 8 = .ok (.iload_n 1, 1) := by decide +kernel
theorem dX1_clock_9 : decode cX1_clock 9 = .ok (.iaload, 1) := by decide +kernel
theorem dX1_clock_10 : decode cX1_clock 10 = .ok (.ireturn, 1) := by decide +kernel
set_option maxRecDepth 20000 in
theorem ggX1_print_X1_checkAuthor : GoodIn wsX1_print wsX1_checkAuthor := goodIn_ca (goodIn_r _ [8, 9, 10, 7, 11, 12, 13] (by decide +kernel) (by decide +kernel)) (goodIn_sub (fun _ h => List.mem_cons_of_mem _ (List.mem_append_right _ h)) (by decide +kernel))
set_option maxRecDepth 20000 in
theorem gX1_print_X1_checkAuthor : GoodIn wsX1_print (va_wsS RX1 45 yX1_checkAuthor wsX1_checkAuthor) := goodIn_app (goodIn_of _ (by decide +kernel)) ggX1_print_X1_checkAuthor
set_option maxRecDepth 20000 in
theorem ggX1_print_X1_countAheadOf : GoodIn wsX1_print wsX1_countAheadOf := goodIn_r _ [17, 18, 19, 20, 21, 22, 23, 24, 25, 26, 27, 28, 33, 34, 35, 36, 37, 38, 39, 40, 41, 42, 43, 44, 45, 46, 47, 48, 49] (by decide +kernel) (by decide +kernel)
set_option maxRecDepth 20000 in
theorem gX1_print_X1_countAheadOf : GoodIn wsX1_print (wsV RX1 97 RX1 yX1_countAheadOf wsX1_countAheadOf) := goodIn_app (goodIn_of _ (by decide +kernel)) ggX1_print_X1_countAheadOf
set_option maxRecDepth 20000 in
theorem ggX1_print_X1_countWrittenBy : GoodIn wsX1_print wsX1_countWrittenBy := goodIn_r _ [32, 18, 19, 20, 21, 22, 23, 24, 25, 26, 27, 28, 33, 34, 35, 36, 37, 38, 39, 40, 41, 42, 43, 44, 45, 46, 47, 48, 49] (by decide +kernel) (by decide +kernel)
set_option maxRecDepth 20000 in
theorem gX1_print_X1_countWrittenBy : GoodIn wsX1_print (wsV RX1 138 RX1 yX1_countWrittenBy wsX1_countWrittenBy) := goodIn_app (goodIn_of _ (by decide +kernel)) ggX1_print_X1_countWrittenBy
theorem dX1_print_0 : decode cX1_print 0 = .ok (.iload_n 1, 1) := by decide +kernel
theorem dX1_print_1 : decode cX1_print 1 = .ok (.invokestatic 45, 3) := by decide +kernel
theorem dX1_print_4 : decode cX1_print 4 = .ok (.aload_n 0, 1) := by decide +kernel
theorem dX1_print_5 : decode cX1_print 5 = .ok (.iload_n 1, 1) := by decide +kernel
theorem dX1_print_6 : decode cX1_print 6 = .ok (.aconst_null, 1) := by decide +kernel
theorem dX1_print_7 : decode cX1_print 7 = .ok (.invokevirtual 97, 3) := by decide +kernel
theorem dX1_print_10 : decode cX1_print 10 = .ok (.ifCond .ne 13, 3) := by decide +kernel
theorem dX1_print_13 : decode cX1_print 13 = .ok (.new 64, 3) := by decide +kernel
theorem dX1_print_16 : decode cX1_print 16 = .ok (.dup, 1) := by decide +kernel
theorem dX1_print_17 : decode cX1_print 17 = .ok (.ldc 134, 2) := by decide +kernel
theorem dX1_print_19 : decode cX1_print 19 = .ok (.invokespecial 68, 3) := by decide +kernel
theorem dX1_print_22 : decode cX1_print 22 = .ok (.athrow, 1) := by decide +kernel
theorem dX1_print_23 : decode cX1_print 23 = .ok (.aload_n 0, 1) := by decide +kernel
theorem dX1_print_24 : decode cX1_print 24 = .ok (.getfield 32, 3) := by decide +kernel
theorem dX1_print_27 : decode cX1_print 27 = .ok (.bipush 20, 2) := by decide +kernel
theorem dX1_print_29 : decode cX1_print 29 = .ok (.if_icmp .lt 13, 3) := by decide +kernel
theorem dX1_print_32 : decode cX1_print 32 = .ok (.new 64, 3) := by decide +kernel
theorem dX1_print_35 : decode cX1_print 35 = .ok (.dup, 1) := by decide +kernel
theorem dX1_print_36 : decode cX1_print 36 = .ok (.ldc 136, 2) := by decide +kernel
theorem dX1_print_38 : decode cX1_print 38 = .ok (.invokespecial 68, 3) := by decide +kernel
theorem dX1_print_41 : decode cX1_print 41 = .ok (.athrow, 1) := by decide +kernel
theorem dX1_print_42 : decode cX1_print 42 = .ok (.aload_n 0, 1) := by decide +kernel
theorem dX1_print_43 : decode cX1_print 43 = .ok (.getfield 29, 3) := by decide +kernel
theorem dX1_print_46 : decode cX1_print 46 = .ok (.aload_n 0, 1) := by decide +kernel
theorem dX1_print_47 : decode cX1_print 47 = .ok (.getfield 32, 3) := by decide +kernel
theorem dX1_print_50 : decode cX1_print 50 = .ok (.aaload, 1) := by decide +kernel
theorem dX1_print_51 : decode cX1_print 51 = .ok (.astore_n 2, 1) := by decide +kernel
theorem dX1_print_52 : decode cX1_print 52 = .ok (.iconst 0, 1) := by decide +kernel
theorem dX1_print_53 : decode cX1_print 53 = .ok (.istore_n 3, 1) := by decide +kernel
theorem dX1_print_54 : decode cX1_print 54 = .ok (.iload_n 3, 1) := by decide +kernel
theorem dX1_print_55 : decode cX1_print 55 = .ok (.iconst 4, 1) := by decide +kernel
theorem dX1_print_56 : decode cX1_print 56 = .ok (.if_icmp .ge 18, 3) := by decide +kernel
theorem dX1_print_59 : decode cX1_print 59 = .ok (.aload_n 2, 1) := by decide +kernel
theorem dX1_print_60 : decode cX1_print 60 = .ok (.iload_n 3, 1) := by decide +kernel
theorem dX1_print_61 : decode cX1_print 61 = .ok (.aload_n 0, 1) := by decide +kernel
theorem dX1_print_62 : decode cX1_print 62 = .ok (.iload_n 3, 1) := by decide +kernel
theorem dX1_print_63 : decode cX1_print 63 = .ok (.iload_n 1, 1) := by decide +kernel
theorem dX1_print_64 : decode cX1_print 64 = .ok (.invokevirtual 138, 3) := by decide +kernel
theorem dX1_print_67 : decode cX1_print 67 = .ok (.iastore, 1) := by decide +kernel
theorem dX1_print_68 : decode cX1_print 68 = .ok (.iinc 3 1, 3) := by decide +kernel
theorem dX1_print_71 : decode cX1_print 71 = .ok (.goto (-17), 3) := by decide +kernel
theorem dX1_print_74 : decode cX1_print 74 = .ok (.aload_n 0, 1) := by decide +kernel
theorem dX1_print_75 : decode cX1_print 75 = .ok (.dup, 1) := by decide +kernel
theorem dX1_print_76 : decode cX1_print 76 = .ok (.getfield 32, 3) := by decide +kernel
theorem dX1_print_79 : decode cX1_print 79 = .ok (.iconst 1, 1) := by decide +kernel
theorem dX1_print_80 : decode cX1_print 80 = .ok (.iadd, 1) := by decide +kernel
theorem dX1_print_81 : decode cX1_print 81 = .ok (.putfield 32, 3) := by decide +kernel
theorem dX1_print_84 : decode cX1_print 84 = .ok (.aload_n 0, 1) := by decide +kernel
theorem dX1_print_85 : decode cX1_print 85 = .ok (.getfield 32, 3) := by decide +kernel
theorem dX1_print_88 : decode cX1_print 88 = .ok (.iconst 1, 1) := by decide +kernel
theorem dX1_print_89 : decode cX1_print 89 = .ok (.isub, 1) := by decide +kernel
theorem dX1_print_90 : decode cX1_print 90 = .ok (.ireturn, 1) := by decide +kernel
set_option maxRecDepth 20000 in
theorem ggX1_printed_X1_checkEdition : GoodIn wsX1_printed wsX1_checkEdition := goodIn_ca (goodIn_r _ [6, 7, 8, 9, 18, 19, 20, 21, 22, 23, 24, 25, 26] (by decide +kernel) (by decide +kernel)) (goodIn_sub (fun _ h => List.mem_cons_of_mem _ (List.mem_append_left _ (List.mem_append_right _ h))) (by decide +kernel))
set_option maxRecDepth 20000 in
theorem gX1_printed_X1_checkEdition : GoodIn wsX1_printed (wsV RX1 141 RX1 yX1_checkEdition wsX1_checkEdition) := goodIn_app (goodIn_of _ (by decide +kernel)) ggX1_printed_X1_checkEdition
set_option maxRecDepth 20000 in
theorem ggX1_printed_X1_checkAuthor : GoodIn wsX1_printed wsX1_checkAuthor := goodIn_ca (goodIn_r _ [12, 13, 14, 5, 15, 16, 17] (by decide +kernel) (by decide +kernel)) (goodIn_sub (fun _ h => List.mem_cons_of_mem _ (List.mem_append_right _ h)) (by decide +kernel))
set_option maxRecDepth 20000 in
theorem gX1_printed_X1_checkAuthor : GoodIn wsX1_printed (va_wsS RX1 45 yX1_checkAuthor wsX1_checkAuthor) := goodIn_app (goodIn_of _ (by decide +kernel)) ggX1_printed_X1_checkAuthor
theorem dX1_printed_0 : decode cX1_printed 0 = .ok (.aload_n 0, 1) := by decide +kernel
theorem dX1_printed_1 : decode cX1_printed 1 = .ok (.iload_n 1, 1) := by decide +kernel
theorem dX1_printed_2 : decode cX1_printed 2 = .ok (.invokevirtual 141, 3) := by decide +kernel
theorem dX1_printed_5 : decode cX1_printed 5 = .ok (.iload_n 2, 1) := by decide +kernel
theorem dX1_printed_6 : decode cX1_printed 6 = .ok (.invokestatic 45, 3) := by decide +kernel
theorem dX1_printed_9 : decode cX1_printed 9 = .ok (.aload_n 0, 1) := by decide +kernel
theorem dX1_printed_10 : decode cX1_printed 10 = .ok (.getfield 29, 3) := by decide +kernel
theorem dX1_printed_13 : decode cX1_printed 13 = .ok (.iload_n 1, 1) := by decide +kernel
theorem dX1_printed_14 : decode cX1_printed 14 = .ok (.aaload, 1) := by decide +kernel
theorem dX1_printed_15 : decode cX1_printed 15 = .ok (.iload_n 2, 1) := by decide +kernel
theorem dX1_printed_16 : decode cX1_printed 16 = .ok (.iaload, 1) := by decide +kernel
theorem dX1_printed_17 : decode cX1_printed 17 = .ok (.ireturn, 1) := by decide +kernel
set_option maxRecDepth 20000 in
theorem ggX1_setFloor_X1_checkRange : GoodIn wsX1_setFloor wsX1_checkRange := goodIn_ca (goodIn_r _ [5, 6, 7] (by decide +kernel) (by decide +kernel)) (goodIn_sub (fun _ h => List.mem_cons_of_mem _ (List.mem_append_right _ h)) (by decide +kernel))
set_option maxRecDepth 20000 in
theorem gX1_setFloor_X1_checkRange : GoodIn wsX1_setFloor (va_wsS RX1 49 yX1_checkRange wsX1_checkRange) := goodIn_app (goodIn_of _ (by decide +kernel)) ggX1_setFloor_X1_checkRange
theorem dX1_setFloor_0 : decode cX1_setFloor 0 = .ok (.iload_n 1, 1) := by decide +kernel
theorem dX1_setFloor_1 : decode cX1_setFloor 1 = .ok (.iconst 0, 1) := by decide +kernel
theorem dX1_setFloor_2 : decode cX1_setFloor 2 = .ok (.bipush 25, 2) := by decide +kernel
theorem dX1_setFloor_4 : decode cX1_setFloor 4 = .ok (.invokestatic 49, 3) := by decide +kernel
theorem dX1_setFloor_7 : decode cX1_setFloor 7 = .ok (.aload_n 0, 1) := by decide +kernel
theorem dX1_setFloor_8 : decode cX1_setFloor 8 = .ok (.getfield 35, 3) := by decide +kernel
theorem dX1_setFloor_11 : decode cX1_setFloor 11 = .ok (.istore_n 2, 1) := by decide +kernel
theorem dX1_setFloor_12 : decode cX1_setFloor 12 = .ok (.aload_n 0, 1) := by decide +kernel
theorem dX1_setFloor_13 : decode cX1_setFloor 13 = .ok (.iload_n 1, 1) := by decide +kernel
theorem dX1_setFloor_14 : decode cX1_setFloor 14 = .ok (.putfield 35, 3) := by decide +kernel
theorem dX1_setFloor_17 : decode cX1_setFloor 17 = .ok (.iload_n 2, 1) := by decide +kernel
theorem dX1_setFloor_18 : decode cX1_setFloor 18 = .ok (.ireturn, 1) := by decide +kernel
set_option maxRecDepth 20000 in
theorem ggX1_advance_X1_checkAuthor : GoodIn wsX1_advance wsX1_checkAuthor := goodIn_ca (goodIn_r _ [6, 7, 8, 5, 9, 10, 11] (by decide +kernel) (by decide +kernel)) (goodIn_sub (fun _ h => List.mem_cons_of_mem _ (List.mem_append_right _ h)) (by decide +kernel))
set_option maxRecDepth 20000 in
theorem gX1_advance_X1_checkAuthor : GoodIn wsX1_advance (va_wsS RX1 45 yX1_checkAuthor wsX1_checkAuthor) := goodIn_app (goodIn_of _ (by decide +kernel)) ggX1_advance_X1_checkAuthor
set_option maxRecDepth 20000 in
theorem ggX1_advance_X1_checkRange : GoodIn wsX1_advance wsX1_checkRange := goodIn_ca (goodIn_r _ [9, 10, 11] (by decide +kernel) (by decide +kernel)) (goodIn_sub (fun _ h => List.mem_cons_of_mem _ (List.mem_append_right _ h)) (by decide +kernel))
set_option maxRecDepth 20000 in
theorem gX1_advance_X1_checkRange : GoodIn wsX1_advance (va_wsS RX1 49 yX1_checkRange wsX1_checkRange) := goodIn_app (goodIn_of _ (by decide +kernel)) ggX1_advance_X1_checkRange
theorem dX1_advance_0 : decode cX1_advance 0 = .ok (.iload_n 1, 1) := by decide +kernel
theorem dX1_advance_1 : decode cX1_advance 1 = .ok (.invokestatic 45, 3) := by decide +kernel
theorem dX1_advance_4 : decode cX1_advance 4 = .ok (.iload_n 2, 1) := by decide +kernel
theorem dX1_advance_5 : decode cX1_advance 5 = .ok (.iconst 1, 1) := by decide +kernel
theorem dX1_advance_6 : decode cX1_advance 6 = .ok (.ldc 144, 2) := by decide +kernel
theorem dX1_advance_8 : decode cX1_advance 8 = .ok (.invokestatic 49, 3) := by decide +kernel
theorem dX1_advance_11 : decode cX1_advance 11 = .ok (.aload_n 0, 1) := by decide +kernel
theorem dX1_advance_12 : decode cX1_advance 12 = .ok (.getfield 38, 3) := by decide +kernel
theorem dX1_advance_15 : decode cX1_advance 15 = .ok (.iload_n 1, 1) := by decide +kernel
theorem dX1_advance_16 : decode cX1_advance 16 = .ok (.dup2, 1) := by decide +kernel
theorem dX1_advance_17 : decode cX1_advance 17 = .ok (.iaload, 1) := by decide +kernel
theorem dX1_advance_18 : decode cX1_advance 18 = .ok (.iload_n 2, 1) := by decide +kernel
theorem dX1_advance_19 : decode cX1_advance 19 = .ok (.iadd, 1) := by decide +kernel
theorem dX1_advance_20 : decode cX1_advance 20 = .ok (.iastore, 1) := by decide +kernel
theorem dX1_advance_21 : decode cX1_advance 21 = .ok (.aload_n 0, 1) := by decide +kernel
theorem dX1_advance_22 : decode cX1_advance 22 = .ok (.getfield 38, 3) := by decide +kernel
theorem dX1_advance_25 : decode cX1_advance 25 = .ok (.iload_n 1, 1) := by decide +kernel
theorem dX1_advance_26 : decode cX1_advance 26 = .ok (.iaload, 1) := by decide +kernel
theorem dX1_advance_27 : decode cX1_advance 27 = .ok (.ireturn, 1) := by decide +kernel
set_option maxRecDepth 20000 in
theorem ggX1_sell_X1_checkEdition : GoodIn wsX1_sell wsX1_checkEdition := goodIn_ca (goodIn_r _ [7, 8, 9, 10, 31, 32, 33, 34, 35, 36, 37, 38, 39] (by decide +kernel) (by decide +kernel)) (goodIn_sub (fun _ h => List.mem_cons_of_mem _ (List.mem_append_left _ (List.mem_append_right _ h))) (by decide +kernel))
set_option maxRecDepth 20000 in
theorem gX1_sell_X1_checkEdition : GoodIn wsX1_sell (wsV RX1 141 RX1 yX1_checkEdition wsX1_checkEdition) := goodIn_app (goodIn_of _ (by decide +kernel)) ggX1_sell_X1_checkEdition
set_option maxRecDepth 20000 in
theorem ggX1_sell_X1_checkRange : GoodIn wsX1_sell wsX1_checkRange := goodIn_ca (goodIn_r _ [13, 14, 15] (by decide +kernel) (by decide +kernel)) (goodIn_sub (fun _ h => List.mem_cons_of_mem _ (List.mem_append_right _ h)) (by decide +kernel))
set_option maxRecDepth 20000 in
theorem gX1_sell_X1_checkRange : GoodIn wsX1_sell (va_wsS RX1 49 yX1_checkRange wsX1_checkRange) := goodIn_app (goodIn_of _ (by decide +kernel)) ggX1_sell_X1_checkRange
set_option maxRecDepth 20000 in
theorem ggX1_sell_X1_shareOf : GoodIn wsX1_sell wsX1_shareOf := goodIn_r _ [19, 20, 31, 32, 33, 34, 35, 36, 37, 38, 39] (by decide +kernel) (by decide +kernel)
set_option maxRecDepth 20000 in
theorem gX1_sell_X1_shareOf : GoodIn wsX1_sell (wsV RX1 146 RX1 yX1_shareOf wsX1_shareOf) := goodIn_app (goodIn_of _ (by decide +kernel)) ggX1_sell_X1_shareOf
set_option maxRecDepth 20000 in
theorem ggX1_sell_X1_credit : GoodIn wsX1_sell wsX1_credit := goodIn_r _ [24, 25, 26, 27, 28, 29, 30, 31, 32, 33, 34, 35, 36, 37, 38, 39] (by decide +kernel) (by decide +kernel)
set_option maxRecDepth 20000 in
theorem gX1_sell_X1_credit : GoodIn wsX1_sell (wsV RX1 150 RX1 yX1_credit wsX1_credit) := goodIn_app (goodIn_of _ (by decide +kernel)) ggX1_sell_X1_credit
theorem dX1_sell_0 : decode cX1_sell 0 = .ok (.aload_n 0, 1) := by decide +kernel
theorem dX1_sell_1 : decode cX1_sell 1 = .ok (.iload_n 1, 1) := by decide +kernel
theorem dX1_sell_2 : decode cX1_sell 2 = .ok (.invokevirtual 141, 3) := by decide +kernel
theorem dX1_sell_5 : decode cX1_sell 5 = .ok (.iload_n 2, 1) := by decide +kernel
theorem dX1_sell_6 : decode cX1_sell 6 = .ok (.iconst 1, 1) := by decide +kernel
theorem dX1_sell_7 : decode cX1_sell 7 = .ok (.ldc 145, 2) := by decide +kernel
theorem dX1_sell_9 : decode cX1_sell 9 = .ok (.invokestatic 49, 3) := by decide +kernel
theorem dX1_sell_12 : decode cX1_sell 12 = .ok (.aload_n 0, 1) := by decide +kernel
theorem dX1_sell_13 : decode cX1_sell 13 = .ok (.getfield 29, 3) := by decide +kernel
theorem dX1_sell_16 : decode cX1_sell 16 = .ok (.iload_n 1, 1) := by decide +kernel
theorem dX1_sell_17 : decode cX1_sell 17 = .ok (.aaload, 1) := by decide +kernel
theorem dX1_sell_18 : decode cX1_sell 18 = .ok (.astore_n 3, 1) := by decide +kernel
theorem dX1_sell_19 : decode cX1_sell 19 = .ok (.iload_n 2, 1) := by decide +kernel
theorem dX1_sell_20 : decode cX1_sell 20 = .ok (.istore 4, 2) := by decide +kernel
theorem dX1_sell_22 : decode cX1_sell 22 = .ok (.iconst 0, 1) := by decide +kernel
theorem dX1_sell_23 : decode cX1_sell 23 = .ok (.istore 5, 2) := by decide +kernel
theorem dX1_sell_25 : decode cX1_sell 25 = .ok (.iload 5, 2) := by decide +kernel
theorem dX1_sell_27 : decode cX1_sell 27 = .ok (.iconst 4, 1) := by decide +kernel
theorem dX1_sell_28 : decode cX1_sell 28 = .ok (.if_icmp .ge 22, 3) := by decide +kernel
theorem dX1_sell_31 : decode cX1_sell 31 = .ok (.iload 4, 2) := by decide +kernel
theorem dX1_sell_33 : decode cX1_sell 33 = .ok (.aload_n 0, 1) := by decide +kernel
theorem dX1_sell_34 : decode cX1_sell 34 = .ok (.iload 5, 2) := by decide +kernel
theorem dX1_sell_36 : decode cX1_sell 36 = .ok (.aload_n 3, 1) := by decide +kernel
theorem dX1_sell_37 : decode cX1_sell 37 = .ok (.iload_n 2, 1) := by decide +kernel
theorem dX1_sell_38 : decode cX1_sell 38 = .ok (.invokevirtual 146, 3) := by decide +kernel
theorem dX1_sell_41 : decode cX1_sell 41 = .ok (.isub, 1) := by decide +kernel
theorem dX1_sell_42 : decode cX1_sell 42 = .ok (.istore 4, 2) := by decide +kernel
theorem dX1_sell_44 : decode cX1_sell 44 = .ok (.iinc 5 1, 3) := by decide +kernel
theorem dX1_sell_47 : decode cX1_sell 47 = .ok (.goto (-22), 3) := by decide +kernel
theorem dX1_sell_50 : decode cX1_sell 50 = .ok (.iconst 0, 1) := by decide +kernel
theorem dX1_sell_51 : decode cX1_sell 51 = .ok (.istore 5, 2) := by decide +kernel
theorem dX1_sell_53 : decode cX1_sell 53 = .ok (.iconst 0, 1) := by decide +kernel
theorem dX1_sell_54 : decode cX1_sell 54 = .ok (.istore 6, 2) := by decide +kernel
theorem dX1_sell_56 : decode cX1_sell 56 = .ok (.iload 6, 2) := by decide +kernel
theorem dX1_sell_58 : decode cX1_sell 58 = .ok (.iconst 4, 1) := by decide +kernel
theorem dX1_sell_59 : decode cX1_sell 59 = .ok (.if_icmp .ge 41, 3) := by decide +kernel
theorem dX1_sell_62 : decode cX1_sell 62 = .ok (.aload_n 3, 1) := by decide +kernel
theorem dX1_sell_63 : decode cX1_sell 63 = .ok (.iload 6, 2) := by decide +kernel
theorem dX1_sell_65 : decode cX1_sell 65 = .ok (.iaload, 1) := by decide +kernel
theorem dX1_sell_66 : decode cX1_sell 66 = .ok (.ifCond .le 28, 3) := by decide +kernel
theorem dX1_sell_69 : decode cX1_sell 69 = .ok (.iload 5, 2) := by decide +kernel
theorem dX1_sell_71 : decode cX1_sell 71 = .ok (.aload_n 0, 1) := by decide +kernel
theorem dX1_sell_72 : decode cX1_sell 72 = .ok (.iload 6, 2) := by decide +kernel
theorem dX1_sell_74 : decode cX1_sell 74 = .ok (.aload_n 0, 1) := by decide +kernel
theorem dX1_sell_75 : decode cX1_sell 75 = .ok (.iload 6, 2) := by decide +kernel
theorem dX1_sell_77 : decode cX1_sell 77 = .ok (.aload_n 3, 1) := by decide +kernel
theorem dX1_sell_78 : decode cX1_sell 78 = .ok (.iload_n 2, 1) := by decide +kernel
theorem dX1_sell_79 : decode cX1_sell 79 = .ok (.invokevirtual 146, 3) := by decide +kernel
theorem dX1_sell_82 : decode cX1_sell 82 = .ok (.iload 4, 2) := by decide +kernel
theorem dX1_sell_84 : decode cX1_sell 84 = .ok (.iadd, 1) := by decide +kernel
theorem dX1_sell_85 : decode cX1_sell 85 = .ok (.invokevirtual 150, 3) := by decide +kernel
theorem dX1_sell_88 : decode cX1_sell 88 = .ok (.iadd, 1) := by decide +kernel
theorem dX1_sell_89 : decode cX1_sell 89 = .ok (.istore 5, 2) := by decide +kernel
theorem dX1_sell_91 : decode cX1_sell 91 = .ok (.iconst 0, 1) := by decide +kernel
theorem dX1_sell_92 : decode cX1_sell 92 = .ok (.istore 4, 2) := by decide +kernel
theorem dX1_sell_94 : decode cX1_sell 94 = .ok (.iinc 6 1, 3) := by decide +kernel
theorem dX1_sell_97 : decode cX1_sell 97 = .ok (.goto (-41), 3) := by decide +kernel
theorem dX1_sell_100 : decode cX1_sell 100 = .ok (.iload 5, 2) := by decide +kernel
theorem dX1_sell_102 : decode cX1_sell 102 = .ok (.ireturn, 1) := by decide +kernel
set_option maxRecDepth 20000 in
theorem ggX1_paid_X1_checkAuthor : GoodIn wsX1_paid wsX1_checkAuthor := goodIn_ca (goodIn_r _ [5, 6, 7, 4, 8, 9, 10] (by decide +kernel) (by decide +kernel)) (goodIn_sub (fun _ h => List.mem_cons_of_mem _ (List.mem_append_right _ h)) (by decide +kernel))
set_option maxRecDepth 20000 in
theorem gX1_paid_X1_checkAuthor : GoodIn wsX1_paid (va_wsS RX1 45 yX1_checkAuthor wsX1_checkAuthor) := goodIn_app (goodIn_of _ (by decide +kernel)) ggX1_paid_X1_checkAuthor
theorem dX1_paid_0 : decode cX1_paid 0 = .ok (.iload_n 1, 1) := by decide +kernel
theorem dX1_paid_1 : decode cX1_paid 1 = .ok (.invokestatic 45, 3) := by decide +kernel
theorem dX1_paid_4 : decode cX1_paid 4 = .ok (.aload_n 0, 1) := by decide +kernel
theorem dX1_paid_5 : decode cX1_paid 5 = .ok (.getfield 41, 3) := by decide +kernel
theorem dX1_paid_8 : decode cX1_paid 8 = .ok (.iload_n 1, 1) := by decide +kernel
theorem dX1_paid_9 : decode cX1_paid 9 = .ok (.laload, 1) := by decide +kernel
theorem dX1_paid_10 : decode cX1_paid 10 = .ok (.lreturn, 1) := by decide +kernel
set_option maxRecDepth 20000 in
theorem ggX1_left_X1_checkAuthor : GoodIn wsX1_left wsX1_checkAuthor := goodIn_ca (goodIn_r _ [5, 6, 7, 4, 8, 9, 10] (by decide +kernel) (by decide +kernel)) (goodIn_sub (fun _ h => List.mem_cons_of_mem _ (List.mem_append_right _ h)) (by decide +kernel))
set_option maxRecDepth 20000 in
theorem gX1_left_X1_checkAuthor : GoodIn wsX1_left (va_wsS RX1 45 yX1_checkAuthor wsX1_checkAuthor) := goodIn_app (goodIn_of _ (by decide +kernel)) ggX1_left_X1_checkAuthor
theorem dX1_left_0 : decode cX1_left 0 = .ok (.iload_n 1, 1) := by decide +kernel
theorem dX1_left_1 : decode cX1_left 1 = .ok (.invokestatic 45, 3) := by decide +kernel
theorem dX1_left_4 : decode cX1_left 4 = .ok (.aload_n 0, 1) := by decide +kernel
theorem dX1_left_5 : decode cX1_left 5 = .ok (.getfield 38, 3) := by decide +kernel
theorem dX1_left_8 : decode cX1_left 8 = .ok (.iload_n 1, 1) := by decide +kernel
theorem dX1_left_9 : decode cX1_left 9 = .ok (.iaload, 1) := by decide +kernel
theorem dX1_left_10 : decode cX1_left 10 = .ok (.ireturn, 1) := by decide +kernel
set_option maxRecDepth 20000 in
theorem ggX1_checkAuthor_X1_checkRange : GoodIn wsX1_checkAuthor wsX1_checkRange := goodIn_ca (goodIn_r _ [4, 5, 6] (by decide +kernel) (by decide +kernel)) (goodIn_sub (fun _ h => List.mem_cons_of_mem _ (List.mem_append_right _ h)) (by decide +kernel))
set_option maxRecDepth 20000 in
theorem gX1_checkAuthor_X1_checkRange : GoodIn wsX1_checkAuthor (va_wsS RX1 49 yX1_checkRange wsX1_checkRange) := goodIn_app (goodIn_of _ (by decide +kernel)) ggX1_checkAuthor_X1_checkRange
theorem dX1_checkAuthor_0 : decode cX1_checkAuthor 0 = .ok (.iload_n 0, 1) := by decide +kernel
theorem dX1_checkAuthor_1 : decode cX1_checkAuthor 1 = .ok (.iconst 0, 1) := by decide +kernel
theorem dX1_checkAuthor_2 : decode cX1_checkAuthor 2 = .ok (.iconst 3, 1) := by decide +kernel
theorem dX1_checkAuthor_3 : decode cX1_checkAuthor 3 = .ok (.invokestatic 49, 3) := by decide +kernel
theorem dX1_checkAuthor_6 : decode cX1_checkAuthor 6 = .ok (.return_, 1) := by decide +kernel
theorem dX1_checkRange_0 : decode cX1_checkRange 0 = .ok (.iload_n 0, 1) := by decide +kernel
theorem dX1_checkRange_1 : decode cX1_checkRange 1 = .ok (.iload_n 1, 1) := by decide +kernel
theorem dX1_checkRange_2 : decode cX1_checkRange 2 = .ok (.if_icmp .lt 8, 3) := by decide +kernel
theorem dX1_checkRange_5 : decode cX1_checkRange 5 = .ok (.iload_n 0, 1) := by decide +kernel
theorem dX1_checkRange_6 : decode cX1_checkRange 6 = .ok (.iload_n 2, 1) := by decide +kernel
theorem dX1_checkRange_7 : decode cX1_checkRange 7 = .ok (.if_icmp .le 13, 3) := by decide +kernel
theorem dX1_checkRange_10 : decode cX1_checkRange 10 = .ok (.new 101, 3) := by decide +kernel
theorem dX1_checkRange_13 : decode cX1_checkRange 13 = .ok (.dup, 1) := by decide +kernel
theorem dX1_checkRange_14 : decode cX1_checkRange 14 = .ok (.ldc 153, 2) := by decide +kernel
theorem dX1_checkRange_16 : decode cX1_checkRange 16 = .ok (.invokespecial 105, 3) := by decide +kernel
theorem dX1_checkRange_19 : decode cX1_checkRange 19 = .ok (.athrow, 1) := by decide +kernel
theorem dX1_checkRange_20 : decode cX1_checkRange 20 = .ok (.return_, 1) := by decide +kernel
theorem dX1_checkEdition_0 : decode cX1_checkEdition 0 = .ok (.iload_n 1, 1) := by decide +kernel
theorem dX1_checkEdition_1 : decode cX1_checkEdition 1 = .ok (.ifCond .lt 11, 3) := by decide +kernel
theorem dX1_checkEdition_4 : decode cX1_checkEdition 4 = .ok (.iload_n 1, 1) := by decide +kernel
theorem dX1_checkEdition_5 : decode cX1_checkEdition 5 = .ok (.aload_n 0, 1) := by decide +kernel
theorem dX1_checkEdition_6 : decode cX1_checkEdition 6 = .ok (.getfield 32, 3) := by decide +kernel
theorem dX1_checkEdition_9 : decode cX1_checkEdition 9 = .ok (.if_icmp .lt 13, 3) := by decide +kernel
theorem dX1_checkEdition_12 : decode cX1_checkEdition 12 = .ok (.new 53, 3) := by decide +kernel
theorem dX1_checkEdition_15 : decode cX1_checkEdition 15 = .ok (.dup, 1) := by decide +kernel
theorem dX1_checkEdition_16 : decode cX1_checkEdition 16 = .ok (.ldc 155, 2) := by decide +kernel
theorem dX1_checkEdition_18 : decode cX1_checkEdition 18 = .ok (.invokespecial 57, 3) := by decide +kernel
theorem dX1_checkEdition_21 : decode cX1_checkEdition 21 = .ok (.athrow, 1) := by decide +kernel
theorem dX1_checkEdition_22 : decode cX1_checkEdition 22 = .ok (.return_, 1) := by decide +kernel
theorem dX1_findByNumber_0 : decode cX1_findByNumber 0 = .ok (.iload_n 1, 1) := by decide +kernel
theorem dX1_findByNumber_1 : decode cX1_findByNumber 1 = .ok (.ifCond .lt 20, 3) := by decide +kernel
theorem dX1_findByNumber_4 : decode cX1_findByNumber 4 = .ok (.iload_n 1, 1) := by decide +kernel
theorem dX1_findByNumber_5 : decode cX1_findByNumber 5 = .ok (.aload_n 0, 1) := by decide +kernel
theorem dX1_findByNumber_6 : decode cX1_findByNumber 6 = .ok (.getfield 15, 3) := by decide +kernel
theorem dX1_findByNumber_9 : decode cX1_findByNumber 9 = .ok (.if_icmp .ge 12, 3) := by decide +kernel
theorem dX1_findByNumber_12 : decode cX1_findByNumber 12 = .ok (.aload_n 0, 1) := by decide +kernel
theorem dX1_findByNumber_13 : decode cX1_findByNumber 13 = .ok (.getfield 11, 3) := by decide +kernel
theorem dX1_findByNumber_16 : decode cX1_findByNumber 16 = .ok (.iload_n 1, 1) := by decide +kernel
theorem dX1_findByNumber_17 : decode cX1_findByNumber 17 = .ok (.aaload, 1) := by decide +kernel
theorem dX1_findByNumber_18 : decode cX1_findByNumber 18 = .ok (.goto 4, 3) := by decide +kernel
theorem dX1_findByNumber_21 : decode cX1_findByNumber 21 = .ok (.aconst_null, 1) := by decide +kernel
theorem dX1_findByNumber_22 : decode cX1_findByNumber 22 = .ok (.astore_n 2, 1) := by decide +kernel
theorem dX1_findByNumber_23 : decode cX1_findByNumber 23 = .ok (.aload_n 2, 1) := by decide +kernel
theorem dX1_findByNumber_24 : decode cX1_findByNumber 24 = .ok (.ifnonnull 13, 3) := by decide +kernel
theorem dX1_findByNumber_27 : decode cX1_findByNumber 27 = .ok (.new 53, 3) := by decide +kernel
theorem dX1_findByNumber_30 : decode cX1_findByNumber 30 = .ok (.dup, 1) := by decide +kernel
theorem dX1_findByNumber_31 : decode cX1_findByNumber 31 = .ok (.ldc 157, 2) := by decide +kernel
theorem dX1_findByNumber_33 : decode cX1_findByNumber 33 = .ok (.invokespecial 57, 3) := by decide +kernel
theorem dX1_findByNumber_36 : decode cX1_findByNumber 36 = .ok (.athrow, 1) := by decide +kernel
theorem dX1_findByNumber_37 : decode cX1_findByNumber 37 = .ok (.aload_n 2, 1) := by decide +kernel
theorem dX1_findByNumber_38 : decode cX1_findByNumber 38 = .ok (.areturn, 1) := by decide +kernel
set_option maxRecDepth 20000 in
theorem ggX1_findAtPlace_X0_isInTextOf : GoodIn wsX1_findAtPlace wsX0_isInTextOf := goodIn_r _ [7, 8, 9, 10, 11, 5, 12, 13, 23, 24, 25, 26, 27, 28, 29, 30] (by decide +kernel) (by decide +kernel)
set_option maxRecDepth 20000 in
theorem gX1_findAtPlace_X0_isInTextOf_n125 : GoodIn wsX1_findAtPlace (wsX0_isInTextOf) := ggX1_findAtPlace_X0_isInTextOf
theorem dX1_findAtPlace_0 : decode cX1_findAtPlace 0 = .ok (.iconst 0, 1) := by decide +kernel
theorem dX1_findAtPlace_1 : decode cX1_findAtPlace 1 = .ok (.istore_n 3, 1) := by decide +kernel
theorem dX1_findAtPlace_2 : decode cX1_findAtPlace 2 = .ok (.aload_n 0, 1) := by decide +kernel
theorem dX1_findAtPlace_3 : decode cX1_findAtPlace 3 = .ok (.getfield 19, 3) := by decide +kernel
theorem dX1_findAtPlace_6 : decode cX1_findAtPlace 6 = .ok (.astore 4, 2) := by decide +kernel
theorem dX1_findAtPlace_8 : decode cX1_findAtPlace 8 = .ok (.aload 4, 2) := by decide +kernel
theorem dX1_findAtPlace_10 : decode cX1_findAtPlace 10 = .ok (.ifnull 33, 3) := by decide +kernel
theorem dX1_findAtPlace_13 : decode cX1_findAtPlace 13 = .ok (.aload 4, 2) := by decide +kernel
theorem dX1_findAtPlace_15 : decode cX1_findAtPlace 15 = .ok (.iload_n 1, 1) := by decide +kernel
theorem dX1_findAtPlace_16 : decode cX1_findAtPlace 16 = .ok (.invokevirtual 125, 3) := by decide +kernel
theorem dX1_findAtPlace_19 : decode cX1_findAtPlace 19 = .ok (.ifCond .eq 14, 3) := by decide +kernel
theorem dX1_findAtPlace_22 : decode cX1_findAtPlace 22 = .ok (.iload_n 3, 1) := by decide +kernel
theorem dX1_findAtPlace_23 : decode cX1_findAtPlace 23 = .ok (.iload_n 2, 1) := by decide +kernel
theorem dX1_findAtPlace_24 : decode cX1_findAtPlace 24 = .ok (.if_icmp .ne 6, 3) := by decide +kernel
theorem dX1_findAtPlace_27 : decode cX1_findAtPlace 27 = .ok (.aload 4, 2) := by decide +kernel
theorem dX1_findAtPlace_29 : decode cX1_findAtPlace 29 = .ok (.areturn, 1) := by decide +kernel
theorem dX1_findAtPlace_30 : decode cX1_findAtPlace 30 = .ok (.iinc 3 1, 3) := by decide +kernel
theorem dX1_findAtPlace_33 : decode cX1_findAtPlace 33 = .ok (.aload 4, 2) := by decide +kernel
theorem dX1_findAtPlace_35 : decode cX1_findAtPlace 35 = .ok (.getfield 113, 3) := by decide +kernel
theorem dX1_findAtPlace_38 : decode cX1_findAtPlace 38 = .ok (.astore 4, 2) := by decide +kernel
theorem dX1_findAtPlace_40 : decode cX1_findAtPlace 40 = .ok (.goto (-32), 3) := by decide +kernel
theorem dX1_findAtPlace_43 : decode cX1_findAtPlace 43 = .ok (.new 53, 3) := by decide +kernel
theorem dX1_findAtPlace_46 : decode cX1_findAtPlace 46 = .ok (.dup, 1) := by decide +kernel
theorem dX1_findAtPlace_47 : decode cX1_findAtPlace 47 = .ok (.ldc 55, 2) := by decide +kernel
theorem dX1_findAtPlace_49 : decode cX1_findAtPlace 49 = .ok (.invokespecial 57, 3) := by decide +kernel
theorem dX1_findAtPlace_52 : decode cX1_findAtPlace 52 = .ok (.athrow, 1) := by decide +kernel
theorem dX1_nextStamp_0 : decode cX1_nextStamp 0 = .ok (.aload_n 0, 1) := by decide +kernel
theorem dX1_nextStamp_1 : decode cX1_nextStamp 1 = .ok (.getfield 23, 3) := by decide +kernel
theorem dX1_nextStamp_4 : decode cX1_nextStamp 4 = .ok (.iload_n 1, 1) := by decide +kernel
theorem dX1_nextStamp_5 : decode cX1_nextStamp 5 = .ok (.dup2, 1) := by decide +kernel
theorem dX1_nextStamp_6 : decode cX1_nextStamp 6 = .ok (.iaload, 1) := by decide +kernel
theorem dX1_nextStamp_7 : decode cX1_nextStamp 7 = .ok (.iconst 1, 1) := by decide +kernel
theorem dX1_nextStamp_8 : decode cX1_nextStamp 8 = .ok (.iadd, 1) := by decide +kernel
theorem dX1_nextStamp_9 : decode cX1_nextStamp 9 = .ok (.iastore, 1) := by decide +kernel
theorem dX1_nextStamp_10 : decode cX1_nextStamp 10 = .ok (.aload_n 0, 1) := by decide +kernel
theorem dX1_nextStamp_11 : decode cX1_nextStamp 11 = .ok (.getfield 23, 3) := by decide +kernel
theorem dX1_nextStamp_14 : decode cX1_nextStamp 14 = .ok (.iload_n 1, 1) := by decide +kernel
theorem dX1_nextStamp_15 : decode cX1_nextStamp 15 = .ok (.iaload, 1) := by decide +kernel
theorem dX1_nextStamp_16 : decode cX1_nextStamp 16 = .ok (.iconst 4, 1) := by decide +kernel
theorem dX1_nextStamp_17 : decode cX1_nextStamp 17 = .ok (.imul, 1) := by decide +kernel
theorem dX1_nextStamp_18 : decode cX1_nextStamp 18 = .ok (.iload_n 1, 1) := by decide +kernel
theorem dX1_nextStamp_19 : decode cX1_nextStamp 19 = .ok (.iadd, 1) := by decide +kernel
theorem dX1_nextStamp_20 : decode cX1_nextStamp 20 = .ok (.ireturn, 1) := by decide +kernel
theorem dX1_putInOrder_0 : decode cX1_putInOrder 0 = .ok (.aload_n 1, 1) := by decide +kernel
theorem dX1_putInOrder_1 : decode cX1_putInOrder 1 = .ok (.getfield 131, 3) := by decide +kernel
theorem dX1_putInOrder_4 : decode cX1_putInOrder 4 = .ok (.astore_n 2, 1) := by decide +kernel
theorem dX1_putInOrder_5 : decode cX1_putInOrder 5 = .ok (.aload_n 2, 1) := by decide +kernel
theorem dX1_putInOrder_6 : decode cX1_putInOrder 6 = .ok (.ifnonnull 10, 3) := by decide +kernel
theorem dX1_putInOrder_9 : decode cX1_putInOrder 9 = .ok (.aload_n 0, 1) := by decide +kernel
theorem dX1_putInOrder_10 : decode cX1_putInOrder 10 = .ok (.getfield 19, 3) := by decide +kernel
theorem dX1_putInOrder_13 : decode cX1_putInOrder 13 = .ok (.goto 7, 3) := by decide +kernel
theorem dX1_putInOrder_16 : decode cX1_putInOrder 16 = .ok (.aload_n 2, 1) := by decide +kernel
theorem dX1_putInOrder_17 : decode cX1_putInOrder 17 = .ok (.getfield 113, 3) := by decide +kernel
theorem dX1_putInOrder_20 : decode cX1_putInOrder 20 = .ok (.astore_n 3, 1) := by decide +kernel
theorem dX1_putInOrder_21 : decode cX1_putInOrder 21 = .ok (.aload_n 3, 1) := by decide +kernel
theorem dX1_putInOrder_22 : decode cX1_putInOrder 22 = .ok (.ifnull 24, 3) := by decide +kernel
theorem dX1_putInOrder_25 : decode cX1_putInOrder 25 = .ok (.aload_n 3, 1) := by decide +kernel
theorem dX1_putInOrder_26 : decode cX1_putInOrder 26 = .ok (.getfield 159, 3) := by decide +kernel
theorem dX1_putInOrder_29 : decode cX1_putInOrder 29 = .ok (.aload_n 1, 1) := by decide +kernel
theorem dX1_putInOrder_30 : decode cX1_putInOrder 30 = .ok (.getfield 159, 3) := by decide +kernel
theorem dX1_putInOrder_33 : decode cX1_putInOrder 33 = .ok (.if_icmp .le 13, 3) := by decide +kernel
theorem dX1_putInOrder_36 : decode cX1_putInOrder 36 = .ok (.aload_n 3, 1) := by decide +kernel
theorem dX1_putInOrder_37 : decode cX1_putInOrder 37 = .ok (.astore_n 2, 1) := by decide +kernel
theorem dX1_putInOrder_38 : decode cX1_putInOrder 38 = .ok (.aload_n 3, 1) := by decide +kernel
theorem dX1_putInOrder_39 : decode cX1_putInOrder 39 = .ok (.getfield 113, 3) := by decide +kernel
theorem dX1_putInOrder_42 : decode cX1_putInOrder 42 = .ok (.astore_n 3, 1) := by decide +kernel
theorem dX1_putInOrder_43 : decode cX1_putInOrder 43 = .ok (.goto (-22), 3) := by decide +kernel
theorem dX1_putInOrder_46 : decode cX1_putInOrder 46 = .ok (.aload_n 1, 1) := by decide +kernel
theorem dX1_putInOrder_47 : decode cX1_putInOrder 47 = .ok (.aload_n 3, 1) := by decide +kernel
theorem dX1_putInOrder_48 : decode cX1_putInOrder 48 = .ok (.putfield 113, 3) := by decide +kernel
theorem dX1_putInOrder_51 : decode cX1_putInOrder 51 = .ok (.aload_n 2, 1) := by decide +kernel
theorem dX1_putInOrder_52 : decode cX1_putInOrder 52 = .ok (.ifnonnull 11, 3) := by decide +kernel
theorem dX1_putInOrder_55 : decode cX1_putInOrder 55 = .ok (.aload_n 0, 1) := by decide +kernel
theorem dX1_putInOrder_56 : decode cX1_putInOrder 56 = .ok (.aload_n 1, 1) := by decide +kernel
theorem dX1_putInOrder_57 : decode cX1_putInOrder 57 = .ok (.putfield 19, 3) := by decide +kernel
theorem dX1_putInOrder_60 : decode cX1_putInOrder 60 = .ok (.goto 8, 3) := by decide +kernel
theorem dX1_putInOrder_63 : decode cX1_putInOrder 63 = .ok (.aload_n 2, 1) := by decide +kernel
theorem dX1_putInOrder_64 : decode cX1_putInOrder 64 = .ok (.aload_n 1, 1) := by decide +kernel
theorem dX1_putInOrder_65 : decode cX1_putInOrder 65 = .ok (.putfield 113, 3) := by decide +kernel
theorem dX1_putInOrder_68 : decode cX1_putInOrder 68 = .ok (.return_, 1) := by decide +kernel
set_option maxRecDepth 20000 in
theorem ggX1_countAheadOf_X0_isInTextOf : GoodIn wsX1_countAheadOf wsX0_isInTextOf := goodIn_r _ [5, 6, 7, 8, 9, 3, 10, 11, 21, 22, 23, 24, 25, 26, 27, 28] (by decide +kernel) (by decide +kernel)
set_option maxRecDepth 20000 in
theorem gX1_countAheadOf_X0_isInTextOf_n125 : GoodIn wsX1_countAheadOf (wsX0_isInTextOf) := ggX1_countAheadOf_X0_isInTextOf
theorem dX1_countAheadOf_0 : decode cX1_countAheadOf 0 = .ok (.iconst 0, 1) := by decide +kernel
theorem dX1_countAheadOf_1 : decode cX1_countAheadOf 1 = .ok (.istore_n 3, 1) := by decide +kernel
theorem dX1_countAheadOf_2 : decode cX1_countAheadOf 2 = .ok (.aload_n 0, 1) := by decide +kernel
theorem dX1_countAheadOf_3 : decode cX1_countAheadOf 3 = .ok (.getfield 19, 3) := by decide +kernel
theorem dX1_countAheadOf_6 : decode cX1_countAheadOf 6 = .ok (.astore 4, 2) := by decide +kernel
theorem dX1_countAheadOf_8 : decode cX1_countAheadOf 8 = .ok (.aload 4, 2) := by decide +kernel
theorem dX1_countAheadOf_10 : decode cX1_countAheadOf 10 = .ok (.ifnull 31, 3) := by decide +kernel
theorem dX1_countAheadOf_13 : decode cX1_countAheadOf 13 = .ok (.aload 4, 2) := by decide +kernel
theorem dX1_countAheadOf_15 : decode cX1_countAheadOf 15 = .ok (.aload_n 2, 1) := by decide +kernel
theorem dX1_countAheadOf_16 : decode cX1_countAheadOf 16 = .ok (.if_acmp .eq 25, 3) := by decide +kernel
theorem dX1_countAheadOf_19 : decode cX1_countAheadOf 19 = .ok (.aload 4, 2) := by decide +kernel
theorem dX1_countAheadOf_21 : decode cX1_countAheadOf 21 = .ok (.iload_n 1, 1) := by decide +kernel
theorem dX1_countAheadOf_22 : decode cX1_countAheadOf 22 = .ok (.invokevirtual 125, 3) := by decide +kernel
theorem dX1_countAheadOf_25 : decode cX1_countAheadOf 25 = .ok (.ifCond .eq 6, 3) := by decide +kernel
theorem dX1_countAheadOf_28 : decode cX1_countAheadOf 28 = .ok (.iinc 3 1, 3) := by decide +kernel
theorem dX1_countAheadOf_31 : decode cX1_countAheadOf 31 = .ok (.aload 4, 2) := by decide +kernel
theorem dX1_countAheadOf_33 : decode cX1_countAheadOf 33 = .ok (.getfield 113, 3) := by decide +kernel
theorem dX1_countAheadOf_36 : decode cX1_countAheadOf 36 = .ok (.astore 4, 2) := by decide +kernel
theorem dX1_countAheadOf_38 : decode cX1_countAheadOf 38 = .ok (.goto (-30), 3) := by decide +kernel
theorem dX1_countAheadOf_41 : decode cX1_countAheadOf 41 = .ok (.iload_n 3, 1) := by decide +kernel
theorem dX1_countAheadOf_42 : decode cX1_countAheadOf 42 = .ok (.ireturn, 1) := by decide +kernel
set_option maxRecDepth 20000 in
theorem ggX1_countWrittenBy_X0_isInTextOf : GoodIn wsX1_countWrittenBy wsX0_isInTextOf := goodIn_r _ [5, 6, 7, 8, 9, 3, 10, 11, 21, 22, 23, 24, 25, 26, 27, 28] (by decide +kernel) (by decide +kernel)
set_option maxRecDepth 20000 in
theorem gX1_countWrittenBy_X0_isInTextOf_n125 : GoodIn wsX1_countWrittenBy (wsX0_isInTextOf) := ggX1_countWrittenBy_X0_isInTextOf
theorem dX1_countWrittenBy_0 : decode cX1_countWrittenBy 0 = .ok (.iconst 0, 1) := by decide +kernel
theorem dX1_countWrittenBy_1 : decode cX1_countWrittenBy 1 = .ok (.istore_n 3, 1) := by decide +kernel
theorem dX1_countWrittenBy_2 : decode cX1_countWrittenBy 2 = .ok (.aload_n 0, 1) := by decide +kernel
theorem dX1_countWrittenBy_3 : decode cX1_countWrittenBy 3 = .ok (.getfield 19, 3) := by decide +kernel
theorem dX1_countWrittenBy_6 : decode cX1_countWrittenBy 6 = .ok (.astore 4, 2) := by decide +kernel
theorem dX1_countWrittenBy_8 : decode cX1_countWrittenBy 8 = .ok (.aload 4, 2) := by decide +kernel
theorem dX1_countWrittenBy_10 : decode cX1_countWrittenBy 10 = .ok (.ifnull 34, 3) := by decide +kernel
theorem dX1_countWrittenBy_13 : decode cX1_countWrittenBy 13 = .ok (.aload 4, 2) := by decide +kernel
theorem dX1_countWrittenBy_15 : decode cX1_countWrittenBy 15 = .ok (.getfield 128, 3) := by decide +kernel
theorem dX1_countWrittenBy_18 : decode cX1_countWrittenBy 18 = .ok (.iload_n 1, 1) := by decide +kernel
theorem dX1_countWrittenBy_19 : decode cX1_countWrittenBy 19 = .ok (.if_icmp .ne 15, 3) := by decide +kernel
theorem dX1_countWrittenBy_22 : decode cX1_countWrittenBy 22 = .ok (.aload 4, 2) := by decide +kernel
theorem dX1_countWrittenBy_24 : decode cX1_countWrittenBy 24 = .ok (.iload_n 2, 1) := by decide +kernel
theorem dX1_countWrittenBy_25 : decode cX1_countWrittenBy 25 = .ok (.invokevirtual 125, 3) := by decide +kernel
theorem dX1_countWrittenBy_28 : decode cX1_countWrittenBy 28 = .ok (.ifCond .eq 6, 3) := by decide +kernel
theorem dX1_countWrittenBy_31 : decode cX1_countWrittenBy 31 = .ok (.iinc 3 1, 3) := by decide +kernel
theorem dX1_countWrittenBy_34 : decode cX1_countWrittenBy 34 = .ok (.aload 4, 2) := by decide +kernel
theorem dX1_countWrittenBy_36 : decode cX1_countWrittenBy 36 = .ok (.getfield 113, 3) := by decide +kernel
theorem dX1_countWrittenBy_39 : decode cX1_countWrittenBy 39 = .ok (.astore 4, 2) := by decide +kernel
theorem dX1_countWrittenBy_41 : decode cX1_countWrittenBy 41 = .ok (.goto (-33), 3) := by decide +kernel
theorem dX1_countWrittenBy_44 : decode cX1_countWrittenBy 44 = .ok (.iload_n 3, 1) := by decide +kernel
theorem dX1_countWrittenBy_45 : decode cX1_countWrittenBy 45 = .ok (.ireturn, 1) := by decide +kernel
theorem dX1_shareOf_0 : decode cX1_shareOf 0 = .ok (.iconst 0, 1) := by decide +kernel
theorem dX1_shareOf_1 : decode cX1_shareOf 1 = .ok (.istore 4, 2) := by decide +kernel
theorem dX1_shareOf_3 : decode cX1_shareOf 3 = .ok (.iconst 0, 1) := by decide +kernel
theorem dX1_shareOf_4 : decode cX1_shareOf 4 = .ok (.istore 5, 2) := by decide +kernel
theorem dX1_shareOf_6 : decode cX1_shareOf 6 = .ok (.iconst 0, 1) := by decide +kernel
theorem dX1_shareOf_7 : decode cX1_shareOf 7 = .ok (.istore 6, 2) := by decide +kernel
theorem dX1_shareOf_9 : decode cX1_shareOf 9 = .ok (.iload 6, 2) := by decide +kernel
theorem dX1_shareOf_11 : decode cX1_shareOf 11 = .ok (.iconst 4, 1) := by decide +kernel
theorem dX1_shareOf_12 : decode cX1_shareOf 12 = .ok (.if_icmp .ge 28, 3) := by decide +kernel
theorem dX1_shareOf_15 : decode cX1_shareOf 15 = .ok (.aload_n 2, 1) := by decide +kernel
theorem dX1_shareOf_16 : decode cX1_shareOf 16 = .ok (.iload 6, 2) := by decide +kernel
theorem dX1_shareOf_18 : decode cX1_shareOf 18 = .ok (.iaload, 1) := by decide +kernel
theorem dX1_shareOf_19 : decode cX1_shareOf 19 = .ok (.ifCond .le 15, 3) := by decide +kernel
theorem dX1_shareOf_22 : decode cX1_shareOf 22 = .ok (.iinc 4 1, 3) := by decide +kernel
theorem dX1_shareOf_25 : decode cX1_shareOf 25 = .ok (.iload 5, 2) := by decide +kernel
theorem dX1_shareOf_27 : decode cX1_shareOf 27 = .ok (.aload_n 2, 1) := by decide +kernel
theorem dX1_shareOf_28 : decode cX1_shareOf 28 = .ok (.iload 6, 2) := by decide +kernel
theorem dX1_shareOf_30 : decode cX1_shareOf 30 = .ok (.iaload, 1) := by decide +kernel
theorem dX1_shareOf_31 : decode cX1_shareOf 31 = .ok (.iadd, 1) := by decide +kernel
theorem dX1_shareOf_32 : decode cX1_shareOf 32 = .ok (.istore 5, 2) := by decide +kernel
theorem dX1_shareOf_34 : decode cX1_shareOf 34 = .ok (.iinc 6 1, 3) := by decide +kernel
theorem dX1_shareOf_37 : decode cX1_shareOf 37 = .ok (.goto (-28), 3) := by decide +kernel
theorem dX1_shareOf_40 : decode cX1_shareOf 40 = .ok (.iload 5, 2) := by decide +kernel
theorem dX1_shareOf_42 : decode cX1_shareOf 42 = .ok (.ifCond .eq 9, 3) := by decide +kernel
theorem dX1_shareOf_45 : decode cX1_shareOf 45 = .ok (.aload_n 2, 1) := by decide +kernel
theorem dX1_shareOf_46 : decode cX1_shareOf 46 = .ok (.iload_n 1, 1) := by decide +kernel
theorem dX1_shareOf_47 : decode cX1_shareOf 47 = .ok (.iaload, 1) := by decide +kernel
theorem dX1_shareOf_48 : decode cX1_shareOf 48 = .ok (.ifCond .ne 5, 3) := by decide +kernel
theorem dX1_shareOf_51 : decode cX1_shareOf 51 = .ok (.iconst 0, 1) := by decide +kernel
theorem dX1_shareOf_52 : decode cX1_shareOf 52 = .ok (.ireturn, 1) := by decide +kernel
theorem dX1_shareOf_53 : decode cX1_shareOf 53 = .ok (.iload_n 3, 1) := by decide +kernel
theorem dX1_shareOf_54 : decode cX1_shareOf 54 = .ok (.aload_n 0, 1) := by decide +kernel
theorem dX1_shareOf_55 : decode cX1_shareOf 55 = .ok (.getfield 35, 3) := by decide +kernel
theorem dX1_shareOf_58 : decode cX1_shareOf 58 = .ok (.imul, 1) := by decide +kernel
theorem dX1_shareOf_59 : decode cX1_shareOf 59 = .ok (.bipush 100, 2) := by decide +kernel
theorem dX1_shareOf_61 : decode cX1_shareOf 61 = .ok (.idiv, 1) := by decide +kernel
theorem dX1_shareOf_62 : decode cX1_shareOf 62 = .ok (.istore 6, 2) := by decide +kernel
theorem dX1_shareOf_64 : decode cX1_shareOf 64 = .ok (.iload_n 3, 1) := by decide +kernel
theorem dX1_shareOf_65 : decode cX1_shareOf 65 = .ok (.iload 4, 2) := by decide +kernel
theorem dX1_shareOf_67 : decode cX1_shareOf 67 = .ok (.iload 6, 2) := by decide +kernel
theorem dX1_shareOf_69 : decode cX1_shareOf 69 = .ok (.imul, 1) := by decide +kernel
theorem dX1_shareOf_70 : decode cX1_shareOf 70 = .ok (.isub, 1) := by decide +kernel
theorem dX1_shareOf_71 : decode cX1_shareOf 71 = .ok (.istore 7, 2) := by decide +kernel
theorem dX1_shareOf_73 : decode cX1_shareOf 73 = .ok (.iload 6, 2) := by decide +kernel
theorem dX1_shareOf_75 : decode cX1_shareOf 75 = .ok (.iload 7, 2) := by decide +kernel
theorem dX1_shareOf_77 : decode cX1_shareOf 77 = .ok (.aload_n 2, 1) := by decide +kernel
theorem dX1_shareOf_78 : decode cX1_shareOf 78 = .ok (.iload_n 1, 1) := by decide +kernel
theorem dX1_shareOf_79 : decode cX1_shareOf 79 = .ok (.iaload, 1) := by decide +kernel
theorem dX1_shareOf_80 : decode cX1_shareOf 80 = .ok (.imul, 1) := by decide +kernel
theorem dX1_shareOf_81 : decode cX1_shareOf 81 = .ok (.iload 5, 2) := by decide +kernel
theorem dX1_shareOf_83 : decode cX1_shareOf 83 = .ok (.idiv, 1) := by decide +kernel
theorem dX1_shareOf_84 : decode cX1_shareOf 84 = .ok (.iadd, 1) := by decide +kernel
theorem dX1_shareOf_85 : decode cX1_shareOf 85 = .ok (.ireturn, 1) := by decide +kernel
theorem dX1_credit_0 : decode cX1_credit 0 = .ok (.iload_n 2, 1) := by decide +kernel
theorem dX1_credit_1 : decode cX1_credit 1 = .ok (.aload_n 0, 1) := by decide +kernel
theorem dX1_credit_2 : decode cX1_credit 2 = .ok (.getfield 38, 3) := by decide +kernel
theorem dX1_credit_5 : decode cX1_credit 5 = .ok (.iload_n 1, 1) := by decide +kernel
theorem dX1_credit_6 : decode cX1_credit 6 = .ok (.iaload, 1) := by decide +kernel
theorem dX1_credit_7 : decode cX1_credit 7 = .ok (.invokestatic 162, 3) := by decide +kernel
theorem dX1_credit_10 : decode cX1_credit 10 = .ok (.istore_n 3, 1) := by decide +kernel
theorem dX1_credit_11 : decode cX1_credit 11 = .ok (.aload_n 0, 1) := by decide +kernel
theorem dX1_credit_12 : decode cX1_credit 12 = .ok (.getfield 38, 3) := by decide +kernel
theorem dX1_credit_15 : decode cX1_credit 15 = .ok (.iload_n 1, 1) := by decide +kernel
theorem dX1_credit_16 : decode cX1_credit 16 = .ok (.dup2, 1) := by decide +kernel
theorem dX1_credit_17 : decode cX1_credit 17 = .ok (.iaload, 1) := by decide +kernel
theorem dX1_credit_18 : decode cX1_credit 18 = .ok (.iload_n 3, 1) := by decide +kernel
theorem dX1_credit_19 : decode cX1_credit 19 = .ok (.isub, 1) := by decide +kernel
theorem dX1_credit_20 : decode cX1_credit 20 = .ok (.iastore, 1) := by decide +kernel
theorem dX1_credit_21 : decode cX1_credit 21 = .ok (.aload_n 0, 1) := by decide +kernel
theorem dX1_credit_22 : decode cX1_credit 22 = .ok (.getfield 41, 3) := by decide +kernel
theorem dX1_credit_25 : decode cX1_credit 25 = .ok (.iload_n 1, 1) := by decide +kernel
theorem dX1_credit_26 : decode cX1_credit 26 = .ok (.dup2, 1) := by decide +kernel
theorem dX1_credit_27 : decode cX1_credit 27 = .ok (.laload, 1) := by decide +kernel
theorem dX1_credit_28 : decode cX1_credit 28 = .ok (.iload_n 2, 1) := by decide +kernel
theorem dX1_credit_29 : decode cX1_credit 29 = .ok (.iload_n 3, 1) := by decide +kernel
theorem dX1_credit_30 : decode cX1_credit 30 = .ok (.isub, 1) := by decide +kernel
theorem dX1_credit_31 : decode cX1_credit 31 = .ok (.i2l, 1) := by decide +kernel
theorem dX1_credit_32 : decode cX1_credit 32 = .ok (.ladd, 1) := by decide +kernel
theorem dX1_credit_33 : decode cX1_credit 33 = .ok (.lastore, 1) := by decide +kernel
theorem dX1_credit_34 : decode cX1_credit 34 = .ok (.iload_n 2, 1) := by decide +kernel
theorem dX1_credit_35 : decode cX1_credit 35 = .ok (.iload_n 3, 1) := by decide +kernel
theorem dX1_credit_36 : decode cX1_credit 36 = .ok (.isub, 1) := by decide +kernel
theorem dX1_credit_37 : decode cX1_credit 37 = .ok (.ireturn, 1) := by decide +kernel
end
section
theorem dX2_init_0 : decode cX2_init 0 = .ok (.aload_n 0, 1) := by decide +kernel
theorem dX2_init_1 : decode cX2_init 1 = .ok (.invokespecial 1, 3) := by decide +kernel
theorem dX2_init_4 : decode cX2_init 4 = .ok (.aload_n 0, 1) := by decide +kernel
theorem dX2_init_5 : decode cX2_init 5 = .ok (.bipush 60, 2) := by decide +kernel
theorem dX2_init_7 : decode cX2_init 7 = .ok (.newarray .int, 2) := by decide +kernel
theorem dX2_init_9 : decode cX2_init 9 = .ok (.putfield 7, 3) := by decide +kernel
theorem dX2_init_12 : decode cX2_init 12 = .ok (.aload_n 0, 1) := by decide +kernel
theorem dX2_init_13 : decode cX2_init 13 = .ok (.bipush 60, 2) := by decide +kernel
theorem dX2_init_15 : decode cX2_init 15 = .ok (.newarray .int, 2) := by decide +kernel
theorem dX2_init_17 : decode cX2_init 17 = .ok (.putfield 13, 3) := by decide +kernel
theorem dX2_init_20 : decode cX2_init 20 = .ok (.aload_n 0, 1) := by decide +kernel
theorem dX2_init_21 : decode cX2_init 21 = .ok (.bipush 60, 2) := by decide +kernel
theorem dX2_init_23 : decode cX2_init 23 = .ok (.newarray .int, 2) := by decide +kernel
theorem dX2_init_25 : decode cX2_init 25 = .ok (.putfield 16, 3) := by decide +kernel
theorem dX2_init_28 : decode cX2_init 28 = .ok (.aload_n 0, 1) := by decide +kernel
theorem dX2_init_29 : decode cX2_init 29 = .ok (.bipush 60, 2) := by decide +kernel
theorem dX2_init_31 : decode cX2_init 31 = .ok (.newarray .int, 2) := by decide +kernel
theorem dX2_init_33 : decode cX2_init 33 = .ok (.putfield 19, 3) := by decide +kernel
theorem dX2_init_36 : decode cX2_init 36 = .ok (.aload_n 0, 1) := by decide +kernel
theorem dX2_init_37 : decode cX2_init 37 = .ok (.sipush 240, 3) := by decide +kernel
theorem dX2_init_40 : decode cX2_init 40 = .ok (.newarray .boolean, 2) := by decide +kernel
theorem dX2_init_42 : decode cX2_init 42 = .ok (.putfield 22, 3) := by decide +kernel
theorem dX2_init_45 : decode cX2_init 45 = .ok (.aload_n 0, 1) := by decide +kernel
theorem dX2_init_46 : decode cX2_init 46 = .ok (.sipush 240, 3) := by decide +kernel
theorem dX2_init_49 : decode cX2_init 49 = .ok (.newarray .boolean, 2) := by decide +kernel
theorem dX2_init_51 : decode cX2_init 51 = .ok (.putfield 26, 3) := by decide +kernel
theorem dX2_init_54 : decode cX2_init 54 = .ok (.aload_n 0, 1) := by decide +kernel
theorem dX2_init_55 : decode cX2_init 55 = .ok (.sipush 240, 3) := by decide +kernel
theorem dX2_init_58 : decode cX2_init 58 = .ok (.newarray .int, 2) := by decide +kernel
theorem dX2_init_60 : decode cX2_init 60 = .ok (.putfield 29, 3) := by decide +kernel
theorem dX2_init_63 : decode cX2_init 63 = .ok (.aload_n 0, 1) := by decide +kernel
theorem dX2_init_64 : decode cX2_init 64 = .ok (.iconst 4, 1) := by decide +kernel
theorem dX2_init_65 : decode cX2_init 65 = .ok (.newarray .int, 2) := by decide +kernel
theorem dX2_init_67 : decode cX2_init 67 = .ok (.putfield 32, 3) := by decide +kernel
theorem dX2_init_70 : decode cX2_init 70 = .ok (.aload_n 0, 1) := by decide +kernel
theorem dX2_init_71 : decode cX2_init 71 = .ok (.bipush 80, 2) := by decide +kernel
theorem dX2_init_73 : decode cX2_init 73 = .ok (.newarray .int, 2) := by decide +kernel
theorem dX2_init_75 : decode cX2_init 75 = .ok (.putfield 35, 3) := by decide +kernel
theorem dX2_init_78 : decode cX2_init 78 = .ok (.aload_n 0, 1) := by decide +kernel
theorem dX2_init_79 : decode cX2_init 79 = .ok (.iconst 4, 1) := by decide +kernel
theorem dX2_init_80 : decode cX2_init 80 = .ok (.newarray .int, 2) := by decide +kernel
theorem dX2_init_82 : decode cX2_init 82 = .ok (.putfield 38, 3) := by decide +kernel
theorem dX2_init_85 : decode cX2_init 85 = .ok (.aload_n 0, 1) := by decide +kernel
theorem dX2_init_86 : decode cX2_init 86 = .ok (.iconst 4, 1) := by decide +kernel
theorem dX2_init_87 : decode cX2_init 87 = .ok (.newarray .long, 2) := by decide +kernel
theorem dX2_init_89 : decode cX2_init 89 = .ok (.putfield 41, 3) := by decide +kernel
theorem dX2_init_92 : decode cX2_init 92 = .ok (.aload_n 0, 1) := by decide +kernel
theorem dX2_init_93 : decode cX2_init 93 = .ok (.bipush 60, 2) := by decide +kernel
theorem dX2_init_95 : decode cX2_init 95 = .ok (.newarray .int, 2) := by decide +kernel
theorem dX2_init_97 : decode cX2_init 97 = .ok (.putfield 45, 3) := by decide +kernel
theorem dX2_init_100 : decode cX2_init 100 = .ok (.aload_n 0, 1) := by decide +kernel
theorem dX2_init_101 : decode cX2_init 101 = .ok (.bipush 60, 2) := by decide +kernel
theorem dX2_init_103 : decode cX2_init 103 = .ok (.newarray .int, 2) := by decide +kernel
theorem dX2_init_105 : decode cX2_init 105 = .ok (.putfield 48, 3) := by decide +kernel
theorem dX2_init_108 : decode cX2_init 108 = .ok (.return_, 1) := by decide +kernel
theorem dX2_thrown_0 : decode cX2_thrown 0 = .ok (.aload_n 0, 1) := by decide +kernel
theorem dX2_thrown_1 : decode cX2_thrown 1 = .ok (.getfield 51, 3) := by decide +kernel
theorem dX2_thrown_4 : decode cX2_thrown 4 = .ok (.ireturn, 1) := by decide +kernel
theorem dX2_goes_0 : decode cX2_goes 0 = .ok (.aload_n 0, 1) := by decide +kernel
theorem dX2_goes_1 : decode cX2_goes 1 = .ok (.iload_n 1, 1) := by decide +kernel
theorem dX2_goes_2 : decode cX2_goes 2 = .ok (.putfield 51, 3) := by decide +kernel
theorem dX2_goes_5 : decode cX2_goes 5 = .ok (.iload_n 1, 1) := by decide +kernel
theorem dX2_goes_6 : decode cX2_goes 6 = .ok (.ifCond .ne 7, 3) := by decide +kernel
theorem dX2_goes_9 : decode cX2_goes 9 = .ok (.iconst 1, 1) := by decide +kernel
theorem dX2_goes_10 : decode cX2_goes 10 = .ok (.goto 4, 3) := by decide +kernel
theorem dX2_goes_13 : decode cX2_goes 13 = .ok (.iconst 0, 1) := by decide +kernel
theorem dX2_goes_14 : decode cX2_goes 14 = .ok (.ireturn, 1) := by decide +kernel
theorem dX2_isIn_0 : decode cX2_isIn 0 = .ok (.iload_n 0, 1) := by decide +kernel
theorem dX2_isIn_1 : decode cX2_isIn 1 = .ok (.iload_n 1, 1) := by decide +kernel
theorem dX2_isIn_2 : decode cX2_isIn 2 = .ok (.if_icmp .lt 12, 3) := by decide +kernel
theorem dX2_isIn_5 : decode cX2_isIn 5 = .ok (.iload_n 0, 1) := by decide +kernel
theorem dX2_isIn_6 : decode cX2_isIn 6 = .ok (.iload_n 2, 1) := by decide +kernel
theorem dX2_isIn_7 : decode cX2_isIn 7 = .ok (.if_icmp .gt 7, 3) := by decide +kernel
theorem dX2_isIn_10 : decode cX2_isIn 10 = .ok (.iconst 1, 1) := by decide +kernel
theorem dX2_isIn_11 : decode cX2_isIn 11 = .ok (.goto 4, 3) := by decide +kernel
theorem dX2_isIn_14 : decode cX2_isIn 14 = .ok (.iconst 0, 1) := by decide +kernel
theorem dX2_isIn_15 : decode cX2_isIn 15 = .ok (.ireturn, 1) := by decide +kernel
set_option maxRecDepth 20000 in
theorem ggX2_isAuthor_X2_isIn : GoodIn wsX2_isAuthor wsX2_isIn := goodIn_r _ [4] (by decide +kernel) (by decide +kernel)
set_option maxRecDepth 20000 in
theorem gX2_isAuthor_X2_isIn : GoodIn wsX2_isAuthor (va_wsS RX2 55 yX2_isIn wsX2_isIn) := goodIn_app (goodIn_of _ (by decide +kernel)) ggX2_isAuthor_X2_isIn
theorem dX2_isAuthor_0 : decode cX2_isAuthor 0 = .ok (.iload_n 0, 1) := by decide +kernel
theorem dX2_isAuthor_1 : decode cX2_isAuthor 1 = .ok (.iconst 0, 1) := by decide +kernel
theorem dX2_isAuthor_2 : decode cX2_isAuthor 2 = .ok (.iconst 3, 1) := by decide +kernel
theorem dX2_isAuthor_3 : decode cX2_isAuthor 3 = .ok (.invokestatic 55, 3) := by decide +kernel
theorem dX2_isAuthor_6 : decode cX2_isAuthor 6 = .ok (.ireturn, 1) := by decide +kernel
set_option maxRecDepth 20000 in
theorem ggX2_isSign_X2_isIn : GoodIn wsX2_isSign wsX2_isIn := goodIn_r _ [5] (by decide +kernel) (by decide +kernel)
set_option maxRecDepth 20000 in
theorem gX2_isSign_X2_isIn : GoodIn wsX2_isSign (va_wsS RX2 55 yX2_isIn wsX2_isIn) := goodIn_app (goodIn_of _ (by decide +kernel)) ggX2_isSign_X2_isIn
theorem dX2_isSign_0 : decode cX2_isSign 0 = .ok (.iload_n 1, 1) := by decide +kernel
theorem dX2_isSign_1 : decode cX2_isSign 1 = .ok (.iconst 0, 1) := by decide +kernel
theorem dX2_isSign_2 : decode cX2_isSign 2 = .ok (.aload_n 0, 1) := by decide +kernel
theorem dX2_isSign_3 : decode cX2_isSign 3 = .ok (.getfield 59, 3) := by decide +kernel
theorem dX2_isSign_6 : decode cX2_isSign 6 = .ok (.iconst 1, 1) := by decide +kernel
theorem dX2_isSign_7 : decode cX2_isSign 7 = .ok (.isub, 1) := by decide +kernel
theorem dX2_isSign_8 : decode cX2_isSign 8 = .ok (.invokestatic 55, 3) := by decide +kernel
theorem dX2_isSign_11 : decode cX2_isSign 11 = .ok (.ireturn, 1) := by decide +kernel
set_option maxRecDepth 20000 in
theorem ggX2_isEdition_X2_isIn : GoodIn wsX2_isEdition wsX2_isIn := goodIn_r _ [5] (by decide +kernel) (by decide +kernel)
set_option maxRecDepth 20000 in
theorem gX2_isEdition_X2_isIn : GoodIn wsX2_isEdition (va_wsS RX2 55 yX2_isIn wsX2_isIn) := goodIn_app (goodIn_of _ (by decide +kernel)) ggX2_isEdition_X2_isIn
theorem dX2_isEdition_0 : decode cX2_isEdition 0 = .ok (.iload_n 1, 1) := by decide +kernel
theorem dX2_isEdition_1 : decode cX2_isEdition 1 = .ok (.iconst 0, 1) := by decide +kernel
theorem dX2_isEdition_2 : decode cX2_isEdition 2 = .ok (.aload_n 0, 1) := by decide +kernel
theorem dX2_isEdition_3 : decode cX2_isEdition 3 = .ok (.getfield 62, 3) := by decide +kernel
theorem dX2_isEdition_6 : decode cX2_isEdition 6 = .ok (.iconst 1, 1) := by decide +kernel
theorem dX2_isEdition_7 : decode cX2_isEdition 7 = .ok (.isub, 1) := by decide +kernel
theorem dX2_isEdition_8 : decode cX2_isEdition 8 = .ok (.invokestatic 55, 3) := by decide +kernel
theorem dX2_isEdition_11 : decode cX2_isEdition 11 = .ok (.ireturn, 1) := by decide +kernel
theorem dX2_at_0 : decode cX2_at 0 = .ok (.bipush 60, 2) := by decide +kernel
theorem dX2_at_2 : decode cX2_at 2 = .ok (.iload_n 0, 1) := by decide +kernel
theorem dX2_at_3 : decode cX2_at 3 = .ok (.imul, 1) := by decide +kernel
theorem dX2_at_4 : decode cX2_at 4 = .ok (.iload_n 1, 1) := by decide +kernel
theorem dX2_at_5 : decode cX2_at 5 = .ok (.iadd, 1) := by decide +kernel
theorem dX2_at_6 : decode cX2_at 6 = .ok (.ireturn, 1) := by decide +kernel
theorem dX2_key_0 : decode cX2_key 0 = .ok (.iconst 4, 1) := by decide +kernel
theorem dX2_key_1 : decode cX2_key 1 = .ok (.aload_n 0, 1) := by decide +kernel
theorem dX2_key_2 : decode cX2_key 2 = .ok (.getfield 16, 3) := by decide +kernel
theorem dX2_key_5 : decode cX2_key 5 = .ok (.iload_n 1, 1) := by decide +kernel
theorem dX2_key_6 : decode cX2_key 6 = .ok (.iaload, 1) := by decide +kernel
theorem dX2_key_7 : decode cX2_key 7 = .ok (.imul, 1) := by decide +kernel
theorem dX2_key_8 : decode cX2_key 8 = .ok (.aload_n 0, 1) := by decide +kernel
theorem dX2_key_9 : decode cX2_key 9 = .ok (.getfield 7, 3) := by decide +kernel
theorem dX2_key_12 : decode cX2_key 12 = .ok (.iload_n 1, 1) := by decide +kernel
theorem dX2_key_13 : decode cX2_key 13 = .ok (.iaload, 1) := by decide +kernel
theorem dX2_key_14 : decode cX2_key 14 = .ok (.iadd, 1) := by decide +kernel
theorem dX2_key_15 : decode cX2_key 15 = .ok (.ireturn, 1) := by decide +kernel
set_option maxRecDepth 20000 in
theorem ggX2_puts_X2_at : GoodIn wsX2_puts wsX2_at := goodIn_r _ [9] (by decide +kernel) (by decide +kernel)
set_option maxRecDepth 20000 in
theorem gX2_puts_X2_at : GoodIn wsX2_puts (va_wsS RX2 65 yX2_at wsX2_at) := goodIn_app (goodIn_of _ (by decide +kernel)) ggX2_puts_X2_at
set_option maxRecDepth 20000 in
theorem ggX2_puts_X2_key : GoodIn wsX2_puts wsX2_key := goodIn_r _ [13, 14, 15, 16, 17, 18, 19, 20, 21, 22, 23, 24, 25, 26, 27, 28, 29, 30, 31, 32, 33, 34] (by decide +kernel) (by decide +kernel)
set_option maxRecDepth 20000 in
theorem gX2_puts_X2_key : GoodIn wsX2_puts (wsV RX2 69 RX2 yX2_key wsX2_key) := goodIn_app (goodIn_of _ (by decide +kernel)) ggX2_puts_X2_key
theorem dX2_puts_0 : decode cX2_puts 0 = .ok (.iconst (-1), 1) := by decide +kernel
theorem dX2_puts_1 : decode cX2_puts 1 = .ok (.istore_n 3, 1) := by decide +kernel
theorem dX2_puts_2 : decode cX2_puts 2 = .ok (.iconst 1, 1) := by decide +kernel
theorem dX2_puts_3 : decode cX2_puts 3 = .ok (.istore 4, 2) := by decide +kernel
theorem dX2_puts_5 : decode cX2_puts 5 = .ok (.iload 4, 2) := by decide +kernel
theorem dX2_puts_7 : decode cX2_puts 7 = .ok (.ifCond .eq 150, 3) := by decide +kernel
theorem dX2_puts_10 : decode cX2_puts 10 = .ok (.iconst (-1), 1) := by decide +kernel
theorem dX2_puts_11 : decode cX2_puts 11 = .ok (.istore 5, 2) := by decide +kernel
theorem dX2_puts_13 : decode cX2_puts 13 = .ok (.iconst 0, 1) := by decide +kernel
theorem dX2_puts_14 : decode cX2_puts 14 = .ok (.istore 6, 2) := by decide +kernel
theorem dX2_puts_16 : decode cX2_puts 16 = .ok (.iload 6, 2) := by decide +kernel
theorem dX2_puts_18 : decode cX2_puts 18 = .ok (.aload_n 0, 1) := by decide +kernel
theorem dX2_puts_19 : decode cX2_puts 19 = .ok (.getfield 59, 3) := by decide +kernel
theorem dX2_puts_22 : decode cX2_puts 22 = .ok (.if_icmp .ge 86, 3) := by decide +kernel
theorem dX2_puts_25 : decode cX2_puts 25 = .ok (.aload_n 0, 1) := by decide +kernel
theorem dX2_puts_26 : decode cX2_puts 26 = .ok (.getfield 22, 3) := by decide +kernel
theorem dX2_puts_29 : decode cX2_puts 29 = .ok (.iload_n 1, 1) := by decide +kernel
theorem dX2_puts_30 : decode cX2_puts 30 = .ok (.iload 6, 2) := by decide +kernel
theorem dX2_puts_32 : decode cX2_puts 32 = .ok (.invokestatic 65, 3) := by decide +kernel
theorem dX2_puts_35 : decode cX2_puts 35 = .ok (.baload, 1) := by decide +kernel
theorem dX2_puts_36 : decode cX2_puts 36 = .ok (.ifCond .eq 28, 3) := by decide +kernel
theorem dX2_puts_39 : decode cX2_puts 39 = .ok (.aload_n 0, 1) := by decide +kernel
theorem dX2_puts_40 : decode cX2_puts 40 = .ok (.getfield 19, 3) := by decide +kernel
theorem dX2_puts_43 : decode cX2_puts 43 = .ok (.iload 6, 2) := by decide +kernel
theorem dX2_puts_45 : decode cX2_puts 45 = .ok (.iaload, 1) := by decide +kernel
theorem dX2_puts_46 : decode cX2_puts 46 = .ok (.iload_n 2, 1) := by decide +kernel
theorem dX2_puts_47 : decode cX2_puts 47 = .ok (.if_icmp .ne 17, 3) := by decide +kernel
theorem dX2_puts_50 : decode cX2_puts 50 = .ok (.aload_n 0, 1) := by decide +kernel
theorem dX2_puts_51 : decode cX2_puts 51 = .ok (.iload 6, 2) := by decide +kernel
theorem dX2_puts_53 : decode cX2_puts 53 = .ok (.invokevirtual 69, 3) := by decide +kernel
theorem dX2_puts_56 : decode cX2_puts 56 = .ok (.iload_n 3, 1) := by decide +kernel
theorem dX2_puts_57 : decode cX2_puts 57 = .ok (.if_icmp .le 7, 3) := by decide +kernel
theorem dX2_puts_60 : decode cX2_puts 60 = .ok (.iconst 1, 1) := by decide +kernel
theorem dX2_puts_61 : decode cX2_puts 61 = .ok (.goto 4, 3) := by decide +kernel
theorem dX2_puts_64 : decode cX2_puts 64 = .ok (.iconst 0, 1) := by decide +kernel
theorem dX2_puts_65 : decode cX2_puts 65 = .ok (.istore 7, 2) := by decide +kernel
theorem dX2_puts_67 : decode cX2_puts 67 = .ok (.iload 7, 2) := by decide +kernel
theorem dX2_puts_69 : decode cX2_puts 69 = .ok (.ifCond .eq 29, 3) := by decide +kernel
theorem dX2_puts_72 : decode cX2_puts 72 = .ok (.iload 5, 2) := by decide +kernel
theorem dX2_puts_74 : decode cX2_puts 74 = .ok (.iconst (-1), 1) := by decide +kernel
theorem dX2_puts_75 : decode cX2_puts 75 = .ok (.if_icmp .eq 18, 3) := by decide +kernel
theorem dX2_puts_78 : decode cX2_puts 78 = .ok (.aload_n 0, 1) := by decide +kernel
theorem dX2_puts_79 : decode cX2_puts 79 = .ok (.iload 6, 2) := by decide +kernel
theorem dX2_puts_81 : decode cX2_puts 81 = .ok (.invokevirtual 69, 3) := by decide +kernel
theorem dX2_puts_84 : decode cX2_puts 84 = .ok (.aload_n 0, 1) := by decide +kernel
theorem dX2_puts_85 : decode cX2_puts 85 = .ok (.iload 5, 2) := by decide +kernel
theorem dX2_puts_87 : decode cX2_puts 87 = .ok (.invokevirtual 69, 3) := by decide +kernel
theorem dX2_puts_90 : decode cX2_puts 90 = .ok (.if_icmp .ge 8, 3) := by decide +kernel
theorem dX2_puts_93 : decode cX2_puts 93 = .ok (.iload 6, 2) := by decide +kernel
theorem dX2_puts_95 : decode cX2_puts 95 = .ok (.goto 5, 3) := by decide +kernel
theorem dX2_puts_98 : decode cX2_puts 98 = .ok (.iload 5, 2) := by decide +kernel
theorem dX2_puts_100 : decode cX2_puts 100 = .ok (.istore 5, 2) := by decide +kernel
theorem dX2_puts_102 : decode cX2_puts 102 = .ok (.iinc 6 1, 3) := by decide +kernel
theorem dX2_puts_105 : decode cX2_puts 105 = .ok (.goto (-89), 3) := by decide +kernel
theorem dX2_puts_108 : decode cX2_puts 108 = .ok (.iload 5, 2) := by decide +kernel
theorem dX2_puts_110 : decode cX2_puts 110 = .ok (.iconst (-1), 1) := by decide +kernel
theorem dX2_puts_111 : decode cX2_puts 111 = .ok (.if_icmp .eq 7, 3) := by decide +kernel
theorem dX2_puts_114 : decode cX2_puts 114 = .ok (.iconst 1, 1) := by decide +kernel
theorem dX2_puts_115 : decode cX2_puts 115 = .ok (.goto 4, 3) := by decide +kernel
theorem dX2_puts_118 : decode cX2_puts 118 = .ok (.iconst 0, 1) := by decide +kernel
theorem dX2_puts_119 : decode cX2_puts 119 = .ok (.istore 4, 2) := by decide +kernel
theorem dX2_puts_121 : decode cX2_puts 121 = .ok (.iload 4, 2) := by decide +kernel
theorem dX2_puts_123 : decode cX2_puts 123 = .ok (.ifCond .eq 31, 3) := by decide +kernel
theorem dX2_puts_126 : decode cX2_puts 126 = .ok (.aload_n 0, 1) := by decide +kernel
theorem dX2_puts_127 : decode cX2_puts 127 = .ok (.getfield 48, 3) := by decide +kernel
theorem dX2_puts_130 : decode cX2_puts 130 = .ok (.aload_n 0, 1) := by decide +kernel
theorem dX2_puts_131 : decode cX2_puts 131 = .ok (.getfield 73, 3) := by decide +kernel
theorem dX2_puts_134 : decode cX2_puts 134 = .ok (.iload 5, 2) := by decide +kernel
theorem dX2_puts_136 : decode cX2_puts 136 = .ok (.iastore, 1) := by decide +kernel
theorem dX2_puts_137 : decode cX2_puts 137 = .ok (.aload_n 0, 1) := by decide +kernel
theorem dX2_puts_138 : decode cX2_puts 138 = .ok (.dup, 1) := by decide +kernel
theorem dX2_puts_139 : decode cX2_puts 139 = .ok (.getfield 73, 3) := by decide +kernel
theorem dX2_puts_142 : decode cX2_puts 142 = .ok (.iconst 1, 1) := by decide +kernel
theorem dX2_puts_143 : decode cX2_puts 143 = .ok (.iadd, 1) := by decide +kernel
theorem dX2_puts_144 : decode cX2_puts 144 = .ok (.putfield 73, 3) := by decide +kernel
theorem dX2_puts_147 : decode cX2_puts 147 = .ok (.aload_n 0, 1) := by decide +kernel
theorem dX2_puts_148 : decode cX2_puts 148 = .ok (.iload 5, 2) := by decide +kernel
theorem dX2_puts_150 : decode cX2_puts 150 = .ok (.invokevirtual 69, 3) := by decide +kernel
theorem dX2_puts_153 : decode cX2_puts 153 = .ok (.istore_n 3, 1) := by decide +kernel
theorem dX2_puts_154 : decode cX2_puts 154 = .ok (.goto (-149), 3) := by decide +kernel
theorem dX2_puts_157 : decode cX2_puts 157 = .ok (.return_, 1) := by decide +kernel
set_option maxRecDepth 20000 in
theorem ggX2_laysText_X2_puts : GoodIn wsX2_laysText wsX2_puts := goodIn_r _ [10, 11, 12, 13, 3, 2, 14, 15, 9, 16, 17, 18, 19, 20, 21, 22, 23, 24, 25, 26, 27, 28, 29, 30, 31, 32, 33, 34, 35, 36, 37, 38, 39, 40, 41] (by decide +kernel) (by decide +kernel)
set_option maxRecDepth 20000 in
theorem gX2_laysText_X2_puts : GoodIn wsX2_laysText (wsV RX2 79 RX2 yX2_puts wsX2_puts) := goodIn_app (goodIn_of _ (by decide +kernel)) ggX2_laysText_X2_puts
set_option maxRecDepth 20000 in
theorem ggX2_laysText_X2_at : GoodIn wsX2_laysText wsX2_at := goodIn_r _ [16] (by decide +kernel) (by decide +kernel)
set_option maxRecDepth 20000 in
theorem gX2_laysText_X2_at : GoodIn wsX2_laysText (va_wsS RX2 65 yX2_at wsX2_at) := goodIn_app (goodIn_of _ (by decide +kernel)) ggX2_laysText_X2_at
theorem dX2_laysText_0 : decode cX2_laysText 0 = .ok (.aload_n 0, 1) := by decide +kernel
theorem dX2_laysText_1 : decode cX2_laysText 1 = .ok (.iconst 0, 1) := by decide +kernel
theorem dX2_laysText_2 : decode cX2_laysText 2 = .ok (.putfield 76, 3) := by decide +kernel
theorem dX2_laysText_5 : decode cX2_laysText 5 = .ok (.aload_n 0, 1) := by decide +kernel
theorem dX2_laysText_6 : decode cX2_laysText 6 = .ok (.iconst 0, 1) := by decide +kernel
theorem dX2_laysText_7 : decode cX2_laysText 7 = .ok (.putfield 73, 3) := by decide +kernel
theorem dX2_laysText_10 : decode cX2_laysText 10 = .ok (.aload_n 0, 1) := by decide +kernel
theorem dX2_laysText_11 : decode cX2_laysText 11 = .ok (.iload_n 1, 1) := by decide +kernel
theorem dX2_laysText_12 : decode cX2_laysText 12 = .ok (.iconst (-1), 1) := by decide +kernel
theorem dX2_laysText_13 : decode cX2_laysText 13 = .ok (.invokevirtual 79, 3) := by decide +kernel
theorem dX2_laysText_16 : decode cX2_laysText 16 = .ok (.aload_n 0, 1) := by decide +kernel
theorem dX2_laysText_17 : decode cX2_laysText 17 = .ok (.getfield 73, 3) := by decide +kernel
theorem dX2_laysText_20 : decode cX2_laysText 20 = .ok (.ifCond .le 65, 3) := by decide +kernel
theorem dX2_laysText_23 : decode cX2_laysText 23 = .ok (.aload_n 0, 1) := by decide +kernel
theorem dX2_laysText_24 : decode cX2_laysText 24 = .ok (.dup, 1) := by decide +kernel
theorem dX2_laysText_25 : decode cX2_laysText 25 = .ok (.getfield 73, 3) := by decide +kernel
theorem dX2_laysText_28 : decode cX2_laysText 28 = .ok (.iconst 1, 1) := by decide +kernel
theorem dX2_laysText_29 : decode cX2_laysText 29 = .ok (.isub, 1) := by decide +kernel
theorem dX2_laysText_30 : decode cX2_laysText 30 = .ok (.putfield 73, 3) := by decide +kernel
theorem dX2_laysText_33 : decode cX2_laysText 33 = .ok (.aload_n 0, 1) := by decide +kernel
theorem dX2_laysText_34 : decode cX2_laysText 34 = .ok (.getfield 48, 3) := by decide +kernel
theorem dX2_laysText_37 : decode cX2_laysText 37 = .ok (.aload_n 0, 1) := by decide +kernel
theorem dX2_laysText_38 : decode cX2_laysText 38 = .ok (.getfield 73, 3) := by decide +kernel
theorem dX2_laysText_41 : decode cX2_laysText 41 = .ok (.iaload, 1) := by decide +kernel
theorem dX2_laysText_42 : decode cX2_laysText 42 = .ok (.istore_n 2, 1) := by decide +kernel
theorem dX2_laysText_43 : decode cX2_laysText 43 = .ok (.aload_n 0, 1) := by decide +kernel
theorem dX2_laysText_44 : decode cX2_laysText 44 = .ok (.getfield 26, 3) := by decide +kernel
theorem dX2_laysText_47 : decode cX2_laysText 47 = .ok (.iload_n 1, 1) := by decide +kernel
theorem dX2_laysText_48 : decode cX2_laysText 48 = .ok (.iload_n 2, 1) := by decide +kernel
theorem dX2_laysText_49 : decode cX2_laysText 49 = .ok (.invokestatic 65, 3) := by decide +kernel
theorem dX2_laysText_52 : decode cX2_laysText 52 = .ok (.baload, 1) := by decide +kernel
theorem dX2_laysText_53 : decode cX2_laysText 53 = .ok (.ifCond .ne 23, 3) := by decide +kernel
theorem dX2_laysText_56 : decode cX2_laysText 56 = .ok (.aload_n 0, 1) := by decide +kernel
theorem dX2_laysText_57 : decode cX2_laysText 57 = .ok (.getfield 45, 3) := by decide +kernel
theorem dX2_laysText_60 : decode cX2_laysText 60 = .ok (.aload_n 0, 1) := by decide +kernel
theorem dX2_laysText_61 : decode cX2_laysText 61 = .ok (.getfield 76, 3) := by decide +kernel
theorem dX2_laysText_64 : decode cX2_laysText 64 = .ok (.iload_n 2, 1) := by decide +kernel
theorem dX2_laysText_65 : decode cX2_laysText 65 = .ok (.iastore, 1) := by decide +kernel
theorem dX2_laysText_66 : decode cX2_laysText 66 = .ok (.aload_n 0, 1) := by decide +kernel
theorem dX2_laysText_67 : decode cX2_laysText 67 = .ok (.dup, 1) := by decide +kernel
theorem dX2_laysText_68 : decode cX2_laysText 68 = .ok (.getfield 76, 3) := by decide +kernel
theorem dX2_laysText_71 : decode cX2_laysText 71 = .ok (.iconst 1, 1) := by decide +kernel
theorem dX2_laysText_72 : decode cX2_laysText 72 = .ok (.iadd, 1) := by decide +kernel
theorem dX2_laysText_73 : decode cX2_laysText 73 = .ok (.putfield 76, 3) := by decide +kernel
theorem dX2_laysText_76 : decode cX2_laysText 76 = .ok (.aload_n 0, 1) := by decide +kernel
theorem dX2_laysText_77 : decode cX2_laysText 77 = .ok (.iload_n 1, 1) := by decide +kernel
theorem dX2_laysText_78 : decode cX2_laysText 78 = .ok (.iload_n 2, 1) := by decide +kernel
theorem dX2_laysText_79 : decode cX2_laysText 79 = .ok (.invokevirtual 79, 3) := by decide +kernel
theorem dX2_laysText_82 : decode cX2_laysText 82 = .ok (.goto (-66), 3) := by decide +kernel
theorem dX2_laysText_85 : decode cX2_laysText 85 = .ok (.return_, 1) := by decide +kernel
theorem dX2_stamp_0 : decode cX2_stamp 0 = .ok (.aload_n 0, 1) := by decide +kernel
theorem dX2_stamp_1 : decode cX2_stamp 1 = .ok (.getfield 32, 3) := by decide +kernel
theorem dX2_stamp_4 : decode cX2_stamp 4 = .ok (.iload_n 1, 1) := by decide +kernel
theorem dX2_stamp_5 : decode cX2_stamp 5 = .ok (.dup2, 1) := by decide +kernel
theorem dX2_stamp_6 : decode cX2_stamp 6 = .ok (.iaload, 1) := by decide +kernel
theorem dX2_stamp_7 : decode cX2_stamp 7 = .ok (.iconst 1, 1) := by decide +kernel
theorem dX2_stamp_8 : decode cX2_stamp 8 = .ok (.iadd, 1) := by decide +kernel
theorem dX2_stamp_9 : decode cX2_stamp 9 = .ok (.iastore, 1) := by decide +kernel
theorem dX2_stamp_10 : decode cX2_stamp 10 = .ok (.iconst 4, 1) := by decide +kernel
theorem dX2_stamp_11 : decode cX2_stamp 11 = .ok (.aload_n 0, 1) := by decide +kernel
theorem dX2_stamp_12 : decode cX2_stamp 12 = .ok (.getfield 32, 3) := by decide +kernel
theorem dX2_stamp_15 : decode cX2_stamp 15 = .ok (.iload_n 1, 1) := by decide +kernel
theorem dX2_stamp_16 : decode cX2_stamp 16 = .ok (.iaload, 1) := by decide +kernel
theorem dX2_stamp_17 : decode cX2_stamp 17 = .ok (.imul, 1) := by decide +kernel
theorem dX2_stamp_18 : decode cX2_stamp 18 = .ok (.iload_n 1, 1) := by decide +kernel
theorem dX2_stamp_19 : decode cX2_stamp 19 = .ok (.iadd, 1) := by decide +kernel
theorem dX2_stamp_20 : decode cX2_stamp 20 = .ok (.ireturn, 1) := by decide +kernel
set_option maxRecDepth 20000 in
theorem ggX2_insert_X2_isAuthor : GoodIn wsX2_insert wsX2_isAuthor := goodIn_r _ [13, 14, 15, 12, 16] (by decide +kernel) (by decide +kernel)
set_option maxRecDepth 20000 in
theorem gX2_insert_X2_isAuthor : GoodIn wsX2_insert (va_wsS RX2 83 yX2_isAuthor wsX2_isAuthor) := goodIn_app (goodIn_of _ (by decide +kernel)) ggX2_insert_X2_isAuthor
set_option maxRecDepth 20000 in
theorem ggX2_insert_X2_isIn : GoodIn wsX2_insert wsX2_isIn := goodIn_r _ [16] (by decide +kernel) (by decide +kernel)
set_option maxRecDepth 20000 in
theorem gX2_insert_X2_isIn : GoodIn wsX2_insert (va_wsS RX2 55 yX2_isIn wsX2_isIn) := goodIn_app (goodIn_of _ (by decide +kernel)) ggX2_insert_X2_isIn
set_option maxRecDepth 20000 in
theorem ggX2_insert_X2_goes : GoodIn wsX2_insert wsX2_goes := goodIn_r _ [20, 21, 44, 45, 46, 47, 48, 49, 50, 51, 52, 53, 54, 55, 56, 57, 58, 59, 60, 61, 62] (by decide +kernel) (by decide +kernel)
set_option maxRecDepth 20000 in
theorem gX2_insert_X2_goes : GoodIn wsX2_insert (wsV RX2 87 RX2 yX2_goes wsX2_goes) := goodIn_app (goodIn_of _ (by decide +kernel)) ggX2_insert_X2_goes
set_option maxRecDepth 20000 in
theorem ggX2_insert_X2_laysText : GoodIn wsX2_insert wsX2_laysText := goodIn_r _ [25, 1, 26, 27, 28, 8, 29, 30, 31, 12, 32, 2, 9, 7, 33, 34, 35, 36, 37, 38, 39, 5, 3, 44, 45, 46, 47, 48, 49, 50, 51, 52, 53, 54, 55, 56, 57, 58, 59, 60, 61, 62] (by decide +kernel) (by decide +kernel)
set_option maxRecDepth 20000 in
theorem gX2_insert_X2_laysText : GoodIn wsX2_insert (wsV RX2 90 RX2 yX2_laysText wsX2_laysText) := goodIn_app (goodIn_of _ (by decide +kernel)) ggX2_insert_X2_laysText
set_option maxRecDepth 20000 in
theorem ggX2_insert_X2_stamp : GoodIn wsX2_insert wsX2_stamp := goodIn_r _ [43, 6, 44, 45, 46, 47, 48, 49, 50, 51, 52, 53, 54, 55, 56, 57, 58, 59, 60, 61, 62] (by decide +kernel) (by decide +kernel)
set_option maxRecDepth 20000 in
theorem gX2_insert_X2_stamp : GoodIn wsX2_insert (wsV RX2 94 RX2 yX2_stamp wsX2_stamp) := goodIn_app (goodIn_of _ (by decide +kernel)) ggX2_insert_X2_stamp
set_option maxRecDepth 20000 in
theorem ggX2_insert_X2_at : GoodIn wsX2_insert wsX2_at := goodIn_r _ [35] (by decide +kernel) (by decide +kernel)
set_option maxRecDepth 20000 in
theorem gX2_insert_X2_at : GoodIn wsX2_insert (va_wsS RX2 65 yX2_at wsX2_at) := goodIn_app (goodIn_of _ (by decide +kernel)) ggX2_insert_X2_at
theorem dX2_insert_0 : decode cX2_insert 0 = .ok (.aload_n 0, 1) := by decide +kernel
theorem dX2_insert_1 : decode cX2_insert 1 = .ok (.iload_n 1, 1) := by decide +kernel
theorem dX2_insert_2 : decode cX2_insert 2 = .ok (.invokestatic 83, 3) := by decide +kernel
theorem dX2_insert_5 : decode cX2_insert 5 = .ok (.ifCond .eq 17, 3) := by decide +kernel
theorem dX2_insert_8 : decode cX2_insert 8 = .ok (.iload_n 3, 1) := by decide +kernel
theorem dX2_insert_9 : decode cX2_insert 9 = .ok (.iconst 0, 1) := by decide +kernel
theorem dX2_insert_10 : decode cX2_insert 10 = .ok (.bipush 25, 2) := by decide +kernel
theorem dX2_insert_12 : decode cX2_insert 12 = .ok (.invokestatic 55, 3) := by decide +kernel
theorem dX2_insert_15 : decode cX2_insert 15 = .ok (.ifCond .eq 7, 3) := by decide +kernel
theorem dX2_insert_18 : decode cX2_insert 18 = .ok (.iconst 0, 1) := by decide +kernel
theorem dX2_insert_19 : decode cX2_insert 19 = .ok (.goto 4, 3) := by decide +kernel
theorem dX2_insert_22 : decode cX2_insert 22 = .ok (.iconst 1, 1) := by decide +kernel
theorem dX2_insert_23 : decode cX2_insert 23 = .ok (.invokevirtual 87, 3) := by decide +kernel
theorem dX2_insert_26 : decode cX2_insert 26 = .ok (.ifCond .ne 5, 3) := by decide +kernel
theorem dX2_insert_29 : decode cX2_insert 29 = .ok (.iconst 0, 1) := by decide +kernel
theorem dX2_insert_30 : decode cX2_insert 30 = .ok (.ireturn, 1) := by decide +kernel
theorem dX2_insert_31 : decode cX2_insert 31 = .ok (.aload_n 0, 1) := by decide +kernel
theorem dX2_insert_32 : decode cX2_insert 32 = .ok (.iload_n 1, 1) := by decide +kernel
theorem dX2_insert_33 : decode cX2_insert 33 = .ok (.invokevirtual 90, 3) := by decide +kernel
theorem dX2_insert_36 : decode cX2_insert 36 = .ok (.aload_n 0, 1) := by decide +kernel
theorem dX2_insert_37 : decode cX2_insert 37 = .ok (.iload_n 2, 1) := by decide +kernel
theorem dX2_insert_38 : decode cX2_insert 38 = .ok (.iconst 0, 1) := by decide +kernel
theorem dX2_insert_39 : decode cX2_insert 39 = .ok (.aload_n 0, 1) := by decide +kernel
theorem dX2_insert_40 : decode cX2_insert 40 = .ok (.getfield 76, 3) := by decide +kernel
theorem dX2_insert_43 : decode cX2_insert 43 = .ok (.invokestatic 55, 3) := by decide +kernel
theorem dX2_insert_46 : decode cX2_insert 46 = .ok (.ifCond .ne 7, 3) := by decide +kernel
theorem dX2_insert_49 : decode cX2_insert 49 = .ok (.iconst 2, 1) := by decide +kernel
theorem dX2_insert_50 : decode cX2_insert 50 = .ok (.goto 17, 3) := by decide +kernel
theorem dX2_insert_53 : decode cX2_insert 53 = .ok (.aload_n 0, 1) := by decide +kernel
theorem dX2_insert_54 : decode cX2_insert 54 = .ok (.getfield 59, 3) := by decide +kernel
theorem dX2_insert_57 : decode cX2_insert 57 = .ok (.bipush 60, 2) := by decide +kernel
theorem dX2_insert_59 : decode cX2_insert 59 = .ok (.if_icmp .ne 7, 3) := by decide +kernel
theorem dX2_insert_62 : decode cX2_insert 62 = .ok (.iconst 3, 1) := by decide +kernel
theorem dX2_insert_63 : decode cX2_insert 63 = .ok (.goto 4, 3) := by decide +kernel
theorem dX2_insert_66 : decode cX2_insert 66 = .ok (.iconst 0, 1) := by decide +kernel
theorem dX2_insert_67 : decode cX2_insert 67 = .ok (.invokevirtual 87, 3) := by decide +kernel
theorem dX2_insert_70 : decode cX2_insert 70 = .ok (.ifCond .ne 5, 3) := by decide +kernel
theorem dX2_insert_73 : decode cX2_insert 73 = .ok (.iconst 0, 1) := by decide +kernel
theorem dX2_insert_74 : decode cX2_insert 74 = .ok (.ireturn, 1) := by decide +kernel
theorem dX2_insert_75 : decode cX2_insert 75 = .ok (.aload_n 0, 1) := by decide +kernel
theorem dX2_insert_76 : decode cX2_insert 76 = .ok (.iload_n 1, 1) := by decide +kernel
theorem dX2_insert_77 : decode cX2_insert 77 = .ok (.invokevirtual 94, 3) := by decide +kernel
theorem dX2_insert_80 : decode cX2_insert 80 = .ok (.pop, 1) := by decide +kernel
theorem dX2_insert_81 : decode cX2_insert 81 = .ok (.aload_n 0, 1) := by decide +kernel
theorem dX2_insert_82 : decode cX2_insert 82 = .ok (.getfield 7, 3) := by decide +kernel
theorem dX2_insert_85 : decode cX2_insert 85 = .ok (.aload_n 0, 1) := by decide +kernel
theorem dX2_insert_86 : decode cX2_insert 86 = .ok (.getfield 59, 3) := by decide +kernel
theorem dX2_insert_89 : decode cX2_insert 89 = .ok (.iload_n 1, 1) := by decide +kernel
theorem dX2_insert_90 : decode cX2_insert 90 = .ok (.iastore, 1) := by decide +kernel
theorem dX2_insert_91 : decode cX2_insert 91 = .ok (.aload_n 0, 1) := by decide +kernel
theorem dX2_insert_92 : decode cX2_insert 92 = .ok (.getfield 13, 3) := by decide +kernel
theorem dX2_insert_95 : decode cX2_insert 95 = .ok (.aload_n 0, 1) := by decide +kernel
theorem dX2_insert_96 : decode cX2_insert 96 = .ok (.getfield 59, 3) := by decide +kernel
theorem dX2_insert_99 : decode cX2_insert 99 = .ok (.iload_n 3, 1) := by decide +kernel
theorem dX2_insert_100 : decode cX2_insert 100 = .ok (.iastore, 1) := by decide +kernel
theorem dX2_insert_101 : decode cX2_insert 101 = .ok (.aload_n 0, 1) := by decide +kernel
theorem dX2_insert_102 : decode cX2_insert 102 = .ok (.getfield 16, 3) := by decide +kernel
theorem dX2_insert_105 : decode cX2_insert 105 = .ok (.aload_n 0, 1) := by decide +kernel
theorem dX2_insert_106 : decode cX2_insert 106 = .ok (.getfield 59, 3) := by decide +kernel
theorem dX2_insert_109 : decode cX2_insert 109 = .ok (.aload_n 0, 1) := by decide +kernel
theorem dX2_insert_110 : decode cX2_insert 110 = .ok (.getfield 32, 3) := by decide +kernel
theorem dX2_insert_113 : decode cX2_insert 113 = .ok (.iload_n 1, 1) := by decide +kernel
theorem dX2_insert_114 : decode cX2_insert 114 = .ok (.iaload, 1) := by decide +kernel
theorem dX2_insert_115 : decode cX2_insert 115 = .ok (.iastore, 1) := by decide +kernel
theorem dX2_insert_116 : decode cX2_insert 116 = .ok (.aload_n 0, 1) := by decide +kernel
theorem dX2_insert_117 : decode cX2_insert 117 = .ok (.getfield 19, 3) := by decide +kernel
theorem dX2_insert_120 : decode cX2_insert 120 = .ok (.aload_n 0, 1) := by decide +kernel
theorem dX2_insert_121 : decode cX2_insert 121 = .ok (.getfield 59, 3) := by decide +kernel
theorem dX2_insert_124 : decode cX2_insert 124 = .ok (.iload_n 2, 1) := by decide +kernel
theorem dX2_insert_125 : decode cX2_insert 125 = .ok (.ifCond .ne 7, 3) := by decide +kernel
theorem dX2_insert_128 : decode cX2_insert 128 = .ok (.iconst (-1), 1) := by decide +kernel
theorem dX2_insert_129 : decode cX2_insert 129 = .ok (.goto 11, 3) := by decide +kernel
theorem dX2_insert_132 : decode cX2_insert 132 = .ok (.aload_n 0, 1) := by decide +kernel
theorem dX2_insert_133 : decode cX2_insert 133 = .ok (.getfield 45, 3) := by decide +kernel
theorem dX2_insert_136 : decode cX2_insert 136 = .ok (.iload_n 2, 1) := by decide +kernel
theorem dX2_insert_137 : decode cX2_insert 137 = .ok (.iconst 1, 1) := by decide +kernel
theorem dX2_insert_138 : decode cX2_insert 138 = .ok (.isub, 1) := by decide +kernel
theorem dX2_insert_139 : decode cX2_insert 139 = .ok (.iaload, 1) := by decide +kernel
theorem dX2_insert_140 : decode cX2_insert 140 = .ok (.iastore, 1) := by decide +kernel
theorem dX2_insert_141 : decode cX2_insert 141 = .ok (.aload_n 0, 1) := by decide +kernel
theorem dX2_insert_142 : decode cX2_insert 142 = .ok (.getfield 22, 3) := by decide +kernel
theorem dX2_insert_145 : decode cX2_insert 145 = .ok (.iload_n 1, 1) := by decide +kernel
theorem dX2_insert_146 : decode cX2_insert 146 = .ok (.aload_n 0, 1) := by decide +kernel
theorem dX2_insert_147 : decode cX2_insert 147 = .ok (.getfield 59, 3) := by decide +kernel
theorem dX2_insert_150 : decode cX2_insert 150 = .ok (.invokestatic 65, 3) := by decide +kernel
theorem dX2_insert_153 : decode cX2_insert 153 = .ok (.iconst 1, 1) := by decide +kernel
theorem dX2_insert_154 : decode cX2_insert 154 = .ok (.bastore, 1) := by decide +kernel
theorem dX2_insert_155 : decode cX2_insert 155 = .ok (.aload_n 0, 1) := by decide +kernel
theorem dX2_insert_156 : decode cX2_insert 156 = .ok (.dup, 1) := by decide +kernel
theorem dX2_insert_157 : decode cX2_insert 157 = .ok (.getfield 59, 3) := by decide +kernel
theorem dX2_insert_160 : decode cX2_insert 160 = .ok (.iconst 1, 1) := by decide +kernel
theorem dX2_insert_161 : decode cX2_insert 161 = .ok (.iadd, 1) := by decide +kernel
theorem dX2_insert_162 : decode cX2_insert 162 = .ok (.putfield 59, 3) := by decide +kernel
theorem dX2_insert_165 : decode cX2_insert 165 = .ok (.aload_n 0, 1) := by decide +kernel
theorem dX2_insert_166 : decode cX2_insert 166 = .ok (.getfield 59, 3) := by decide +kernel
theorem dX2_insert_169 : decode cX2_insert 169 = .ok (.iconst 1, 1) := by decide +kernel
theorem dX2_insert_170 : decode cX2_insert 170 = .ok (.isub, 1) := by decide +kernel
theorem dX2_insert_171 : decode cX2_insert 171 = .ok (.ireturn, 1) := by decide +kernel
set_option maxRecDepth 20000 in
theorem ggX2_remove_X2_isAuthor : GoodIn wsX2_remove wsX2_isAuthor := goodIn_r _ [8, 9, 10, 7, 11] (by decide +kernel) (by decide +kernel)
set_option maxRecDepth 20000 in
theorem gX2_remove_X2_isAuthor : GoodIn wsX2_remove (va_wsS RX2 83 yX2_isAuthor wsX2_isAuthor) := goodIn_app (goodIn_of _ (by decide +kernel)) ggX2_remove_X2_isAuthor
set_option maxRecDepth 20000 in
theorem ggX2_remove_X2_goes : GoodIn wsX2_remove wsX2_goes := goodIn_r _ [15, 16, 44, 45, 46, 47, 48, 49, 50, 51, 52, 53, 54, 55, 56, 57, 58, 59, 60, 61, 62] (by decide +kernel) (by decide +kernel)
set_option maxRecDepth 20000 in
theorem gX2_remove_X2_goes : GoodIn wsX2_remove (wsV RX2 87 RX2 yX2_goes wsX2_goes) := goodIn_app (goodIn_of _ (by decide +kernel)) ggX2_remove_X2_goes
set_option maxRecDepth 20000 in
theorem ggX2_remove_X2_laysText : GoodIn wsX2_remove wsX2_laysText := goodIn_r _ [20, 1, 21, 22, 3, 2, 23, 24, 25, 7, 26, 27, 28, 29, 30, 31, 32, 33, 34, 35, 36, 37, 38, 44, 45, 46, 47, 48, 49, 50, 51, 52, 53, 54, 55, 56, 57, 58, 59, 60, 61, 62] (by decide +kernel) (by decide +kernel)
set_option maxRecDepth 20000 in
theorem gX2_remove_X2_laysText : GoodIn wsX2_remove (wsV RX2 90 RX2 yX2_laysText wsX2_laysText) := goodIn_app (goodIn_of _ (by decide +kernel)) ggX2_remove_X2_laysText
set_option maxRecDepth 20000 in
theorem ggX2_remove_X2_isIn : GoodIn wsX2_remove wsX2_isIn := goodIn_r _ [11] (by decide +kernel) (by decide +kernel)
set_option maxRecDepth 20000 in
theorem gX2_remove_X2_isIn : GoodIn wsX2_remove (va_wsS RX2 55 yX2_isIn wsX2_isIn) := goodIn_app (goodIn_of _ (by decide +kernel)) ggX2_remove_X2_isIn
set_option maxRecDepth 20000 in
theorem ggX2_remove_X2_at : GoodIn wsX2_remove wsX2_at := goodIn_r _ [32] (by decide +kernel) (by decide +kernel)
set_option maxRecDepth 20000 in
theorem gX2_remove_X2_at : GoodIn wsX2_remove (va_wsS RX2 65 yX2_at wsX2_at) := goodIn_app (goodIn_of _ (by decide +kernel)) ggX2_remove_X2_at
set_option maxRecDepth 20000 in
theorem ggX2_remove_X2_stamp : GoodIn wsX2_remove wsX2_stamp := goodIn_r _ [42, 43, 44, 45, 46, 47, 48, 49, 50, 51, 52, 53, 54, 55, 56, 57, 58, 59, 60, 61, 62] (by decide +kernel) (by decide +kernel)
set_option maxRecDepth 20000 in
theorem gX2_remove_X2_stamp : GoodIn wsX2_remove (wsV RX2 94 RX2 yX2_stamp wsX2_stamp) := goodIn_app (goodIn_of _ (by decide +kernel)) ggX2_remove_X2_stamp
theorem dX2_remove_0 : decode cX2_remove 0 = .ok (.aload_n 0, 1) := by decide +kernel
theorem dX2_remove_1 : decode cX2_remove 1 = .ok (.iload_n 1, 1) := by decide +kernel
theorem dX2_remove_2 : decode cX2_remove 2 = .ok (.invokestatic 83, 3) := by decide +kernel
theorem dX2_remove_5 : decode cX2_remove 5 = .ok (.ifCond .eq 7, 3) := by decide +kernel
theorem dX2_remove_8 : decode cX2_remove 8 = .ok (.iconst 0, 1) := by decide +kernel
theorem dX2_remove_9 : decode cX2_remove 9 = .ok (.goto 4, 3) := by decide +kernel
theorem dX2_remove_12 : decode cX2_remove 12 = .ok (.iconst 1, 1) := by decide +kernel
theorem dX2_remove_13 : decode cX2_remove 13 = .ok (.invokevirtual 87, 3) := by decide +kernel
theorem dX2_remove_16 : decode cX2_remove 16 = .ok (.ifCond .ne 5, 3) := by decide +kernel
theorem dX2_remove_19 : decode cX2_remove 19 = .ok (.iconst 0, 1) := by decide +kernel
theorem dX2_remove_20 : decode cX2_remove 20 = .ok (.ireturn, 1) := by decide +kernel
theorem dX2_remove_21 : decode cX2_remove 21 = .ok (.aload_n 0, 1) := by decide +kernel
theorem dX2_remove_22 : decode cX2_remove 22 = .ok (.iload_n 1, 1) := by decide +kernel
theorem dX2_remove_23 : decode cX2_remove 23 = .ok (.invokevirtual 90, 3) := by decide +kernel
theorem dX2_remove_26 : decode cX2_remove 26 = .ok (.aload_n 0, 1) := by decide +kernel
theorem dX2_remove_27 : decode cX2_remove 27 = .ok (.iload_n 2, 1) := by decide +kernel
theorem dX2_remove_28 : decode cX2_remove 28 = .ok (.iconst 0, 1) := by decide +kernel
theorem dX2_remove_29 : decode cX2_remove 29 = .ok (.aload_n 0, 1) := by decide +kernel
theorem dX2_remove_30 : decode cX2_remove 30 = .ok (.getfield 76, 3) := by decide +kernel
theorem dX2_remove_33 : decode cX2_remove 33 = .ok (.iconst 1, 1) := by decide +kernel
theorem dX2_remove_34 : decode cX2_remove 34 = .ok (.isub, 1) := by decide +kernel
theorem dX2_remove_35 : decode cX2_remove 35 = .ok (.invokestatic 55, 3) := by decide +kernel
theorem dX2_remove_38 : decode cX2_remove 38 = .ok (.ifCond .eq 7, 3) := by decide +kernel
theorem dX2_remove_41 : decode cX2_remove 41 = .ok (.iconst 0, 1) := by decide +kernel
theorem dX2_remove_42 : decode cX2_remove 42 = .ok (.goto 4, 3) := by decide +kernel
theorem dX2_remove_45 : decode cX2_remove 45 = .ok (.iconst 2, 1) := by decide +kernel
theorem dX2_remove_46 : decode cX2_remove 46 = .ok (.invokevirtual 87, 3) := by decide +kernel
theorem dX2_remove_49 : decode cX2_remove 49 = .ok (.ifCond .ne 5, 3) := by decide +kernel
theorem dX2_remove_52 : decode cX2_remove 52 = .ok (.iconst 0, 1) := by decide +kernel
theorem dX2_remove_53 : decode cX2_remove 53 = .ok (.ireturn, 1) := by decide +kernel
theorem dX2_remove_54 : decode cX2_remove 54 = .ok (.aload_n 0, 1) := by decide +kernel
theorem dX2_remove_55 : decode cX2_remove 55 = .ok (.getfield 45, 3) := by decide +kernel
theorem dX2_remove_58 : decode cX2_remove 58 = .ok (.iload_n 2, 1) := by decide +kernel
theorem dX2_remove_59 : decode cX2_remove 59 = .ok (.iaload, 1) := by decide +kernel
theorem dX2_remove_60 : decode cX2_remove 60 = .ok (.istore_n 3, 1) := by decide +kernel
theorem dX2_remove_61 : decode cX2_remove 61 = .ok (.aload_n 0, 1) := by decide +kernel
theorem dX2_remove_62 : decode cX2_remove 62 = .ok (.getfield 26, 3) := by decide +kernel
theorem dX2_remove_65 : decode cX2_remove 65 = .ok (.iload_n 1, 1) := by decide +kernel
theorem dX2_remove_66 : decode cX2_remove 66 = .ok (.iload_n 3, 1) := by decide +kernel
theorem dX2_remove_67 : decode cX2_remove 67 = .ok (.invokestatic 65, 3) := by decide +kernel
theorem dX2_remove_70 : decode cX2_remove 70 = .ok (.iconst 1, 1) := by decide +kernel
theorem dX2_remove_71 : decode cX2_remove 71 = .ok (.bastore, 1) := by decide +kernel
theorem dX2_remove_72 : decode cX2_remove 72 = .ok (.aload_n 0, 1) := by decide +kernel
theorem dX2_remove_73 : decode cX2_remove 73 = .ok (.getfield 29, 3) := by decide +kernel
theorem dX2_remove_76 : decode cX2_remove 76 = .ok (.iload_n 1, 1) := by decide +kernel
theorem dX2_remove_77 : decode cX2_remove 77 = .ok (.iload_n 3, 1) := by decide +kernel
theorem dX2_remove_78 : decode cX2_remove 78 = .ok (.invokestatic 65, 3) := by decide +kernel
theorem dX2_remove_81 : decode cX2_remove 81 = .ok (.aload_n 0, 1) := by decide +kernel
theorem dX2_remove_82 : decode cX2_remove 82 = .ok (.iload_n 1, 1) := by decide +kernel
theorem dX2_remove_83 : decode cX2_remove 83 = .ok (.invokevirtual 94, 3) := by decide +kernel
theorem dX2_remove_86 : decode cX2_remove 86 = .ok (.iastore, 1) := by decide +kernel
theorem dX2_remove_87 : decode cX2_remove 87 = .ok (.iload_n 3, 1) := by decide +kernel
theorem dX2_remove_88 : decode cX2_remove 88 = .ok (.ireturn, 1) := by decide +kernel
theorem dX2_placeOf_0 : decode cX2_placeOf 0 = .ok (.iconst (-1), 1) := by decide +kernel
theorem dX2_placeOf_1 : decode cX2_placeOf 1 = .ok (.istore_n 2, 1) := by decide +kernel
theorem dX2_placeOf_2 : decode cX2_placeOf 2 = .ok (.iconst 0, 1) := by decide +kernel
theorem dX2_placeOf_3 : decode cX2_placeOf 3 = .ok (.istore_n 3, 1) := by decide +kernel
theorem dX2_placeOf_4 : decode cX2_placeOf 4 = .ok (.iload_n 3, 1) := by decide +kernel
theorem dX2_placeOf_5 : decode cX2_placeOf 5 = .ok (.aload_n 0, 1) := by decide +kernel
theorem dX2_placeOf_6 : decode cX2_placeOf 6 = .ok (.getfield 76, 3) := by decide +kernel
theorem dX2_placeOf_9 : decode cX2_placeOf 9 = .ok (.if_icmp .ge 25, 3) := by decide +kernel
theorem dX2_placeOf_12 : decode cX2_placeOf 12 = .ok (.aload_n 0, 1) := by decide +kernel
theorem dX2_placeOf_13 : decode cX2_placeOf 13 = .ok (.getfield 45, 3) := by decide +kernel
theorem dX2_placeOf_16 : decode cX2_placeOf 16 = .ok (.iload_n 3, 1) := by decide +kernel
theorem dX2_placeOf_17 : decode cX2_placeOf 17 = .ok (.iaload, 1) := by decide +kernel
theorem dX2_placeOf_18 : decode cX2_placeOf 18 = .ok (.iload_n 1, 1) := by decide +kernel
theorem dX2_placeOf_19 : decode cX2_placeOf 19 = .ok (.if_icmp .ne 7, 3) := by decide +kernel
theorem dX2_placeOf_22 : decode cX2_placeOf 22 = .ok (.iload_n 3, 1) := by decide +kernel
theorem dX2_placeOf_23 : decode cX2_placeOf 23 = .ok (.goto 4, 3) := by decide +kernel
theorem dX2_placeOf_26 : decode cX2_placeOf 26 = .ok (.iload_n 2, 1) := by decide +kernel
theorem dX2_placeOf_27 : decode cX2_placeOf 27 = .ok (.istore_n 2, 1) := by decide +kernel
theorem dX2_placeOf_28 : decode cX2_placeOf 28 = .ok (.iinc 3 1, 3) := by decide +kernel
theorem dX2_placeOf_31 : decode cX2_placeOf 31 = .ok (.goto (-27), 3) := by decide +kernel
theorem dX2_placeOf_34 : decode cX2_placeOf 34 = .ok (.iload_n 2, 1) := by decide +kernel
theorem dX2_placeOf_35 : decode cX2_placeOf 35 = .ok (.ireturn, 1) := by decide +kernel
set_option maxRecDepth 20000 in
theorem ggX2_restore_X2_isSign : GoodIn wsX2_restore wsX2_isSign := goodIn_r _ [8, 9, 10, 11, 7, 12, 52, 53, 54, 55, 56, 57, 58, 59, 60, 61, 62, 63, 64, 65, 66, 67, 68, 69, 70] (by decide +kernel) (by decide +kernel)
set_option maxRecDepth 20000 in
theorem gX2_restore_X2_isSign : GoodIn wsX2_restore (wsV RX2 97 RX2 yX2_isSign wsX2_isSign) := goodIn_app (goodIn_of _ (by decide +kernel)) ggX2_restore_X2_isSign
set_option maxRecDepth 20000 in
theorem ggX2_restore_X2_isAuthor : GoodIn wsX2_restore wsX2_isAuthor := goodIn_r _ [15, 10, 11, 7, 12] (by decide +kernel) (by decide +kernel)
set_option maxRecDepth 20000 in
theorem gX2_restore_X2_isAuthor : GoodIn wsX2_restore (va_wsS RX2 83 yX2_isAuthor wsX2_isAuthor) := goodIn_app (goodIn_of _ (by decide +kernel)) ggX2_restore_X2_isAuthor
set_option maxRecDepth 20000 in
theorem ggX2_restore_X2_at : GoodIn wsX2_restore wsX2_at := goodIn_r _ [18] (by decide +kernel) (by decide +kernel)
set_option maxRecDepth 20000 in
theorem gX2_restore_X2_at : GoodIn wsX2_restore (va_wsS RX2 65 yX2_at wsX2_at) := goodIn_app (goodIn_of _ (by decide +kernel)) ggX2_restore_X2_at
set_option maxRecDepth 20000 in
theorem ggX2_restore_X2_goes : GoodIn wsX2_restore wsX2_goes := goodIn_r _ [22, 23, 52, 53, 54, 55, 56, 57, 58, 59, 60, 61, 62, 63, 64, 65, 66, 67, 68, 69, 70] (by decide +kernel) (by decide +kernel)
set_option maxRecDepth 20000 in
theorem gX2_restore_X2_goes : GoodIn wsX2_restore (wsV RX2 87 RX2 yX2_goes wsX2_goes) := goodIn_app (goodIn_of _ (by decide +kernel)) ggX2_restore_X2_goes
set_option maxRecDepth 20000 in
theorem ggX2_restore_X2_stamp : GoodIn wsX2_restore wsX2_stamp := goodIn_r _ [27, 28, 52, 53, 54, 55, 56, 57, 58, 59, 60, 61, 62, 63, 64, 65, 66, 67, 68, 69, 70] (by decide +kernel) (by decide +kernel)
set_option maxRecDepth 20000 in
theorem gX2_restore_X2_stamp : GoodIn wsX2_restore (wsV RX2 94 RX2 yX2_stamp wsX2_stamp) := goodIn_app (goodIn_of _ (by decide +kernel)) ggX2_restore_X2_stamp
set_option maxRecDepth 20000 in
theorem ggX2_restore_X2_laysText : GoodIn wsX2_restore wsX2_laysText := goodIn_r _ [32, 33, 34, 35, 2, 36, 37, 38, 39, 7, 40, 9, 1, 41, 16, 17, 18, 42, 43, 44, 45, 46, 47, 52, 53, 54, 55, 56, 57, 58, 59, 60, 61, 62, 63, 64, 65, 66, 67, 68, 69, 70] (by decide +kernel) (by decide +kernel)
set_option maxRecDepth 20000 in
theorem gX2_restore_X2_laysText : GoodIn wsX2_restore (wsV RX2 90 RX2 yX2_laysText wsX2_laysText) := goodIn_app (goodIn_of _ (by decide +kernel)) ggX2_restore_X2_laysText
set_option maxRecDepth 20000 in
theorem ggX2_restore_X2_placeOf : GoodIn wsX2_restore wsX2_placeOf := goodIn_r _ [51, 33, 36, 52, 53, 54, 55, 56, 57, 58, 59, 60, 61, 62, 63, 64, 65, 66, 67, 68, 69, 70] (by decide +kernel) (by decide +kernel)
set_option maxRecDepth 20000 in
theorem gX2_restore_X2_placeOf : GoodIn wsX2_restore (wsV RX2 100 RX2 yX2_placeOf wsX2_placeOf) := goodIn_app (goodIn_of _ (by decide +kernel)) ggX2_restore_X2_placeOf
theorem dX2_restore_0 : decode cX2_restore 0 = .ok (.aload_n 0, 1) := by decide +kernel
theorem dX2_restore_1 : decode cX2_restore 1 = .ok (.aload_n 0, 1) := by decide +kernel
theorem dX2_restore_2 : decode cX2_restore 2 = .ok (.iload_n 2, 1) := by decide +kernel
theorem dX2_restore_3 : decode cX2_restore 3 = .ok (.invokevirtual 97, 3) := by decide +kernel
theorem dX2_restore_6 : decode cX2_restore 6 = .ok (.ifCond .ne 7, 3) := by decide +kernel
theorem dX2_restore_9 : decode cX2_restore 9 = .ok (.iconst 1, 1) := by decide +kernel
theorem dX2_restore_10 : decode cX2_restore 10 = .ok (.goto 45, 3) := by decide +kernel
theorem dX2_restore_13 : decode cX2_restore 13 = .ok (.iload_n 1, 1) := by decide +kernel
theorem dX2_restore_14 : decode cX2_restore 14 = .ok (.invokestatic 83, 3) := by decide +kernel
theorem dX2_restore_17 : decode cX2_restore 17 = .ok (.ifCond .ne 7, 3) := by decide +kernel
theorem dX2_restore_20 : decode cX2_restore 20 = .ok (.iconst 2, 1) := by decide +kernel
theorem dX2_restore_21 : decode cX2_restore 21 = .ok (.goto 34, 3) := by decide +kernel
theorem dX2_restore_24 : decode cX2_restore 24 = .ok (.aload_n 0, 1) := by decide +kernel
theorem dX2_restore_25 : decode cX2_restore 25 = .ok (.getfield 22, 3) := by decide +kernel
theorem dX2_restore_28 : decode cX2_restore 28 = .ok (.iload_n 1, 1) := by decide +kernel
theorem dX2_restore_29 : decode cX2_restore 29 = .ok (.iload_n 2, 1) := by decide +kernel
theorem dX2_restore_30 : decode cX2_restore 30 = .ok (.invokestatic 65, 3) := by decide +kernel
theorem dX2_restore_33 : decode cX2_restore 33 = .ok (.baload, 1) := by decide +kernel
theorem dX2_restore_34 : decode cX2_restore 34 = .ok (.ifCond .eq 20, 3) := by decide +kernel
theorem dX2_restore_37 : decode cX2_restore 37 = .ok (.aload_n 0, 1) := by decide +kernel
theorem dX2_restore_38 : decode cX2_restore 38 = .ok (.getfield 26, 3) := by decide +kernel
theorem dX2_restore_41 : decode cX2_restore 41 = .ok (.iload_n 1, 1) := by decide +kernel
theorem dX2_restore_42 : decode cX2_restore 42 = .ok (.iload_n 2, 1) := by decide +kernel
theorem dX2_restore_43 : decode cX2_restore 43 = .ok (.invokestatic 65, 3) := by decide +kernel
theorem dX2_restore_46 : decode cX2_restore 46 = .ok (.baload, 1) := by decide +kernel
theorem dX2_restore_47 : decode cX2_restore 47 = .ok (.ifCond .eq 7, 3) := by decide +kernel
theorem dX2_restore_50 : decode cX2_restore 50 = .ok (.iconst 0, 1) := by decide +kernel
theorem dX2_restore_51 : decode cX2_restore 51 = .ok (.goto 4, 3) := by decide +kernel
theorem dX2_restore_54 : decode cX2_restore 54 = .ok (.iconst 3, 1) := by decide +kernel
theorem dX2_restore_55 : decode cX2_restore 55 = .ok (.invokevirtual 87, 3) := by decide +kernel
theorem dX2_restore_58 : decode cX2_restore 58 = .ok (.ifCond .ne 5, 3) := by decide +kernel
theorem dX2_restore_61 : decode cX2_restore 61 = .ok (.iconst 0, 1) := by decide +kernel
theorem dX2_restore_62 : decode cX2_restore 62 = .ok (.ireturn, 1) := by decide +kernel
theorem dX2_restore_63 : decode cX2_restore 63 = .ok (.aload_n 0, 1) := by decide +kernel
theorem dX2_restore_64 : decode cX2_restore 64 = .ok (.getfield 26, 3) := by decide +kernel
theorem dX2_restore_67 : decode cX2_restore 67 = .ok (.iload_n 1, 1) := by decide +kernel
theorem dX2_restore_68 : decode cX2_restore 68 = .ok (.iload_n 2, 1) := by decide +kernel
theorem dX2_restore_69 : decode cX2_restore 69 = .ok (.invokestatic 65, 3) := by decide +kernel
theorem dX2_restore_72 : decode cX2_restore 72 = .ok (.iconst 0, 1) := by decide +kernel
theorem dX2_restore_73 : decode cX2_restore 73 = .ok (.bastore, 1) := by decide +kernel
theorem dX2_restore_74 : decode cX2_restore 74 = .ok (.aload_n 0, 1) := by decide +kernel
theorem dX2_restore_75 : decode cX2_restore 75 = .ok (.getfield 29, 3) := by decide +kernel
theorem dX2_restore_78 : decode cX2_restore 78 = .ok (.iload_n 1, 1) := by decide +kernel
theorem dX2_restore_79 : decode cX2_restore 79 = .ok (.iload_n 2, 1) := by decide +kernel
theorem dX2_restore_80 : decode cX2_restore 80 = .ok (.invokestatic 65, 3) := by decide +kernel
theorem dX2_restore_83 : decode cX2_restore 83 = .ok (.aload_n 0, 1) := by decide +kernel
theorem dX2_restore_84 : decode cX2_restore 84 = .ok (.iload_n 1, 1) := by decide +kernel
theorem dX2_restore_85 : decode cX2_restore 85 = .ok (.invokevirtual 94, 3) := by decide +kernel
theorem dX2_restore_88 : decode cX2_restore 88 = .ok (.iastore, 1) := by decide +kernel
theorem dX2_restore_89 : decode cX2_restore 89 = .ok (.aload_n 0, 1) := by decide +kernel
theorem dX2_restore_90 : decode cX2_restore 90 = .ok (.iload_n 1, 1) := by decide +kernel
theorem dX2_restore_91 : decode cX2_restore 91 = .ok (.invokevirtual 90, 3) := by decide +kernel
theorem dX2_restore_94 : decode cX2_restore 94 = .ok (.aload_n 0, 1) := by decide +kernel
theorem dX2_restore_95 : decode cX2_restore 95 = .ok (.iload_n 2, 1) := by decide +kernel
theorem dX2_restore_96 : decode cX2_restore 96 = .ok (.invokevirtual 100, 3) := by decide +kernel
theorem dX2_restore_99 : decode cX2_restore 99 = .ok (.ireturn, 1) := by decide +kernel
set_option maxRecDepth 20000 in
theorem ggX2_learn_X2_isAuthor : GoodIn wsX2_learn wsX2_isAuthor := goodIn_r _ [9, 10, 11, 8, 12] (by decide +kernel) (by decide +kernel)
set_option maxRecDepth 20000 in
theorem gX2_learn_X2_isAuthor : GoodIn wsX2_learn (va_wsS RX2 83 yX2_isAuthor wsX2_isAuthor) := goodIn_app (goodIn_of _ (by decide +kernel)) ggX2_learn_X2_isAuthor
set_option maxRecDepth 20000 in
theorem ggX2_learn_X2_goes : GoodIn wsX2_learn wsX2_goes := goodIn_r _ [16, 17, 21, 22, 23, 24, 25, 26, 27, 28, 29, 30, 31, 32, 33, 34, 35, 36, 37, 38, 39] (by decide +kernel) (by decide +kernel)
set_option maxRecDepth 20000 in
theorem gX2_learn_X2_goes : GoodIn wsX2_learn (wsV RX2 87 RX2 yX2_goes wsX2_goes) := goodIn_app (goodIn_of _ (by decide +kernel)) ggX2_learn_X2_goes
set_option maxRecDepth 20000 in
theorem ggX2_learn_X2_at : GoodIn wsX2_learn wsX2_at := goodIn_r _ [20] (by decide +kernel) (by decide +kernel)
set_option maxRecDepth 20000 in
theorem gX2_learn_X2_at : GoodIn wsX2_learn (va_wsS RX2 65 yX2_at wsX2_at) := goodIn_app (goodIn_of _ (by decide +kernel)) ggX2_learn_X2_at
theorem dX2_learn_0 : decode cX2_learn 0 = .ok (.aload_n 0, 1) := by decide +kernel
theorem dX2_learn_1 : decode cX2_learn 1 = .ok (.iload_n 1, 1) := by decide +kernel
theorem dX2_learn_2 : decode cX2_learn 2 = .ok (.invokestatic 83, 3) := by decide +kernel
theorem dX2_learn_5 : decode cX2_learn 5 = .ok (.ifCond .eq 19, 3) := by decide +kernel
theorem dX2_learn_8 : decode cX2_learn 8 = .ok (.iload_n 2, 1) := by decide +kernel
theorem dX2_learn_9 : decode cX2_learn 9 = .ok (.invokestatic 83, 3) := by decide +kernel
theorem dX2_learn_12 : decode cX2_learn 12 = .ok (.ifCond .eq 12, 3) := by decide +kernel
theorem dX2_learn_15 : decode cX2_learn 15 = .ok (.iload_n 1, 1) := by decide +kernel
theorem dX2_learn_16 : decode cX2_learn 16 = .ok (.iload_n 2, 1) := by decide +kernel
theorem dX2_learn_17 : decode cX2_learn 17 = .ok (.if_icmp .eq 7, 3) := by decide +kernel
theorem dX2_learn_20 : decode cX2_learn 20 = .ok (.iconst 0, 1) := by decide +kernel
theorem dX2_learn_21 : decode cX2_learn 21 = .ok (.goto 4, 3) := by decide +kernel
theorem dX2_learn_24 : decode cX2_learn 24 = .ok (.iconst 1, 1) := by decide +kernel
theorem dX2_learn_25 : decode cX2_learn 25 = .ok (.invokevirtual 87, 3) := by decide +kernel
theorem dX2_learn_28 : decode cX2_learn 28 = .ok (.ifCond .ne 5, 3) := by decide +kernel
theorem dX2_learn_31 : decode cX2_learn 31 = .ok (.iconst 0, 1) := by decide +kernel
theorem dX2_learn_32 : decode cX2_learn 32 = .ok (.ireturn, 1) := by decide +kernel
theorem dX2_learn_33 : decode cX2_learn 33 = .ok (.iconst 0, 1) := by decide +kernel
theorem dX2_learn_34 : decode cX2_learn 34 = .ok (.istore_n 3, 1) := by decide +kernel
theorem dX2_learn_35 : decode cX2_learn 35 = .ok (.iconst 0, 1) := by decide +kernel
theorem dX2_learn_36 : decode cX2_learn 36 = .ok (.istore 4, 2) := by decide +kernel
theorem dX2_learn_38 : decode cX2_learn 38 = .ok (.iload 4, 2) := by decide +kernel
theorem dX2_learn_40 : decode cX2_learn 40 = .ok (.aload_n 0, 1) := by decide +kernel
theorem dX2_learn_41 : decode cX2_learn 41 = .ok (.getfield 59, 3) := by decide +kernel
theorem dX2_learn_44 : decode cX2_learn 44 = .ok (.if_icmp .ge 126, 3) := by decide +kernel
theorem dX2_learn_47 : decode cX2_learn 47 = .ok (.iload_n 1, 1) := by decide +kernel
theorem dX2_learn_48 : decode cX2_learn 48 = .ok (.iload 4, 2) := by decide +kernel
theorem dX2_learn_50 : decode cX2_learn 50 = .ok (.invokestatic 65, 3) := by decide +kernel
theorem dX2_learn_53 : decode cX2_learn 53 = .ok (.istore 5, 2) := by decide +kernel
theorem dX2_learn_55 : decode cX2_learn 55 = .ok (.iload_n 2, 1) := by decide +kernel
theorem dX2_learn_56 : decode cX2_learn 56 = .ok (.iload 4, 2) := by decide +kernel
theorem dX2_learn_58 : decode cX2_learn 58 = .ok (.invokestatic 65, 3) := by decide +kernel
theorem dX2_learn_61 : decode cX2_learn 61 = .ok (.istore 6, 2) := by decide +kernel
theorem dX2_learn_63 : decode cX2_learn 63 = .ok (.iload_n 3, 1) := by decide +kernel
theorem dX2_learn_64 : decode cX2_learn 64 = .ok (.aload_n 0, 1) := by decide +kernel
theorem dX2_learn_65 : decode cX2_learn 65 = .ok (.getfield 22, 3) := by decide +kernel
theorem dX2_learn_68 : decode cX2_learn 68 = .ok (.iload 6, 2) := by decide +kernel
theorem dX2_learn_70 : decode cX2_learn 70 = .ok (.baload, 1) := by decide +kernel
theorem dX2_learn_71 : decode cX2_learn 71 = .ok (.ifCond .eq 17, 3) := by decide +kernel
theorem dX2_learn_74 : decode cX2_learn 74 = .ok (.aload_n 0, 1) := by decide +kernel
theorem dX2_learn_75 : decode cX2_learn 75 = .ok (.getfield 22, 3) := by decide +kernel
theorem dX2_learn_78 : decode cX2_learn 78 = .ok (.iload 5, 2) := by decide +kernel
theorem dX2_learn_80 : decode cX2_learn 80 = .ok (.baload, 1) := by decide +kernel
theorem dX2_learn_81 : decode cX2_learn 81 = .ok (.ifCond .ne 7, 3) := by decide +kernel
theorem dX2_learn_84 : decode cX2_learn 84 = .ok (.iconst 1, 1) := by decide +kernel
theorem dX2_learn_85 : decode cX2_learn 85 = .ok (.goto 4, 3) := by decide +kernel
theorem dX2_learn_88 : decode cX2_learn 88 = .ok (.iconst 0, 1) := by decide +kernel
theorem dX2_learn_89 : decode cX2_learn 89 = .ok (.iadd, 1) := by decide +kernel
theorem dX2_learn_90 : decode cX2_learn 90 = .ok (.istore_n 3, 1) := by decide +kernel
theorem dX2_learn_91 : decode cX2_learn 91 = .ok (.aload_n 0, 1) := by decide +kernel
theorem dX2_learn_92 : decode cX2_learn 92 = .ok (.getfield 22, 3) := by decide +kernel
theorem dX2_learn_95 : decode cX2_learn 95 = .ok (.iload 6, 2) := by decide +kernel
theorem dX2_learn_97 : decode cX2_learn 97 = .ok (.baload, 1) := by decide +kernel
theorem dX2_learn_98 : decode cX2_learn 98 = .ok (.ifCond .eq 66, 3) := by decide +kernel
theorem dX2_learn_101 : decode cX2_learn 101 = .ok (.aload_n 0, 1) := by decide +kernel
theorem dX2_learn_102 : decode cX2_learn 102 = .ok (.getfield 22, 3) := by decide +kernel
theorem dX2_learn_105 : decode cX2_learn 105 = .ok (.iload 5, 2) := by decide +kernel
theorem dX2_learn_107 : decode cX2_learn 107 = .ok (.baload, 1) := by decide +kernel
theorem dX2_learn_108 : decode cX2_learn 108 = .ok (.ifCond .eq 20, 3) := by decide +kernel
theorem dX2_learn_111 : decode cX2_learn 111 = .ok (.aload_n 0, 1) := by decide +kernel
theorem dX2_learn_112 : decode cX2_learn 112 = .ok (.getfield 29, 3) := by decide +kernel
theorem dX2_learn_115 : decode cX2_learn 115 = .ok (.iload 6, 2) := by decide +kernel
theorem dX2_learn_117 : decode cX2_learn 117 = .ok (.iaload, 1) := by decide +kernel
theorem dX2_learn_118 : decode cX2_learn 118 = .ok (.aload_n 0, 1) := by decide +kernel
theorem dX2_learn_119 : decode cX2_learn 119 = .ok (.getfield 29, 3) := by decide +kernel
theorem dX2_learn_122 : decode cX2_learn 122 = .ok (.iload 5, 2) := by decide +kernel
theorem dX2_learn_124 : decode cX2_learn 124 = .ok (.iaload, 1) := by decide +kernel
theorem dX2_learn_125 : decode cX2_learn 125 = .ok (.if_icmp .le 39, 3) := by decide +kernel
theorem dX2_learn_128 : decode cX2_learn 128 = .ok (.aload_n 0, 1) := by decide +kernel
theorem dX2_learn_129 : decode cX2_learn 129 = .ok (.getfield 22, 3) := by decide +kernel
theorem dX2_learn_132 : decode cX2_learn 132 = .ok (.iload 5, 2) := by decide +kernel
theorem dX2_learn_134 : decode cX2_learn 134 = .ok (.iconst 1, 1) := by decide +kernel
theorem dX2_learn_135 : decode cX2_learn 135 = .ok (.bastore, 1) := by decide +kernel
theorem dX2_learn_136 : decode cX2_learn 136 = .ok (.aload_n 0, 1) := by decide +kernel
theorem dX2_learn_137 : decode cX2_learn 137 = .ok (.getfield 26, 3) := by decide +kernel
theorem dX2_learn_140 : decode cX2_learn 140 = .ok (.iload 5, 2) := by decide +kernel
theorem dX2_learn_142 : decode cX2_learn 142 = .ok (.aload_n 0, 1) := by decide +kernel
theorem dX2_learn_143 : decode cX2_learn 143 = .ok (.getfield 26, 3) := by decide +kernel
theorem dX2_learn_146 : decode cX2_learn 146 = .ok (.iload 6, 2) := by decide +kernel
theorem dX2_learn_148 : decode cX2_learn 148 = .ok (.baload, 1) := by decide +kernel
theorem dX2_learn_149 : decode cX2_learn 149 = .ok (.bastore, 1) := by decide +kernel
theorem dX2_learn_150 : decode cX2_learn 150 = .ok (.aload_n 0, 1) := by decide +kernel
theorem dX2_learn_151 : decode cX2_learn 151 = .ok (.getfield 29, 3) := by decide +kernel
theorem dX2_learn_154 : decode cX2_learn 154 = .ok (.iload 5, 2) := by decide +kernel
theorem dX2_learn_156 : decode cX2_learn 156 = .ok (.aload_n 0, 1) := by decide +kernel
theorem dX2_learn_157 : decode cX2_learn 157 = .ok (.getfield 29, 3) := by decide +kernel
theorem dX2_learn_160 : decode cX2_learn 160 = .ok (.iload 6, 2) := by decide +kernel
theorem dX2_learn_162 : decode cX2_learn 162 = .ok (.iaload, 1) := by decide +kernel
theorem dX2_learn_163 : decode cX2_learn 163 = .ok (.iastore, 1) := by decide +kernel
theorem dX2_learn_164 : decode cX2_learn 164 = .ok (.iinc 4 1, 3) := by decide +kernel
theorem dX2_learn_167 : decode cX2_learn 167 = .ok (.goto (-129), 3) := by decide +kernel
theorem dX2_learn_170 : decode cX2_learn 170 = .ok (.aload_n 0, 1) := by decide +kernel
theorem dX2_learn_171 : decode cX2_learn 171 = .ok (.getfield 32, 3) := by decide +kernel
theorem dX2_learn_174 : decode cX2_learn 174 = .ok (.iload_n 1, 1) := by decide +kernel
theorem dX2_learn_175 : decode cX2_learn 175 = .ok (.aload_n 0, 1) := by decide +kernel
theorem dX2_learn_176 : decode cX2_learn 176 = .ok (.getfield 32, 3) := by decide +kernel
theorem dX2_learn_179 : decode cX2_learn 179 = .ok (.iload_n 2, 1) := by decide +kernel
theorem dX2_learn_180 : decode cX2_learn 180 = .ok (.iaload, 1) := by decide +kernel
theorem dX2_learn_181 : decode cX2_learn 181 = .ok (.aload_n 0, 1) := by decide +kernel
theorem dX2_learn_182 : decode cX2_learn 182 = .ok (.getfield 32, 3) := by decide +kernel
theorem dX2_learn_185 : decode cX2_learn 185 = .ok (.iload_n 1, 1) := by decide +kernel
theorem dX2_learn_186 : decode cX2_learn 186 = .ok (.iaload, 1) := by decide +kernel
theorem dX2_learn_187 : decode cX2_learn 187 = .ok (.if_icmp .le 12, 3) := by decide +kernel
theorem dX2_learn_190 : decode cX2_learn 190 = .ok (.aload_n 0, 1) := by decide +kernel
theorem dX2_learn_191 : decode cX2_learn 191 = .ok (.getfield 32, 3) := by decide +kernel
theorem dX2_learn_194 : decode cX2_learn 194 = .ok (.iload_n 2, 1) := by decide +kernel
theorem dX2_learn_195 : decode cX2_learn 195 = .ok (.iaload, 1) := by decide +kernel
theorem dX2_learn_196 : decode cX2_learn 196 = .ok (.goto 9, 3) := by decide +kernel
theorem dX2_learn_199 : decode cX2_learn 199 = .ok (.aload_n 0, 1) := by decide +kernel
theorem dX2_learn_200 : decode cX2_learn 200 = .ok (.getfield 32, 3) := by decide +kernel
theorem dX2_learn_203 : decode cX2_learn 203 = .ok (.iload_n 1, 1) := by decide +kernel
theorem dX2_learn_204 : decode cX2_learn 204 = .ok (.iaload, 1) := by decide +kernel
theorem dX2_learn_205 : decode cX2_learn 205 = .ok (.iastore, 1) := by decide +kernel
theorem dX2_learn_206 : decode cX2_learn 206 = .ok (.iload_n 3, 1) := by decide +kernel
theorem dX2_learn_207 : decode cX2_learn 207 = .ok (.ireturn, 1) := by decide +kernel
set_option maxRecDepth 20000 in
theorem ggX2_asks_X2_isAuthor : GoodIn wsX2_asks wsX2_isAuthor := goodIn_r _ [4, 5, 6, 3, 7] (by decide +kernel) (by decide +kernel)
set_option maxRecDepth 20000 in
theorem gX2_asks_X2_isAuthor : GoodIn wsX2_asks (va_wsS RX2 83 yX2_isAuthor wsX2_isAuthor) := goodIn_app (goodIn_of _ (by decide +kernel)) ggX2_asks_X2_isAuthor
set_option maxRecDepth 20000 in
theorem ggX2_asks_X2_goes : GoodIn wsX2_asks wsX2_goes := goodIn_r _ [11, 12, 13, 14, 15, 16, 17, 18, 19, 20, 21, 22, 23, 24, 25, 26, 27, 28, 29, 30, 31] (by decide +kernel) (by decide +kernel)
set_option maxRecDepth 20000 in
theorem gX2_asks_X2_goes : GoodIn wsX2_asks (wsV RX2 87 RX2 yX2_goes wsX2_goes) := goodIn_app (goodIn_of _ (by decide +kernel)) ggX2_asks_X2_goes
theorem dX2_asks_0 : decode cX2_asks 0 = .ok (.aload_n 0, 1) := by decide +kernel
theorem dX2_asks_1 : decode cX2_asks 1 = .ok (.iload_n 1, 1) := by decide +kernel
theorem dX2_asks_2 : decode cX2_asks 2 = .ok (.invokestatic 83, 3) := by decide +kernel
theorem dX2_asks_5 : decode cX2_asks 5 = .ok (.ifCond .eq 7, 3) := by decide +kernel
theorem dX2_asks_8 : decode cX2_asks 8 = .ok (.iconst 0, 1) := by decide +kernel
theorem dX2_asks_9 : decode cX2_asks 9 = .ok (.goto 4, 3) := by decide +kernel
theorem dX2_asks_12 : decode cX2_asks 12 = .ok (.iconst 1, 1) := by decide +kernel
theorem dX2_asks_13 : decode cX2_asks 13 = .ok (.invokevirtual 87, 3) := by decide +kernel
theorem dX2_asks_16 : decode cX2_asks 16 = .ok (.ireturn, 1) := by decide +kernel
set_option maxRecDepth 20000 in
theorem ggX2_length_X2_asks : GoodIn wsX2_length wsX2_asks := goodIn_r _ [6, 7, 8, 5, 9, 10, 11, 12, 13, 14, 15, 16, 17, 42, 43, 44, 45, 46, 47, 48, 49, 50, 51, 52, 53, 54, 55, 56, 57, 58, 59, 60] (by decide +kernel) (by decide +kernel)
set_option maxRecDepth 20000 in
theorem gX2_length_X2_asks : GoodIn wsX2_length (wsV RX2 103 RX2 yX2_asks wsX2_asks) := goodIn_app (goodIn_of _ (by decide +kernel)) ggX2_length_X2_asks
set_option maxRecDepth 20000 in
theorem ggX2_length_X2_laysText : GoodIn wsX2_length wsX2_laysText := goodIn_r _ [21, 1, 22, 23, 24, 25, 26, 27, 28, 5, 29, 30, 31, 32, 33, 34, 35, 36, 37, 38, 39, 40, 41, 42, 43, 44, 45, 46, 47, 48, 49, 50, 51, 52, 53, 54, 55, 56, 57, 58, 59, 60] (by decide +kernel) (by decide +kernel)
set_option maxRecDepth 20000 in
theorem gX2_length_X2_laysText : GoodIn wsX2_length (wsV RX2 90 RX2 yX2_laysText wsX2_laysText) := goodIn_app (goodIn_of _ (by decide +kernel)) ggX2_length_X2_laysText
theorem dX2_length_0 : decode cX2_length 0 = .ok (.aload_n 0, 1) := by decide +kernel
theorem dX2_length_1 : decode cX2_length 1 = .ok (.iload_n 1, 1) := by decide +kernel
theorem dX2_length_2 : decode cX2_length 2 = .ok (.invokevirtual 103, 3) := by decide +kernel
theorem dX2_length_5 : decode cX2_length 5 = .ok (.ifCond .ne 5, 3) := by decide +kernel
theorem dX2_length_8 : decode cX2_length 8 = .ok (.iconst 0, 1) := by decide +kernel
theorem dX2_length_9 : decode cX2_length 9 = .ok (.ireturn, 1) := by decide +kernel
theorem dX2_length_10 : decode cX2_length 10 = .ok (.aload_n 0, 1) := by decide +kernel
theorem dX2_length_11 : decode cX2_length 11 = .ok (.iload_n 1, 1) := by decide +kernel
theorem dX2_length_12 : decode cX2_length 12 = .ok (.invokevirtual 90, 3) := by decide +kernel
theorem dX2_length_15 : decode cX2_length 15 = .ok (.aload_n 0, 1) := by decide +kernel
theorem dX2_length_16 : decode cX2_length 16 = .ok (.getfield 76, 3) := by decide +kernel
theorem dX2_length_19 : decode cX2_length 19 = .ok (.ireturn, 1) := by decide +kernel
set_option maxRecDepth 20000 in
theorem ggX2_asksPlace_X2_asks : GoodIn wsX2_asksPlace wsX2_asks := goodIn_r _ [6, 7, 8, 5, 9, 10, 11, 12, 13, 14, 15, 16, 17, 42, 43, 44, 45, 46, 47, 48, 49, 50, 51, 52, 53, 54, 55, 56, 57, 58, 59, 60] (by decide +kernel) (by decide +kernel)
set_option maxRecDepth 20000 in
theorem gX2_asksPlace_X2_asks : GoodIn wsX2_asksPlace (wsV RX2 103 RX2 yX2_asks wsX2_asks) := goodIn_app (goodIn_of _ (by decide +kernel)) ggX2_asksPlace_X2_asks
set_option maxRecDepth 20000 in
theorem ggX2_asksPlace_X2_laysText : GoodIn wsX2_asksPlace wsX2_laysText := goodIn_r _ [21, 1, 22, 23, 24, 25, 26, 27, 28, 5, 29, 30, 31, 32, 33, 34, 35, 36, 37, 38, 39, 40, 41, 42, 43, 44, 45, 46, 47, 48, 49, 50, 51, 52, 53, 54, 55, 56, 57, 58, 59, 60] (by decide +kernel) (by decide +kernel)
set_option maxRecDepth 20000 in
theorem gX2_asksPlace_X2_laysText : GoodIn wsX2_asksPlace (wsV RX2 90 RX2 yX2_laysText wsX2_laysText) := goodIn_app (goodIn_of _ (by decide +kernel)) ggX2_asksPlace_X2_laysText
set_option maxRecDepth 20000 in
theorem ggX2_asksPlace_X2_isIn : GoodIn wsX2_asksPlace wsX2_isIn := goodIn_r _ [12] (by decide +kernel) (by decide +kernel)
set_option maxRecDepth 20000 in
theorem gX2_asksPlace_X2_isIn : GoodIn wsX2_asksPlace (va_wsS RX2 55 yX2_isIn wsX2_isIn) := goodIn_app (goodIn_of _ (by decide +kernel)) ggX2_asksPlace_X2_isIn
set_option maxRecDepth 20000 in
theorem ggX2_asksPlace_X2_goes : GoodIn wsX2_asksPlace wsX2_goes := goodIn_r _ [16, 17, 42, 43, 44, 45, 46, 47, 48, 49, 50, 51, 52, 53, 54, 55, 56, 57, 58, 59, 60] (by decide +kernel) (by decide +kernel)
set_option maxRecDepth 20000 in
theorem gX2_asksPlace_X2_goes : GoodIn wsX2_asksPlace (wsV RX2 87 RX2 yX2_goes wsX2_goes) := goodIn_app (goodIn_of _ (by decide +kernel)) ggX2_asksPlace_X2_goes
theorem dX2_asksPlace_0 : decode cX2_asksPlace 0 = .ok (.aload_n 0, 1) := by decide +kernel
theorem dX2_asksPlace_1 : decode cX2_asksPlace 1 = .ok (.iload_n 1, 1) := by decide +kernel
theorem dX2_asksPlace_2 : decode cX2_asksPlace 2 = .ok (.invokevirtual 103, 3) := by decide +kernel
theorem dX2_asksPlace_5 : decode cX2_asksPlace 5 = .ok (.ifCond .ne 5, 3) := by decide +kernel
theorem dX2_asksPlace_8 : decode cX2_asksPlace 8 = .ok (.iconst 0, 1) := by decide +kernel
theorem dX2_asksPlace_9 : decode cX2_asksPlace 9 = .ok (.ireturn, 1) := by decide +kernel
theorem dX2_asksPlace_10 : decode cX2_asksPlace 10 = .ok (.aload_n 0, 1) := by decide +kernel
theorem dX2_asksPlace_11 : decode cX2_asksPlace 11 = .ok (.iload_n 1, 1) := by decide +kernel
theorem dX2_asksPlace_12 : decode cX2_asksPlace 12 = .ok (.invokevirtual 90, 3) := by decide +kernel
theorem dX2_asksPlace_15 : decode cX2_asksPlace 15 = .ok (.aload_n 0, 1) := by decide +kernel
theorem dX2_asksPlace_16 : decode cX2_asksPlace 16 = .ok (.iload_n 2, 1) := by decide +kernel
theorem dX2_asksPlace_17 : decode cX2_asksPlace 17 = .ok (.iconst 0, 1) := by decide +kernel
theorem dX2_asksPlace_18 : decode cX2_asksPlace 18 = .ok (.aload_n 0, 1) := by decide +kernel
theorem dX2_asksPlace_19 : decode cX2_asksPlace 19 = .ok (.getfield 76, 3) := by decide +kernel
theorem dX2_asksPlace_22 : decode cX2_asksPlace 22 = .ok (.iconst 1, 1) := by decide +kernel
theorem dX2_asksPlace_23 : decode cX2_asksPlace 23 = .ok (.isub, 1) := by decide +kernel
theorem dX2_asksPlace_24 : decode cX2_asksPlace 24 = .ok (.invokestatic 55, 3) := by decide +kernel
theorem dX2_asksPlace_27 : decode cX2_asksPlace 27 = .ok (.ifCond .eq 7, 3) := by decide +kernel
theorem dX2_asksPlace_30 : decode cX2_asksPlace 30 = .ok (.iconst 0, 1) := by decide +kernel
theorem dX2_asksPlace_31 : decode cX2_asksPlace 31 = .ok (.goto 4, 3) := by decide +kernel
theorem dX2_asksPlace_34 : decode cX2_asksPlace 34 = .ok (.iconst 2, 1) := by decide +kernel
theorem dX2_asksPlace_35 : decode cX2_asksPlace 35 = .ok (.invokevirtual 87, 3) := by decide +kernel
theorem dX2_asksPlace_38 : decode cX2_asksPlace 38 = .ok (.ireturn, 1) := by decide +kernel
set_option maxRecDepth 20000 in
theorem ggX2_signAt_X2_asksPlace : GoodIn wsX2_signAt wsX2_asksPlace := goodIn_r _ [6, 7, 8, 9, 10, 5, 11, 12, 13, 14, 15, 16, 17, 18, 19, 20, 21, 22, 23, 24, 25, 26, 27, 28, 29, 1, 30, 31, 32, 33, 34, 35, 36, 37, 38, 39, 40, 41, 42, 43, 44, 45, 46, 47, 48, 49, 50, 51, 52, 53, 54, 55, 56, 57, 58, 59, 60, 61, 62, 63, 64] (by decide +kernel) (by decide +kernel)
set_option maxRecDepth 20000 in
theorem gX2_signAt_X2_asksPlace : GoodIn wsX2_signAt (wsV RX2 106 RX2 yX2_asksPlace wsX2_asksPlace) := goodIn_app (goodIn_of _ (by decide +kernel)) ggX2_signAt_X2_asksPlace
theorem dX2_signAt_0 : decode cX2_signAt 0 = .ok (.aload_n 0, 1) := by decide +kernel
theorem dX2_signAt_1 : decode cX2_signAt 1 = .ok (.iload_n 1, 1) := by decide +kernel
theorem dX2_signAt_2 : decode cX2_signAt 2 = .ok (.iload_n 2, 1) := by decide +kernel
theorem dX2_signAt_3 : decode cX2_signAt 3 = .ok (.invokevirtual 106, 3) := by decide +kernel
theorem dX2_signAt_6 : decode cX2_signAt 6 = .ok (.ifCond .eq 12, 3) := by decide +kernel
theorem dX2_signAt_9 : decode cX2_signAt 9 = .ok (.aload_n 0, 1) := by decide +kernel
theorem dX2_signAt_10 : decode cX2_signAt 10 = .ok (.getfield 45, 3) := by decide +kernel
theorem dX2_signAt_13 : decode cX2_signAt 13 = .ok (.iload_n 2, 1) := by decide +kernel
theorem dX2_signAt_14 : decode cX2_signAt 14 = .ok (.iaload, 1) := by decide +kernel
theorem dX2_signAt_15 : decode cX2_signAt 15 = .ok (.goto 4, 3) := by decide +kernel
theorem dX2_signAt_18 : decode cX2_signAt 18 = .ok (.iconst 0, 1) := by decide +kernel
theorem dX2_signAt_19 : decode cX2_signAt 19 = .ok (.ireturn, 1) := by decide +kernel
set_option maxRecDepth 20000 in
theorem ggX2_letterAt_X2_asksPlace : GoodIn wsX2_letterAt wsX2_asksPlace := goodIn_r _ [7, 8, 9, 10, 11, 6, 12, 13, 14, 15, 16, 17, 18, 19, 20, 21, 22, 23, 24, 25, 26, 27, 28, 29, 30, 2, 31, 32, 33, 34, 35, 36, 37, 38, 39, 40, 41, 42, 43, 44, 45, 46, 47, 48, 49, 50, 51, 52, 53, 54, 55, 56, 57, 58, 59, 60, 61, 62, 63, 64, 65] (by decide +kernel) (by decide +kernel)
set_option maxRecDepth 20000 in
theorem gX2_letterAt_X2_asksPlace : GoodIn wsX2_letterAt (wsV RX2 106 RX2 yX2_asksPlace wsX2_asksPlace) := goodIn_app (goodIn_of _ (by decide +kernel)) ggX2_letterAt_X2_asksPlace
theorem dX2_letterAt_0 : decode cX2_letterAt 0 = .ok (.aload_n 0, 1) := by decide +kernel
theorem dX2_letterAt_1 : decode cX2_letterAt 1 = .ok (.iload_n 1, 1) := by decide +kernel
theorem dX2_letterAt_2 : decode cX2_letterAt 2 = .ok (.iload_n 2, 1) := by decide +kernel
theorem dX2_letterAt_3 : decode cX2_letterAt 3 = .ok (.invokevirtual 106, 3) := by decide +kernel
theorem dX2_letterAt_6 : decode cX2_letterAt 6 = .ok (.ifCond .eq 17, 3) := by decide +kernel
theorem dX2_letterAt_9 : decode cX2_letterAt 9 = .ok (.aload_n 0, 1) := by decide +kernel
theorem dX2_letterAt_10 : decode cX2_letterAt 10 = .ok (.getfield 13, 3) := by decide +kernel
theorem dX2_letterAt_13 : decode cX2_letterAt 13 = .ok (.aload_n 0, 1) := by decide +kernel
theorem dX2_letterAt_14 : decode cX2_letterAt 14 = .ok (.getfield 45, 3) := by decide +kernel
theorem dX2_letterAt_17 : decode cX2_letterAt 17 = .ok (.iload_n 2, 1) := by decide +kernel
theorem dX2_letterAt_18 : decode cX2_letterAt 18 = .ok (.iaload, 1) := by decide +kernel
theorem dX2_letterAt_19 : decode cX2_letterAt 19 = .ok (.iaload, 1) := by decide +kernel
theorem dX2_letterAt_20 : decode cX2_letterAt 20 = .ok (.goto 4, 3) := by decide +kernel
theorem dX2_letterAt_23 : decode cX2_letterAt 23 = .ok (.iconst 0, 1) := by decide +kernel
theorem dX2_letterAt_24 : decode cX2_letterAt 24 = .ok (.ireturn, 1) := by decide +kernel
set_option maxRecDepth 20000 in
theorem ggX2_areAlike_X2_isAuthor : GoodIn wsX2_areAlike wsX2_isAuthor := goodIn_r _ [7, 8, 9, 6, 10] (by decide +kernel) (by decide +kernel)
set_option maxRecDepth 20000 in
theorem gX2_areAlike_X2_isAuthor : GoodIn wsX2_areAlike (va_wsS RX2 83 yX2_isAuthor wsX2_isAuthor) := goodIn_app (goodIn_of _ (by decide +kernel)) ggX2_areAlike_X2_isAuthor
set_option maxRecDepth 20000 in
theorem ggX2_areAlike_X2_goes : GoodIn wsX2_areAlike wsX2_goes := goodIn_r _ [14, 15, 19, 20, 21, 22, 23, 24, 25, 26, 27, 28, 29, 30, 31, 32, 33, 34, 35, 36, 37] (by decide +kernel) (by decide +kernel)
set_option maxRecDepth 20000 in
theorem gX2_areAlike_X2_goes : GoodIn wsX2_areAlike (wsV RX2 87 RX2 yX2_goes wsX2_goes) := goodIn_app (goodIn_of _ (by decide +kernel)) ggX2_areAlike_X2_goes
set_option maxRecDepth 20000 in
theorem ggX2_areAlike_X2_at : GoodIn wsX2_areAlike wsX2_at := goodIn_r _ [18] (by decide +kernel) (by decide +kernel)
set_option maxRecDepth 20000 in
theorem gX2_areAlike_X2_at : GoodIn wsX2_areAlike (va_wsS RX2 65 yX2_at wsX2_at) := goodIn_app (goodIn_of _ (by decide +kernel)) ggX2_areAlike_X2_at
theorem dX2_areAlike_0 : decode cX2_areAlike 0 = .ok (.aload_n 0, 1) := by decide +kernel
theorem dX2_areAlike_1 : decode cX2_areAlike 1 = .ok (.iload_n 1, 1) := by decide +kernel
theorem dX2_areAlike_2 : decode cX2_areAlike 2 = .ok (.invokestatic 83, 3) := by decide +kernel
theorem dX2_areAlike_5 : decode cX2_areAlike 5 = .ok (.ifCond .eq 14, 3) := by decide +kernel
theorem dX2_areAlike_8 : decode cX2_areAlike 8 = .ok (.iload_n 2, 1) := by decide +kernel
theorem dX2_areAlike_9 : decode cX2_areAlike 9 = .ok (.invokestatic 83, 3) := by decide +kernel
theorem dX2_areAlike_12 : decode cX2_areAlike 12 = .ok (.ifCond .eq 7, 3) := by decide +kernel
theorem dX2_areAlike_15 : decode cX2_areAlike 15 = .ok (.iconst 0, 1) := by decide +kernel
theorem dX2_areAlike_16 : decode cX2_areAlike 16 = .ok (.goto 4, 3) := by decide +kernel
theorem dX2_areAlike_19 : decode cX2_areAlike 19 = .ok (.iconst 1, 1) := by decide +kernel
theorem dX2_areAlike_20 : decode cX2_areAlike 20 = .ok (.invokevirtual 87, 3) := by decide +kernel
theorem dX2_areAlike_23 : decode cX2_areAlike 23 = .ok (.ifCond .ne 5, 3) := by decide +kernel
theorem dX2_areAlike_26 : decode cX2_areAlike 26 = .ok (.iconst 0, 1) := by decide +kernel
theorem dX2_areAlike_27 : decode cX2_areAlike 27 = .ok (.ireturn, 1) := by decide +kernel
theorem dX2_areAlike_28 : decode cX2_areAlike 28 = .ok (.iconst 1, 1) := by decide +kernel
theorem dX2_areAlike_29 : decode cX2_areAlike 29 = .ok (.istore_n 3, 1) := by decide +kernel
theorem dX2_areAlike_30 : decode cX2_areAlike 30 = .ok (.iconst 0, 1) := by decide +kernel
theorem dX2_areAlike_31 : decode cX2_areAlike 31 = .ok (.istore 4, 2) := by decide +kernel
theorem dX2_areAlike_33 : decode cX2_areAlike 33 = .ok (.iload 4, 2) := by decide +kernel
theorem dX2_areAlike_35 : decode cX2_areAlike 35 = .ok (.aload_n 0, 1) := by decide +kernel
theorem dX2_areAlike_36 : decode cX2_areAlike 36 = .ok (.getfield 59, 3) := by decide +kernel
theorem dX2_areAlike_39 : decode cX2_areAlike 39 = .ok (.if_icmp .ge 96, 3) := by decide +kernel
theorem dX2_areAlike_42 : decode cX2_areAlike 42 = .ok (.aload_n 0, 1) := by decide +kernel
theorem dX2_areAlike_43 : decode cX2_areAlike 43 = .ok (.getfield 22, 3) := by decide +kernel
theorem dX2_areAlike_46 : decode cX2_areAlike 46 = .ok (.iload_n 1, 1) := by decide +kernel
theorem dX2_areAlike_47 : decode cX2_areAlike 47 = .ok (.iload 4, 2) := by decide +kernel
theorem dX2_areAlike_49 : decode cX2_areAlike 49 = .ok (.invokestatic 65, 3) := by decide +kernel
theorem dX2_areAlike_52 : decode cX2_areAlike 52 = .ok (.baload, 1) := by decide +kernel
theorem dX2_areAlike_53 : decode cX2_areAlike 53 = .ok (.ifCond .eq 21, 3) := by decide +kernel
theorem dX2_areAlike_56 : decode cX2_areAlike 56 = .ok (.aload_n 0, 1) := by decide +kernel
theorem dX2_areAlike_57 : decode cX2_areAlike 57 = .ok (.getfield 26, 3) := by decide +kernel
theorem dX2_areAlike_60 : decode cX2_areAlike 60 = .ok (.iload_n 1, 1) := by decide +kernel
theorem dX2_areAlike_61 : decode cX2_areAlike 61 = .ok (.iload 4, 2) := by decide +kernel
theorem dX2_areAlike_63 : decode cX2_areAlike 63 = .ok (.invokestatic 65, 3) := by decide +kernel
theorem dX2_areAlike_66 : decode cX2_areAlike 66 = .ok (.baload, 1) := by decide +kernel
theorem dX2_areAlike_67 : decode cX2_areAlike 67 = .ok (.ifCond .ne 7, 3) := by decide +kernel
theorem dX2_areAlike_70 : decode cX2_areAlike 70 = .ok (.iconst 1, 1) := by decide +kernel
theorem dX2_areAlike_71 : decode cX2_areAlike 71 = .ok (.goto 4, 3) := by decide +kernel
theorem dX2_areAlike_74 : decode cX2_areAlike 74 = .ok (.iconst 0, 1) := by decide +kernel
theorem dX2_areAlike_75 : decode cX2_areAlike 75 = .ok (.istore 5, 2) := by decide +kernel
theorem dX2_areAlike_77 : decode cX2_areAlike 77 = .ok (.aload_n 0, 1) := by decide +kernel
theorem dX2_areAlike_78 : decode cX2_areAlike 78 = .ok (.getfield 22, 3) := by decide +kernel
theorem dX2_areAlike_81 : decode cX2_areAlike 81 = .ok (.iload_n 2, 1) := by decide +kernel
theorem dX2_areAlike_82 : decode cX2_areAlike 82 = .ok (.iload 4, 2) := by decide +kernel
theorem dX2_areAlike_84 : decode cX2_areAlike 84 = .ok (.invokestatic 65, 3) := by decide +kernel
theorem dX2_areAlike_87 : decode cX2_areAlike 87 = .ok (.baload, 1) := by decide +kernel
theorem dX2_areAlike_88 : decode cX2_areAlike 88 = .ok (.ifCond .eq 21, 3) := by decide +kernel
theorem dX2_areAlike_91 : decode cX2_areAlike 91 = .ok (.aload_n 0, 1) := by decide +kernel
theorem dX2_areAlike_92 : decode cX2_areAlike 92 = .ok (.getfield 26, 3) := by decide +kernel
theorem dX2_areAlike_95 : decode cX2_areAlike 95 = .ok (.iload_n 2, 1) := by decide +kernel
theorem dX2_areAlike_96 : decode cX2_areAlike 96 = .ok (.iload 4, 2) := by decide +kernel
theorem dX2_areAlike_98 : decode cX2_areAlike 98 = .ok (.invokestatic 65, 3) := by decide +kernel
theorem dX2_areAlike_101 : decode cX2_areAlike 101 = .ok (.baload, 1) := by decide +kernel
theorem dX2_areAlike_102 : decode cX2_areAlike 102 = .ok (.ifCond .ne 7, 3) := by decide +kernel
theorem dX2_areAlike_105 : decode cX2_areAlike 105 = .ok (.iconst 1, 1) := by decide +kernel
theorem dX2_areAlike_106 : decode cX2_areAlike 106 = .ok (.goto 4, 3) := by decide +kernel
theorem dX2_areAlike_109 : decode cX2_areAlike 109 = .ok (.iconst 0, 1) := by decide +kernel
theorem dX2_areAlike_110 : decode cX2_areAlike 110 = .ok (.istore 6, 2) := by decide +kernel
theorem dX2_areAlike_112 : decode cX2_areAlike 112 = .ok (.iload_n 3, 1) := by decide +kernel
theorem dX2_areAlike_113 : decode cX2_areAlike 113 = .ok (.ifCond .eq 14, 3) := by decide +kernel
theorem dX2_areAlike_116 : decode cX2_areAlike 116 = .ok (.iload 5, 2) := by decide +kernel
theorem dX2_areAlike_118 : decode cX2_areAlike 118 = .ok (.iload 6, 2) := by decide +kernel
theorem dX2_areAlike_120 : decode cX2_areAlike 120 = .ok (.if_icmp .ne 7, 3) := by decide +kernel
theorem dX2_areAlike_123 : decode cX2_areAlike 123 = .ok (.iconst 1, 1) := by decide +kernel
theorem dX2_areAlike_124 : decode cX2_areAlike 124 = .ok (.goto 4, 3) := by decide +kernel
theorem dX2_areAlike_127 : decode cX2_areAlike 127 = .ok (.iconst 0, 1) := by decide +kernel
theorem dX2_areAlike_128 : decode cX2_areAlike 128 = .ok (.istore_n 3, 1) := by decide +kernel
theorem dX2_areAlike_129 : decode cX2_areAlike 129 = .ok (.iinc 4 1, 3) := by decide +kernel
theorem dX2_areAlike_132 : decode cX2_areAlike 132 = .ok (.goto (-99), 3) := by decide +kernel
theorem dX2_areAlike_135 : decode cX2_areAlike 135 = .ok (.iload_n 3, 1) := by decide +kernel
theorem dX2_areAlike_136 : decode cX2_areAlike 136 = .ok (.ireturn, 1) := by decide +kernel
theorem dX2_signs_0 : decode cX2_signs 0 = .ok (.aload_n 0, 1) := by decide +kernel
theorem dX2_signs_1 : decode cX2_signs 1 = .ok (.iconst 0, 1) := by decide +kernel
theorem dX2_signs_2 : decode cX2_signs 2 = .ok (.putfield 51, 3) := by decide +kernel
theorem dX2_signs_5 : decode cX2_signs 5 = .ok (.aload_n 0, 1) := by decide +kernel
theorem dX2_signs_6 : decode cX2_signs 6 = .ok (.getfield 59, 3) := by decide +kernel
theorem dX2_signs_9 : decode cX2_signs 9 = .ok (.ireturn, 1) := by decide +kernel
set_option maxRecDepth 20000 in
theorem ggX2_authorOf_X2_isSign : GoodIn wsX2_authorOf wsX2_isSign := goodIn_r _ [6, 7, 8, 9, 5, 10, 16, 17, 18, 19, 20, 21, 22, 23, 24, 25, 26, 27, 28, 29, 30, 31, 32, 33, 34] (by decide +kernel) (by decide +kernel)
set_option maxRecDepth 20000 in
theorem gX2_authorOf_X2_isSign : GoodIn wsX2_authorOf (wsV RX2 97 RX2 yX2_isSign wsX2_isSign) := goodIn_app (goodIn_of _ (by decide +kernel)) ggX2_authorOf_X2_isSign
set_option maxRecDepth 20000 in
theorem ggX2_authorOf_X2_goes : GoodIn wsX2_authorOf wsX2_goes := goodIn_r _ [14, 15, 16, 17, 18, 19, 20, 21, 22, 23, 24, 25, 26, 27, 28, 29, 30, 31, 32, 33, 34] (by decide +kernel) (by decide +kernel)
set_option maxRecDepth 20000 in
theorem gX2_authorOf_X2_goes : GoodIn wsX2_authorOf (wsV RX2 87 RX2 yX2_goes wsX2_goes) := goodIn_app (goodIn_of _ (by decide +kernel)) ggX2_authorOf_X2_goes
theorem dX2_authorOf_0 : decode cX2_authorOf 0 = .ok (.aload_n 0, 1) := by decide +kernel
theorem dX2_authorOf_1 : decode cX2_authorOf 1 = .ok (.aload_n 0, 1) := by decide +kernel
theorem dX2_authorOf_2 : decode cX2_authorOf 2 = .ok (.iload_n 1, 1) := by decide +kernel
theorem dX2_authorOf_3 : decode cX2_authorOf 3 = .ok (.invokevirtual 97, 3) := by decide +kernel
theorem dX2_authorOf_6 : decode cX2_authorOf 6 = .ok (.ifCond .eq 7, 3) := by decide +kernel
theorem dX2_authorOf_9 : decode cX2_authorOf 9 = .ok (.iconst 0, 1) := by decide +kernel
theorem dX2_authorOf_10 : decode cX2_authorOf 10 = .ok (.goto 4, 3) := by decide +kernel
theorem dX2_authorOf_13 : decode cX2_authorOf 13 = .ok (.iconst 1, 1) := by decide +kernel
theorem dX2_authorOf_14 : decode cX2_authorOf 14 = .ok (.invokevirtual 87, 3) := by decide +kernel
theorem dX2_authorOf_17 : decode cX2_authorOf 17 = .ok (.ifCond .eq 12, 3) := by decide +kernel
theorem dX2_authorOf_20 : decode cX2_authorOf 20 = .ok (.aload_n 0, 1) := by decide +kernel
theorem dX2_authorOf_21 : decode cX2_authorOf 21 = .ok (.getfield 7, 3) := by decide +kernel
theorem dX2_authorOf_24 : decode cX2_authorOf 24 = .ok (.iload_n 1, 1) := by decide +kernel
theorem dX2_authorOf_25 : decode cX2_authorOf 25 = .ok (.iaload, 1) := by decide +kernel
theorem dX2_authorOf_26 : decode cX2_authorOf 26 = .ok (.goto 4, 3) := by decide +kernel
theorem dX2_authorOf_29 : decode cX2_authorOf 29 = .ok (.iconst 0, 1) := by decide +kernel
theorem dX2_authorOf_30 : decode cX2_authorOf 30 = .ok (.ireturn, 1) := by decide +kernel
set_option maxRecDepth 20000 in
theorem ggX2_behind_X2_isSign : GoodIn wsX2_behind wsX2_isSign := goodIn_r _ [6, 7, 8, 9, 5, 10, 16, 17, 18, 19, 20, 21, 22, 23, 24, 25, 26, 27, 28, 29, 30, 31, 32, 33, 34] (by decide +kernel) (by decide +kernel)
set_option maxRecDepth 20000 in
theorem gX2_behind_X2_isSign : GoodIn wsX2_behind (wsV RX2 97 RX2 yX2_isSign wsX2_isSign) := goodIn_app (goodIn_of _ (by decide +kernel)) ggX2_behind_X2_isSign
set_option maxRecDepth 20000 in
theorem ggX2_behind_X2_goes : GoodIn wsX2_behind wsX2_goes := goodIn_r _ [14, 15, 16, 17, 18, 19, 20, 21, 22, 23, 24, 25, 26, 27, 28, 29, 30, 31, 32, 33, 34] (by decide +kernel) (by decide +kernel)
set_option maxRecDepth 20000 in
theorem gX2_behind_X2_goes : GoodIn wsX2_behind (wsV RX2 87 RX2 yX2_goes wsX2_goes) := goodIn_app (goodIn_of _ (by decide +kernel)) ggX2_behind_X2_goes
theorem dX2_behind_0 : decode cX2_behind 0 = .ok (.aload_n 0, 1) := by decide +kernel
theorem dX2_behind_1 : decode cX2_behind 1 = .ok (.aload_n 0, 1) := by decide +kernel
theorem dX2_behind_2 : decode cX2_behind 2 = .ok (.iload_n 1, 1) := by decide +kernel
theorem dX2_behind_3 : decode cX2_behind 3 = .ok (.invokevirtual 97, 3) := by decide +kernel
theorem dX2_behind_6 : decode cX2_behind 6 = .ok (.ifCond .eq 7, 3) := by decide +kernel
theorem dX2_behind_9 : decode cX2_behind 9 = .ok (.iconst 0, 1) := by decide +kernel
theorem dX2_behind_10 : decode cX2_behind 10 = .ok (.goto 4, 3) := by decide +kernel
theorem dX2_behind_13 : decode cX2_behind 13 = .ok (.iconst 1, 1) := by decide +kernel
theorem dX2_behind_14 : decode cX2_behind 14 = .ok (.invokevirtual 87, 3) := by decide +kernel
theorem dX2_behind_17 : decode cX2_behind 17 = .ok (.ifCond .eq 12, 3) := by decide +kernel
theorem dX2_behind_20 : decode cX2_behind 20 = .ok (.aload_n 0, 1) := by decide +kernel
theorem dX2_behind_21 : decode cX2_behind 21 = .ok (.getfield 19, 3) := by decide +kernel
theorem dX2_behind_24 : decode cX2_behind 24 = .ok (.iload_n 1, 1) := by decide +kernel
theorem dX2_behind_25 : decode cX2_behind 25 = .ok (.iaload, 1) := by decide +kernel
theorem dX2_behind_26 : decode cX2_behind 26 = .ok (.goto 4, 3) := by decide +kernel
theorem dX2_behind_29 : decode cX2_behind 29 = .ok (.iconst 0, 1) := by decide +kernel
theorem dX2_behind_30 : decode cX2_behind 30 = .ok (.ireturn, 1) := by decide +kernel
set_option maxRecDepth 20000 in
theorem ggX2_clock_X2_asks : GoodIn wsX2_clock wsX2_asks := goodIn_r _ [6, 7, 8, 5, 9, 10, 11, 12, 13, 14, 15, 16, 17, 18, 19, 20, 21, 22, 23, 24, 25, 26, 27, 28, 29, 30, 31, 32, 33, 34, 35, 36] (by decide +kernel) (by decide +kernel)
set_option maxRecDepth 20000 in
theorem gX2_clock_X2_asks : GoodIn wsX2_clock (wsV RX2 103 RX2 yX2_asks wsX2_asks) := goodIn_app (goodIn_of _ (by decide +kernel)) ggX2_clock_X2_asks
theorem dX2_clock_0 : decode cX2_clock 0 = .ok (.aload_n 0, 1) := by decide +kernel
theorem dX2_clock_1 : decode cX2_clock 1 = .ok (.iload_n 1, 1) := by decide +kernel
theorem dX2_clock_2 : decode cX2_clock 2 = .ok (.invokevirtual 103, 3) := by decide +kernel
theorem dX2_clock_5 : decode cX2_clock 5 = .ok (.ifCond .eq 12, 3) := by decide +kernel
theorem dX2_clock_8 : decode cX2_clock 8 = .ok (.aload_n 0, 1) := by decide +kernel
theorem dX2_clock_9 : decode cX2_clock 9 = .ok (.getfield 32, 3) := by decide +kernel
theorem dX2_clock_12 : decode cX2_clock 12 = .ok (.iload_n 1, 1) := by decide +kernel
theorem dX2_clock_13 : decode cX2_clock 13 = .ok (.iaload, 1) := by decide +kernel
theorem dX2_clock_14 : decode cX2_clock 14 = .ok (.goto 4, 3) := by decide +kernel
theorem dX2_clock_17 : decode cX2_clock 17 = .ok (.iconst 0, 1) := by decide +kernel
theorem dX2_clock_18 : decode cX2_clock 18 = .ok (.ireturn, 1) := by decide +kernel
set_option maxRecDepth 20000 in
theorem ggX2_print_X2_asks : GoodIn wsX2_print wsX2_asks := goodIn_r _ [10, 11, 12, 9, 13, 14, 15, 16, 17, 18, 19, 20, 21, 44, 45, 46, 47, 48, 49, 50, 51, 52, 53, 54, 55, 56, 57, 58, 59, 60, 61, 62] (by decide +kernel) (by decide +kernel)
set_option maxRecDepth 20000 in
theorem gX2_print_X2_asks : GoodIn wsX2_print (wsV RX2 103 RX2 yX2_asks wsX2_asks) := goodIn_app (goodIn_of _ (by decide +kernel)) ggX2_print_X2_asks
set_option maxRecDepth 20000 in
theorem ggX2_print_X2_laysText : GoodIn wsX2_print wsX2_laysText := goodIn_r _ [25, 1, 26, 27, 28, 5, 29, 30, 31, 9, 32, 33, 34, 35, 36, 37, 38, 39, 40, 41, 42, 43, 4, 44, 45, 46, 47, 48, 49, 50, 51, 52, 53, 54, 55, 56, 57, 58, 59, 60, 61, 62] (by decide +kernel) (by decide +kernel)
set_option maxRecDepth 20000 in
theorem gX2_print_X2_laysText : GoodIn wsX2_print (wsV RX2 90 RX2 yX2_laysText wsX2_laysText) := goodIn_app (goodIn_of _ (by decide +kernel)) ggX2_print_X2_laysText
set_option maxRecDepth 20000 in
theorem ggX2_print_X2_goes : GoodIn wsX2_print wsX2_goes := goodIn_r _ [20, 21, 44, 45, 46, 47, 48, 49, 50, 51, 52, 53, 54, 55, 56, 57, 58, 59, 60, 61, 62] (by decide +kernel) (by decide +kernel)
set_option maxRecDepth 20000 in
theorem gX2_print_X2_goes : GoodIn wsX2_print (wsV RX2 87 RX2 yX2_goes wsX2_goes) := goodIn_app (goodIn_of _ (by decide +kernel)) ggX2_print_X2_goes
theorem dX2_print_0 : decode cX2_print 0 = .ok (.aload_n 0, 1) := by decide +kernel
theorem dX2_print_1 : decode cX2_print 1 = .ok (.iload_n 1, 1) := by decide +kernel
theorem dX2_print_2 : decode cX2_print 2 = .ok (.invokevirtual 103, 3) := by decide +kernel
theorem dX2_print_5 : decode cX2_print 5 = .ok (.ifCond .ne 5, 3) := by decide +kernel
theorem dX2_print_8 : decode cX2_print 8 = .ok (.iconst 0, 1) := by decide +kernel
theorem dX2_print_9 : decode cX2_print 9 = .ok (.ireturn, 1) := by decide +kernel
theorem dX2_print_10 : decode cX2_print 10 = .ok (.aload_n 0, 1) := by decide +kernel
theorem dX2_print_11 : decode cX2_print 11 = .ok (.iload_n 1, 1) := by decide +kernel
theorem dX2_print_12 : decode cX2_print 12 = .ok (.invokevirtual 90, 3) := by decide +kernel
theorem dX2_print_15 : decode cX2_print 15 = .ok (.aload_n 0, 1) := by decide +kernel
theorem dX2_print_16 : decode cX2_print 16 = .ok (.aload_n 0, 1) := by decide +kernel
theorem dX2_print_17 : decode cX2_print 17 = .ok (.getfield 76, 3) := by decide +kernel
theorem dX2_print_20 : decode cX2_print 20 = .ok (.ifCond .eq 12, 3) := by decide +kernel
theorem dX2_print_23 : decode cX2_print 23 = .ok (.aload_n 0, 1) := by decide +kernel
theorem dX2_print_24 : decode cX2_print 24 = .ok (.getfield 62, 3) := by decide +kernel
theorem dX2_print_27 : decode cX2_print 27 = .ok (.bipush 20, 2) := by decide +kernel
theorem dX2_print_29 : decode cX2_print 29 = .ok (.if_icmp .ne 7, 3) := by decide +kernel
theorem dX2_print_32 : decode cX2_print 32 = .ok (.iconst 2, 1) := by decide +kernel
theorem dX2_print_33 : decode cX2_print 33 = .ok (.goto 4, 3) := by decide +kernel
theorem dX2_print_36 : decode cX2_print 36 = .ok (.iconst 0, 1) := by decide +kernel
theorem dX2_print_37 : decode cX2_print 37 = .ok (.invokevirtual 87, 3) := by decide +kernel
theorem dX2_print_40 : decode cX2_print 40 = .ok (.ifCond .ne 5, 3) := by decide +kernel
theorem dX2_print_43 : decode cX2_print 43 = .ok (.iconst 0, 1) := by decide +kernel
theorem dX2_print_44 : decode cX2_print 44 = .ok (.ireturn, 1) := by decide +kernel
theorem dX2_print_45 : decode cX2_print 45 = .ok (.iconst 0, 1) := by decide +kernel
theorem dX2_print_46 : decode cX2_print 46 = .ok (.istore_n 2, 1) := by decide +kernel
theorem dX2_print_47 : decode cX2_print 47 = .ok (.iload_n 2, 1) := by decide +kernel
theorem dX2_print_48 : decode cX2_print 48 = .ok (.aload_n 0, 1) := by decide +kernel
theorem dX2_print_49 : decode cX2_print 49 = .ok (.getfield 76, 3) := by decide +kernel
theorem dX2_print_52 : decode cX2_print 52 = .ok (.if_icmp .ge 36, 3) := by decide +kernel
theorem dX2_print_55 : decode cX2_print 55 = .ok (.aload_n 0, 1) := by decide +kernel
theorem dX2_print_56 : decode cX2_print 56 = .ok (.getfield 35, 3) := by decide +kernel
theorem dX2_print_59 : decode cX2_print 59 = .ok (.iconst 4, 1) := by decide +kernel
theorem dX2_print_60 : decode cX2_print 60 = .ok (.aload_n 0, 1) := by decide +kernel
theorem dX2_print_61 : decode cX2_print 61 = .ok (.getfield 62, 3) := by decide +kernel
theorem dX2_print_64 : decode cX2_print 64 = .ok (.imul, 1) := by decide +kernel
theorem dX2_print_65 : decode cX2_print 65 = .ok (.aload_n 0, 1) := by decide +kernel
theorem dX2_print_66 : decode cX2_print 66 = .ok (.getfield 7, 3) := by decide +kernel
theorem dX2_print_69 : decode cX2_print 69 = .ok (.aload_n 0, 1) := by decide +kernel
theorem dX2_print_70 : decode cX2_print 70 = .ok (.getfield 45, 3) := by decide +kernel
theorem dX2_print_73 : decode cX2_print 73 = .ok (.iload_n 2, 1) := by decide +kernel
theorem dX2_print_74 : decode cX2_print 74 = .ok (.iaload, 1) := by decide +kernel
theorem dX2_print_75 : decode cX2_print 75 = .ok (.iaload, 1) := by decide +kernel
theorem dX2_print_76 : decode cX2_print 76 = .ok (.iadd, 1) := by decide +kernel
theorem dX2_print_77 : decode cX2_print 77 = .ok (.dup2, 1) := by decide +kernel
theorem dX2_print_78 : decode cX2_print 78 = .ok (.iaload, 1) := by decide +kernel
theorem dX2_print_79 : decode cX2_print 79 = .ok (.iconst 1, 1) := by decide +kernel
theorem dX2_print_80 : decode cX2_print 80 = .ok (.iadd, 1) := by decide +kernel
theorem dX2_print_81 : decode cX2_print 81 = .ok (.iastore, 1) := by decide +kernel
theorem dX2_print_82 : decode cX2_print 82 = .ok (.iinc 2 1, 3) := by decide +kernel
theorem dX2_print_85 : decode cX2_print 85 = .ok (.goto (-38), 3) := by decide +kernel
theorem dX2_print_88 : decode cX2_print 88 = .ok (.aload_n 0, 1) := by decide +kernel
theorem dX2_print_89 : decode cX2_print 89 = .ok (.dup, 1) := by decide +kernel
theorem dX2_print_90 : decode cX2_print 90 = .ok (.getfield 62, 3) := by decide +kernel
theorem dX2_print_93 : decode cX2_print 93 = .ok (.iconst 1, 1) := by decide +kernel
theorem dX2_print_94 : decode cX2_print 94 = .ok (.iadd, 1) := by decide +kernel
theorem dX2_print_95 : decode cX2_print 95 = .ok (.putfield 62, 3) := by decide +kernel
theorem dX2_print_98 : decode cX2_print 98 = .ok (.aload_n 0, 1) := by decide +kernel
theorem dX2_print_99 : decode cX2_print 99 = .ok (.getfield 62, 3) := by decide +kernel
theorem dX2_print_102 : decode cX2_print 102 = .ok (.iconst 1, 1) := by decide +kernel
theorem dX2_print_103 : decode cX2_print 103 = .ok (.isub, 1) := by decide +kernel
theorem dX2_print_104 : decode cX2_print 104 = .ok (.ireturn, 1) := by decide +kernel
set_option maxRecDepth 20000 in
theorem ggX2_printed_X2_isEdition : GoodIn wsX2_printed wsX2_isEdition := goodIn_r _ [6, 7, 8, 9, 5, 10, 19, 20, 21, 22, 23, 24, 25, 26, 27, 28, 29, 30, 31, 32, 33, 34, 35, 36, 37] (by decide +kernel) (by decide +kernel)
set_option maxRecDepth 20000 in
theorem gX2_printed_X2_isEdition : GoodIn wsX2_printed (wsV RX2 110 RX2 yX2_isEdition wsX2_isEdition) := goodIn_app (goodIn_of _ (by decide +kernel)) ggX2_printed_X2_isEdition
set_option maxRecDepth 20000 in
theorem ggX2_printed_X2_isAuthor : GoodIn wsX2_printed wsX2_isAuthor := goodIn_r _ [13, 8, 9, 5, 10] (by decide +kernel) (by decide +kernel)
set_option maxRecDepth 20000 in
theorem gX2_printed_X2_isAuthor : GoodIn wsX2_printed (va_wsS RX2 83 yX2_isAuthor wsX2_isAuthor) := goodIn_app (goodIn_of _ (by decide +kernel)) ggX2_printed_X2_isAuthor
set_option maxRecDepth 20000 in
theorem ggX2_printed_X2_goes : GoodIn wsX2_printed wsX2_goes := goodIn_r _ [17, 18, 19, 20, 21, 22, 23, 24, 25, 26, 27, 28, 29, 30, 31, 32, 33, 34, 35, 36, 37] (by decide +kernel) (by decide +kernel)
set_option maxRecDepth 20000 in
theorem gX2_printed_X2_goes : GoodIn wsX2_printed (wsV RX2 87 RX2 yX2_goes wsX2_goes) := goodIn_app (goodIn_of _ (by decide +kernel)) ggX2_printed_X2_goes
theorem dX2_printed_0 : decode cX2_printed 0 = .ok (.aload_n 0, 1) := by decide +kernel
theorem dX2_printed_1 : decode cX2_printed 1 = .ok (.aload_n 0, 1) := by decide +kernel
theorem dX2_printed_2 : decode cX2_printed 2 = .ok (.iload_n 1, 1) := by decide +kernel
theorem dX2_printed_3 : decode cX2_printed 3 = .ok (.invokevirtual 110, 3) := by decide +kernel
theorem dX2_printed_6 : decode cX2_printed 6 = .ok (.ifCond .ne 7, 3) := by decide +kernel
theorem dX2_printed_9 : decode cX2_printed 9 = .ok (.iconst 1, 1) := by decide +kernel
theorem dX2_printed_10 : decode cX2_printed 10 = .ok (.goto 15, 3) := by decide +kernel
theorem dX2_printed_13 : decode cX2_printed 13 = .ok (.iload_n 2, 1) := by decide +kernel
theorem dX2_printed_14 : decode cX2_printed 14 = .ok (.invokestatic 83, 3) := by decide +kernel
theorem dX2_printed_17 : decode cX2_printed 17 = .ok (.ifCond .eq 7, 3) := by decide +kernel
theorem dX2_printed_20 : decode cX2_printed 20 = .ok (.iconst 0, 1) := by decide +kernel
theorem dX2_printed_21 : decode cX2_printed 21 = .ok (.goto 4, 3) := by decide +kernel
theorem dX2_printed_24 : decode cX2_printed 24 = .ok (.iconst 2, 1) := by decide +kernel
theorem dX2_printed_25 : decode cX2_printed 25 = .ok (.invokevirtual 87, 3) := by decide +kernel
theorem dX2_printed_28 : decode cX2_printed 28 = .ok (.ifCond .eq 16, 3) := by decide +kernel
theorem dX2_printed_31 : decode cX2_printed 31 = .ok (.aload_n 0, 1) := by decide +kernel
theorem dX2_printed_32 : decode cX2_printed 32 = .ok (.getfield 35, 3) := by decide +kernel
theorem dX2_printed_35 : decode cX2_printed 35 = .ok (.iconst 4, 1) := by decide +kernel
theorem dX2_printed_36 : decode cX2_printed 36 = .ok (.iload_n 1, 1) := by decide +kernel
theorem dX2_printed_37 : decode cX2_printed 37 = .ok (.imul, 1) := by decide +kernel
theorem dX2_printed_38 : decode cX2_printed 38 = .ok (.iload_n 2, 1) := by decide +kernel
theorem dX2_printed_39 : decode cX2_printed 39 = .ok (.iadd, 1) := by decide +kernel
theorem dX2_printed_40 : decode cX2_printed 40 = .ok (.iaload, 1) := by decide +kernel
theorem dX2_printed_41 : decode cX2_printed 41 = .ok (.goto 4, 3) := by decide +kernel
theorem dX2_printed_44 : decode cX2_printed 44 = .ok (.iconst 0, 1) := by decide +kernel
theorem dX2_printed_45 : decode cX2_printed 45 = .ok (.ireturn, 1) := by decide +kernel
set_option maxRecDepth 20000 in
theorem ggX2_setFloor_X2_isIn : GoodIn wsX2_setFloor wsX2_isIn := goodIn_r _ [5] (by decide +kernel) (by decide +kernel)
set_option maxRecDepth 20000 in
theorem gX2_setFloor_X2_isIn : GoodIn wsX2_setFloor (va_wsS RX2 55 yX2_isIn wsX2_isIn) := goodIn_app (goodIn_of _ (by decide +kernel)) ggX2_setFloor_X2_isIn
set_option maxRecDepth 20000 in
theorem ggX2_setFloor_X2_goes : GoodIn wsX2_setFloor wsX2_goes := goodIn_r _ [9, 10, 11, 12, 13, 14, 15, 16, 17, 18, 19, 20, 21, 22, 23, 24, 25, 26, 27, 28, 29] (by decide +kernel) (by decide +kernel)
set_option maxRecDepth 20000 in
theorem gX2_setFloor_X2_goes : GoodIn wsX2_setFloor (wsV RX2 87 RX2 yX2_goes wsX2_goes) := goodIn_app (goodIn_of _ (by decide +kernel)) ggX2_setFloor_X2_goes
theorem dX2_setFloor_0 : decode cX2_setFloor 0 = .ok (.aload_n 0, 1) := by decide +kernel
theorem dX2_setFloor_1 : decode cX2_setFloor 1 = .ok (.iload_n 1, 1) := by decide +kernel
theorem dX2_setFloor_2 : decode cX2_setFloor 2 = .ok (.iconst 0, 1) := by decide +kernel
theorem dX2_setFloor_3 : decode cX2_setFloor 3 = .ok (.bipush 25, 2) := by decide +kernel
theorem dX2_setFloor_5 : decode cX2_setFloor 5 = .ok (.invokestatic 55, 3) := by decide +kernel
theorem dX2_setFloor_8 : decode cX2_setFloor 8 = .ok (.ifCond .eq 7, 3) := by decide +kernel
theorem dX2_setFloor_11 : decode cX2_setFloor 11 = .ok (.iconst 0, 1) := by decide +kernel
theorem dX2_setFloor_12 : decode cX2_setFloor 12 = .ok (.goto 4, 3) := by decide +kernel
theorem dX2_setFloor_15 : decode cX2_setFloor 15 = .ok (.iconst 1, 1) := by decide +kernel
theorem dX2_setFloor_16 : decode cX2_setFloor 16 = .ok (.invokevirtual 87, 3) := by decide +kernel
theorem dX2_setFloor_19 : decode cX2_setFloor 19 = .ok (.ifCond .ne 5, 3) := by decide +kernel
theorem dX2_setFloor_22 : decode cX2_setFloor 22 = .ok (.iconst 0, 1) := by decide +kernel
theorem dX2_setFloor_23 : decode cX2_setFloor 23 = .ok (.ireturn, 1) := by decide +kernel
theorem dX2_setFloor_24 : decode cX2_setFloor 24 = .ok (.aload_n 0, 1) := by decide +kernel
theorem dX2_setFloor_25 : decode cX2_setFloor 25 = .ok (.getfield 113, 3) := by decide +kernel
theorem dX2_setFloor_28 : decode cX2_setFloor 28 = .ok (.istore_n 2, 1) := by decide +kernel
theorem dX2_setFloor_29 : decode cX2_setFloor 29 = .ok (.aload_n 0, 1) := by decide +kernel
theorem dX2_setFloor_30 : decode cX2_setFloor 30 = .ok (.iload_n 1, 1) := by decide +kernel
theorem dX2_setFloor_31 : decode cX2_setFloor 31 = .ok (.putfield 113, 3) := by decide +kernel
theorem dX2_setFloor_34 : decode cX2_setFloor 34 = .ok (.iload_n 2, 1) := by decide +kernel
theorem dX2_setFloor_35 : decode cX2_setFloor 35 = .ok (.ireturn, 1) := by decide +kernel
set_option maxRecDepth 20000 in
theorem ggX2_advance_X2_isAuthor : GoodIn wsX2_advance wsX2_isAuthor := goodIn_r _ [6, 7, 8, 5, 9] (by decide +kernel) (by decide +kernel)
set_option maxRecDepth 20000 in
theorem gX2_advance_X2_isAuthor : GoodIn wsX2_advance (va_wsS RX2 83 yX2_isAuthor wsX2_isAuthor) := goodIn_app (goodIn_of _ (by decide +kernel)) ggX2_advance_X2_isAuthor
set_option maxRecDepth 20000 in
theorem ggX2_advance_X2_isIn : GoodIn wsX2_advance wsX2_isIn := goodIn_r _ [9] (by decide +kernel) (by decide +kernel)
set_option maxRecDepth 20000 in
theorem gX2_advance_X2_isIn : GoodIn wsX2_advance (va_wsS RX2 55 yX2_isIn wsX2_isIn) := goodIn_app (goodIn_of _ (by decide +kernel)) ggX2_advance_X2_isIn
set_option maxRecDepth 20000 in
theorem ggX2_advance_X2_goes : GoodIn wsX2_advance wsX2_goes := goodIn_r _ [13, 14, 15, 16, 17, 18, 19, 20, 21, 22, 23, 24, 25, 26, 27, 28, 29, 30, 31, 32, 33] (by decide +kernel) (by decide +kernel)
set_option maxRecDepth 20000 in
theorem gX2_advance_X2_goes : GoodIn wsX2_advance (wsV RX2 87 RX2 yX2_goes wsX2_goes) := goodIn_app (goodIn_of _ (by decide +kernel)) ggX2_advance_X2_goes
theorem dX2_advance_0 : decode cX2_advance 0 = .ok (.aload_n 0, 1) := by decide +kernel
theorem dX2_advance_1 : decode cX2_advance 1 = .ok (.iload_n 1, 1) := by decide +kernel
theorem dX2_advance_2 : decode cX2_advance 2 = .ok (.invokestatic 83, 3) := by decide +kernel
theorem dX2_advance_5 : decode cX2_advance 5 = .ok (.ifCond .eq 17, 3) := by decide +kernel
theorem dX2_advance_8 : decode cX2_advance 8 = .ok (.iload_n 2, 1) := by decide +kernel
theorem dX2_advance_9 : decode cX2_advance 9 = .ok (.iconst 1, 1) := by decide +kernel
theorem dX2_advance_10 : decode cX2_advance 10 = .ok (.ldc 116, 2) := by decide +kernel
theorem dX2_advance_12 : decode cX2_advance 12 = .ok (.invokestatic 55, 3) := by decide +kernel
theorem dX2_advance_15 : decode cX2_advance 15 = .ok (.ifCond .eq 7, 3) := by decide +kernel
theorem dX2_advance_18 : decode cX2_advance 18 = .ok (.iconst 0, 1) := by decide +kernel
theorem dX2_advance_19 : decode cX2_advance 19 = .ok (.goto 4, 3) := by decide +kernel
theorem dX2_advance_22 : decode cX2_advance 22 = .ok (.iconst 1, 1) := by decide +kernel
theorem dX2_advance_23 : decode cX2_advance 23 = .ok (.invokevirtual 87, 3) := by decide +kernel
theorem dX2_advance_26 : decode cX2_advance 26 = .ok (.ifCond .ne 5, 3) := by decide +kernel
theorem dX2_advance_29 : decode cX2_advance 29 = .ok (.iconst 0, 1) := by decide +kernel
theorem dX2_advance_30 : decode cX2_advance 30 = .ok (.ireturn, 1) := by decide +kernel
theorem dX2_advance_31 : decode cX2_advance 31 = .ok (.aload_n 0, 1) := by decide +kernel
theorem dX2_advance_32 : decode cX2_advance 32 = .ok (.getfield 38, 3) := by decide +kernel
theorem dX2_advance_35 : decode cX2_advance 35 = .ok (.iload_n 1, 1) := by decide +kernel
theorem dX2_advance_36 : decode cX2_advance 36 = .ok (.dup2, 1) := by decide +kernel
theorem dX2_advance_37 : decode cX2_advance 37 = .ok (.iaload, 1) := by decide +kernel
theorem dX2_advance_38 : decode cX2_advance 38 = .ok (.iload_n 2, 1) := by decide +kernel
theorem dX2_advance_39 : decode cX2_advance 39 = .ok (.iadd, 1) := by decide +kernel
theorem dX2_advance_40 : decode cX2_advance 40 = .ok (.iastore, 1) := by decide +kernel
theorem dX2_advance_41 : decode cX2_advance 41 = .ok (.aload_n 0, 1) := by decide +kernel
theorem dX2_advance_42 : decode cX2_advance 42 = .ok (.getfield 38, 3) := by decide +kernel
theorem dX2_advance_45 : decode cX2_advance 45 = .ok (.iload_n 1, 1) := by decide +kernel
theorem dX2_advance_46 : decode cX2_advance 46 = .ok (.iaload, 1) := by decide +kernel
theorem dX2_advance_47 : decode cX2_advance 47 = .ok (.ireturn, 1) := by decide +kernel
set_option maxRecDepth 20000 in
theorem ggX2_sell_X2_isEdition : GoodIn wsX2_sell wsX2_isEdition := goodIn_r _ [10, 11, 12, 13, 9, 14, 20, 21, 22, 23, 24, 25, 26, 27, 28, 29, 30, 31, 32, 33, 34, 35, 36, 37, 38] (by decide +kernel) (by decide +kernel)
set_option maxRecDepth 20000 in
theorem gX2_sell_X2_isEdition : GoodIn wsX2_sell (wsV RX2 110 RX2 yX2_isEdition wsX2_isEdition) := goodIn_app (goodIn_of _ (by decide +kernel)) ggX2_sell_X2_isEdition
set_option maxRecDepth 20000 in
theorem ggX2_sell_X2_isIn : GoodIn wsX2_sell wsX2_isIn := goodIn_r _ [14] (by decide +kernel) (by decide +kernel)
set_option maxRecDepth 20000 in
theorem gX2_sell_X2_isIn : GoodIn wsX2_sell (va_wsS RX2 55 yX2_isIn wsX2_isIn) := goodIn_app (goodIn_of _ (by decide +kernel)) ggX2_sell_X2_isIn
set_option maxRecDepth 20000 in
theorem ggX2_sell_X2_goes : GoodIn wsX2_sell wsX2_goes := goodIn_r _ [18, 19, 20, 21, 22, 23, 24, 25, 26, 27, 28, 29, 30, 31, 32, 33, 34, 35, 36, 37, 38] (by decide +kernel) (by decide +kernel)
set_option maxRecDepth 20000 in
theorem gX2_sell_X2_goes : GoodIn wsX2_sell (wsV RX2 87 RX2 yX2_goes wsX2_goes) := goodIn_app (goodIn_of _ (by decide +kernel)) ggX2_sell_X2_goes
theorem dX2_sell_0 : decode cX2_sell 0 = .ok (.aload_n 0, 1) := by decide +kernel
theorem dX2_sell_1 : decode cX2_sell 1 = .ok (.aload_n 0, 1) := by decide +kernel
theorem dX2_sell_2 : decode cX2_sell 2 = .ok (.iload_n 1, 1) := by decide +kernel
theorem dX2_sell_3 : decode cX2_sell 3 = .ok (.invokevirtual 110, 3) := by decide +kernel
theorem dX2_sell_6 : decode cX2_sell 6 = .ok (.ifCond .ne 7, 3) := by decide +kernel
theorem dX2_sell_9 : decode cX2_sell 9 = .ok (.iconst 1, 1) := by decide +kernel
theorem dX2_sell_10 : decode cX2_sell 10 = .ok (.goto 18, 3) := by decide +kernel
theorem dX2_sell_13 : decode cX2_sell 13 = .ok (.iload_n 2, 1) := by decide +kernel
theorem dX2_sell_14 : decode cX2_sell 14 = .ok (.iconst 1, 1) := by decide +kernel
theorem dX2_sell_15 : decode cX2_sell 15 = .ok (.ldc 117, 2) := by decide +kernel
theorem dX2_sell_17 : decode cX2_sell 17 = .ok (.invokestatic 55, 3) := by decide +kernel
theorem dX2_sell_20 : decode cX2_sell 20 = .ok (.ifCond .eq 7, 3) := by decide +kernel
theorem dX2_sell_23 : decode cX2_sell 23 = .ok (.iconst 0, 1) := by decide +kernel
theorem dX2_sell_24 : decode cX2_sell 24 = .ok (.goto 4, 3) := by decide +kernel
theorem dX2_sell_27 : decode cX2_sell 27 = .ok (.iconst 2, 1) := by decide +kernel
theorem dX2_sell_28 : decode cX2_sell 28 = .ok (.invokevirtual 87, 3) := by decide +kernel
theorem dX2_sell_31 : decode cX2_sell 31 = .ok (.ifCond .ne 5, 3) := by decide +kernel
theorem dX2_sell_34 : decode cX2_sell 34 = .ok (.iconst 0, 1) := by decide +kernel
theorem dX2_sell_35 : decode cX2_sell 35 = .ok (.ireturn, 1) := by decide +kernel
theorem dX2_sell_36 : decode cX2_sell 36 = .ok (.iconst 4, 1) := by decide +kernel
theorem dX2_sell_37 : decode cX2_sell 37 = .ok (.iload_n 1, 1) := by decide +kernel
theorem dX2_sell_38 : decode cX2_sell 38 = .ok (.imul, 1) := by decide +kernel
theorem dX2_sell_39 : decode cX2_sell 39 = .ok (.istore_n 3, 1) := by decide +kernel
theorem dX2_sell_40 : decode cX2_sell 40 = .ok (.iconst 0, 1) := by decide +kernel
theorem dX2_sell_41 : decode cX2_sell 41 = .ok (.istore 4, 2) := by decide +kernel
theorem dX2_sell_43 : decode cX2_sell 43 = .ok (.iload_n 2, 1) := by decide +kernel
theorem dX2_sell_44 : decode cX2_sell 44 = .ok (.istore 5, 2) := by decide +kernel
theorem dX2_sell_46 : decode cX2_sell 46 = .ok (.iconst (-1), 1) := by decide +kernel
theorem dX2_sell_47 : decode cX2_sell 47 = .ok (.istore 6, 2) := by decide +kernel
theorem dX2_sell_49 : decode cX2_sell 49 = .ok (.iconst 3, 1) := by decide +kernel
theorem dX2_sell_50 : decode cX2_sell 50 = .ok (.istore 7, 2) := by decide +kernel
theorem dX2_sell_52 : decode cX2_sell 52 = .ok (.iload 7, 2) := by decide +kernel
theorem dX2_sell_54 : decode cX2_sell 54 = .ok (.ifCond .lt 79, 3) := by decide +kernel
theorem dX2_sell_57 : decode cX2_sell 57 = .ok (.aload_n 0, 1) := by decide +kernel
theorem dX2_sell_58 : decode cX2_sell 58 = .ok (.getfield 35, 3) := by decide +kernel
theorem dX2_sell_61 : decode cX2_sell 61 = .ok (.iload_n 3, 1) := by decide +kernel
theorem dX2_sell_62 : decode cX2_sell 62 = .ok (.iload 7, 2) := by decide +kernel
theorem dX2_sell_64 : decode cX2_sell 64 = .ok (.iadd, 1) := by decide +kernel
theorem dX2_sell_65 : decode cX2_sell 65 = .ok (.iaload, 1) := by decide +kernel
theorem dX2_sell_66 : decode cX2_sell 66 = .ok (.ifCond .le 7, 3) := by decide +kernel
theorem dX2_sell_69 : decode cX2_sell 69 = .ok (.iconst 1, 1) := by decide +kernel
theorem dX2_sell_70 : decode cX2_sell 70 = .ok (.goto 4, 3) := by decide +kernel
theorem dX2_sell_73 : decode cX2_sell 73 = .ok (.iconst 0, 1) := by decide +kernel
theorem dX2_sell_74 : decode cX2_sell 74 = .ok (.istore 8, 2) := by decide +kernel
theorem dX2_sell_76 : decode cX2_sell 76 = .ok (.iload 4, 2) := by decide +kernel
theorem dX2_sell_78 : decode cX2_sell 78 = .ok (.aload_n 0, 1) := by decide +kernel
theorem dX2_sell_79 : decode cX2_sell 79 = .ok (.getfield 35, 3) := by decide +kernel
theorem dX2_sell_82 : decode cX2_sell 82 = .ok (.iload_n 3, 1) := by decide +kernel
theorem dX2_sell_83 : decode cX2_sell 83 = .ok (.iload 7, 2) := by decide +kernel
theorem dX2_sell_85 : decode cX2_sell 85 = .ok (.iadd, 1) := by decide +kernel
theorem dX2_sell_86 : decode cX2_sell 86 = .ok (.iaload, 1) := by decide +kernel
theorem dX2_sell_87 : decode cX2_sell 87 = .ok (.iadd, 1) := by decide +kernel
theorem dX2_sell_88 : decode cX2_sell 88 = .ok (.istore 4, 2) := by decide +kernel
theorem dX2_sell_90 : decode cX2_sell 90 = .ok (.iload 5, 2) := by decide +kernel
theorem dX2_sell_92 : decode cX2_sell 92 = .ok (.iload 8, 2) := by decide +kernel
theorem dX2_sell_94 : decode cX2_sell 94 = .ok (.ifCond .eq 15, 3) := by decide +kernel
theorem dX2_sell_97 : decode cX2_sell 97 = .ok (.iload_n 2, 1) := by decide +kernel
theorem dX2_sell_98 : decode cX2_sell 98 = .ok (.aload_n 0, 1) := by decide +kernel
theorem dX2_sell_99 : decode cX2_sell 99 = .ok (.getfield 113, 3) := by decide +kernel
theorem dX2_sell_102 : decode cX2_sell 102 = .ok (.imul, 1) := by decide +kernel
theorem dX2_sell_103 : decode cX2_sell 103 = .ok (.bipush 100, 2) := by decide +kernel
theorem dX2_sell_105 : decode cX2_sell 105 = .ok (.idiv, 1) := by decide +kernel
theorem dX2_sell_106 : decode cX2_sell 106 = .ok (.goto 4, 3) := by decide +kernel
theorem dX2_sell_109 : decode cX2_sell 109 = .ok (.iconst 0, 1) := by decide +kernel
theorem dX2_sell_110 : decode cX2_sell 110 = .ok (.isub, 1) := by decide +kernel
theorem dX2_sell_111 : decode cX2_sell 111 = .ok (.istore 5, 2) := by decide +kernel
theorem dX2_sell_113 : decode cX2_sell 113 = .ok (.iload 8, 2) := by decide +kernel
theorem dX2_sell_115 : decode cX2_sell 115 = .ok (.ifCond .eq 8, 3) := by decide +kernel
theorem dX2_sell_118 : decode cX2_sell 118 = .ok (.iload 7, 2) := by decide +kernel
theorem dX2_sell_120 : decode cX2_sell 120 = .ok (.goto 5, 3) := by decide +kernel
theorem dX2_sell_123 : decode cX2_sell 123 = .ok (.iload 6, 2) := by decide +kernel
theorem dX2_sell_125 : decode cX2_sell 125 = .ok (.istore 6, 2) := by decide +kernel
theorem dX2_sell_127 : decode cX2_sell 127 = .ok (.iinc 7 (-1), 3) := by decide +kernel
theorem dX2_sell_130 : decode cX2_sell 130 = .ok (.goto (-78), 3) := by decide +kernel
theorem dX2_sell_133 : decode cX2_sell 133 = .ok (.iload 5, 2) := by decide +kernel
theorem dX2_sell_135 : decode cX2_sell 135 = .ok (.istore 7, 2) := by decide +kernel
theorem dX2_sell_137 : decode cX2_sell 137 = .ok (.iconst 0, 1) := by decide +kernel
theorem dX2_sell_138 : decode cX2_sell 138 = .ok (.istore 8, 2) := by decide +kernel
theorem dX2_sell_140 : decode cX2_sell 140 = .ok (.iload 8, 2) := by decide +kernel
theorem dX2_sell_142 : decode cX2_sell 142 = .ok (.iconst 4, 1) := by decide +kernel
theorem dX2_sell_143 : decode cX2_sell 143 = .ok (.if_icmp .ge 29, 3) := by decide +kernel
theorem dX2_sell_146 : decode cX2_sell 146 = .ok (.iload 7, 2) := by decide +kernel
theorem dX2_sell_148 : decode cX2_sell 148 = .ok (.iload 5, 2) := by decide +kernel
theorem dX2_sell_150 : decode cX2_sell 150 = .ok (.aload_n 0, 1) := by decide +kernel
theorem dX2_sell_151 : decode cX2_sell 151 = .ok (.getfield 35, 3) := by decide +kernel
theorem dX2_sell_154 : decode cX2_sell 154 = .ok (.iload_n 3, 1) := by decide +kernel
theorem dX2_sell_155 : decode cX2_sell 155 = .ok (.iload 8, 2) := by decide +kernel
theorem dX2_sell_157 : decode cX2_sell 157 = .ok (.iadd, 1) := by decide +kernel
theorem dX2_sell_158 : decode cX2_sell 158 = .ok (.iaload, 1) := by decide +kernel
theorem dX2_sell_159 : decode cX2_sell 159 = .ok (.imul, 1) := by decide +kernel
theorem dX2_sell_160 : decode cX2_sell 160 = .ok (.iload 4, 2) := by decide +kernel
theorem dX2_sell_162 : decode cX2_sell 162 = .ok (.idiv, 1) := by decide +kernel
theorem dX2_sell_163 : decode cX2_sell 163 = .ok (.isub, 1) := by decide +kernel
theorem dX2_sell_164 : decode cX2_sell 164 = .ok (.istore 7, 2) := by decide +kernel
theorem dX2_sell_166 : decode cX2_sell 166 = .ok (.iinc 8 1, 3) := by decide +kernel
theorem dX2_sell_169 : decode cX2_sell 169 = .ok (.goto (-29), 3) := by decide +kernel
theorem dX2_sell_172 : decode cX2_sell 172 = .ok (.iconst 0, 1) := by decide +kernel
theorem dX2_sell_173 : decode cX2_sell 173 = .ok (.istore 8, 2) := by decide +kernel
theorem dX2_sell_175 : decode cX2_sell 175 = .ok (.iconst 0, 1) := by decide +kernel
theorem dX2_sell_176 : decode cX2_sell 176 = .ok (.istore 9, 2) := by decide +kernel
theorem dX2_sell_178 : decode cX2_sell 178 = .ok (.iload 9, 2) := by decide +kernel
theorem dX2_sell_180 : decode cX2_sell 180 = .ok (.iconst 4, 1) := by decide +kernel
theorem dX2_sell_181 : decode cX2_sell 181 = .ok (.if_icmp .ge 130, 3) := by decide +kernel
theorem dX2_sell_184 : decode cX2_sell 184 = .ok (.iload 5, 2) := by decide +kernel
theorem dX2_sell_186 : decode cX2_sell 186 = .ok (.aload_n 0, 1) := by decide +kernel
theorem dX2_sell_187 : decode cX2_sell 187 = .ok (.getfield 35, 3) := by decide +kernel
theorem dX2_sell_190 : decode cX2_sell 190 = .ok (.iload_n 3, 1) := by decide +kernel
theorem dX2_sell_191 : decode cX2_sell 191 = .ok (.iload 9, 2) := by decide +kernel
theorem dX2_sell_193 : decode cX2_sell 193 = .ok (.iadd, 1) := by decide +kernel
theorem dX2_sell_194 : decode cX2_sell 194 = .ok (.iaload, 1) := by decide +kernel
theorem dX2_sell_195 : decode cX2_sell 195 = .ok (.imul, 1) := by decide +kernel
theorem dX2_sell_196 : decode cX2_sell 196 = .ok (.iload 4, 2) := by decide +kernel
theorem dX2_sell_198 : decode cX2_sell 198 = .ok (.idiv, 1) := by decide +kernel
theorem dX2_sell_199 : decode cX2_sell 199 = .ok (.aload_n 0, 1) := by decide +kernel
theorem dX2_sell_200 : decode cX2_sell 200 = .ok (.getfield 35, 3) := by decide +kernel
theorem dX2_sell_203 : decode cX2_sell 203 = .ok (.iload_n 3, 1) := by decide +kernel
theorem dX2_sell_204 : decode cX2_sell 204 = .ok (.iload 9, 2) := by decide +kernel
theorem dX2_sell_206 : decode cX2_sell 206 = .ok (.iadd, 1) := by decide +kernel
theorem dX2_sell_207 : decode cX2_sell 207 = .ok (.iaload, 1) := by decide +kernel
theorem dX2_sell_208 : decode cX2_sell 208 = .ok (.ifCond .le 15, 3) := by decide +kernel
theorem dX2_sell_211 : decode cX2_sell 211 = .ok (.iload_n 2, 1) := by decide +kernel
theorem dX2_sell_212 : decode cX2_sell 212 = .ok (.aload_n 0, 1) := by decide +kernel
theorem dX2_sell_213 : decode cX2_sell 213 = .ok (.getfield 113, 3) := by decide +kernel
theorem dX2_sell_216 : decode cX2_sell 216 = .ok (.imul, 1) := by decide +kernel
theorem dX2_sell_217 : decode cX2_sell 217 = .ok (.bipush 100, 2) := by decide +kernel
theorem dX2_sell_219 : decode cX2_sell 219 = .ok (.idiv, 1) := by decide +kernel
theorem dX2_sell_220 : decode cX2_sell 220 = .ok (.goto 4, 3) := by decide +kernel
theorem dX2_sell_223 : decode cX2_sell 223 = .ok (.iconst 0, 1) := by decide +kernel
theorem dX2_sell_224 : decode cX2_sell 224 = .ok (.iadd, 1) := by decide +kernel
theorem dX2_sell_225 : decode cX2_sell 225 = .ok (.iload 9, 2) := by decide +kernel
theorem dX2_sell_227 : decode cX2_sell 227 = .ok (.iload 6, 2) := by decide +kernel
theorem dX2_sell_229 : decode cX2_sell 229 = .ok (.if_icmp .ne 8, 3) := by decide +kernel
theorem dX2_sell_232 : decode cX2_sell 232 = .ok (.iload 7, 2) := by decide +kernel
theorem dX2_sell_234 : decode cX2_sell 234 = .ok (.goto 4, 3) := by decide +kernel
theorem dX2_sell_237 : decode cX2_sell 237 = .ok (.iconst 0, 1) := by decide +kernel
theorem dX2_sell_238 : decode cX2_sell 238 = .ok (.iadd, 1) := by decide +kernel
theorem dX2_sell_239 : decode cX2_sell 239 = .ok (.istore 10, 2) := by decide +kernel
theorem dX2_sell_241 : decode cX2_sell 241 = .ok (.iload 10, 2) := by decide +kernel
theorem dX2_sell_243 : decode cX2_sell 243 = .ok (.aload_n 0, 1) := by decide +kernel
theorem dX2_sell_244 : decode cX2_sell 244 = .ok (.getfield 38, 3) := by decide +kernel
theorem dX2_sell_247 : decode cX2_sell 247 = .ok (.iload 9, 2) := by decide +kernel
theorem dX2_sell_249 : decode cX2_sell 249 = .ok (.iaload, 1) := by decide +kernel
theorem dX2_sell_250 : decode cX2_sell 250 = .ok (.if_icmp .ge 8, 3) := by decide +kernel
theorem dX2_sell_253 : decode cX2_sell 253 = .ok (.iload 10, 2) := by decide +kernel
theorem dX2_sell_255 : decode cX2_sell 255 = .ok (.goto 10, 3) := by decide +kernel
theorem dX2_sell_258 : decode cX2_sell 258 = .ok (.aload_n 0, 1) := by decide +kernel
theorem dX2_sell_259 : decode cX2_sell 259 = .ok (.getfield 38, 3) := by decide +kernel
theorem dX2_sell_262 : decode cX2_sell 262 = .ok (.iload 9, 2) := by decide +kernel
theorem dX2_sell_264 : decode cX2_sell 264 = .ok (.iaload, 1) := by decide +kernel
theorem dX2_sell_265 : decode cX2_sell 265 = .ok (.istore 11, 2) := by decide +kernel
theorem dX2_sell_267 : decode cX2_sell 267 = .ok (.aload_n 0, 1) := by decide +kernel
theorem dX2_sell_268 : decode cX2_sell 268 = .ok (.getfield 38, 3) := by decide +kernel
theorem dX2_sell_271 : decode cX2_sell 271 = .ok (.iload 9, 2) := by decide +kernel
theorem dX2_sell_273 : decode cX2_sell 273 = .ok (.dup2, 1) := by decide +kernel
theorem dX2_sell_274 : decode cX2_sell 274 = .ok (.iaload, 1) := by decide +kernel
theorem dX2_sell_275 : decode cX2_sell 275 = .ok (.iload 11, 2) := by decide +kernel
theorem dX2_sell_277 : decode cX2_sell 277 = .ok (.isub, 1) := by decide +kernel
theorem dX2_sell_278 : decode cX2_sell 278 = .ok (.iastore, 1) := by decide +kernel
theorem dX2_sell_279 : decode cX2_sell 279 = .ok (.aload_n 0, 1) := by decide +kernel
theorem dX2_sell_280 : decode cX2_sell 280 = .ok (.getfield 41, 3) := by decide +kernel
theorem dX2_sell_283 : decode cX2_sell 283 = .ok (.iload 9, 2) := by decide +kernel
theorem dX2_sell_285 : decode cX2_sell 285 = .ok (.dup2, 1) := by decide +kernel
theorem dX2_sell_286 : decode cX2_sell 286 = .ok (.laload, 1) := by decide +kernel
theorem dX2_sell_287 : decode cX2_sell 287 = .ok (.iload 10, 2) := by decide +kernel
theorem dX2_sell_289 : decode cX2_sell 289 = .ok (.iload 11, 2) := by decide +kernel
theorem dX2_sell_291 : decode cX2_sell 291 = .ok (.isub, 1) := by decide +kernel
theorem dX2_sell_292 : decode cX2_sell 292 = .ok (.i2l, 1) := by decide +kernel
theorem dX2_sell_293 : decode cX2_sell 293 = .ok (.ladd, 1) := by decide +kernel
theorem dX2_sell_294 : decode cX2_sell 294 = .ok (.lastore, 1) := by decide +kernel
theorem dX2_sell_295 : decode cX2_sell 295 = .ok (.iload 8, 2) := by decide +kernel
theorem dX2_sell_297 : decode cX2_sell 297 = .ok (.iload 10, 2) := by decide +kernel
theorem dX2_sell_299 : decode cX2_sell 299 = .ok (.iload 11, 2) := by decide +kernel
theorem dX2_sell_301 : decode cX2_sell 301 = .ok (.isub, 1) := by decide +kernel
theorem dX2_sell_302 : decode cX2_sell 302 = .ok (.iadd, 1) := by decide +kernel
theorem dX2_sell_303 : decode cX2_sell 303 = .ok (.istore 8, 2) := by decide +kernel
theorem dX2_sell_305 : decode cX2_sell 305 = .ok (.iinc 9 1, 3) := by decide +kernel
theorem dX2_sell_308 : decode cX2_sell 308 = .ok (.goto (-130), 3) := by decide +kernel
theorem dX2_sell_311 : decode cX2_sell 311 = .ok (.iload 8, 2) := by decide +kernel
theorem dX2_sell_313 : decode cX2_sell 313 = .ok (.ireturn, 1) := by decide +kernel
set_option maxRecDepth 20000 in
theorem ggX2_paid_X2_asks : GoodIn wsX2_paid wsX2_asks := goodIn_r _ [6, 7, 8, 5, 9, 10, 11, 12, 13, 14, 15, 16, 17, 18, 19, 20, 21, 22, 23, 24, 25, 26, 27, 28, 29, 30, 31, 32, 33, 34, 35, 36] (by decide +kernel) (by decide +kernel)
set_option maxRecDepth 20000 in
theorem gX2_paid_X2_asks : GoodIn wsX2_paid (wsV RX2 103 RX2 yX2_asks wsX2_asks) := goodIn_app (goodIn_of _ (by decide +kernel)) ggX2_paid_X2_asks
theorem dX2_paid_0 : decode cX2_paid 0 = .ok (.aload_n 0, 1) := by decide +kernel
theorem dX2_paid_1 : decode cX2_paid 1 = .ok (.iload_n 1, 1) := by decide +kernel
theorem dX2_paid_2 : decode cX2_paid 2 = .ok (.invokevirtual 103, 3) := by decide +kernel
theorem dX2_paid_5 : decode cX2_paid 5 = .ok (.ifCond .eq 12, 3) := by decide +kernel
theorem dX2_paid_8 : decode cX2_paid 8 = .ok (.aload_n 0, 1) := by decide +kernel
theorem dX2_paid_9 : decode cX2_paid 9 = .ok (.getfield 41, 3) := by decide +kernel
theorem dX2_paid_12 : decode cX2_paid 12 = .ok (.iload_n 1, 1) := by decide +kernel
theorem dX2_paid_13 : decode cX2_paid 13 = .ok (.laload, 1) := by decide +kernel
theorem dX2_paid_14 : decode cX2_paid 14 = .ok (.goto 4, 3) := by decide +kernel
theorem dX2_paid_17 : decode cX2_paid 17 = .ok (.lconst 0, 1) := by decide +kernel
theorem dX2_paid_18 : decode cX2_paid 18 = .ok (.lreturn, 1) := by decide +kernel
set_option maxRecDepth 20000 in
theorem ggX2_left_X2_asks : GoodIn wsX2_left wsX2_asks := goodIn_r _ [6, 7, 8, 5, 9, 10, 11, 12, 13, 14, 15, 16, 17, 18, 19, 20, 21, 22, 23, 24, 25, 26, 27, 28, 29, 30, 31, 32, 33, 34, 35, 36] (by decide +kernel) (by decide +kernel)
set_option maxRecDepth 20000 in
theorem gX2_left_X2_asks : GoodIn wsX2_left (wsV RX2 103 RX2 yX2_asks wsX2_asks) := goodIn_app (goodIn_of _ (by decide +kernel)) ggX2_left_X2_asks
theorem dX2_left_0 : decode cX2_left 0 = .ok (.aload_n 0, 1) := by decide +kernel
theorem dX2_left_1 : decode cX2_left 1 = .ok (.iload_n 1, 1) := by decide +kernel
theorem dX2_left_2 : decode cX2_left 2 = .ok (.invokevirtual 103, 3) := by decide +kernel
theorem dX2_left_5 : decode cX2_left 5 = .ok (.ifCond .eq 12, 3) := by decide +kernel
theorem dX2_left_8 : decode cX2_left 8 = .ok (.aload_n 0, 1) := by decide +kernel
theorem dX2_left_9 : decode cX2_left 9 = .ok (.getfield 38, 3) := by decide +kernel
theorem dX2_left_12 : decode cX2_left 12 = .ok (.iload_n 1, 1) := by decide +kernel
theorem dX2_left_13 : decode cX2_left 13 = .ok (.iaload, 1) := by decide +kernel
theorem dX2_left_14 : decode cX2_left 14 = .ok (.goto 4, 3) := by decide +kernel
theorem dX2_left_17 : decode cX2_left 17 = .ok (.iconst 0, 1) := by decide +kernel
theorem dX2_left_18 : decode cX2_left 18 = .ok (.ireturn, 1) := by decide +kernel
theorem dJ9_max_7cf53_0 : decode cJ9_max_7cf53 0 = .ok (.iload_n 0, 1) := by decide +kernel
theorem dJ9_max_7cf53_1 : decode cJ9_max_7cf53 1 = .ok (.iload_n 1, 1) := by decide +kernel
theorem dJ9_max_7cf53_2 : decode cJ9_max_7cf53 2 = .ok (.if_icmp .lt 7, 3) := by decide +kernel
theorem dJ9_max_7cf53_5 : decode cJ9_max_7cf53 5 = .ok (.iload_n 0, 1) := by decide +kernel
theorem dJ9_max_7cf53_6 : decode cJ9_max_7cf53 6 = .ok (.goto 4, 3) := by decide +kernel
theorem dJ9_max_7cf53_9 : decode cJ9_max_7cf53 9 = .ok (.iload_n 1, 1) := by decide +kernel
theorem dJ9_max_7cf53_10 : decode cJ9_max_7cf53 10 = .ok (.ireturn, 1) := by decide +kernel
theorem dJ9_min_7cf53_0 : decode cJ9_min_7cf53 0 = .ok (.iload_n 0, 1) := by decide +kernel
theorem dJ9_min_7cf53_1 : decode cJ9_min_7cf53 1 = .ok (.iload_n 1, 1) := by decide +kernel
theorem dJ9_min_7cf53_2 : decode cJ9_min_7cf53 2 = .ok (.if_icmp .gt 7, 3) := by decide +kernel
theorem dJ9_min_7cf53_5 : decode cJ9_min_7cf53 5 = .ok (.iload_n 0, 1) := by decide +kernel
theorem dJ9_min_7cf53_6 : decode cJ9_min_7cf53 6 = .ok (.goto 4, 3) := by decide +kernel
theorem dJ9_min_7cf53_9 : decode cJ9_min_7cf53 9 = .ok (.iload_n 1, 1) := by decide +kernel
theorem dJ9_min_7cf53_10 : decode cJ9_min_7cf53 10 = .ok (.ireturn, 1) := by decide +kernel
end
section
abbrev vwCl : List vw_C := [(RX0, TX0, 8), (RX1, TX1, 9), (RX2, TX2, 19)]
/-! ===== the core: worlds passed whole, contracts over them, calls ===== -/
/-- the class ids of the five kinds of array -/
def TYS (cy : Nat → ClassId) : List (ClassId × FieldType) := [(cy 0, .int), (cy 1, .long), (cy 2, .boolean), (cy 3, .object "CoauthorText$Sign"), (cy 4, .array .int)]
def XKe (E : String) (U : State) : Prop := va_Nw (.castable E E) U ∧ va_Nw (.declares ⟨"java/lang/RuntimeException", "<init>", "(Ljava/lang/String;)V"⟩) U ∧ va_Nw (.declares ⟨"java/lang/Exception", "<init>", "(Ljava/lang/String;)V"⟩) U ∧ va_Nw (.declares ⟨"java/lang/Throwable", "<init>", "(Ljava/lang/String;)V"⟩) U
theorem XKe.warm {E : String} {s U : State} (hW : s.WarmedH U.vm) (h : XKe E s) : XKe E U := ⟨va_Nw.warmC hW h.1, va_Nw.warmD hW h.2.1, va_Nw.warmD hW h.2.2.1, va_Nw.warmD hW h.2.2.2⟩
def eIAE : String := "java/lang/IllegalArgumentException"
def eISE : String := "java/lang/IllegalStateException"
def eIOB : String := "java/lang/IndexOutOfBoundsException"
def XKf (U : State) : Prop := va_Nw (.fieldLinkNest RX1 113 RX0 "next" "LCoauthorText$Sign;" RX1) U ∧ va_Nw (.fieldLinkNest RX1 122 RX0 "letter" "I" RX1) U ∧ va_Nw (.fieldLinkNest RX1 128 RX0 "author" "I" RX1) U ∧ va_Nw (.fieldLinkNest RX1 131 RX0 "ahead" "LCoauthorText$Sign;" RX1) U ∧ va_Nw (.fieldLinkNest RX1 159 RX0 "stamp" "I" RX1) U ∧ va_Nw (.fieldLinkNest RX1 80 RX0 "number" "I" RX1) U
theorem XKf.warm {s U : State} (hW : s.WarmedH U.vm) (h : XKf s) : XKf U := ⟨va_Nw.warmF hW h.1, va_Nw.warmF hW h.2.1, va_Nw.warmF hW h.2.2.1, va_Nw.warmF hW h.2.2.2.1, va_Nw.warmF hW h.2.2.2.2.1, va_Nw.warmF hW h.2.2.2.2.2⟩
def XKm (U : State) : Prop := va_Nw (.methodLinkNest RX1 125 yX0_isInTextOf RX1) U ∧ va_Nw (.methodLinkNest RX1 73 yX0_init RX1) U ∧ va_Nw (.methodLinkNest RX1 83 yX0_setRemoved RX1) U ∧ va_Nw (.methodLinkNest RX1 91 yX0_isRemovedIn RX1) U ∧ va_Nw (.methodLinkNest RX1 106 yX0_isKnownIn RX1) U ∧ va_Nw (.methodLinkNest RX1 109 yX0_bringNewer RX1) U
theorem XKm.warm {s U : State} (hW : s.WarmedH U.vm) (h : XKm s) : XKm U := ⟨va_Nw.warmM hW h.1, va_Nw.warmM hW h.2.1, va_Nw.warmM hW h.2.2.1, va_Nw.warmM hW h.2.2.2.1, va_Nw.warmM hW h.2.2.2.2.1, va_Nw.warmM hW h.2.2.2.2.2⟩
def XKt (U : State) : Prop := ∃ t : Nat → Nat, vk_R RX1 103 "a copy learns from another one" (t 0) U ∧ vk_R RX1 134 "the text is empty" (t 1) U ∧ vk_R RX1 136 "all editions were printed" (t 2) U ∧ vk_R RX1 153 "out of range" (t 3) U ∧ vk_R RX1 155 "no such edition" (t 4) U ∧ vk_R RX1 157 "no such sign" (t 5) U ∧ vk_R RX1 55 "no such place" (t 6) U ∧ vk_R RX1 66 "all signs were inserted" (t 7) U ∧ vk_R RX1 95 "the copy does not know the sign as removed" (t 8) U
theorem XKt.warm {s U : State} (hW : s.WarmedH U.vm) (h : XKt s) : XKt U := by
  obtain ⟨t, h0, h1, h2, h3, h4, h5, h6, h7, h8⟩ := h
  exact ⟨t, vk_R.warm hW h0, vk_R.warm hW h1, vk_R.warm hW h2, vk_R.warm hW h3, vk_R.warm hW h4, vk_R.warm hW h5, vk_R.warm hW h6, vk_R.warm hW h7, vk_R.warm hW h8⟩
def XKc (U : State) : Prop := va_Nc eIAE eISE U ∧ va_Nc eIAE eIOB U ∧ va_Nc eISE eIAE U ∧ va_Nc eISE eIOB U ∧ va_Nc eIOB eIAE U ∧ va_Nc eIOB eISE U
theorem XKc.moved {s U : State} (hW : s.vm.Alike U.vm) (h : XKc s) : XKc U := ⟨va_Nc.moved hW h.1, va_Nc.moved hW h.2.1, va_Nc.moved hW h.2.2.1, va_Nc.moved hW h.2.2.2.1, va_Nc.moved hW h.2.2.2.2.1, va_Nc.moved hW h.2.2.2.2.2⟩
def XKw (U : State) : Prop := XKe eIAE U ∧ XKe eISE U ∧ XKe eIOB U ∧ XKf U ∧ XKm U ∧ XKt U ∧ XKc U ∧ va_AO RX0 U ∧ va_AOA .int U
/-- what every method takes along: statics of Throwable, links, texts -/
def XK (A : Nat → Prop) (U : State) (H : Heap) : Prop := vx_Zq Bundle.tN "UNASSIGNED_STACK" Bundle.steD A U H ∧ vx_Zq Bundle.tN "SUPPRESSED_SENTINEL" Bundle.listD A U H ∧ XKw U
def wPre (D : va_G) (cy : Nat → ClassId) (w : va_W) (sz : Nat) (U : State) : Prop := U.heap.size = sz ∧ va_P D vwCl w U.heap ∧ va_K D vwCl (TYS cy) U ∧ va_D (fun _ => True) w ∧ XK (va_A w sz) U U.heap
def wB (D : va_G) (cy : Nat → ClassId) (A : Nat → Prop) (w : va_W) (t : State) : Prop := va_P D vwCl w t.heap ∧ va_K D vwCl (TYS cy) t ∧ va_D A w
theorem va_AOA.moved {ty : FieldType} {u U : State} (hvm : u.vm.Alike U.vm) (h : va_AOA ty u) : va_AOA ty U := by
  have h2 : (Cond.arrayOver (.array ty)).before #[] (u.setVm U.vm) = true := by
    rw [Cond.arrayOver_setVmC hvm]
    exact h
  exact h2
theorem XKw.warm {s U : State} (hW : s.WarmedH U.vm) (h : XKw s) : XKw U := ⟨h.1.warm hW, h.2.1.warm hW, h.2.2.1.warm hW, h.2.2.2.1.warm hW, h.2.2.2.2.1.warm hW, h.2.2.2.2.2.1.warm hW, h.2.2.2.2.2.2.1.moved hW.alike, h.2.2.2.2.2.2.2.1.moved hW.alike, va_AOA.moved hW.alike h.2.2.2.2.2.2.2.2⟩
theorem wPre_blind {D : va_G} {cy : Nat → ClassId} {w : va_W} {sz : Nat} {av : List Value} : FrameBlind (va_Pc av (wPre D cy w sz)) := fun a U g mk q =>
  ⟨q.1, q.2.1, q.2.2.1, va_K.moved (u := U) (U := U.calling g mk a) (Vm.Alike.refl U.vm) q.2.2.2.1, q.2.2.2.2.1, vx_Zq.moved (u := U) (U := U.calling g mk a) (Vm.Alike.refl U.vm) q.2.2.2.2.2.1, vx_Zq.moved (u := U) (U := U.calling g mk a) (Vm.Alike.refl U.vm) q.2.2.2.2.2.2.1, XKw.warm (s := U) (U := U.calling g mk a) (State.WarmedH.refl U) q.2.2.2.2.2.2.2⟩
theorem wA {A0 : Nat → Prop} {w : va_W} {H0 H : Heap} {locs : List Loc} (hD : va_D A0 w) (hS : va_S A0 H0 H locs) (hA : ∀ q, H0.size ≤ q → A0 q) : ∀ q, va_A w H.size q → A0 q := by
  intro q h
  rcases h with ⟨k, e, h⟩ | h
  · exact hD.2 k (q, e) h
  · exact hA q (Nat.le_trans hS.1 h)
theorem wPre_call {D : va_G} {cy : Nat → ClassId} {w : va_W} {s : State} {H : Heap} {locs : List Loc} {A0 : Nat → Prop} (hP : va_P D vwCl w H) (hK : va_K D vwCl (TYS cy) s) (hD : va_D A0 w) (hS : va_S A0 s.heap H locs) (hA : ∀ q, s.heap.size ≤ q → A0 q) (hX : XK A0 s s.heap) : ∀ U : State, U.heap = H → s.WarmedH U.vm → wPre D cy w H.size U := fun U hU hW =>
  ⟨by rw [hU], by rw [hU]; exact hP, va_K.moved hW.alike hK, hD.weaken (fun _ _ _ _ => trivial), by rw [hU]; exact vx_Zq.moved hW.alike ((hX.1.kept hS.2.1).narrow (wA hD hS hA)), by rw [hU]; exact vx_Zq.moved hW.alike ((hX.2.1.kept hS.2.1).narrow (wA hD hS hA)), hX.2.2.warm hW⟩
theorem pV {D : va_G} {cy : Nat → ClassId} {w : va_W} {s : State} {H : Heap} {locs : List Loc} {A0 : Nat → Prop} {C : String} {b : Addr} {As : List Value} (hP : va_P D vwCl w H) (hK : va_K D vwCl (TYS cy) s) (hD : va_D A0 w) (hS : va_S A0 s.heap H locs) (hA : ∀ q, s.heap.size ≤ q → A0 q) (hX : XK A0 s s.heap) (hr : ∃ cellB : Cell, H[b]? = some cellB ∧ cellB.vm.isStatics = false ∧ s.vm.findClass C = some cellB.cls) : PreV s H C b (va_Pc (.ref b :: As) (wPre D cy w H.size)) As :=
  ⟨wPre_blind, hr, fun U hU hW => ⟨rfl, wPre_call hP hK hD hS hA hX U hU hW⟩⟩
theorem pS {D : va_G} {cy : Nat → ClassId} {w : va_W} {s : State} {H : Heap} {locs : List Loc} {A0 : Nat → Prop} {As : List Value} (hP : va_P D vwCl w H) (hK : va_K D vwCl (TYS cy) s) (hD : va_D A0 w) (hS : va_S A0 s.heap H locs) (hA : ∀ q, s.heap.size ≤ q → A0 q) (hX : XK A0 s s.heap) : PreS s H (va_Pc As (wPre D cy w H.size)) As :=
  ⟨wPre_blind, fun U hU hW => ⟨rfl, wPre_call hP hK hD hS hA hX U hU hW⟩⟩
/-- contracts: a method that answers an int (v: nothing, l: a long, q: a reference or null) -/
def CI (l : Launch) (y : MethodName) (ws : List Cond) (rm : Room) (D : va_G) (cy : Nat → ClassId) (av : List Value) (w : va_W) (post : Int32 → va_W → Prop) (mc ms : Nat) : Prop := ∀ sz : Nat, Met l y ws rm (va_Pc av (wPre D cy w sz)) (va_Qi post (fun w' t => wB D cy (va_A w sz) w' t) (va_A w sz)) mc ms (va_A w sz)
def CL (l : Launch) (y : MethodName) (ws : List Cond) (rm : Room) (D : va_G) (cy : Nat → ClassId) (av : List Value) (w : va_W) (post : Int64 → va_W → Prop) (mc ms : Nat) : Prop := ∀ sz : Nat, Met l y ws rm (va_Pc av (wPre D cy w sz)) (va_Ql post (fun w' t => wB D cy (va_A w sz) w' t) (va_A w sz)) mc ms (va_A w sz)
def CV (l : Launch) (y : MethodName) (ws : List Cond) (rm : Room) (D : va_G) (cy : Nat → ClassId) (av : List Value) (w : va_W) (post : va_W → Prop) (mc ms : Nat) : Prop := ∀ sz : Nat, Met l y ws rm (va_Pc av (wPre D cy w sz)) (va_Qv post (fun w' t => wB D cy (va_A w sz) w' t) (va_A w sz)) mc ms (va_A w sz)
/-- .. and such as may throw: the world is then as it was -/
def xC (D : va_G) (cy : Nat → ClassId) (px : String → Prop) (w : va_W) (sz : Nat) : String → State → State → Prop := vx_X (fun _ : Unit => True) (fun E _ t => px E ∧ wB D cy (va_A w sz) w t) (va_A w sz)
def TI (l : Launch) (y : MethodName) (ws : List Cond) (rm : Room) (D : va_G) (cy : Nat → ClassId) (av : List Value) (w : va_W) (post : Int32 → va_W → Prop) (px : String → Prop) (mc ms : Nat) : Prop := ∀ sz : Nat, vx_Met l y ws rm (va_Pc av (wPre D cy w sz)) (va_Qi post (fun w' t => wB D cy (va_A w sz) w' t) (va_A w sz)) (xC D cy px w sz) mc ms (va_A w sz)
def TL (l : Launch) (y : MethodName) (ws : List Cond) (rm : Room) (D : va_G) (cy : Nat → ClassId) (av : List Value) (w : va_W) (post : Int64 → va_W → Prop) (px : String → Prop) (mc ms : Nat) : Prop := ∀ sz : Nat, vx_Met l y ws rm (va_Pc av (wPre D cy w sz)) (va_Ql post (fun w' t => wB D cy (va_A w sz) w' t) (va_A w sz)) (xC D cy px w sz) mc ms (va_A w sz)
def TV (l : Launch) (y : MethodName) (ws : List Cond) (rm : Room) (D : va_G) (cy : Nat → ClassId) (av : List Value) (w : va_W) (post : va_W → Prop) (px : String → Prop) (mc ms : Nat) : Prop := ∀ sz : Nat, vx_Met l y ws rm (va_Pc av (wPre D cy w sz)) (va_Qv post (fun w' t => wB D cy (va_A w sz) w' t) (va_A w sz)) (xC D cy px w sz) mc ms (va_A w sz)
def TQ (l : Launch) (y : MethodName) (ws : List Cond) (rm : Room) (D : va_G) (cy : Nat → ClassId) (av : List Value) (w : va_W) (post : Option Nat → va_W → Prop) (px : String → Prop) (mc ms : Nat) : Prop := ∀ sz : Nat, vx_Met l y ws rm (va_Pc av (wPre D cy w sz)) (va_Qq post (fun w' t => wB D cy (va_A w sz) w' t) (va_A w sz)) (xC D cy px w sz) mc ms (va_A w sz)
/-- what stands at a body's entry -/
def Ent (p : Program) (own : String) (ws : List Cond) (cc : ByteArray) (maxL : Nat) (ret : Option FieldType) (D : va_G) (cy : Nat → ClassId) (s : State) (m : MethodId) (args : Array Value) (meth : Method) (c : Code) (w : va_W) (A : Nat → Prop) : Prop :=
  p.tables.exec = Jvm.exec ∧ c.code = cc ∧ c.maxLocals = maxL ∧ s.vm.findClass own = some m.cls ∧ (∀ w ∈ ws, w.before args s = true) ∧ meth.sig.returnType = ret ∧ meth.locks = false ∧ (∀ q, s.heap.size ≤ q → A q) ∧ va_S A s.heap s.heap [] ∧ va_P D vwCl w s.heap ∧ va_K D vwCl (TYS cy) s ∧ va_D A w ∧ XK A s s.heap
section COREB
variable {l : Launch} {y : MethodName} {ws ws' : List Cond} {rm : Room} {D : va_G} {cy : Nat → ClassId} {av : List Value} {w : va_W} {mc ms maxL : Nat} {cc : ByteArray} {ret : Option FieldType} {px : String → Prop}
theorem Ent.of {p : Program} {e : Env} {s s₁ : State} {m : MethodId} {below : List Frame} {meth : Method} {c : Code} {sz : Nat} {args : Array Value} (B : BodyLoose p l y (headSpec ws rm) cc maxL ret e s m args below meth c s₁) (hml : c.maxLocals = maxL) (hv : va_Pc av (wPre D cy w sz) args s) : args = av.toArray ∧ s.heap.size = sz ∧ Ent p y.cls ws cc maxL ret D cy s m args meth c w (va_A w sz) := by
  obtain ⟨rfl, hsz, hP, hK, hD0, hX⟩ := hv
  subst hsz
  exact ⟨rfl, rfl, B.exec, B.bytes, hml, findClass_of_methodNamed B.named, atoms_spec (ws := ws) B.pre, B.returns, B.notSynchronized, fun q h => Or.inr h, va_S.rf, hP, hK, hD0.self, hX⟩
theorem CI.of {post : Int32 → va_W → Prop} (hy : plainName y.cls = true) (hw : ws = Cond.code y cc maxL ret :: ws') (hn : (lg_sl av).length ≤ maxL)
    (body : ∀ (p : Program) (e : Env) (s : State) (m : MethodId) (below : List Frame) (meth : Method) (c : Code) (A : Nat → Prop) (ls : Array Slot), Ent p y.cls ws cc maxL ret D cy s m av.toArray meth c w A → lv_has ls maxL (lv_args 0 av) →
      W p l e rm s m av.toArray below meth c s.heap [] 0 0 (MQ below (va_Qi post (fun w' t => wB D cy A w' t) A) av.toArray s mc ms A) (F0 m 0 ls [])) : CI l y ws rm D cy av w post mc ms := fun sz => by
  refine Met.ofW (cc := cc) (maxL := maxL) (ret := ret) hy hw ?_
  intro p e s m args below meth c s₁ B hml hv
  obtain ⟨rfl, hsz, E⟩ := Ent.of B hml hv
  have hl := lv_entry av (n := maxL) hn
  rw [lg_entry_eq]
  exact body p e s m below meth c _ _ E hl
theorem CL.of {post : Int64 → va_W → Prop} (hy : plainName y.cls = true) (hw : ws = Cond.code y cc maxL ret :: ws') (hn : (lg_sl av).length ≤ maxL)
    (body : ∀ (p : Program) (e : Env) (s : State) (m : MethodId) (below : List Frame) (meth : Method) (c : Code) (A : Nat → Prop) (ls : Array Slot), Ent p y.cls ws cc maxL ret D cy s m av.toArray meth c w A → lv_has ls maxL (lv_args 0 av) →
      W p l e rm s m av.toArray below meth c s.heap [] 0 0 (MQ below (va_Ql post (fun w' t => wB D cy A w' t) A) av.toArray s mc ms A) (F0 m 0 ls [])) : CL l y ws rm D cy av w post mc ms := fun sz => by
  refine Met.ofW (cc := cc) (maxL := maxL) (ret := ret) hy hw ?_
  intro p e s m args below meth c s₁ B hml hv
  obtain ⟨rfl, hsz, E⟩ := Ent.of B hml hv
  have hl := lv_entry av (n := maxL) hn
  rw [lg_entry_eq]
  exact body p e s m below meth c _ _ E hl
theorem CV.of {post : va_W → Prop} (hy : plainName y.cls = true) (hw : ws = Cond.code y cc maxL ret :: ws') (hn : (lg_sl av).length ≤ maxL)
    (body : ∀ (p : Program) (e : Env) (s : State) (m : MethodId) (below : List Frame) (meth : Method) (c : Code) (A : Nat → Prop) (ls : Array Slot), Ent p y.cls ws cc maxL ret D cy s m av.toArray meth c w A → lv_has ls maxL (lv_args 0 av) →
      W p l e rm s m av.toArray below meth c s.heap [] 0 0 (MQ below (va_Qv post (fun w' t => wB D cy A w' t) A) av.toArray s mc ms A) (F0 m 0 ls [])) : CV l y ws rm D cy av w post mc ms := fun sz => by
  refine Met.ofW (cc := cc) (maxL := maxL) (ret := ret) hy hw ?_
  intro p e s m args below meth c s₁ B hml hv
  obtain ⟨rfl, hsz, E⟩ := Ent.of B hml hv
  have hl := lv_entry av (n := maxL) hn
  rw [lg_entry_eq]
  exact body p e s m below meth c _ _ E hl
def xQ (D : va_G) (cy : Nat → ClassId) (px : String → Prop) (w : va_W) (A : Nat → Prop) : String → State → State → Prop := vx_X (fun _ : Unit => True) (fun E _ t => px E ∧ wB D cy A w t) A
theorem TI.of {post : Int32 → va_W → Prop} (hy : plainName y.cls = true) (hw : ws = Cond.code y cc maxL ret :: ws') (hn : (lg_sl av).length ≤ maxL)
    (body : ∀ (p : Program) (e : Env) (s : State) (m : MethodId) (below : List Frame) (meth : Method) (c : Code) (A : Nat → Prop) (ls : Array Slot), Ent p y.cls ws cc maxL ret D cy s m av.toArray meth c w A → (∀ x ∈ c.exceptionTable.toList, False) → lv_has ls maxL (lv_args 0 av) →
      W p l e rm s m av.toArray below meth c s.heap [] 0 0 (vx_MQ below (va_Qi post (fun w' t => wB D cy A w' t) A) (xQ D cy px w A) av.toArray s mc ms A) (F0 m 0 ls [])) : TI l y ws rm D cy av w post px mc ms := fun sz => by
  refine vx_ofW (cc := cc) (maxL := maxL) (ret := ret) hy hw ?_
  intro p e s m args below meth c s₁ B hml ht hv
  obtain ⟨rfl, hsz, E⟩ := Ent.of B hml hv
  have hl := lv_entry av (n := maxL) hn
  rw [lg_entry_eq]
  exact body p e s m below meth c _ _ E ht hl
theorem TL.of {post : Int64 → va_W → Prop} (hy : plainName y.cls = true) (hw : ws = Cond.code y cc maxL ret :: ws') (hn : (lg_sl av).length ≤ maxL)
    (body : ∀ (p : Program) (e : Env) (s : State) (m : MethodId) (below : List Frame) (meth : Method) (c : Code) (A : Nat → Prop) (ls : Array Slot), Ent p y.cls ws cc maxL ret D cy s m av.toArray meth c w A → (∀ x ∈ c.exceptionTable.toList, False) → lv_has ls maxL (lv_args 0 av) →
      W p l e rm s m av.toArray below meth c s.heap [] 0 0 (vx_MQ below (va_Ql post (fun w' t => wB D cy A w' t) A) (xQ D cy px w A) av.toArray s mc ms A) (F0 m 0 ls [])) : TL l y ws rm D cy av w post px mc ms := fun sz => by
  refine vx_ofW (cc := cc) (maxL := maxL) (ret := ret) hy hw ?_
  intro p e s m args below meth c s₁ B hml ht hv
  obtain ⟨rfl, hsz, E⟩ := Ent.of B hml hv
  have hl := lv_entry av (n := maxL) hn
  rw [lg_entry_eq]
  exact body p e s m below meth c _ _ E ht hl
theorem TV.of {post : va_W → Prop} (hy : plainName y.cls = true) (hw : ws = Cond.code y cc maxL ret :: ws') (hn : (lg_sl av).length ≤ maxL)
    (body : ∀ (p : Program) (e : Env) (s : State) (m : MethodId) (below : List Frame) (meth : Method) (c : Code) (A : Nat → Prop) (ls : Array Slot), Ent p y.cls ws cc maxL ret D cy s m av.toArray meth c w A → (∀ x ∈ c.exceptionTable.toList, False) → lv_has ls maxL (lv_args 0 av) →
      W p l e rm s m av.toArray below meth c s.heap [] 0 0 (vx_MQ below (va_Qv post (fun w' t => wB D cy A w' t) A) (xQ D cy px w A) av.toArray s mc ms A) (F0 m 0 ls [])) : TV l y ws rm D cy av w post px mc ms := fun sz => by
  refine vx_ofW (cc := cc) (maxL := maxL) (ret := ret) hy hw ?_
  intro p e s m args below meth c s₁ B hml ht hv
  obtain ⟨rfl, hsz, E⟩ := Ent.of B hml hv
  have hl := lv_entry av (n := maxL) hn
  rw [lg_entry_eq]
  exact body p e s m below meth c _ _ E ht hl
theorem TQ.of {post : Option Nat → va_W → Prop} (hy : plainName y.cls = true) (hw : ws = Cond.code y cc maxL ret :: ws') (hn : (lg_sl av).length ≤ maxL)
    (body : ∀ (p : Program) (e : Env) (s : State) (m : MethodId) (below : List Frame) (meth : Method) (c : Code) (A : Nat → Prop) (ls : Array Slot), Ent p y.cls ws cc maxL ret D cy s m av.toArray meth c w A → (∀ x ∈ c.exceptionTable.toList, False) → lv_has ls maxL (lv_args 0 av) →
      W p l e rm s m av.toArray below meth c s.heap [] 0 0 (vx_MQ below (va_Qq post (fun w' t => wB D cy A w' t) A) (xQ D cy px w A) av.toArray s mc ms A) (F0 m 0 ls [])) : TQ l y ws rm D cy av w post px mc ms := fun sz => by
  refine vx_ofW (cc := cc) (maxL := maxL) (ret := ret) hy hw ?_
  intro p e s m args below meth c s₁ B hml ht hv
  obtain ⟨rfl, hsz, E⟩ := Ent.of B hml hv
  have hl := lv_entry av (n := maxL) hn
  rw [lg_entry_eq]
  exact body p e s m below meth c _ _ E ht hl
end COREB
end
section
section COREC
variable {p : Program} {l : Launch} {e : Env} {R : Room} {s : State} {m : MethodId} {args : Array Value} {below : List Frame} {meth : Method} {c : Code} {H : Heap} {locs : List Loc} {cells slots : Nat} {Q : State → Prop}
variable {cc : ByteArray} {pc : Nat} {ls : Array Slot} {rest st0 : List Value} {D : va_G} {cy : Nat → ClassId} {A : Nat → Prop} {w : va_W} {mc ms : Nat} {a : Array Value}
theorem wB_at (hP : va_P D vwCl w H) (hK : va_K D vwCl (TYS cy) s) (hD : va_D A w) (t : State) (ht : t.heap = H) (hW : s.vm.Alike t.vm) : wB D cy A w t := ⟨by rw [ht]; exact hP, va_K.moved hW hK, hD⟩
theorem C_iret {post : Int32 → va_W → Prop} {v : Int32} (hx : p.tables.exec = Jvm.exec) (hb : c.code = cc) (hr : meth.sig.returnType = some .int) (hlocks : meth.locks = false) (hS : va_S A s.heap H locs) (hP : va_P D vwCl w H) (hK : va_K D vwCl (TYS cy) s) (hD : va_D A w) (hc : cells ≤ mc) (hs : slots ≤ ms) (hdg : decode cc pc = .ok (.ireturn, 1)) (hpost : post v w) :
    W p l e R s m args below meth c H locs cells slots (MQ below (va_Qi post (fun w' t => wB D cy A w' t) A) args s mc ms A) (F0 m pc ls [.int v]) :=
  W.widen hc hs (W.iret hx hb hr (fun t ht hW => ⟨⟨v, w, rfl, hpost, wB_at hP hK hD t ht hW.alike⟩, hS.F ht⟩) hS.2.2 hdg hlocks)
theorem C_zret {post : Int32 → va_W → Prop} {v : Int32} (hx : p.tables.exec = Jvm.exec) (hb : c.code = cc) (hr : meth.sig.returnType = some .boolean) (hlocks : meth.locks = false) (hS : va_S A s.heap H locs) (hP : va_P D vwCl w H) (hK : va_K D vwCl (TYS cy) s) (hD : va_D A w) (hc : cells ≤ mc) (hs : slots ≤ ms) (hdg : decode cc pc = .ok (.ireturn, 1)) (hn : narrow .boolean (.int v) = .int v) (hpost : post v w) :
    W p l e R s m args below meth c H locs cells slots (MQ below (va_Qi post (fun w' t => wB D cy A w' t) A) args s mc ms A) (F0 m pc ls [.int v]) :=
  W.widen hc hs (W.zret hx hb hr hn (fun t ht hW => ⟨⟨v, w, rfl, hpost, wB_at hP hK hD t ht hW.alike⟩, hS.F ht⟩) hS.2.2 hdg hlocks)
theorem C_lret {post : Int64 → va_W → Prop} {v : Int64} (hx : p.tables.exec = Jvm.exec) (hb : c.code = cc) (hr : meth.sig.returnType = some .long) (hlocks : meth.locks = false) (hS : va_S A s.heap H locs) (hP : va_P D vwCl w H) (hK : va_K D vwCl (TYS cy) s) (hD : va_D A w) (hc : cells ≤ mc) (hs : slots ≤ ms) (hdg : decode cc pc = .ok (.lreturn, 1)) (hpost : post v w) :
    W p l e R s m args below meth c H locs cells slots (MQ below (va_Ql post (fun w' t => wB D cy A w' t) A) args s mc ms A) (F0 m pc ls [.long v]) :=
  W.widen hc hs (W.lret hx hb hr (fun t ht hW => ⟨⟨v, w, rfl, hpost, wB_at hP hK hD t ht hW.alike⟩, hS.F ht⟩) hS.2.2 hdg hlocks)
theorem C_vret {post : va_W → Prop} (hx : p.tables.exec = Jvm.exec) (hb : c.code = cc) (hr : meth.sig.returnType = none) (hlocks : meth.locks = false) (hS : va_S A s.heap H locs) (hP : va_P D vwCl w H) (hK : va_K D vwCl (TYS cy) s) (hD : va_D A w) (hc : cells ≤ mc) (hs : slots ≤ ms) (hdg : decode cc pc = .ok (.return_, 1)) (hpost : post w) :
    W p l e R s m args below meth c H locs cells slots (MQ below (va_Qv post (fun w' t => wB D cy A w' t) A) args s mc ms A) (F0 m pc ls []) :=
  W.widen hc hs (W.vret hx hb hr (fun t ht hW => ⟨⟨w, rfl, hpost, wB_at hP hK hD t ht hW.alike⟩, hS.F ht⟩) hS.2.2 hdg hlocks)
theorem C_qret {post : Option Nat → va_W → Prop} {v : Option Nat} {rt : FieldType} (hx : p.tables.exec = Jvm.exec) (hb : c.code = cc) (hr : meth.sig.returnType = some rt) (hrt : (∃ n, rt = .object n) ∨ ∃ t, rt = .array t) (hlocks : meth.locks = false) (hS : va_S A s.heap H locs) (hP : va_P D vwCl w H) (hK : va_K D vwCl (TYS cy) s) (hD : va_D A w) (hc : cells ≤ mc) (hs : slots ≤ ms) (hdg : decode cc pc = .ok (.areturn, 1)) (hpost : post v w) :
    W p l e R s m args below meth c H locs cells slots (MQ below (va_Qq post (fun w' t => wB D cy A w' t) A) args s mc ms A) (F0 m pc ls [va_rf v]) :=
  W.widen hc hs (W.aret hx hb hr hrt (va_rf_or v) (fun t ht hW => ⟨⟨v, w, rfl, hpost, wB_at hP hK hD t ht hW.alike⟩, hS.F ht⟩) hS.2.2 hdg hlocks)
/-- calls: what comes back is a whole world -/
theorem K_i {post : Int32 → va_W → Prop} (hr : va_Run p l e R s m args below meth c H locs cells slots mc ms (F0 m pc ls st0) rest (va_Qi post (fun w' t => wB D cy (va_A w H.size) w' t) (va_A w H.size) a) (va_A w H.size)) (hD : va_D A w) (hS : va_S A s.heap H locs) (hA : ∀ q, s.heap.size ≤ q → A q)
    (kk : ∀ (r : Int32) (w' : va_W) (H1 : Heap) (locs1 : List Loc), post r w' → va_P D vwCl w' H1 → va_D A w' → va_S A s.heap H1 locs1 → W p l e R s m args below meth c H1 locs1 (cells + mc) (slots + ms) Q (F0 m (pc + 3) ls (.int r :: rest))) : W p l e R s m args below meth c H locs cells slots Q (F0 m pc ls st0) :=
  va_calli hr hS (fun q _ h => wA hD hS hA q h) (wA hD hS hA) (fun r w' t H1 locs1 ht _ hp hB _ _ hS1 => kk r w' H1 locs1 hp (ht ▸ hB.1) (hB.2.2.weaken (fun _ q _ h => wA hD hS hA q.1 h)) hS1)
theorem K_l {post : Int64 → va_W → Prop} (hr : va_Run p l e R s m args below meth c H locs cells slots mc ms (F0 m pc ls st0) rest (va_Ql post (fun w' t => wB D cy (va_A w H.size) w' t) (va_A w H.size) a) (va_A w H.size)) (hD : va_D A w) (hS : va_S A s.heap H locs) (hA : ∀ q, s.heap.size ≤ q → A q)
    (kk : ∀ (r : Int64) (w' : va_W) (H1 : Heap) (locs1 : List Loc), post r w' → va_P D vwCl w' H1 → va_D A w' → va_S A s.heap H1 locs1 → W p l e R s m args below meth c H1 locs1 (cells + mc) (slots + ms) Q (F0 m (pc + 3) ls (.long r :: rest))) : W p l e R s m args below meth c H locs cells slots Q (F0 m pc ls st0) :=
  va_calll hr hS (fun q _ h => wA hD hS hA q h) (wA hD hS hA) (fun r w' t H1 locs1 ht _ hp hB _ _ hS1 => kk r w' H1 locs1 hp (ht ▸ hB.1) (hB.2.2.weaken (fun _ q _ h => wA hD hS hA q.1 h)) hS1)
theorem K_v {post : va_W → Prop} (hr : va_Run p l e R s m args below meth c H locs cells slots mc ms (F0 m pc ls st0) rest (va_Qv post (fun w' t => wB D cy (va_A w H.size) w' t) (va_A w H.size) a) (va_A w H.size)) (hD : va_D A w) (hS : va_S A s.heap H locs) (hA : ∀ q, s.heap.size ≤ q → A q)
    (kk : ∀ (w' : va_W) (H1 : Heap) (locs1 : List Loc), post w' → va_P D vwCl w' H1 → va_D A w' → va_S A s.heap H1 locs1 → W p l e R s m args below meth c H1 locs1 (cells + mc) (slots + ms) Q (F0 m (pc + 3) ls rest)) : W p l e R s m args below meth c H locs cells slots Q (F0 m pc ls st0) :=
  va_callv hr hS (fun q _ h => wA hD hS hA q h) (wA hD hS hA) (fun w' t H1 locs1 ht _ hp hB _ _ hS1 => kk w' H1 locs1 hp (ht ▸ hB.1) (hB.2.2.weaken (fun _ q _ h => wA hD hS hA q.1 h)) hS1)
/-- calls that may throw: then the world stands as it was, with q9 thrown over the frame -/
def Thr (s : State) (E : String) (ce : Cell) (q9 : Addr) (H1 : Heap) : Prop := H1[q9]? = some ce ∧ ce.vm = .none ∧ s.vm.findClass E = some ce.cls
theorem Y_i {post : Int32 → va_W → Prop} {px : String → Prop} (hr : vx_Run p l e R s m args below meth c H locs cells slots mc ms (F0 m pc ls st0) rest (va_Qi post (fun w' t => wB D cy (va_A w H.size) w' t) (va_A w H.size) a) (xC D cy px w H.size) (va_A w H.size)) (hD : va_D A w) (hS : va_S A s.heap H locs) (hA : ∀ q, s.heap.size ≤ q → A q)
    (kx : ∀ (E : String) (ce : Cell) (q9 : Addr) (H1 : Heap) (locs1 : List Loc), px E → va_P D vwCl w H1 → va_S A s.heap H1 locs1 → Thr s E ce q9 H1 → vx_W p l e R s m args below meth c H1 locs1 (cells + mc) (slots + ms) Q (F0 m pc ls rest) q9)
    (kk : ∀ (r : Int32) (w' : va_W) (H1 : Heap) (locs1 : List Loc), post r w' → va_P D vwCl w' H1 → va_D A w' → va_S A s.heap H1 locs1 → W p l e R s m args below meth c H1 locs1 (cells + mc) (slots + ms) Q (F0 m (pc + 3) ls (.int r :: rest))) : W p l e R s m args below meth c H locs cells slots Q (F0 m pc ls st0) :=
  vx_calli hr hS (fun q _ h => wA hD hS hA q h) (wA hD hS hA) (fun q _ h => wA hD hS hA q h) (fun E ce q9 _ t H1 locs1 ht _ _ hB _ _ hS1 h1 h2 h3 => kx E ce q9 H1 locs1 hB.1 (ht ▸ hB.2.1) hS1 ⟨h1, h2, h3⟩) (fun r w' t H1 locs1 ht _ hp hB _ _ hS1 => kk r w' H1 locs1 hp (ht ▸ hB.1) (hB.2.2.weaken (fun _ q _ h => wA hD hS hA q.1 h)) hS1)
theorem Y_l {post : Int64 → va_W → Prop} {px : String → Prop} (hr : vx_Run p l e R s m args below meth c H locs cells slots mc ms (F0 m pc ls st0) rest (va_Ql post (fun w' t => wB D cy (va_A w H.size) w' t) (va_A w H.size) a) (xC D cy px w H.size) (va_A w H.size)) (hD : va_D A w) (hS : va_S A s.heap H locs) (hA : ∀ q, s.heap.size ≤ q → A q)
    (kx : ∀ (E : String) (ce : Cell) (q9 : Addr) (H1 : Heap) (locs1 : List Loc), px E → va_P D vwCl w H1 → va_S A s.heap H1 locs1 → Thr s E ce q9 H1 → vx_W p l e R s m args below meth c H1 locs1 (cells + mc) (slots + ms) Q (F0 m pc ls rest) q9)
    (kk : ∀ (r : Int64) (w' : va_W) (H1 : Heap) (locs1 : List Loc), post r w' → va_P D vwCl w' H1 → va_D A w' → va_S A s.heap H1 locs1 → W p l e R s m args below meth c H1 locs1 (cells + mc) (slots + ms) Q (F0 m (pc + 3) ls (.long r :: rest))) : W p l e R s m args below meth c H locs cells slots Q (F0 m pc ls st0) :=
  vx_calll hr hS (fun q _ h => wA hD hS hA q h) (wA hD hS hA) (fun q _ h => wA hD hS hA q h) (fun E ce q9 _ t H1 locs1 ht _ _ hB _ _ hS1 h1 h2 h3 => kx E ce q9 H1 locs1 hB.1 (ht ▸ hB.2.1) hS1 ⟨h1, h2, h3⟩) (fun r w' t H1 locs1 ht _ hp hB _ _ hS1 => kk r w' H1 locs1 hp (ht ▸ hB.1) (hB.2.2.weaken (fun _ q _ h => wA hD hS hA q.1 h)) hS1)
theorem Y_v {post : va_W → Prop} {px : String → Prop} (hr : vx_Run p l e R s m args below meth c H locs cells slots mc ms (F0 m pc ls st0) rest (va_Qv post (fun w' t => wB D cy (va_A w H.size) w' t) (va_A w H.size) a) (xC D cy px w H.size) (va_A w H.size)) (hD : va_D A w) (hS : va_S A s.heap H locs) (hA : ∀ q, s.heap.size ≤ q → A q)
    (kx : ∀ (E : String) (ce : Cell) (q9 : Addr) (H1 : Heap) (locs1 : List Loc), px E → va_P D vwCl w H1 → va_S A s.heap H1 locs1 → Thr s E ce q9 H1 → vx_W p l e R s m args below meth c H1 locs1 (cells + mc) (slots + ms) Q (F0 m pc ls rest) q9)
    (kk : ∀ (w' : va_W) (H1 : Heap) (locs1 : List Loc), post w' → va_P D vwCl w' H1 → va_D A w' → va_S A s.heap H1 locs1 → W p l e R s m args below meth c H1 locs1 (cells + mc) (slots + ms) Q (F0 m (pc + 3) ls rest)) : W p l e R s m args below meth c H locs cells slots Q (F0 m pc ls st0) :=
  vx_callv hr hS (fun q _ h => wA hD hS hA q h) (wA hD hS hA) (fun q _ h => wA hD hS hA q h) (fun E ce q9 _ t H1 locs1 ht _ _ hB _ _ hS1 h1 h2 h3 => kx E ce q9 H1 locs1 hB.1 (ht ▸ hB.2.1) hS1 ⟨h1, h2, h3⟩) (fun w' t H1 locs1 ht _ hp hB _ _ hS1 => kk w' H1 locs1 hp (ht ▸ hB.1) (hB.2.2.weaken (fun _ q _ h => wA hD hS hA q.1 h)) hS1)
theorem Y_q {post : Option Nat → va_W → Prop} {px : String → Prop} (hr : vx_Run p l e R s m args below meth c H locs cells slots mc ms (F0 m pc ls st0) rest (va_Qq post (fun w' t => wB D cy (va_A w H.size) w' t) (va_A w H.size) a) (xC D cy px w H.size) (va_A w H.size)) (hD : va_D A w) (hS : va_S A s.heap H locs) (hA : ∀ q, s.heap.size ≤ q → A q)
    (kx : ∀ (E : String) (ce : Cell) (q9 : Addr) (H1 : Heap) (locs1 : List Loc), px E → va_P D vwCl w H1 → va_S A s.heap H1 locs1 → Thr s E ce q9 H1 → vx_W p l e R s m args below meth c H1 locs1 (cells + mc) (slots + ms) Q (F0 m pc ls rest) q9)
    (kk : ∀ (r : Option Nat) (w' : va_W) (H1 : Heap) (locs1 : List Loc), post r w' → va_P D vwCl w' H1 → va_D A w' → va_S A s.heap H1 locs1 → W p l e R s m args below meth c H1 locs1 (cells + mc) (slots + ms) Q (F0 m (pc + 3) ls (va_rf r :: rest))) : W p l e R s m args below meth c H locs cells slots Q (F0 m pc ls st0) := by
  intro T hT X
  rcases hr T hT X with ⟨v, st₀, t, T', L, h0, X', hL, e1, e2, ⟨⟨r, u, hv, hp, hb⟩, hF⟩, st⟩ | ⟨q, st₀, t, T', L, E, ce, h0, X', hL, e1, e2, ⟨u, hp, hb, hF⟩, hce, hcv, hcl, st⟩
  · cases hv
    obtain ⟨k1, k2, k3⟩ := vx_keep h0 e1 hS (fun q _ h => wA hD hS hA q h) (wA hD hS hA) hL hF
    obtain ⟨t2, a1, b1⟩ := kk r u T'.heap (locs ++ L) hp (by rw [e1]; exact hb.1) (hb.2.2.weaken (fun _ q _ h => wA hD hS hA q.1 h)) k3 T' rfl X'
    exact ⟨t2, st t2 a1, b1⟩
  · obtain ⟨k1, k2, k3⟩ := vx_keep h0 e1 hS (fun q _ h => wA hD hS hA q h) (wA hD hS hA) hL hF
    obtain ⟨t2, a1, b1⟩ := kx E ce q T'.heap (locs ++ L) hb.1 (by rw [e1]; exact hb.2.1) k3 ⟨by rw [e1]; exact hce, hcv, hcl⟩ T' rfl X'
    exact ⟨t2, st.trans a1, b1⟩
/-- not caught here: it goes on to the caller -/
theorem Y_out {Qc : Array Value → State → Outcome → State → Prop} {px : String → Prop} {E : String} {ce : Cell} {q9 : Addr} (hT0 : ∀ x ∈ c.exceptionTable.toList, False) (hlocks : meth.locks = false) (hP : va_P D vwCl w H) (hK : va_K D vwCl (TYS cy) s) (hD : va_D A w) (hS : va_S A s.heap H locs) (ht : Thr s E ce q9 H) (hE : px E) (hc : cells ≤ mc) (hs : slots ≤ ms) :
    vx_W p l e R s m args below meth c H locs cells slots (vx_MQ below Qc (xQ D cy px w A) args s mc ms A) (F0 m pc ls rest) q9 :=
  vx_out (E := E) (fun x h => (hT0 x h).elim) hlocks ht.1 ht.2.1 ht.2.2 (fun t h1 h2 => ⟨(), trivial, ⟨hE, wB_at hP hK hD t h1 h2⟩, hS.F h1⟩) hS.2.2 hc hs
/-- 'throw new E("text")' -/
theorem Y_throw {Qc : Array Value → State → Outcome → State → Prop} {px : String → Prop} {own E text : String} {ik is ic sa : Nat} {ws : List Cond} (hT0 : ∀ x ∈ c.exceptionTable.toList, False) (hx : p.tables.exec = Jvm.exec) (hb : c.code = cc) (hlf : l.stackTraces = false) (hlocks : meth.locks = false) (hown : s.vm.findClass own = some m.cls) (hts : ∀ w ∈ ws, w.before args s = true)
    (hP : va_P D vwCl w H) (hK : va_K D vwCl (TYS cy) s) (hD : va_D A w) (hS : va_S A s.heap H locs) (hX : XK A s s.heap) (hXe : XKe E s) (hstr : vk_R own is text sa s) (hsize : ls.size = c.maxLocals)
    (hfit : Bundle.fit E = true) (hk : Cond.classLink own ik E ∈ ws) (hini : Cond.initialized E ∈ ws) (hat : ∀ w ∈ (vx_atS own ic E ["java/lang/RuntimeException", "java/lang/Exception"]).filter goodWord, w ∈ ws)
    (hbad : ∀ w ∈ (vx_atS own ic E ["java/lang/RuntimeException", "java/lang/Exception"]).filter (fun w => !goodWord w), w ∈ [Cond.castable E E, Cond.declares ⟨"java/lang/RuntimeException", "<init>", "(Ljava/lang/String;)V"⟩, Cond.declares ⟨"java/lang/Exception", "<init>", "(Ljava/lang/String;)V"⟩, Cond.declares ⟨"java/lang/Throwable", "<init>", "(Ljava/lang/String;)V"⟩])
    (hgood : ∀ w ∈ Cond.classLink own ik E :: Cond.initialized E :: vx_atS own ic E ["java/lang/RuntimeException", "java/lang/Exception"], vx_ot w = true)
    (d0 : decode cc pc = .ok (.new ik, 3)) (d3 : decode cc (pc + 3) = .ok (.dup, 1)) (d4 : decode cc (pc + 4) = .ok (.ldc is, 2)) (d6 : decode cc (pc + 6) = .ok (.invokespecial ic, 3)) (d9 : decode cc (pc + 9) = .ok (.athrow, 1))
    (hRf : 5 < R.frames) (hRl : (rest.map fun v => v.category).sum + 82 ≤ R.locals) (hRc : cells + 1 ≤ R.cells) (hRs : slots + 6 ≤ R.slots) (hE : px E) (hc : cells + 1 ≤ mc) (hs : slots + 6 ≤ ms) :
    W p l e R s m args below meth c H locs cells slots (vx_MQ below Qc (xQ D cy px w A) args s mc ms A) (F0 m pc ls rest) := by
  refine vx_throwS (names := ["java/lang/RuntimeException", "java/lang/Exception"]) hx hb hlf hown hfit (by decide +kernel) (hts _ hk) (hts _ hini) hstr ?_ hgood hX.1 hX.2.1 hS hsize d0 d3 d4 d6 d9 (fun x h => (hT0 x h).elim) hRf hRl hRc hRs hlocks ?_ hS.2.2 hc hs
  · exact vx_hat (B := [Cond.castable E E, Cond.declares ⟨"java/lang/RuntimeException", "<init>", "(Ljava/lang/String;)V"⟩, Cond.declares ⟨"java/lang/Exception", "<init>", "(Ljava/lang/String;)V"⟩, Cond.declares ⟨"java/lang/Throwable", "<init>", "(Ljava/lang/String;)V"⟩]) (fun w hw => hts w (hat w hw)) hbad
      (vx_c (va_Nw.use rfl hXe.1) (vx_c (va_Nw.use rfl hXe.2.1) (vx_c (va_Nw.use rfl hXe.2.2.1) (vx_c (va_Nw.use rfl hXe.2.2.2) vx_n))))
  · intro t hal hsz hsame
    have hlt : ∀ (k : Nat) (q : Nat × va_E), w[k]? = some q → t.heap[q.1]? = H[q.1]? := fun k q hk => hsame q.1 (hP k q hk).lt
    exact ⟨(), trivial, ⟨hE, hP.kept hlt, va_K.moved hal hK, hD⟩, Nat.le_trans hS.1 hsz, fun q h1 h2 => (hsame q (Nat.lt_of_lt_of_le h1 hS.1)).trans (hS.2.1 q h1 h2)⟩
end COREC
end
section
/-! ===== rows over numbers written nI n ===== -/
theorem nI_inc (a : Nat) : nI a + Int32.ofInt 1 = nI (a + 1) := nI_1 a
theorem nI_inj {a b : Nat} (ha : a < 2 ^ 31) (hb : b < 2 ^ 31) (h : nI a = nI b) : a = b := (nI_eq ha hb).mp h
section ROWS
variable {p : Program} {l : Launch} {e : Env} {R : Room} {s : State} {m : MethodId} {args : Array Value} {below : List Frame} {meth : Method} {c : Code} {H : Heap} {locs : List Loc} {cells slots : Nat} {Q : State → Prop}
variable {cc : ByteArray} {pc : Nat} {ls : Array Slot} {rest : List Value} {D : va_G} {cy : Nat → ClassId} {A : Nat → Prop} {w w' : va_W} {a : Nat} {Ts : List Cond}
theorem r_iadd {x y : Nat} (hx : p.tables.exec = Jvm.exec) (hb : c.code = cc) (hdg : decode cc pc = .ok (.iadd, 1)) (k : W p l e R s m args below meth c H locs cells slots Q (F0 m (pc + 1) ls (.int (nI (x + y)) :: rest))) : W p l e R s m args below meth c H locs cells slots Q (F0 m pc ls (.int (nI y) :: .int (nI x) :: rest)) := lv_iadd hx hb hdg (by rw [nI_add]; exact k)
theorem r_isub {x y : Nat} (hx : p.tables.exec = Jvm.exec) (hb : c.code = cc) (hdg : decode cc pc = .ok (.isub, 1)) (h : y ≤ x) (k : W p l e R s m args below meth c H locs cells slots Q (F0 m (pc + 1) ls (.int (nI (x - y)) :: rest))) : W p l e R s m args below meth c H locs cells slots Q (F0 m pc ls (.int (nI y) :: .int (nI x) :: rest)) := lv_isub hx hb hdg (by rw [pk_sub h]; exact k)
theorem r_imul {x y : Nat} (hx : p.tables.exec = Jvm.exec) (hb : c.code = cc) (hdg : decode cc pc = .ok (.imul, 1)) (k : W p l e R s m args below meth c H locs cells slots Q (F0 m (pc + 1) ls (.int (nI (x * y)) :: rest))) : W p l e R s m args below meth c H locs cells slots Q (F0 m pc ls (.int (nI y) :: .int (nI x) :: rest)) := lv_imul hx hb hdg (by rw [pk_mul]; exact k)
theorem r_idiv {x y : Nat} (hx : p.tables.exec = Jvm.exec) (hb : c.code = cc) (hdg : decode cc pc = .ok (.idiv, 1)) (h1 : x < 2 ^ 31) (h2 : y < 2 ^ 31) (h0 : 0 < y) (k : W p l e R s m args below meth c H locs cells slots Q (F0 m (pc + 1) ls (.int (nI (x / y)) :: rest))) : W p l e R s m args below meth c H locs cells slots Q (F0 m pc ls (.int (nI y) :: .int (nI x) :: rest)) := lv_idiv hx hb hdg (nI_ne0 h0 h2) (by rw [pk_div h1 h0 h2]; exact k)
theorem r_icmp_ge {x y : Nat} {off : Int} {tgt : Nat} (hx : p.tables.exec = Jvm.exec) (hb : c.code = cc) (hdg : decode cc pc = .ok (.if_icmp .ge off, 3)) (ht : (pc : Int) + off = (tgt : Int)) (h1 : x < 2 ^ 31) (h2 : y < 2 ^ 31)
    (kt : y ≤ x → W p l e R s m args below meth c H locs cells slots Q (F0 m tgt ls rest)) (kf : x < y → W p l e R s m args below meth c H locs cells slots Q (F0 m (pc + 3) ls rest)) : W p l e R s m args below meth c H locs cells slots Q (F0 m pc ls (.int (nI y) :: .int (nI x) :: rest)) :=
  lv_icmp_ge hx hb hdg ht (fun h => kt ((nI_leI h2 h1).mp h)) (fun h => kf (Nat.not_le.mp (fun g => h ((nI_leI h2 h1).mpr g))))
theorem r_icmp_lt {x y : Nat} {off : Int} {tgt : Nat} (hx : p.tables.exec = Jvm.exec) (hb : c.code = cc) (hdg : decode cc pc = .ok (.if_icmp .lt off, 3)) (ht : (pc : Int) + off = (tgt : Int)) (h1 : x < 2 ^ 31) (h2 : y < 2 ^ 31)
    (kt : x < y → W p l e R s m args below meth c H locs cells slots Q (F0 m tgt ls rest)) (kf : y ≤ x → W p l e R s m args below meth c H locs cells slots Q (F0 m (pc + 3) ls rest)) : W p l e R s m args below meth c H locs cells slots Q (F0 m pc ls (.int (nI y) :: .int (nI x) :: rest)) :=
  lv_icmp_lt hx hb hdg ht (fun h => kt ((nI_ltI h1 h2).mp h)) (fun h => kf (Nat.not_lt.mp (fun g => h ((nI_ltI h1 h2).mpr g))))
theorem r_icmp_gt {x y : Nat} {off : Int} {tgt : Nat} (hx : p.tables.exec = Jvm.exec) (hb : c.code = cc) (hdg : decode cc pc = .ok (.if_icmp .gt off, 3)) (ht : (pc : Int) + off = (tgt : Int)) (h1 : x < 2 ^ 31) (h2 : y < 2 ^ 31)
    (kt : y < x → W p l e R s m args below meth c H locs cells slots Q (F0 m tgt ls rest)) (kf : x ≤ y → W p l e R s m args below meth c H locs cells slots Q (F0 m (pc + 3) ls rest)) : W p l e R s m args below meth c H locs cells slots Q (F0 m pc ls (.int (nI y) :: .int (nI x) :: rest)) :=
  lv_icmp_gt hx hb hdg ht (fun h => kt ((nI_ltI h2 h1).mp h)) (fun h => kf (Nat.not_lt.mp (fun g => h ((nI_ltI h2 h1).mpr g))))
theorem r_icmp_le {x y : Nat} {off : Int} {tgt : Nat} (hx : p.tables.exec = Jvm.exec) (hb : c.code = cc) (hdg : decode cc pc = .ok (.if_icmp .le off, 3)) (ht : (pc : Int) + off = (tgt : Int)) (h1 : x < 2 ^ 31) (h2 : y < 2 ^ 31)
    (kt : x ≤ y → W p l e R s m args below meth c H locs cells slots Q (F0 m tgt ls rest)) (kf : y < x → W p l e R s m args below meth c H locs cells slots Q (F0 m (pc + 3) ls rest)) : W p l e R s m args below meth c H locs cells slots Q (F0 m pc ls (.int (nI y) :: .int (nI x) :: rest)) :=
  lv_icmp_le hx hb hdg ht (fun h => kt ((nI_leI h1 h2).mp h)) (fun h => kf (Nat.not_le.mp (fun g => h ((nI_leI h1 h2).mpr g))))
theorem r_icmp_eq {x y : Nat} {off : Int} {tgt : Nat} (hx : p.tables.exec = Jvm.exec) (hb : c.code = cc) (hdg : decode cc pc = .ok (.if_icmp .eq off, 3)) (ht : (pc : Int) + off = (tgt : Int)) (h1 : x < 2 ^ 31) (h2 : y < 2 ^ 31)
    (kt : x = y → W p l e R s m args below meth c H locs cells slots Q (F0 m tgt ls rest)) (kf : ¬ x = y → W p l e R s m args below meth c H locs cells slots Q (F0 m (pc + 3) ls rest)) : W p l e R s m args below meth c H locs cells slots Q (F0 m pc ls (.int (nI y) :: .int (nI x) :: rest)) :=
  lv_icmp_eq hx hb hdg ht (fun h => kt ((nI_eq h1 h2).mp h)) (fun h => kf (fun g => h ((nI_eq h1 h2).mpr g)))
theorem r_icmp_ne {x y : Nat} {off : Int} {tgt : Nat} (hx : p.tables.exec = Jvm.exec) (hb : c.code = cc) (hdg : decode cc pc = .ok (.if_icmp .ne off, 3)) (ht : (pc : Int) + off = (tgt : Int)) (h1 : x < 2 ^ 31) (h2 : y < 2 ^ 31)
    (kt : ¬ x = y → W p l e R s m args below meth c H locs cells slots Q (F0 m tgt ls rest)) (kf : x = y → W p l e R s m args below meth c H locs cells slots Q (F0 m (pc + 3) ls rest)) : W p l e R s m args below meth c H locs cells slots Q (F0 m pc ls (.int (nI y) :: .int (nI x) :: rest)) :=
  lv_icmp_ne hx hb hdg ht (fun h => kt (fun g => h ((nI_eq h1 h2).mpr g))) (fun h => kf ((nI_eq h1 h2).mp h))
theorem r_if_eq {x : Nat} {off : Int} {tgt : Nat} (hx : p.tables.exec = Jvm.exec) (hb : c.code = cc) (hdg : decode cc pc = .ok (.ifCond .eq off, 3)) (ht : (pc : Int) + off = (tgt : Int)) (h1 : x < 2 ^ 31)
    (kt : x = 0 → W p l e R s m args below meth c H locs cells slots Q (F0 m tgt ls rest)) (kf : 0 < x → W p l e R s m args below meth c H locs cells slots Q (F0 m (pc + 3) ls rest)) : W p l e R s m args below meth c H locs cells slots Q (F0 m pc ls (.int (nI x) :: rest)) :=
  lv_if_eq hx hb hdg ht (fun h => kt ((nI_eq h1 (by decide)).mp h)) (fun h => kf (Nat.pos_of_ne_zero (fun g => h (by rw [g]; rfl))))
theorem r_if_ne {x : Nat} {off : Int} {tgt : Nat} (hx : p.tables.exec = Jvm.exec) (hb : c.code = cc) (hdg : decode cc pc = .ok (.ifCond .ne off, 3)) (ht : (pc : Int) + off = (tgt : Int)) (h1 : x < 2 ^ 31)
    (kt : 0 < x → W p l e R s m args below meth c H locs cells slots Q (F0 m tgt ls rest)) (kf : x = 0 → W p l e R s m args below meth c H locs cells slots Q (F0 m (pc + 3) ls rest)) : W p l e R s m args below meth c H locs cells slots Q (F0 m pc ls (.int (nI x) :: rest)) :=
  lv_if_ne hx hb hdg ht (fun h => kt (Nat.pos_of_ne_zero (fun g => h (by rw [g]; rfl)))) (fun h => kf ((nI_eq h1 (by decide)).mp h))
theorem r_if_le {x : Nat} {off : Int} {tgt : Nat} (hx : p.tables.exec = Jvm.exec) (hb : c.code = cc) (hdg : decode cc pc = .ok (.ifCond .le off, 3)) (ht : (pc : Int) + off = (tgt : Int)) (h1 : x < 2 ^ 31)
    (kt : x = 0 → W p l e R s m args below meth c H locs cells slots Q (F0 m tgt ls rest)) (kf : 0 < x → W p l e R s m args below meth c H locs cells slots Q (F0 m (pc + 3) ls rest)) : W p l e R s m args below meth c H locs cells slots Q (F0 m pc ls (.int (nI x) :: rest)) :=
  lv_if_le hx hb hdg ht (fun h => kt (Nat.le_zero.mp ((nI_leI h1 (by decide)).mp h))) (fun h => kf (Nat.pos_of_ne_zero (fun g => h (by rw [g]; exact Int32.le_refl _))))
theorem r_iald {n k : Nat} {f : Nat → Int32} (hx : p.tables.exec = Jvm.exec) (hb : c.code = cc) (hK : va_K D vwCl (TYS cy) s) (hP : va_P D vwCl w H) (q0 : Nat) (ha : w[q0]? = some (a, .inl (cy 0, n, .inl f))) (hk : k < n) (hn : n < 2 ^ 31) (hdg : decode cc pc = .ok (.iaload, 1)) (kk : W p l e R s m args below meth c H locs cells slots Q (F0 m (pc + 1) ls (.int (f k) :: rest))) : W p l e R s m args below meth c H locs cells slots Q (F0 m pc ls (.int (nI k) :: .ref a :: rest)) :=
  va_iald hx hb hK hP q0 0 ha rfl (vp_in_nI hk hn) hdg (by rw [nI_clamp (Nat.lt_trans hk hn)]; exact kk)
theorem r_zald {n k : Nat} {f : Nat → Int32} (hx : p.tables.exec = Jvm.exec) (hb : c.code = cc) (hK : va_K D vwCl (TYS cy) s) (hP : va_P D vwCl w H) (q0 : Nat) (ha : w[q0]? = some (a, .inl (cy 2, n, .inl f))) (hk : k < n) (hn : n < 2 ^ 31) (hdg : decode cc pc = .ok (.baload, 1)) (kk : W p l e R s m args below meth c H locs cells slots Q (F0 m (pc + 1) ls (.int (f k) :: rest))) : W p l e R s m args below meth c H locs cells slots Q (F0 m pc ls (.int (nI k) :: .ref a :: rest)) :=
  va_zald hx hb hK hP q0 2 ha rfl (vp_in_nI hk hn) hdg (by rw [nI_clamp (Nat.lt_trans hk hn)]; exact kk)
theorem r_lald {n k : Nat} {f : Nat → Int64} (hx : p.tables.exec = Jvm.exec) (hb : c.code = cc) (hK : va_K D vwCl (TYS cy) s) (hP : va_P D vwCl w H) (q0 : Nat) (ha : w[q0]? = some (a, .inl (cy 1, n, .inr (.inl f)))) (hk : k < n) (hn : n < 2 ^ 31) (hdg : decode cc pc = .ok (.laload, 1)) (kk : W p l e R s m args below meth c H locs cells slots Q (F0 m (pc + 1) ls (.long (f k) :: rest))) : W p l e R s m args below meth c H locs cells slots Q (F0 m pc ls (.int (nI k) :: .ref a :: rest)) :=
  va_lald hx hb hK hP q0 1 ha rfl (vp_in_nI hk hn) hdg (by rw [nI_clamp (Nat.lt_trans hk hn)]; exact kk)
theorem r_aldS {n k : Nat} {f : Nat → Option Nat} (hx : p.tables.exec = Jvm.exec) (hb : c.code = cc) (hK : va_K D vwCl (TYS cy) s) (hP : va_P D vwCl w H) (q0 : Nat) (ha : w[q0]? = some (a, .inl (cy 3, n, .inr (.inr (.inr (.inr f)))))) (hk : k < n) (hn : n < 2 ^ 31) (hdg : decode cc pc = .ok (.aaload, 1)) (kk : W p l e R s m args below meth c H locs cells slots Q (F0 m (pc + 1) ls (va_rf (f k) :: rest))) : W p l e R s m args below meth c H locs cells slots Q (F0 m pc ls (.int (nI k) :: .ref a :: rest)) :=
  va_aldq hx hb hK hP q0 3 ha rfl (vp_in_nI hk hn) hdg (by rw [nI_clamp (Nat.lt_trans hk hn)]; exact kk)
theorem r_aldI {n k : Nat} {f : Nat → Option Nat} (hx : p.tables.exec = Jvm.exec) (hb : c.code = cc) (hK : va_K D vwCl (TYS cy) s) (hP : va_P D vwCl w H) (q0 : Nat) (ha : w[q0]? = some (a, .inl (cy 4, n, .inr (.inr (.inr (.inr f)))))) (hk : k < n) (hn : n < 2 ^ 31) (hdg : decode cc pc = .ok (.aaload, 1)) (kk : W p l e R s m args below meth c H locs cells slots Q (F0 m (pc + 1) ls (va_rf (f k) :: rest))) : W p l e R s m args below meth c H locs cells slots Q (F0 m pc ls (.int (nI k) :: .ref a :: rest)) := by
  have hin : vp_in (nI k) n := vp_in_nI hk hn
  have hc : (nI k).toNatClampNeg = k := nI_clamp (Nat.lt_trans hk hn)
  exact W.aald (v := va_rf (f k)) (ty := .array .int) hx hb (hP q0 _ ha) ((hK.2 4 (cy 4, .array .int) rfl).1 n (fun j => va_rf (f j))) rfl (fun q => by cases q) (by show ¬ (nI k < 0 ∨ (arrV _ _ _).slots.size ≤ _); rw [arrV_size]; exact hin) (by show (arrV _ _ _).slots[_]? = _; rw [hc, arrV_read _ _ hk]) rfl rfl hdg kk
theorem r_iast {n k : Nat} {x : Int32} {f : Nat → Int32} (hx : p.tables.exec = Jvm.exec) (hb : c.code = cc) (hK : va_K D vwCl (TYS cy) s) (hP : va_P D vwCl w H) (hD : va_D A w) (hS : va_S A s.heap H locs) (q0 : Nat) (ha : w[q0]? = some (a, .inl (cy 0, n, .inl f))) (hk : k < n) (hn : n < 2 ^ 31) (hdg : decode cc pc = .ok (.iastore, 1)) (hw : w.set q0 (a, .inl (cy 0, n, .inl (upd f k x))) = w')
    (kk : ∀ (H1 : Heap) (locs1 : List Loc), va_P D vwCl w' H1 → va_D A w' → va_S A s.heap H1 locs1 → W p l e R s m args below meth c H1 locs1 cells slots Q (F0 m (pc + 1) ls rest)) : W p l e R s m args below meth c H locs cells slots Q (F0 m pc ls (.int x :: .int (nI k) :: .ref a :: rest)) :=
  va_iast hx hb hK hP hD hS q0 0 ha rfl (vp_in_nI hk hn) hdg (fun H1 l1 h1 h2 h3 => by
    rw [nI_clamp (Nat.lt_trans hk hn), hw] at h1 h2
    exact kk H1 l1 h1 h2 h3)
theorem r_zast {n k : Nat} {x : Int32} {f : Nat → Int32} (hx : p.tables.exec = Jvm.exec) (hb : c.code = cc) (hK : va_K D vwCl (TYS cy) s) (hP : va_P D vwCl w H) (hD : va_D A w) (hS : va_S A s.heap H locs) (q0 : Nat) (ha : w[q0]? = some (a, .inl (cy 2, n, .inl f))) (hk : k < n) (hn : n < 2 ^ 31) (hdg : decode cc pc = .ok (.bastore, 1)) (hx2 : vp_nar .boolean x = x) (hw : w.set q0 (a, .inl (cy 2, n, .inl (upd f k x))) = w')
    (kk : ∀ (H1 : Heap) (locs1 : List Loc), va_P D vwCl w' H1 → va_D A w' → va_S A s.heap H1 locs1 → W p l e R s m args below meth c H1 locs1 cells slots Q (F0 m (pc + 1) ls rest)) : W p l e R s m args below meth c H locs cells slots Q (F0 m pc ls (.int x :: .int (nI k) :: .ref a :: rest)) :=
  va_zast hx hb hK hP hD hS q0 2 ha rfl (vp_in_nI hk hn) hdg (fun H1 l1 h1 h2 h3 => by
    rw [nI_clamp (Nat.lt_trans hk hn), hx2, hw] at h1 h2
    exact kk H1 l1 h1 h2 h3)
theorem r_last {n k : Nat} {x : Int64} {f : Nat → Int64} (hx : p.tables.exec = Jvm.exec) (hb : c.code = cc) (hK : va_K D vwCl (TYS cy) s) (hP : va_P D vwCl w H) (hD : va_D A w) (hS : va_S A s.heap H locs) (q0 : Nat) (ha : w[q0]? = some (a, .inl (cy 1, n, .inr (.inl f)))) (hk : k < n) (hn : n < 2 ^ 31) (hdg : decode cc pc = .ok (.lastore, 1)) (hw : w.set q0 (a, .inl (cy 1, n, .inr (.inl (vp_updL f k x)))) = w')
    (kk : ∀ (H1 : Heap) (locs1 : List Loc), va_P D vwCl w' H1 → va_D A w' → va_S A s.heap H1 locs1 → W p l e R s m args below meth c H1 locs1 cells slots Q (F0 m (pc + 1) ls rest)) : W p l e R s m args below meth c H locs cells slots Q (F0 m pc ls (.long x :: .int (nI k) :: .ref a :: rest)) :=
  va_last hx hb hK hP hD hS q0 1 ha rfl (vp_in_nI hk hn) hdg (fun H1 l1 h1 h2 h3 => by
    rw [nI_clamp (Nat.lt_trans hk hn), hw] at h1 h2
    exact kk H1 l1 h1 h2 h3)
theorem r_put {own C : String} {T : u_T} {N ci index q0 k : Nat} {ty0 : Nat → FieldType} {fs : List Value} {v : Value} (hx : p.tables.exec = Jvm.exec) (hb : c.code = cc) (hts : ∀ w ∈ Ts, w.before args s = true) (hin : ∀ w ∈ u_ws C T N, w ∈ Ts) (hty : ∀ k, k < N → parseFieldDescriptor (T k).2.2.1 = some (ty0 k)) (hnm : ∀ a, a < N → ∀ b, b < N → a ≠ b → (T a).2.1 ≠ (T b).2.1) (hown : s.vm.findClass own = some m.cls) (hK : va_K D vwCl (TYS cy) s) (hP : va_P D vwCl w H) (hD : va_D A w) (hS : va_S A s.heap H locs) (he : w[q0]? = some (a, .inr (ci, fs))) (hc : vwCl[ci]? = some (C, T, N)) (hk : k < N) (hlink : Cond.fieldLink own index (T k).1 (T k).2.1 (T k).2.2.1 ∈ Ts) (hfin : (T k).2.2.2 = false) {ty : FieldType} (hd : parseFieldDescriptor (T k).2.2.1 = some ty) (hn : narrow ty v = v) (hfit : fits ty v = true) (hl : k < fs.length) (hdg : decode cc pc = .ok (.putfield index, 3)) (hw : w.set q0 (a, .inr (ci, fs.set k v)) = w')
    (kk : ∀ (H1 : Heap) (locs1 : List Loc), va_P D vwCl w' H1 → va_D A w' → va_S A s.heap H1 locs1 → W p l e R s m args below meth c H1 locs1 cells slots Q (F0 m (pc + 3) ls rest)) : W p l e R s m args below meth c H locs cells slots Q (F0 m pc ls (v :: .ref a :: rest)) :=
  va_put hx hb hts hin ty0 hty hnm hown hK hP hD hS q0 he hc k hk (hts _ hlink) (fun _ h => h) hfin hd hn hfit hl hdg (fun H1 l1 h1 h2 h3 => kk H1 l1 (hw ▸ h1) (hw ▸ h2) h3)
end ROWS
end
section
/-! ===== the two worlds: the reference's and the class's, over register files of numbers =====
kinds of the state S: 0 scalars (0 signs, 1 editions, 2 floor); 1 authors, 2 letters, 3 clocks of signs, 4 behind (+ 1, 0: the beginning), 5 known, 6 removed, 7 stamps (place 60 * author + sign), 8 clocks, 9 printed (4 * edition + author), 10 advances, 11 paid
kinds of the scratch T: 0 (0 length, 1 top, 2 thrown), 1 text, 2 stack -/
def up2 (f : Nat → Nat → Nat) (k i v : Nat) : Nat → Nat → Nat := fun k' i' => if k' = k then (if i' = i then v else f k i') else f k' i'
theorem up2_s (f : Nat → Nat → Nat) (k i v : Nat) : up2 f k i v k i = v := by simp [up2]
theorem up2_i (f : Nat → Nat → Nat) {k i v j : Nat} (h : j ≠ i) : up2 f k i v k j = f k j := by simp [up2, h]
theorem up2_k (f : Nat → Nat → Nat) {k i v k' : Nat} (h : k' ≠ k) (j : Nat) : up2 f k i v k' j = f k' j := by simp [up2, h]
theorem up2_f (f : Nat → Nat → Nat) {k i v k' : Nat} (h : k' ≠ k) : up2 f k i v k' = f k' := by funext j; simp [up2, h]
def bI (x : Nat) : Int32 := nI x - 1
theorem bI_0 : bI 0 = -1 := by decide
theorem bI_s (x : Nat) : bI (x + 1) = nI x := nI_pred x
theorem upd_n (f : Nat → Nat → Nat) (κ k v : Nat) : upd (fun j => nI (f κ j)) k (nI v) = fun j => nI (up2 f κ k v κ j) := by
  funext j
  by_cases h : j = k
  · subst h; simp [upd, up2]
  · simp [upd, up2, h]
theorem upd_b (f : Nat → Nat → Nat) (κ k v : Nat) : upd (fun j => bI (f κ j)) k (bI v) = fun j => bI (up2 f κ k v κ j) := by
  funext j
  by_cases h : j = k
  · subst h; simp [upd, up2]
  · simp [upd, up2, h]
theorem upd_l (f : Nat → Nat → Nat) (κ k v : Nat) : vp_updL (fun j => lN (f κ j)) k (lN v) = fun j => lN (up2 f κ k v κ j) := by
  funext j
  by_cases h : j = k
  · subst h; simp [vp_updL, up2]
  · simp [vp_updL, up2, h]
def bN (b : Bool) : Nat := if b then 1 else 0
theorem bN_lt (b : Bool) : bN b < 2 := by cases b <;> decide
theorem bN_0 {b : Bool} : bN b = 0 ↔ b = false := by cases b <;> decide
theorem bN_1 {b : Bool} : 0 < bN b ↔ b = true := by cases b <;> decide
theorem nw_b (b : Bool) : narrow .boolean (.int (nI (bN b))) = .int (nI (bN b)) := by cases b <;> rfl
def inB (v lo hi : Int32) : Bool := decide (lo ≤ v) && decide (v ≤ hi)
def isA (v : Int32) : Bool := inB v 0 3
theorem inB_n {v : Int32} {k : Nat} (hk : k < 2 ^ 31) (h : inB v 0 (nI k) = true) : ∃ a : Nat, a ≤ k ∧ v = nI a := by
  simp only [inB, Bool.and_eq_true, decide_eq_true_eq] at h
  exact nI_of2 (nI_toInt hk) (by rw [Int32.not_lt]; exact h.1) h.2
theorem inB_of {a k : Nat} (h : a ≤ k) (hk : k < 2 ^ 31) : inB (nI a) 0 (nI k) = true := by
  simp only [inB, Bool.and_eq_true, decide_eq_true_eq]
  exact ⟨nI_pos' (Nat.lt_of_le_of_lt h hk), nI_le h hk⟩
theorem isA_n {v : Int32} (h : isA v = true) : ∃ a : Nat, a < 4 ∧ v = nI a := by
  obtain ⟨a, h1, h2⟩ := inB_n (k := 3) (by decide) h
  exact ⟨a, by omega, h2⟩
theorem isA_of {a : Nat} (h : a < 4) : isA (nI a) = true := inB_of (k := 3) (by omega) (by decide)
/-- 'isIn(v, 0, n - 1)' for a number n -/
def inS (v : Int32) (n : Nat) : Bool := inB v 0 (bI n)
theorem inS_n {v : Int32} {n : Nat} (hn : n < 2 ^ 31) (h : inS v n = true) : ∃ i : Nat, i < n ∧ v = nI i := by
  cases n with
  | zero =>
    rw [inS, bI_0] at h
    simp only [inB, Bool.and_eq_true, decide_eq_true_eq] at h
    have h3 : (0 : Int32) ≤ -1 := Int32.le_trans h.1 h.2
    exact absurd h3 (by decide)
  | succ n =>
    rw [inS, bI_s] at h
    obtain ⟨a, h1, h2⟩ := inB_n (Nat.lt_of_succ_lt hn) h
    exact ⟨a, by omega, h2⟩
theorem inS_of {i n : Nat} (h : i < n) (hn : n < 2 ^ 31) : inS (nI i) n = true := by
  obtain ⟨m, rfl⟩ : ∃ m, n = m + 1 := ⟨n - 1, by omega⟩
  rw [inS, bI_s]
  exact inB_of (by omega) (by omega)
/-- the reference's world -/
def MW (cy : Nat → ClassId) (B : Nat → Nat) (S T : Nat → Nat → Nat) (Y : va_W) : va_W :=
  (B 0, .inr (2, [.int (nI (S 0 0)), .ref (B 1), .ref (B 2), .ref (B 3), .ref (B 4), .ref (B 5), .ref (B 6), .ref (B 7), .ref (B 8), .int (nI (S 0 1)), .ref (B 9), .int (nI (S 0 2)), .ref (B 10), .ref (B 11), .ref (B 12), .ref (B 13), .int (nI (T 0 0)), .int (nI (T 0 1)), .int (nI (T 0 2))])) ::
  (B 1, .inl (cy 0, 60, .inl (fun j => nI (S 1 j)))) :: (B 2, .inl (cy 0, 60, .inl (fun j => nI (S 2 j)))) :: (B 3, .inl (cy 0, 60, .inl (fun j => nI (S 3 j)))) :: (B 4, .inl (cy 0, 60, .inl (fun j => bI (S 4 j)))) ::
  (B 5, .inl (cy 2, 240, .inl (fun j => nI (S 5 j)))) :: (B 6, .inl (cy 2, 240, .inl (fun j => nI (S 6 j)))) :: (B 7, .inl (cy 0, 240, .inl (fun j => nI (S 7 j)))) :: (B 8, .inl (cy 0, 4, .inl (fun j => nI (S 8 j)))) ::
  (B 9, .inl (cy 0, 80, .inl (fun j => nI (S 9 j)))) :: (B 10, .inl (cy 0, 4, .inl (fun j => nI (S 10 j)))) :: (B 11, .inl (cy 1, 4, .inr (.inl (fun j => lN (S 11 j))))) :: (B 12, .inl (cy 0, 60, .inl (fun j => nI (T 1 j)))) :: (B 13, .inl (cy 0, 60, .inl (fun j => nI (T 2 j)))) :: Y
/-- a family of cells -/
def fam (n : Nat) (g : Nat → Nat) (c : Nat → va_E) : va_W := (List.range n).map fun i => (g i, c i)
theorem fam_len (n : Nat) (g : Nat → Nat) (c : Nat → va_E) : (fam n g c).length = n := by simp [fam]
theorem fam_get {n i : Nat} {g : Nat → Nat} {c : Nat → va_E} {Y : va_W} (h : i < n) : (fam n g c ++ Y)[i]? = some (g i, c i) := by
  rw [List.getElem?_append_left (by rw [fam_len]; exact h)]
  simp [fam, h]
theorem fam_skip {n k : Nat} {g : Nat → Nat} {c : Nat → va_E} {Y : va_W} : (fam n g c ++ Y)[n + k]? = Y[k]? := by
  rw [List.getElem?_append_right (by rw [fam_len]; omega), fam_len]
  congr 1
  omega
theorem fam_set {n i : Nat} {g : Nat → Nat} {c : Nat → va_E} {Y : va_W} {e : va_E} (h : i < n) : (fam n g c ++ Y).set i (g i, e) = fam n g (va_up c i e) ++ Y := by
  rw [List.set_append_left (h := by rw [fam_len]; exact h)]
  congr 1
  apply List.ext_getElem?
  intro j
  rw [List.getElem?_set]
  by_cases hj : i = j
  · subst hj
    simp [fam, h, va_up]
  · by_cases h2 : j < n
    · simp [fam, hj, h2, va_up, Ne.symm hj]
    · simp [fam, hj, h2]
theorem fam_setk {n k : Nat} {g : Nat → Nat} {c : Nat → va_E} {Y : va_W} {x : Nat × va_E} : (fam n g c ++ Y).set (n + k) x = fam n g c ++ Y.set k x := by
  rw [List.set_append_right (h := by rw [fam_len]; omega), fam_len]
  congr 2
  omega
/-- a sign's cells; g: its number to its address (100 + 3 i the sign, then its stamps, then its removals); nx: its successor in the chain -/
def sgC (G : Nat → Nat) (S : Nat → Nat → Nat) (nx : Nat → Option Nat) (i : Nat) : va_E := .inr (0, [.int (nI i), .int (nI (S 1 i)), .int (nI (S 2 i)), .int (nI (4 * S 3 i + S 1 i)), va_rf (if S 4 i = 0 then none else some (G (100 + 3 * (S 4 i - 1)))), va_rf ((nx i).map fun j => G (100 + 3 * j)), .ref (G (101 + 3 * i)), .ref (G (102 + 3 * i))])
def stV (S : Nat → Nat → Nat) (i a : Nat) : Int32 := if S 5 (60 * a + i) = 0 then -1 else nI (S 7 (60 * a + i))
def stC (cy : Nat → ClassId) (S : Nat → Nat → Nat) (i : Nat) : va_E := .inl (cy 0, 4, .inl (stV S i))
def rmC (cy : Nat → ClassId) (S : Nat → Nat → Nat) (i : Nat) : va_E := .inl (cy 2, 4, .inl (fun a => nI (S 6 (60 * a + i))))
def rwC (cy : Nat → ClassId) (S : Nat → Nat → Nat) (e : Nat) : va_E := .inl (cy 0, 4, .inl (fun a => nI (S 9 (4 * e + a))))
def sgW (cy : Nat → ClassId) (G : Nat → Nat) (S : Nat → Nat → Nat) (nx : Nat → Option Nat) (Y : va_W) : va_W :=
  fam (S 0 0) (fun i => G (100 + 3 * i)) (sgC G S nx) ++ (fam (S 0 0) (fun i => G (101 + 3 * i)) (stC cy S) ++ (fam (S 0 0) (fun i => G (102 + 3 * i)) (rmC cy S) ++ Y))
/-- the class's world: hd the chain's first, nx the successors -/
def CW (cy : Nat → ClassId) (G : Nat → Nat) (S : Nat → Nat → Nat) (hd : Option Nat) (nx : Nat → Option Nat) (Y : va_W) : va_W :=
  (G 0, .inr (1, [.ref (G 1), .int (nI (S 0 0)), va_rf (hd.map fun j => G (100 + 3 * j)), .ref (G 2), .ref (G 3), .int (nI (S 0 1)), .int (nI (S 0 2)), .ref (G 4), .ref (G 5)])) ::
  (G 1, .inl (cy 3, 60, .inr (.inr (.inr (.inr (fun i => if i < S 0 0 then some (G (100 + 3 * i)) else none)))))) ::
  (G 2, .inl (cy 0, 4, .inl (fun j => nI (S 8 j)))) ::
  (G 3, .inl (cy 4, 20, .inr (.inr (.inr (.inr (fun e => if e < 20 then some (G (10 + e)) else none)))))) ::
  (G 4, .inl (cy 0, 4, .inl (fun j => nI (S 10 j)))) ::
  (G 5, .inl (cy 1, 4, .inr (.inl (fun j => lN (S 11 j))))) ::
  (fam 20 (fun e => G (10 + e)) (rwC cy S) ++ sgW cy G S nx Y)
theorem CW_sg {cy : Nat → ClassId} {G : Nat → Nat} {S : Nat → Nat → Nat} {hd : Option Nat} {nx : Nat → Option Nat} {Y : va_W} {i : Nat} (h : i < S 0 0) : (CW cy G S hd nx Y)[6 + (20 + i)]? = some (G (100 + 3 * i), sgC G S nx i) := by
  rw [show 6 + (20 + i) = (20 + i) + 1 + 1 + 1 + 1 + 1 + 1 by omega]
  simp only [CW, List.getElem?_cons_succ]
  rw [fam_skip]
  exact fam_get h
theorem CW_st {cy : Nat → ClassId} {G : Nat → Nat} {S : Nat → Nat → Nat} {hd : Option Nat} {nx : Nat → Option Nat} {Y : va_W} {i : Nat} (h : i < S 0 0) : (CW cy G S hd nx Y)[6 + (20 + (S 0 0 + i))]? = some (G (101 + 3 * i), stC cy S i) := by
  rw [show 6 + (20 + (S 0 0 + i)) = (20 + (S 0 0 + i)) + 1 + 1 + 1 + 1 + 1 + 1 by omega]
  simp only [CW, sgW, List.getElem?_cons_succ]
  rw [fam_skip, fam_skip]
  exact fam_get h
theorem CW_rm {cy : Nat → ClassId} {G : Nat → Nat} {S : Nat → Nat → Nat} {hd : Option Nat} {nx : Nat → Option Nat} {Y : va_W} {i : Nat} (h : i < S 0 0) : (CW cy G S hd nx Y)[6 + (20 + (S 0 0 + (S 0 0 + i)))]? = some (G (102 + 3 * i), rmC cy S i) := by
  rw [show 6 + (20 + (S 0 0 + (S 0 0 + i))) = (20 + (S 0 0 + (S 0 0 + i))) + 1 + 1 + 1 + 1 + 1 + 1 by omega]
  simp only [CW, sgW, List.getElem?_cons_succ]
  rw [fam_skip, fam_skip, fam_skip]
  exact fam_get h
theorem CW_rw {cy : Nat → ClassId} {G : Nat → Nat} {S : Nat → Nat → Nat} {hd : Option Nat} {nx : Nat → Option Nat} {Y : va_W} {i : Nat} (h : i < 20) : (CW cy G S hd nx Y)[6 + i]? = some (G (10 + i), rwC cy S i) := by
  rw [show 6 + i = i + 1 + 1 + 1 + 1 + 1 + 1 by omega]
  simp only [CW, List.getElem?_cons_succ]
  exact fam_get h
end
section
/-! ===== the reference: small methods ===== -/
set_option maxHeartbeats 4000000 in
set_option maxRecDepth 100000 in
theorem c_X2_thrown (l : Launch) {D : va_G} {cy : Nat → ClassId} {B : Nat → Nat} {S T : Nat → Nat → Nat} {Y : va_W} : CI l yX2_thrown wsX2_thrown ({ frames := 1, cells := 0, slots := 0, locals := 12 } : Room) D cy [.ref (B 0)] (MW cy B S T Y) (fun r w' => r = nI (T 0 2) ∧ w' = MW cy B S T Y) 0 0 := by
  refine CI.of (cc := cX2_thrown) (maxL := 1) (ret := (some .int)) (by decide) rfl (Nat.le_of_ble_eq_true rfl) ?_
  intro p e s m below meth c A ls E0 hl
  obtain ⟨hx, hb, hml, hown, hts, hr, hlocks, hA, hS, hP, hK, hD, hX⟩ := E0
  have hiX2 : ∀ w ∈ u_ws RX2 TX2 19, w ∈ wsX2_thrown := by decide +kernel
  have hl : lv_has ls 1 [(0, .ref (B 0))] := hl
  refine lv_aload_n hx hb dX2_thrown_0 rfl (lv_at hl 0 rfl) ?_
  refine va_get (D := D) (ci := 2) (v := .int (nI (T 0 2))) (C := RX2) (T := TX2) (N := 19) hx hb hts hiX2 hown hK hP (0) rfl rfl 18 (by decide) (hts (.fieldLink RX2 51 "CoauthorTextModel" "thrown" "I") (by decide +kernel)) (fun _ h9 => h9) rfl dX2_thrown_1 ?_
  exact C_iret hx hb hr hlocks hS hP hK hD (Nat.le_of_ble_eq_true rfl) (Nat.le_of_ble_eq_true rfl) dX2_thrown_4 ⟨rfl, rfl⟩

set_option maxHeartbeats 4000000 in
set_option maxRecDepth 100000 in
theorem c_X2_goes (l : Launch) {D : va_G} {cy : Nat → ClassId} {B : Nat → Nat} {S T : Nat → Nat → Nat} {Y : va_W} {k : Nat} (hk : k < 2 ^ 31) : CI l yX2_goes wsX2_goes ({ frames := 1, cells := 0, slots := 0, locals := 12 } : Room) D cy [.ref (B 0), .int (nI k)] (MW cy B S T Y) (fun r w' => r = nI (bN (decide (k = 0))) ∧ w' = MW cy B S (up2 T 0 2 k) Y) 0 0 := by
  refine CI.of (cc := cX2_goes) (maxL := 2) (ret := (some .boolean)) (by decide) rfl (Nat.le_of_ble_eq_true rfl) ?_
  intro p e s m below meth c A ls E0 hl
  obtain ⟨hx, hb, hml, hown, hts, hr, hlocks, hA, hS, hP, hK, hD, hX⟩ := E0
  have hiX2 : ∀ w ∈ u_ws RX2 TX2 19, w ∈ wsX2_goes := by decide +kernel
  have hl : lv_has ls 2 [(0, .ref (B 0)), (1, .int (nI k))] := hl
  refine lv_aload_n hx hb dX2_goes_0 rfl (lv_at hl 0 rfl) ?_
  refine lv_iload_n hx hb dX2_goes_1 rfl (lv_at hl 1 rfl) ?_
  refine r_put (w' := MW cy B S (up2 T 0 2 k) Y) (own := RX2) (C := RX2) (T := TX2) (N := 19) (ci := 2) (q0 := 0) (k := 18) (index := 51) (ty := .int) hx hb hts hiX2 tyX2_ok nmX2 hown hK hP hD hS rfl rfl (by decide) (by decide +kernel) rfl (by decide +kernel) rfl rfl (Nat.le_of_ble_eq_true rfl) dX2_goes_2 rfl (fun H locs hP hD hS => ?_)
  refine lv_iload_n hx hb dX2_goes_5 rfl (lv_at hl 1 rfl) ?_
  refine r_if_ne (tgt := 13) hx hb dX2_goes_6 (by decide) (by omega) (fun c1 => ?_) (fun c1 => ?_)
  · refine lv_iconst (v := nI 0) hx hb dX2_goes_13 (by decide) ?_
    exact C_zret hx hb hr hlocks hS hP hK hD (Nat.le_of_ble_eq_true rfl) (Nat.le_of_ble_eq_true rfl) dX2_goes_14 rfl ⟨by rw [decide_eq_false (by omega)]; rfl, rfl⟩
  · refine lv_iconst (v := nI 1) hx hb dX2_goes_9 (by decide) ?_
    refine lv_goto (tgt := 14) hx hb dX2_goes_10 (by decide) ?_
    exact C_zret hx hb hr hlocks hS hP hK hD (Nat.le_of_ble_eq_true rfl) (Nat.le_of_ble_eq_true rfl) dX2_goes_14 rfl ⟨by rw [decide_eq_true (by omega)]; rfl, rfl⟩

set_option maxHeartbeats 4000000 in
set_option maxRecDepth 100000 in
theorem c_X2_isIn (l : Launch) {D : va_G} {cy : Nat → ClassId} {w : va_W} (v lo hi : Int32) : CI l yX2_isIn wsX2_isIn ({ frames := 1, cells := 0, slots := 0, locals := 12 } : Room) D cy [.int v, .int lo, .int hi] (w) (fun r w' => r = nI (bN (inB v lo hi)) ∧ w' = w) 0 0 := by
  refine CI.of (cc := cX2_isIn) (maxL := 3) (ret := (some .boolean)) (by decide) rfl (Nat.le_of_ble_eq_true rfl) ?_
  intro p e s m below meth c A ls E0 hl
  obtain ⟨hx, hb, hml, hown, hts, hr, hlocks, hA, hS, hP, hK, hD, hX⟩ := E0
  have hl : lv_has ls 3 [(0, .int v), (1, .int lo), (2, .int hi)] := hl
  refine lv_iload_n hx hb dX2_isIn_0 rfl (lv_at hl 0 rfl) ?_
  refine lv_iload_n hx hb dX2_isIn_1 rfl (lv_at hl 1 rfl) ?_
  refine lv_icmp_lt (tgt := 14) hx hb dX2_isIn_2 (by decide) (fun c1 => ?_) (fun c1 => ?_)
  · refine lv_iconst (v := nI 0) hx hb dX2_isIn_14 (by decide) ?_
    exact C_zret hx hb hr hlocks hS hP hK hD (Nat.le_of_ble_eq_true rfl) (Nat.le_of_ble_eq_true rfl) dX2_isIn_15 rfl ⟨by rw [show inB v lo hi = false by simp only [inB, Bool.and_eq_false_iff, decide_eq_false_iff_not]; exact Or.inl (Int32.not_le.mpr c1)]; rfl, rfl⟩
  · refine lv_iload_n hx hb dX2_isIn_5 rfl (lv_at hl 0 rfl) ?_
    refine lv_iload_n hx hb dX2_isIn_6 rfl (lv_at hl 2 rfl) ?_
    refine lv_icmp_gt (tgt := 14) hx hb dX2_isIn_7 (by decide) (fun c2 => ?_) (fun c2 => ?_)
    · refine lv_iconst (v := nI 0) hx hb dX2_isIn_14 (by decide) ?_
      exact C_zret hx hb hr hlocks hS hP hK hD (Nat.le_of_ble_eq_true rfl) (Nat.le_of_ble_eq_true rfl) dX2_isIn_15 rfl ⟨by rw [show inB v lo hi = false by simp only [inB, Bool.and_eq_false_iff, decide_eq_false_iff_not]; exact Or.inr (Int32.not_le.mpr c2)]; rfl, rfl⟩
    · refine lv_iconst (v := nI 1) hx hb dX2_isIn_10 (by decide) ?_
      refine lv_goto (tgt := 15) hx hb dX2_isIn_11 (by decide) ?_
      exact C_zret hx hb hr hlocks hS hP hK hD (Nat.le_of_ble_eq_true rfl) (Nat.le_of_ble_eq_true rfl) dX2_isIn_15 rfl ⟨by rw [show inB v lo hi = true by simp only [inB, Bool.and_eq_true, decide_eq_true_eq]; exact ⟨Int32.not_lt.mp c1, Int32.not_lt.mp c2⟩]; rfl, rfl⟩

set_option maxHeartbeats 4000000 in
set_option maxRecDepth 100000 in
theorem c_X2_isAuthor (l : Launch) {D : va_G} {cy : Nat → ClassId} {w : va_W} (v : Int32) : CI l yX2_isAuthor wsX2_isAuthor ({ frames := 2, cells := 0, slots := 0, locals := 34 } : Room) D cy [.int v] (w) (fun r w' => r = nI (bN (isA v)) ∧ w' = w) 0 0 := by
  refine CI.of (cc := cX2_isAuthor) (maxL := 1) (ret := (some .boolean)) (by decide) rfl (Nat.le_of_ble_eq_true rfl) ?_
  intro p e s m below meth c A ls E0 hl
  obtain ⟨hx, hb, hml, hown, hts, hr, hlocks, hA, hS, hP, hK, hD, hX⟩ := E0
  have hl : lv_has ls 1 [(0, .int v)] := hl
  refine lv_iload_n hx hb dX2_isAuthor_0 rfl (lv_at hl 0 rfl) ?_
  refine lv_iconst (v := nI 0) hx hb dX2_isAuthor_1 (by decide) ?_
  refine lv_iconst (v := nI 3) hx hb dX2_isAuthor_2 (by decide) ?_
  refine K_i (va_runS (As := [.int v, .int (nI 0), .int (nI 3)]) (rest := []) ⟨hx, hb, hml, hown, hts⟩ (c_X2_isIn l v (nI 0) (nI 3) _) (va_cwS 3 hts gX2_isAuthor_X2_isIn rfl rfl rfl (by decide +kernel) ⟨Nat.le_of_ble_eq_true rfl, Nat.le_of_ble_eq_true rfl⟩) (pS hP hK hD hS hA hX) rfl rfl hl.1 rfl (lv_room (Nat.le_of_ble_eq_true rfl)) dX2_isAuthor_3 ⟨Nat.le_of_ble_eq_true rfl, Nat.le_of_ble_eq_true rfl⟩) hD hS hA (fun r w'  H locs hp hP hD hS => ?_)
  obtain ⟨rfl, hw9⟩ := hp
  rw [hw9] at hP hD
  exact C_zret hx hb hr hlocks hS hP hK hD (Nat.le_of_ble_eq_true rfl) (Nat.le_of_ble_eq_true rfl) dX2_isAuthor_6 (nw_b _) ⟨rfl, rfl⟩

set_option maxHeartbeats 4000000 in
set_option maxRecDepth 100000 in
theorem c_X2_isSign (l : Launch) {D : va_G} {cy : Nat → ClassId} {B : Nat → Nat} {S T : Nat → Nat → Nat} {Y : va_W} (v : Int32) : CI l yX2_isSign wsX2_isSign ({ frames := 2, cells := 0, slots := 0, locals := 34 } : Room) D cy [.ref (B 0), .int v] (MW cy B S T Y) (fun r w' => r = nI (bN (inS v (S 0 0))) ∧ w' = MW cy B S T Y) 0 0 := by
  refine CI.of (cc := cX2_isSign) (maxL := 2) (ret := (some .boolean)) (by decide) rfl (Nat.le_of_ble_eq_true rfl) ?_
  intro p e s m below meth c A ls E0 hl
  obtain ⟨hx, hb, hml, hown, hts, hr, hlocks, hA, hS, hP, hK, hD, hX⟩ := E0
  have hiX2 : ∀ w ∈ u_ws RX2 TX2 19, w ∈ wsX2_isSign := by decide +kernel
  have hl : lv_has ls 2 [(0, .ref (B 0)), (1, .int v)] := hl
  refine lv_iload_n hx hb dX2_isSign_0 rfl (lv_at hl 1 rfl) ?_
  refine lv_iconst (v := nI 0) hx hb dX2_isSign_1 (by decide) ?_
  refine lv_aload_n hx hb dX2_isSign_2 rfl (lv_at hl 0 rfl) ?_
  refine va_get (D := D) (ci := 2) (v := .int (nI (S 0 0))) (C := RX2) (T := TX2) (N := 19) hx hb hts hiX2 hown hK hP (0) rfl rfl 0 (by decide) (hts (.fieldLink RX2 59 "CoauthorTextModel" "signs" "I") (by decide +kernel)) (fun _ h9 => h9) rfl dX2_isSign_3 ?_
  refine lv_iconst (v := nI 1) hx hb dX2_isSign_6 (by decide) ?_
  refine lv_isub hx hb dX2_isSign_7 ?_
  refine K_i (va_runS (As := [.int v, .int (nI 0), .int (bI (S 0 0))]) (rest := []) ⟨hx, hb, hml, hown, hts⟩ (c_X2_isIn l v (nI 0) (bI (S 0 0)) _) (va_cwS 3 hts gX2_isSign_X2_isIn rfl rfl rfl (by decide +kernel) ⟨Nat.le_of_ble_eq_true rfl, Nat.le_of_ble_eq_true rfl⟩) (pS hP hK hD hS hA hX) rfl rfl hl.1 rfl (lv_room (Nat.le_of_ble_eq_true rfl)) dX2_isSign_8 ⟨Nat.le_of_ble_eq_true rfl, Nat.le_of_ble_eq_true rfl⟩) hD hS hA (fun r w'  H locs hp hP hD hS => ?_)
  obtain ⟨rfl, rfl⟩ := hp
  exact C_zret hx hb hr hlocks hS hP hK hD (Nat.le_of_ble_eq_true rfl) (Nat.le_of_ble_eq_true rfl) dX2_isSign_11 (nw_b _) ⟨rfl, rfl⟩

set_option maxHeartbeats 4000000 in
set_option maxRecDepth 100000 in
theorem c_X2_isEdition (l : Launch) {D : va_G} {cy : Nat → ClassId} {B : Nat → Nat} {S T : Nat → Nat → Nat} {Y : va_W} (v : Int32) : CI l yX2_isEdition wsX2_isEdition ({ frames := 2, cells := 0, slots := 0, locals := 34 } : Room) D cy [.ref (B 0), .int v] (MW cy B S T Y) (fun r w' => r = nI (bN (inS v (S 0 1))) ∧ w' = MW cy B S T Y) 0 0 := by
  refine CI.of (cc := cX2_isEdition) (maxL := 2) (ret := (some .boolean)) (by decide) rfl (Nat.le_of_ble_eq_true rfl) ?_
  intro p e s m below meth c A ls E0 hl
  obtain ⟨hx, hb, hml, hown, hts, hr, hlocks, hA, hS, hP, hK, hD, hX⟩ := E0
  have hiX2 : ∀ w ∈ u_ws RX2 TX2 19, w ∈ wsX2_isEdition := by decide +kernel
  have hl : lv_has ls 2 [(0, .ref (B 0)), (1, .int v)] := hl
  refine lv_iload_n hx hb dX2_isEdition_0 rfl (lv_at hl 1 rfl) ?_
  refine lv_iconst (v := nI 0) hx hb dX2_isEdition_1 (by decide) ?_
  refine lv_aload_n hx hb dX2_isEdition_2 rfl (lv_at hl 0 rfl) ?_
  refine va_get (D := D) (ci := 2) (v := .int (nI (S 0 1))) (C := RX2) (T := TX2) (N := 19) hx hb hts hiX2 hown hK hP (0) rfl rfl 9 (by decide) (hts (.fieldLink RX2 62 "CoauthorTextModel" "editions" "I") (by decide +kernel)) (fun _ h9 => h9) rfl dX2_isEdition_3 ?_
  refine lv_iconst (v := nI 1) hx hb dX2_isEdition_6 (by decide) ?_
  refine lv_isub hx hb dX2_isEdition_7 ?_
  refine K_i (va_runS (As := [.int v, .int (nI 0), .int (bI (S 0 1))]) (rest := []) ⟨hx, hb, hml, hown, hts⟩ (c_X2_isIn l v (nI 0) (bI (S 0 1)) _) (va_cwS 3 hts gX2_isEdition_X2_isIn rfl rfl rfl (by decide +kernel) ⟨Nat.le_of_ble_eq_true rfl, Nat.le_of_ble_eq_true rfl⟩) (pS hP hK hD hS hA hX) rfl rfl hl.1 rfl (lv_room (Nat.le_of_ble_eq_true rfl)) dX2_isEdition_8 ⟨Nat.le_of_ble_eq_true rfl, Nat.le_of_ble_eq_true rfl⟩) hD hS hA (fun r w'  H locs hp hP hD hS => ?_)
  obtain ⟨rfl, rfl⟩ := hp
  exact C_zret hx hb hr hlocks hS hP hK hD (Nat.le_of_ble_eq_true rfl) (Nat.le_of_ble_eq_true rfl) dX2_isEdition_11 (nw_b _) ⟨rfl, rfl⟩

set_option maxHeartbeats 4000000 in
set_option maxRecDepth 100000 in
theorem c_X2_at (l : Launch) {D : va_G} {cy : Nat → ClassId} {w : va_W} (a i : Nat) : CI l yX2_at wsX2_at ({ frames := 1, cells := 0, slots := 0, locals := 12 } : Room) D cy [.int (nI a), .int (nI i)] (w) (fun r w' => r = nI (60 * a + i) ∧ w' = w) 0 0 := by
  refine CI.of (cc := cX2_at) (maxL := 2) (ret := (some .int)) (by decide) rfl (Nat.le_of_ble_eq_true rfl) ?_
  intro p e s m below meth c A ls E0 hl
  obtain ⟨hx, hb, hml, hown, hts, hr, hlocks, hA, hS, hP, hK, hD, hX⟩ := E0
  have hl : lv_has ls 2 [(0, .int (nI a)), (1, .int (nI i))] := hl
  refine lv_bipush (v := nI 60) hx hb dX2_at_0 (by decide) ?_
  refine lv_iload_n hx hb dX2_at_2 rfl (lv_at hl 0 rfl) ?_
  refine r_imul hx hb dX2_at_3 ?_
  refine lv_iload_n hx hb dX2_at_4 rfl (lv_at hl 1 rfl) ?_
  refine r_iadd hx hb dX2_at_5 ?_
  exact C_iret hx hb hr hlocks hS hP hK hD (Nat.le_of_ble_eq_true rfl) (Nat.le_of_ble_eq_true rfl) dX2_at_6 ⟨rfl, rfl⟩

set_option maxHeartbeats 4000000 in
set_option maxRecDepth 100000 in
theorem c_X2_key (l : Launch) {D : va_G} {cy : Nat → ClassId} {B : Nat → Nat} {S T : Nat → Nat → Nat} {Y : va_W} {i : Nat} (hi : i < 60) : CI l yX2_key wsX2_key ({ frames := 1, cells := 0, slots := 0, locals := 12 } : Room) D cy [.ref (B 0), .int (nI i)] (MW cy B S T Y) (fun r w' => r = nI (4 * S 3 i + S 1 i) ∧ w' = MW cy B S T Y) 0 0 := by
  refine CI.of (cc := cX2_key) (maxL := 2) (ret := (some .int)) (by decide) rfl (Nat.le_of_ble_eq_true rfl) ?_
  intro p e s m below meth c A ls E0 hl
  obtain ⟨hx, hb, hml, hown, hts, hr, hlocks, hA, hS, hP, hK, hD, hX⟩ := E0
  have hiX2 : ∀ w ∈ u_ws RX2 TX2 19, w ∈ wsX2_key := by decide +kernel
  have hl : lv_has ls 2 [(0, .ref (B 0)), (1, .int (nI i))] := hl
  refine lv_iconst (v := nI 4) hx hb dX2_key_0 (by decide) ?_
  refine lv_aload_n hx hb dX2_key_1 rfl (lv_at hl 0 rfl) ?_
  refine va_get (D := D) (ci := 2) (v := .ref (B 3)) (C := RX2) (T := TX2) (N := 19) hx hb hts hiX2 hown hK hP (0) rfl rfl 3 (by decide) (hts (.fieldLink RX2 16 "CoauthorTextModel" "clocksOf" "[I") (by decide +kernel)) (fun _ h9 => h9) rfl dX2_key_2 ?_
  refine lv_iload_n hx hb dX2_key_5 rfl (lv_at hl 1 rfl) ?_
  refine r_iald hx hb hK hP (3) rfl (by omega) (by decide) dX2_key_6 ?_
  refine r_imul hx hb dX2_key_7 ?_
  refine lv_aload_n hx hb dX2_key_8 rfl (lv_at hl 0 rfl) ?_
  refine va_get (D := D) (ci := 2) (v := .ref (B 1)) (C := RX2) (T := TX2) (N := 19) hx hb hts hiX2 hown hK hP (0) rfl rfl 1 (by decide) (hts (.fieldLink RX2 7 "CoauthorTextModel" "authors" "[I") (by decide +kernel)) (fun _ h9 => h9) rfl dX2_key_9 ?_
  refine lv_iload_n hx hb dX2_key_12 rfl (lv_at hl 1 rfl) ?_
  refine r_iald hx hb hK hP (1) rfl (by omega) (by decide) dX2_key_13 ?_
  refine r_iadd hx hb dX2_key_14 ?_
  exact C_iret hx hb hr hlocks hS hP hK hD (Nat.le_of_ble_eq_true rfl) (Nat.le_of_ble_eq_true rfl) dX2_key_15 ⟨rfl, rfl⟩

set_option maxHeartbeats 4000000 in
set_option maxRecDepth 100000 in
theorem c_X2_stamp (l : Launch) {D : va_G} {cy : Nat → ClassId} {B : Nat → Nat} {S T : Nat → Nat → Nat} {Y : va_W} {a : Nat} (ha : a < 4) : CI l yX2_stamp wsX2_stamp ({ frames := 1, cells := 0, slots := 0, locals := 12 } : Room) D cy [.ref (B 0), .int (nI a)] (MW cy B S T Y) (fun r w' => r = nI (4 * (S 8 a + 1) + a) ∧ w' = MW cy B (up2 S 8 a (S 8 a + 1)) T Y) 0 0 := by
  refine CI.of (cc := cX2_stamp) (maxL := 2) (ret := (some .int)) (by decide) rfl (Nat.le_of_ble_eq_true rfl) ?_
  intro p e s m below meth c A ls E0 hl
  obtain ⟨hx, hb, hml, hown, hts, hr, hlocks, hA, hS, hP, hK, hD, hX⟩ := E0
  have hiX2 : ∀ w ∈ u_ws RX2 TX2 19, w ∈ wsX2_stamp := by decide +kernel
  have hl : lv_has ls 2 [(0, .ref (B 0)), (1, .int (nI a))] := hl
  refine lv_aload_n hx hb dX2_stamp_0 rfl (lv_at hl 0 rfl) ?_
  refine va_get (D := D) (ci := 2) (v := .ref (B 8)) (C := RX2) (T := TX2) (N := 19) hx hb hts hiX2 hown hK hP (0) rfl rfl 8 (by decide) (hts (.fieldLink RX2 32 "CoauthorTextModel" "clocks" "[I") (by decide +kernel)) (fun _ h9 => h9) rfl dX2_stamp_1 ?_
  refine lv_iload_n hx hb dX2_stamp_4 rfl (lv_at hl 1 rfl) ?_
  refine lv_dup2_11 hx hb dX2_stamp_5 rfl rfl ?_
  refine r_iald hx hb hK hP (8) rfl (by omega) (by decide) dX2_stamp_6 ?_
  refine lv_iconst (v := nI 1) hx hb dX2_stamp_7 (by decide) ?_
  refine r_iadd hx hb dX2_stamp_8 ?_
  refine r_iast (w' := MW cy B (up2 S 8 a (S 8 a + 1)) T Y) hx hb hK hP hD hS (8) rfl (by omega) (by decide) dX2_stamp_9 (by rw [show upd (fun j => nI (S 8 j)) a (nI (S 8 a + 1)) = fun j => nI (up2 S 8 a (S 8 a + 1) 8 j) from upd_n S 8 a _]; rfl) (fun H locs hP hD hS => ?_)
  refine lv_iconst (v := nI 4) hx hb dX2_stamp_10 (by decide) ?_
  refine lv_aload_n hx hb dX2_stamp_11 rfl (lv_at hl 0 rfl) ?_
  refine va_get (D := D) (ci := 2) (v := .ref (B 8)) (C := RX2) (T := TX2) (N := 19) hx hb hts hiX2 hown hK hP (0) rfl rfl 8 (by decide) (hts (.fieldLink RX2 32 "CoauthorTextModel" "clocks" "[I") (by decide +kernel)) (fun _ h9 => h9) rfl dX2_stamp_12 ?_
  refine lv_iload_n hx hb dX2_stamp_15 rfl (lv_at hl 1 rfl) ?_
  refine r_iald hx hb hK hP (8) rfl (by omega) (by decide) dX2_stamp_16 ?_
  refine r_imul hx hb dX2_stamp_17 ?_
  refine lv_iload_n hx hb dX2_stamp_18 rfl (lv_at hl 1 rfl) ?_
  refine r_iadd hx hb dX2_stamp_19 ?_
  exact C_iret hx hb hr hlocks hS hP hK hD (Nat.le_of_ble_eq_true rfl) (Nat.le_of_ble_eq_true rfl) dX2_stamp_20 ⟨by rw [up2_s], rfl⟩

set_option maxHeartbeats 4000000 in
set_option maxRecDepth 100000 in
theorem c_X2_asks (l : Launch) {D : va_G} {cy : Nat → ClassId} {B : Nat → Nat} {S T : Nat → Nat → Nat} {Y : va_W} (v : Int32) : CI l yX2_asks wsX2_asks ({ frames := 3, cells := 0, slots := 0, locals := 54 } : Room) D cy [.ref (B 0), .int v] (MW cy B S T Y) (fun r w' => r = nI (bN (isA v)) ∧ w' = MW cy B S (up2 T 0 2 (bN (!isA v))) Y) 0 0 := by
  refine CI.of (cc := cX2_asks) (maxL := 2) (ret := (some .boolean)) (by decide) rfl (Nat.le_of_ble_eq_true rfl) ?_
  intro p e s m below meth c A ls E0 hl
  obtain ⟨hx, hb, hml, hown, hts, hr, hlocks, hA, hS, hP, hK, hD, hX⟩ := E0
  have hiX2 : ∀ w ∈ u_ws RX2 TX2 19, w ∈ wsX2_asks := by decide +kernel
  have hl : lv_has ls 2 [(0, .ref (B 0)), (1, .int v)] := hl
  refine lv_aload_n hx hb dX2_asks_0 rfl (lv_at hl 0 rfl) ?_
  refine lv_iload_n hx hb dX2_asks_1 rfl (lv_at hl 1 rfl) ?_
  refine K_i (va_runS (As := [.int v]) (rest := [.ref (B 0)]) ⟨hx, hb, hml, hown, hts⟩ (c_X2_isAuthor l v _) (va_cwS 1 hts gX2_asks_X2_isAuthor rfl rfl rfl (by decide +kernel) ⟨Nat.le_of_ble_eq_true rfl, Nat.le_of_ble_eq_true rfl⟩) (pS hP hK hD hS hA hX) rfl rfl hl.1 rfl (lv_room (Nat.le_of_ble_eq_true rfl)) dX2_asks_2 ⟨Nat.le_of_ble_eq_true rfl, Nat.le_of_ble_eq_true rfl⟩) hD hS hA (fun r w'  H locs hp hP hD hS => ?_)
  obtain ⟨rfl, rfl⟩ := hp
  refine r_if_eq (tgt := 12) hx hb dX2_asks_5 (by decide) (Nat.lt_trans (bN_lt _) (by decide)) (fun c1 => ?_) (fun c1 => ?_)
  · refine lv_iconst (v := nI 1) hx hb dX2_asks_12 (by decide) ?_
    refine K_i (va_runV (As := [.int (nI 1)]) (rest := []) ⟨hx, hb, hml, hown, hts⟩ (c_X2_goes l (k := 1) (by decide) _) (cwV 1 hts gX2_asks_X2_goes rfl rfl rfl (by decide +kernel) ⟨Nat.le_of_ble_eq_true rfl, Nat.le_of_ble_eq_true rfl⟩) (pV hP hK hD hS hA hX (va_recv hK hP (ci := 2) (q0 := 0) rfl rfl)) rfl rfl hl.1 rfl (lv_room (Nat.le_of_ble_eq_true rfl)) dX2_asks_13 ⟨Nat.le_of_ble_eq_true rfl, Nat.le_of_ble_eq_true rfl⟩) hD hS hA (fun r w'  H locs hp hP hD hS => ?_)
    obtain ⟨rfl, rfl⟩ := hp
    exact C_zret hx hb hr hlocks hS hP hK hD (Nat.le_of_ble_eq_true rfl) (Nat.le_of_ble_eq_true rfl) dX2_asks_16 (nw_b _) ⟨by rw [show isA v = false by rcases h : isA v with _ | _ <;> simp_all [bN]]; rfl, by rw [show isA v = false by rcases h : isA v with _ | _ <;> simp_all [bN]]; rfl⟩
  · refine lv_iconst (v := nI 0) hx hb dX2_asks_8 (by decide) ?_
    refine lv_goto (tgt := 13) hx hb dX2_asks_9 (by decide) ?_
    refine K_i (va_runV (As := [.int (nI 0)]) (rest := []) ⟨hx, hb, hml, hown, hts⟩ (c_X2_goes l (k := 0) (by decide) _) (cwV 1 hts gX2_asks_X2_goes rfl rfl rfl (by decide +kernel) ⟨Nat.le_of_ble_eq_true rfl, Nat.le_of_ble_eq_true rfl⟩) (pV hP hK hD hS hA hX (va_recv hK hP (ci := 2) (q0 := 0) rfl rfl)) rfl rfl hl.1 rfl (lv_room (Nat.le_of_ble_eq_true rfl)) dX2_asks_13 ⟨Nat.le_of_ble_eq_true rfl, Nat.le_of_ble_eq_true rfl⟩) hD hS hA (fun r w'  H locs hp hP hD hS => ?_)
    obtain ⟨rfl, rfl⟩ := hp
    exact C_zret hx hb hr hlocks hS hP hK hD (Nat.le_of_ble_eq_true rfl) (Nat.le_of_ble_eq_true rfl) dX2_asks_16 (nw_b _) ⟨by rw [show isA v = true by rcases h : isA v with _ | _ <;> simp_all [bN]]; rfl, by rw [show isA v = true by rcases h : isA v with _ | _ <;> simp_all [bN]]; rfl⟩
end
section
/-! ===== the order, as pure facts ===== -/
def keyS (S : Nat → Nat → Nat) (i : Nat) : Nat := 4 * S 3 i + S 1 i
def chP (S : Nat → Nat → Nat) (a b i : Nat) : Prop := i < S 0 0 ∧ S 5 (60 * a + i) = 1 ∧ S 4 i = b
/-- ranges of what is held -/
def Rng (S : Nat → Nat → Nat) : Prop := S 0 0 ≤ 60 ∧ S 0 1 ≤ 20 ∧ S 0 2 ≤ 25 ∧ (∀ i, S 1 i < 4) ∧ (∀ i, S 2 i < 26) ∧ (∀ i, S 3 i < 1048576) ∧ (∀ i, S 4 i ≤ 60) ∧ (∀ i, S 5 i < 2) ∧ (∀ i, S 6 i < 2) ∧ (∀ i, S 7 i < 16777216) ∧ (∀ i, S 8 i < 1048576) ∧ (∀ i, S 9 i ≤ 60) ∧ (∀ i, S 10 i < 1073741824)
theorem Rng.key {S : Nat → Nat → Nat} (h : Rng S) (i : Nat) : keyS S i < 8388608 := by
  have h1 := h.2.2.2.1 i
  have h3 := h.2.2.2.2.2.1 i
  unfold keyS
  omega
/-- the candidate of least key at least lk among the signs below j; 0: none -/
def bestP (S : Nat → Nat → Nat) (a b lk j f : Nat) : Prop := (f = 0 ∧ ∀ i, i < j → chP S a b i → keyS S i < lk) ∨ (∃ g, f = g + 1 ∧ g < j ∧ chP S a b g ∧ lk ≤ keyS S g ∧ ∀ i, i < j → chP S a b i → lk ≤ keyS S i → keyS S g ≤ keyS S i)
theorem bestP_0 (S : Nat → Nat → Nat) (a b lk : Nat) : bestP S a b lk 0 0 := Or.inl ⟨rfl, fun i h => absurd h (Nat.not_lt_zero i)⟩
theorem bestP_no {S : Nat → Nat → Nat} {a b lk j f : Nat} (h : bestP S a b lk j f) (hn : ¬ (chP S a b j ∧ lk ≤ keyS S j)) : bestP S a b lk (j + 1) f := by
  rcases h with ⟨h1, h2⟩ | ⟨g, h1, h2, h3, h4, h5⟩
  · refine Or.inl ⟨h1, fun i hi hc => ?_⟩
    rcases Nat.lt_or_eq_of_le (Nat.lt_succ_iff.mp hi) with h | h
    · exact h2 i h hc
    · subst h
      exact Nat.not_le.mp (fun g => hn ⟨hc, g⟩)
  · refine Or.inr ⟨g, h1, by omega, h3, h4, fun i hi hc hl => ?_⟩
    rcases Nat.lt_or_eq_of_le (Nat.lt_succ_iff.mp hi) with h | h
    · exact h5 i h hc hl
    · subst h
      exact absurd ⟨hc, hl⟩ hn
theorem bestP_new {S : Nat → Nat → Nat} {a b lk j f : Nat} (h : bestP S a b lk j f) (hc0 : chP S a b j) (hl0 : lk ≤ keyS S j) (hf : f = 0 ∨ ∃ g, f = g + 1 ∧ keyS S j < keyS S g) : bestP S a b lk (j + 1) (j + 1) := by
  refine Or.inr ⟨j, rfl, by omega, hc0, hl0, fun i hi hc hl => ?_⟩
  rcases Nat.lt_or_eq_of_le (Nat.lt_succ_iff.mp hi) with hij | hij
  · rcases h with ⟨h1, h2⟩ | ⟨g, h1, h2, h3, h4, h5⟩
    · exact absurd (h2 i hij hc) (by omega)
    · rcases hf with hf | ⟨g', hf, hk⟩
      · omega
      · have : g' = g := by omega
        subst this
        have := h5 i hij hc hl
        omega
  · subst hij
    exact Nat.le_refl _
theorem bestP_old {S : Nat → Nat → Nat} {a b lk j g : Nat} (h : bestP S a b lk j (g + 1)) (hk : keyS S g ≤ keyS S j) : bestP S a b lk (j + 1) (g + 1) := by
  rcases h with ⟨h1, -⟩ | ⟨g', h1, h2, h3, h4, h5⟩
  · omega
  · have : g' = g := by omega
    subst this
    refine Or.inr ⟨g', rfl, by omega, h3, h4, fun i hi hc hl => ?_⟩
    rcases Nat.lt_or_eq_of_le (Nat.lt_succ_iff.mp hi) with hij | hij
    · exact h5 i hij hc hl
    · subst hij; exact hk
/-- cs: the candidates with a key of at least lk, ascending -/
def ascP (S : Nat → Nat → Nat) (a b lk : Nat) (cs : List Nat) : Prop := cs.Pairwise (fun i j => keyS S i < keyS S j) ∧ ∀ i, i ∈ cs ↔ chP S a b i ∧ lk ≤ keyS S i
theorem ascP_nil {S : Nat → Nat → Nat} {a b lk f : Nat} (h : ascP S a b lk []) (hb : bestP S a b lk (S 0 0) f) : f = 0 := by
  rcases hb with ⟨h1, -⟩ | ⟨g, -, h2, h3, h4, -⟩
  · exact h1
  · exact absurd ((h.2 g).mpr ⟨h3, h4⟩) List.not_mem_nil
theorem ascP_cons {S : Nat → Nat → Nat} {a b lk f c : Nat} {r : List Nat} (h : ascP S a b lk (c :: r)) (hb : bestP S a b lk (S 0 0) f) : f = c + 1 ∧ chP S a b c ∧ ascP S a b (keyS S c + 1) r := by
  obtain ⟨hp, hm⟩ := h
  rw [List.pairwise_cons] at hp
  have hc := (hm c).mp List.mem_cons_self
  refine ⟨?_, hc.1, hp.2, fun i => ⟨fun hi => ⟨((hm i).mp (List.mem_cons_of_mem _ hi)).1, hp.1 i hi⟩, fun hi => ?_⟩⟩
  · rcases hb with ⟨h1, h2⟩ | ⟨g, h1, h2, h3, h4, h5⟩
    · exact absurd (h2 c hc.1.1 hc.1) (by omega)
    · rcases List.mem_cons.mp ((hm g).mpr ⟨h3, h4⟩) with hg | hg
      · omega
      · have := hp.1 g hg
        have := h5 c hc.1.1 hc.1 hc.2
        omega
  · rcases List.mem_cons.mp ((hm i).mpr ⟨hi.1, by omega⟩) with h9 | h9
    · subst h9; omega
    · exact h9
/-- the stack, pushed on -/
def push1 (T : Nat → Nat → Nat) (c : Nat) : Nat → Nat → Nat := up2 (up2 T 2 (T 0 1) c) 0 1 (T 0 1 + 1)
def pushL (T : Nat → Nat → Nat) : List Nat → Nat → Nat → Nat
  | [] => T
  | c :: r => pushL (push1 T c) r
theorem push1_top (T : Nat → Nat → Nat) (c : Nat) : push1 T c 0 1 = T 0 1 + 1 := by simp [push1, up2]
theorem pushL_keep (r : List Nat) : ∀ (T : Nat → Nat → Nat), pushL T r 0 1 = T 0 1 + r.length ∧ pushL T r 0 0 = T 0 0 ∧ pushL T r 0 2 = T 0 2 ∧ pushL T r 1 = T 1 ∧ ∀ k, k < T 0 1 → pushL T r 2 k = T 2 k := by
  induction r with
  | nil => intro T; exact ⟨rfl, rfl, rfl, rfl, fun _ _ => rfl⟩
  | cons c r ih =>
    intro T
    obtain ⟨h1, h2, h3, h4, h5⟩ := ih (push1 T c)
    refine ⟨?_, ?_, ?_, ?_, fun k hk => ?_⟩
    · show pushL (push1 T c) r 0 1 = _
      rw [h1, push1_top, List.length_cons]; omega
    · exact h2.trans (by simp [push1, up2])
    · exact h3.trans (by simp [push1, up2])
    · exact h4.trans (by funext j; simp [push1, up2])
    · refine (h5 k (by rw [push1_top]; omega)).trans ?_
      simp [push1, up2, Nat.ne_of_lt hk]
/-- the stack holds stk, its top first -/
def stkP (T : Nat → Nat → Nat) (stk : List Nat) : Prop := T 0 1 = stk.length ∧ ∀ k, k < stk.length → some (T 2 k) = stk.reverse[k]?
theorem stkP_push {T : Nat → Nat → Nat} {stk : List Nat} {c : Nat} (h : stkP T stk) : stkP (push1 T c) (c :: stk) := by
  refine ⟨by rw [push1_top, h.1]; rfl, fun k hk => ?_⟩
  rw [List.reverse_cons]
  by_cases e : k = T 0 1
  · subst e
    rw [List.getElem?_append_right (by rw [List.length_reverse, h.1]; exact Nat.le_refl _)]
    simp [push1, up2, h.1]
  · have hk2 : k < stk.length := by rw [List.length_cons] at hk; rw [h.1] at e; omega
    rw [List.getElem?_append_left (by rw [List.length_reverse]; exact hk2), ← h.2 k hk2]
    simp [push1, up2, e]
theorem stkP_pushL (r : List Nat) : ∀ {T : Nat → Nat → Nat} {stk : List Nat}, stkP T stk → stkP (pushL T r) (r.reverse ++ stk) := by
  induction r with
  | nil => intro T stk h; exact h
  | cons c r ih =>
    intro T stk h
    rw [List.reverse_cons, List.append_assoc]
    exact ih (stkP_push h)
theorem stkP_pop {T : Nat → Nat → Nat} {s : Nat} {stk : List Nat} (h : stkP T (s :: stk)) : T 0 1 = stk.length + 1 ∧ T 2 stk.length = s ∧ stkP (up2 T 0 1 (T 0 1 - 1)) stk := by
  refine ⟨h.1, ?_, ?_, fun k hk => ?_⟩
  · have h9 := h.2 stk.length (by simp)
    rw [List.reverse_cons, List.getElem?_append_right (by simp)] at h9
    simpa using h9
  · rw [up2_s, h.1]; rfl
  · have h9 := h.2 k (by rw [List.length_cons]; omega)
    rw [List.reverse_cons, List.getElem?_append_left (by rw [List.length_reverse]; exact hk)] at h9
    rw [← h9]
    simp [up2]
/-- walking back from t over r (the nearest first) up to the sign behind which t was inserted, keys are greater than t's -/
def sees (S : Nat → Nat → Nat) (t : Nat) : List Nat → Prop
  | [] => S 4 t = 0
  | u :: r => S 4 t = u + 1 ∨ (keyS S t < keyS S u ∧ sees S t r)
/-- the list's order: rp what is ahead, reversed -/
def ordP (S : Nat → Nat → Nat) : List Nat → List Nat → Prop
  | _, [] => True
  | rp, t :: suf => sees S t rp ∧ ordP S (t :: rp) suf
/-- keys grow from a sign to those behind it -/
def growP (S : Nat → Nat → Nat) : Prop := ∀ i, i < S 0 0 → S 4 i = 0 ∨ (S 4 i - 1 < S 0 0 ∧ keyS S (S 4 i - 1) < keyS S i)
def frP (S : Nat → Nat → Nat) (rp : List Nat) (i : Nat) : Bool := decide (S 4 i = 0) || decide (S 4 i - 1 ∈ rp)
theorem sees_fr {S : Nat → Nat → Nat} {t : Nat} : ∀ {rp : List Nat}, sees S t rp → frP S rp t = true
  | [], h => by have h : S 4 t = 0 := h; simp [frP, h]
  | u :: r, h => by
    rcases h with h | ⟨-, h⟩
    · simp [frP, h]
    · have := sees_fr h
      simp only [frP, Bool.or_eq_true, decide_eq_true_eq] at this ⊢
      rcases this with h | h
      · exact Or.inl h
      · exact Or.inr (List.mem_cons_of_mem _ h)
theorem sees_key {S : Nat → Nat → Nat} {t u : Nat} {R : List Nat} : ∀ {L : List Nat}, sees S t (L ++ u :: R) → (∀ v, v ∈ L → S 4 t ≠ v + 1) → S 4 t ≠ u + 1 → keyS S t < keyS S u
  | [], h, _, h2 => by
    rcases h with h | ⟨h, -⟩
    · exact absurd h h2
    · exact h
  | v :: L, h, h1, h2 => by
    rcases h with h | ⟨-, h⟩
    · exact absurd h (h1 v List.mem_cons_self)
    · exact sees_key h (fun w hw => h1 w (List.mem_cons_of_mem _ hw)) h2
/-- behind a sign y that stands behind s but hangs further ahead, nothing hangs at s -/
theorem nochild {S : Nat → Nat → Nat} {s y : Nat} {rp L1 : List Nat} (hg : ∀ i, S 4 i = s + 1 → i < S 0 0 → keyS S s < keyS S i) (hys : keyS S y < keyS S s) (hyne : s ≠ y) : ∀ (r L2 : List Nat), (∀ v, v ∈ L2 → s ≠ v) → (∀ z, z ∈ r → z < S 0 0 ∧ s ≠ z) → ordP S (L2 ++ y :: (L1 ++ s :: rp)) r → ∀ z, z ∈ r → S 4 z ≠ s + 1
  | [], _, _, _, _, z, hz => absurd hz List.not_mem_nil
  | x :: r, L2, hL, hr, ho, z, hz => by
    rcases List.mem_cons.mp hz with h | h
    · subst h
      intro hc
      have h1 := sees_key ho.1 (fun v hv => by have := hL v hv; omega) (by omega)
      have h2 := hg z hc (hr z List.mem_cons_self).1
      omega
    · exact nochild hg hys hyne r (x :: L2) (fun v hv => by
        rcases List.mem_cons.mp hv with h9 | h9
        · rw [h9]; exact (hr x List.mem_cons_self).2
        · exact hL v h9) (fun z hz => hr z (List.mem_cons_of_mem _ hz)) ho.2 z h
theorem fr_cons (S : Nat → Nat → Nat) (s : Nat) (rp : List Nat) (i : Nat) : frP S (s :: rp) i = (decide (S 4 i = s + 1) || frP S rp i) := by
  simp only [frP, List.mem_cons]
  by_cases h0 : S 4 i = 0
  · simp [h0]
  · by_cases h1 : S 4 i = s + 1
    · simp [h1]
    · have : ¬ S 4 i - 1 = s := by omega
      simp [h0, h1, this]
/-- behind s: first what hangs at s, then what hangs further ahead -/
theorem fr_split {S : Nat → Nat → Nat} {s : Nat} {rp : List Nat} (hg : ∀ i, S 4 i = s + 1 → i < S 0 0 → keyS S s < keyS S i) (hs : s ∉ rp) : ∀ (r L1 : List Nat), (∀ v, v ∈ L1 → s ≠ v ∧ v ∉ rp) → (∀ z, z ∈ r → z < S 0 0 ∧ s ≠ z ∧ z ∉ rp) → ordP S (L1 ++ s :: rp) r → r.filter (frP S (s :: rp)) = r.filter (fun i => decide (S 4 i = s + 1)) ++ r.filter (frP S rp)
  | [], _, _, _, _ => rfl
  | y :: r, L1, hL, hr, ho => by
    have hy := hr y List.mem_cons_self
    have ih := fr_split hg hs r (y :: L1) (fun v hv => by
      rcases List.mem_cons.mp hv with h | h
      · rw [h]; exact hy.2
      · exact hL v h) (fun z hz => hr z (List.mem_cons_of_mem _ hz)) ho.2
    simp only [List.filter_cons, fr_cons]
    by_cases hc : S 4 y = s + 1
    · have hf : frP S rp y = false := by simp [frP, hc, hs]
      simp only [hc, hf, decide_true, Bool.or_false, if_true, List.cons_append]
      simpa [fr_cons] using ih
    · by_cases hf : frP S rp y = true
      · have hys : keyS S y < keyS S s := by
          refine sees_key ho.1 (fun v hv h => ?_) hc
          simp only [frP, Bool.or_eq_true, decide_eq_true_eq] at hf
          rcases hf with hf | hf
          · omega
          · rw [h] at hf
            exact (hL v hv).2 hf
        have hno := nochild (L1 := L1) (rp := rp) hg hys hy.2.1 r [] (fun v hv => absurd hv List.not_mem_nil) (fun z hz => ⟨(hr z (List.mem_cons_of_mem _ hz)).1, (hr z (List.mem_cons_of_mem _ hz)).2.1⟩) ho.2
        have e1 : r.filter (fun i => decide (S 4 i = s + 1)) = [] := by
          rw [List.filter_eq_nil_iff]
          intro z hz
          simpa using hno z hz
        simp only [hc, hf, e1, decide_false, Bool.or_true, if_true, List.nil_append, Bool.false_eq_true, if_false]
        congr 1
        apply List.filter_congr
        intro z hz
        rw [fr_cons]
        simp [hno z hz]
      · have hf : frP S rp y = false := by simpa using hf
        simp only [hc, hf, decide_false, Bool.or_false, Bool.false_eq_true, if_false]
        simpa [fr_cons] using ih
/-- siblings stand in falling order of their keys -/
theorem sib_key {S : Nat → Nat → Nat} {x : Nat} {rp : List Nat} (hx : frP S rp x = true) (hxr : x ∉ rp) : ∀ (r L : List Nat), (∀ v, v ∈ L → v ∉ rp) → (∀ z, z ∈ r → z ∉ rp) → ordP S (L ++ x :: rp) r → ∀ y, y ∈ r → S 4 y = S 4 x → keyS S y < keyS S x
  | [], _, _, _, _, y, hy, _ => absurd hy List.not_mem_nil
  | z :: r, L, hL, hr, ho, y, hy, he => by
    have hno : ∀ v, v ∉ rp → S 4 x ≠ v + 1 := fun v hv h => by
      simp only [frP, Bool.or_eq_true, decide_eq_true_eq] at hx
      rcases hx with hx | hx
      · omega
      · rw [h] at hx; exact hv hx
    rcases List.mem_cons.mp hy with h | h
    · subst h
      exact sees_key ho.1 (fun v hv => by rw [he]; exact hno v (hL v hv)) (by rw [he]; exact hno x hxr)
    · exact sib_key hx hxr r (z :: L) (fun v hv => by
        rcases List.mem_cons.mp hv with h9 | h9
        · rw [h9]; exact hr z List.mem_cons_self
        · exact hL v h9) (fun v hv => hr v (List.mem_cons_of_mem _ hv)) ho.2 y h he
theorem sib_pair {S : Nat → Nat → Nat} : ∀ (suf rp : List Nat), (rp.reverse ++ suf).Nodup → ordP S rp suf → suf.Pairwise (fun x y => S 4 y = S 4 x → keyS S y < keyS S x)
  | [], _, _, _ => List.Pairwise.nil
  | x :: suf, rp, hn, ho => by
    rw [List.pairwise_cons]
    have hn2 : ((x :: rp).reverse ++ suf).Nodup := by simpa using hn
    have hd : ∀ v, v ∈ rp → v ∉ x :: suf := fun v hv h => by
      rw [List.nodup_append] at hn
      exact hn.2.2 v (List.mem_reverse.mpr hv) v h rfl
    refine ⟨fun y hy he => ?_, sib_pair suf (x :: rp) hn2 ho.2⟩
    exact sib_key (sees_fr ho.1) (fun h => hd x h List.mem_cons_self) suf [] (fun v hv => absurd hv List.not_mem_nil) (fun z hz h => hd z h (List.mem_cons_of_mem _ hz)) ho.2 y hy he
/-- what is known, in order -/
def layP (S : Nat → Nat → Nat) (a : Nat) (L : List Nat) : Prop := L.Nodup ∧ (∀ i, i ∈ L ↔ i < S 0 0 ∧ S 5 (60 * a + i) = 1) ∧ ordP S [] L
/-- what hangs at b, ascending -/
def kidsL (S : Nat → Nat → Nat) (L : List Nat) (b : Nat) : List Nat := (L.filter (fun i => decide (S 4 i = b))).reverse
theorem kids_asc {S : Nat → Nat → Nat} {a b : Nat} {L : List Nat} (h : layP S a L) : ascP S a b 0 (kidsL S L b) := by
  refine ⟨?_, fun i => ?_⟩
  · rw [kidsL, List.pairwise_reverse]
    have h1 := sib_pair L [] (by simpa using h.1) h.2.2
    have h2 := h1.filter (fun i => decide (S 4 i = b))
    refine List.Pairwise.imp_of_mem (fun {x y} hx hy hxy => ?_) h2
    have ex := (List.mem_filter.mp hx).2
    have ey := (List.mem_filter.mp hy).2
    simp only [decide_eq_true_eq] at ex ey
    exact hxy (by rw [ex, ey])
  · rw [kidsL, List.mem_reverse, List.mem_filter, h.2.1 i]
    simp [chP, and_assoc]
end
section
/-! ===== the reference: puts ===== -/
theorem bI_toInt {x : Nat} (h : x < 2 ^ 31) : (bI x).toInt = (x : Int) - 1 := by
  cases x with
  | zero => rw [bI_0]; decide
  | succ x => rw [bI_s, nI_toInt (by omega)]; omega
theorem bI_eq {x y : Nat} (hx : x < 2 ^ 31) (hy : y < 2 ^ 31) : bI x = bI y ↔ x = y := by
  refine ⟨fun h => ?_, fun h => by rw [h]⟩
  have := congrArg Int32.toInt h
  rw [bI_toInt hx, bI_toInt hy] at this
  omega
theorem bI_m1 {x : Nat} (hx : x < 2 ^ 31) : bI x = -1 ↔ x = 0 := by
  rw [← bI_0]; exact bI_eq hx (by decide)
theorem bI_le {k x : Nat} (hk : k < 2 ^ 31) (hx : x < 2 ^ 31) : nI k ≤ bI x ↔ k < x := by
  rw [Int32.le_iff_toInt_le, nI_toInt hk, bI_toInt hx]
  omega

set_option maxHeartbeats 4000000 in
set_option maxRecDepth 100000 in
theorem c_X2_puts (l : Launch) {D : va_G} {cy : Nat → ClassId} {B : Nat → Nat} {S T : Nat → Nat → Nat} {Y : va_W} (hR : Rng S) {a b : Nat} (ha : a < 4) (hb9 : b ≤ 60) {cs : List Nat} (hcs : ascP S a b 0 cs) (hrm0 : T 0 1 + cs.length ≤ 60) : CV l yX2_puts wsX2_puts ({ frames := 2, cells := 0, slots := 0, locals := 33 } : Room) D cy [.ref (B 0), .int (nI a), .int (bI b)] (MW cy B S T Y) (fun w' => w' = MW cy B S (pushL T cs) Y) 0 0 := by
  refine CV.of (cc := cX2_puts) (maxL := 8) (ret := none) (by decide) rfl (Nat.le_of_ble_eq_true rfl) ?_
  intro p e s m below meth c A ls E0 hl
  obtain ⟨hx, hb, hml, hown, hts, hr, hlocks, hA, hS, hP, hK, hD, hX⟩ := E0
  have hiX2 : ∀ w ∈ u_ws RX2 TX2 19, w ∈ wsX2_puts := by decide +kernel
  have hl : lv_has ls 8 [(0, .ref (B 0)), (1, .int (nI a)), (2, .int (bI b))] := hl
  refine lv_iconst (v := bI 0) hx hb dX2_puts_0 (by decide) ?_
  refine lv_istore_n (lv' := [(3, .int (bI 0)), (0, .ref (B 0)), (1, .int (nI a)), (2, .int (bI b))]) hx hb dX2_puts_1 rfl hl (by decide) rfl (fun ls hl => ?_)
  refine lv_iconst (v := nI 1) hx hb dX2_puts_2 (by decide) ?_
  refine lv_istore (lv' := [(4, .int (nI 1)), (3, .int (bI 0)), (0, .ref (B 0)), (1, .int (nI a)), (2, .int (bI b))]) hx hb dX2_puts_3 hl (by decide) rfl (fun ls hl => ?_)
  have hn60 : S 0 0 ≤ 60 := hR.1
  have hkk : ∀ i, 4 * S 3 i + S 1 i < 8388608 := fun i => hR.key i
  have h5 : ∀ i, S 5 i < 2 := hR.2.2.2.2.2.2.2.1
  have h4 : ∀ i, S 4 i ≤ 60 := hR.2.2.2.2.2.2.1
  have outer : ∀ (q : Nat) (rest : List Nat) (lk : Nat) (T1 : Nat → Nat → Nat) (H : Heap) (locs : List Loc) (ls : Array Slot), rest.length < q → ascP S a b lk rest → lk < 8388610 → T1 0 1 + rest.length ≤ 60 → pushL T1 rest = pushL T cs → va_P D vwCl (MW cy B S T1 Y) H → va_D A (MW cy B S T1 Y) → va_S A s.heap H locs → lv_has ls 8 [(4, .int (nI 1)), (3, .int (bI lk)), (0, .ref (B 0)), (1, .int (nI a)), (2, .int (bI b))] → W p l e ({ frames := 2, cells := 0, slots := 0, locals := 33 } : Room) s m ([.ref (B 0), .int (nI a), .int (bI b)] : List Value).toArray below meth c H locs 0 0 (MQ below (va_Qv (fun w' => w' = MW cy B S (pushL T cs) Y) (fun w' t => wB D cy A w' t) A) ([.ref (B 0), .int (nI a), .int (bI b)] : List Value).toArray s 0 0 A) (F0 m 5 ls []) := by
    intro q
    induction q with
    | zero => intro rest lk T1 H locs ls hq; omega
    | succ q ih =>
      intro rest lk T1 H locs ls hq hasc hlk hrm hpush hP hD hS hl
      refine lv_iload hx hb dX2_puts_5 (lv_at hl 0 rfl) ?_
      refine r_if_eq (tgt := 157) hx hb dX2_puts_7 (by decide) (by decide) (fun c1 => ?_) (fun c1 => ?_)
      · omega
      · refine lv_iconst (v := bI 0) hx hb dX2_puts_10 (by decide) ?_
        refine lv_istore (lv' := [(5, .int (bI 0)), (4, .int (nI 1)), (3, .int (bI lk)), (0, .ref (B 0)), (1, .int (nI a)), (2, .int (bI b))]) hx hb dX2_puts_11 hl (by decide) rfl (fun ls hl => ?_)
        refine lv_iconst (v := nI 0) hx hb dX2_puts_13 (by decide) ?_
        refine lv_istore (lv' := [(6, .int (nI 0)), (5, .int (bI 0)), (4, .int (nI 1)), (3, .int (bI lk)), (0, .ref (B 0)), (1, .int (nI a)), (2, .int (bI b))]) hx hb dX2_puts_14 hl (by decide) rfl (fun ls hl => ?_)
        have inner : ∀ (k j f : Nat) (H : Heap) (locs : List Loc) (ls : Array Slot), j + k = S 0 0 + 1 → bestP S a b lk j f → f ≤ 60 → j ≤ S 0 0 → va_P D vwCl (MW cy B S T1 Y) H → va_D A (MW cy B S T1 Y) → va_S A s.heap H locs → lv_has ls 8 [(6, .int (nI j)), (5, .int (bI f)), (4, .int (nI 1)), (3, .int (bI lk)), (0, .ref (B 0)), (1, .int (nI a)), (2, .int (bI b))] → W p l e ({ frames := 2, cells := 0, slots := 0, locals := 33 } : Room) s m ([.ref (B 0), .int (nI a), .int (bI b)] : List Value).toArray below meth c H locs 0 0 (MQ below (va_Qv (fun w' => w' = MW cy B S (pushL T cs) Y) (fun w' t => wB D cy A w' t) A) ([.ref (B 0), .int (nI a), .int (bI b)] : List Value).toArray s 0 0 A) (F0 m 16 ls []) := by
          intro k
          induction k with
          | zero =>
            intro j f H locs ls hj hbest hf hjle hP hD hS hl
            omega
          | succ k ihk =>
            intro j f H locs ls hj hbest hf hjle hP hD hS hl
            refine lv_iload hx hb dX2_puts_16 (lv_at hl 0 rfl) ?_
            refine lv_aload_n hx hb dX2_puts_18 rfl (lv_at hl 4 rfl) ?_
            refine va_get (D := D) (ci := 2) (v := .int (nI (S 0 0))) (C := RX2) (T := TX2) (N := 19) hx hb hts hiX2 hown hK hP (0) rfl rfl 0 (by decide) (hts (.fieldLink RX2 59 "CoauthorTextModel" "signs" "I") (by decide +kernel)) (fun _ h9 => h9) rfl dX2_puts_19 ?_
            refine r_icmp_ge (tgt := 108) hx hb dX2_puts_22 (by decide) (by omega) (by omega) (fun c2 => ?_) (fun c2 => ?_)
            · have hjn : j = S 0 0 := by omega
              subst hjn
              refine lv_iload hx hb dX2_puts_108 (lv_at hl 1 rfl) ?_
              refine lv_iconst (v := (-1)) hx hb dX2_puts_110 (by decide) ?_
              refine lv_icmp_eq (tgt := 118) hx hb dX2_puts_111 (by decide) (fun cz => ?_) (fun cz => ?_)
              · rw [bI_m1 (by omega)] at cz
                subst cz
                have hr0 : rest = [] := by
                  cases rest with
                  | nil => rfl
                  | cons c0 r0 => have := (ascP_cons hasc hbest).1; omega
                subst hr0
                refine lv_iconst (v := nI 0) hx hb dX2_puts_118 (by decide) ?_
                refine lv_istore (lv' := [(4, .int (nI 0)), (6, .int (nI (S 0 0))), (5, .int (bI 0)), (3, .int (bI lk)), (0, .ref (B 0)), (1, .int (nI a)), (2, .int (bI b))]) hx hb dX2_puts_119 hl (by decide) rfl (fun ls hl => ?_)
                refine lv_iload hx hb dX2_puts_121 (lv_at hl 0 rfl) ?_
                refine r_if_eq (tgt := 154) hx hb dX2_puts_123 (by decide) (by decide) (fun c3 => ?_) (fun c3 => ?_)
                · refine lv_goto (tgt := 5) hx hb dX2_puts_154 (by decide) ?_
                  refine lv_iload hx hb dX2_puts_5 (lv_at hl 0 rfl) ?_
                  refine r_if_eq (tgt := 157) hx hb dX2_puts_7 (by decide) (by decide) (fun c4 => ?_) (fun c4 => ?_)
                  · exact C_vret hx hb hr hlocks hS hP hK hD (Nat.le_of_ble_eq_true rfl) (Nat.le_of_ble_eq_true rfl) dX2_puts_157 (by rw [← hpush]; rfl)
                  · omega
                · omega
              · rw [bI_m1 (by omega)] at cz
                obtain ⟨c0, r0, rfl⟩ : ∃ c0 r0, rest = c0 :: r0 := by
                  cases rest with
                  | nil => exact absurd (ascP_nil hasc hbest) cz
                  | cons c0 r0 => exact ⟨c0, r0, rfl⟩
                obtain ⟨hf1, hch, hasc2⟩ := ascP_cons hasc hbest
                subst hf1
                rw [bI_s] at hl
                have hc60 : c0 < 60 := Nat.lt_of_lt_of_le hch.1 hn60
                rw [List.length_cons] at hrm hq
                refine lv_iconst (v := nI 1) hx hb dX2_puts_114 (by decide) ?_
                refine lv_goto (tgt := 119) hx hb dX2_puts_115 (by decide) ?_
                refine lv_istore (lv' := [(4, .int (nI 1)), (6, .int (nI (S 0 0))), (5, .int (nI c0)), (3, .int (bI lk)), (0, .ref (B 0)), (1, .int (nI a)), (2, .int (bI b))]) hx hb dX2_puts_119 hl (by decide) rfl (fun ls hl => ?_)
                refine lv_iload hx hb dX2_puts_121 (lv_at hl 0 rfl) ?_
                refine r_if_eq (tgt := 154) hx hb dX2_puts_123 (by decide) (by decide) (fun c5 => ?_) (fun c5 => ?_)
                · omega
                · refine lv_aload_n hx hb dX2_puts_126 rfl (lv_at hl 4 rfl) ?_
                  refine va_get (D := D) (ci := 2) (v := .ref (B 13)) (C := RX2) (T := TX2) (N := 19) hx hb hts hiX2 hown hK hP (0) rfl rfl 15 (by decide) (hts (.fieldLink RX2 48 "CoauthorTextModel" "stack" "[I") (by decide +kernel)) (fun _ h9 => h9) rfl dX2_puts_127 ?_
                  refine lv_aload_n hx hb dX2_puts_130 rfl (lv_at hl 4 rfl) ?_
                  refine va_get (D := D) (ci := 2) (v := .int (nI (T1 0 1))) (C := RX2) (T := TX2) (N := 19) hx hb hts hiX2 hown hK hP (0) rfl rfl 17 (by decide) (hts (.fieldLink RX2 73 "CoauthorTextModel" "top" "I") (by decide +kernel)) (fun _ h9 => h9) rfl dX2_puts_131 ?_
                  refine lv_iload hx hb dX2_puts_134 (lv_at hl 2 rfl) ?_
                  refine r_iast (w' := MW cy B S (up2 T1 2 (T1 0 1) c0) Y) hx hb hK hP hD hS (13) rfl (by omega) (by decide) dX2_puts_136 (by rw [show upd (fun j => nI (T1 2 j)) (T1 0 1) (nI c0) = fun j => nI (up2 T1 2 (T1 0 1) c0 2 j) from upd_n T1 2 _ _]; rfl) (fun H locs hP hD hS => ?_)
                  refine lv_aload_n hx hb dX2_puts_137 rfl (lv_at hl 4 rfl) ?_
                  refine lv_dup hx hb dX2_puts_138 rfl ?_
                  refine va_get (D := D) (ci := 2) (v := .int (nI ((up2 T1 2 (T1 0 1) c0) 0 1))) (C := RX2) (T := TX2) (N := 19) hx hb hts hiX2 hown hK hP (0) rfl rfl 17 (by decide) (hts (.fieldLink RX2 73 "CoauthorTextModel" "top" "I") (by decide +kernel)) (fun _ h9 => h9) rfl dX2_puts_139 ?_
                  refine lv_iconst (v := nI 1) hx hb dX2_puts_142 (by decide) ?_
                  refine r_iadd hx hb dX2_puts_143 ?_
                  refine r_put (w' := MW cy B S (push1 T1 c0) Y) (own := RX2) (C := RX2) (T := TX2) (N := 19) (ci := 2) (q0 := 0) (k := 17) (index := 73) (ty := .int) hx hb hts hiX2 tyX2_ok nmX2 hown hK hP hD hS rfl rfl (by decide) (by decide +kernel) rfl (by decide +kernel) rfl rfl (Nat.le_of_ble_eq_true rfl) dX2_puts_144 rfl (fun H locs hP hD hS => ?_)
                  refine lv_aload_n hx hb dX2_puts_147 rfl (lv_at hl 4 rfl) ?_
                  refine lv_iload hx hb dX2_puts_148 (lv_at hl 2 rfl) ?_
                  refine K_i (va_runV (As := [.int (nI c0)]) (rest := []) ⟨hx, hb, hml, hown, hts⟩ (c_X2_key l (i := c0) hc60 _) (cwV 1 hts gX2_puts_X2_key rfl rfl rfl (by decide +kernel) ⟨Nat.le_of_ble_eq_true rfl, Nat.le_of_ble_eq_true rfl⟩) (pV hP hK hD hS hA hX (va_recv hK hP (ci := 2) (q0 := 0) rfl rfl)) rfl rfl hl.1 rfl (lv_room (Nat.le_of_ble_eq_true rfl)) dX2_puts_150 ⟨Nat.le_of_ble_eq_true rfl, Nat.le_of_ble_eq_true rfl⟩) hD hS hA (fun r w'  H locs hp hP hD hS => ?_)
                  obtain ⟨rfl, rfl⟩ := hp
                  refine lv_istore_n (lv' := [(3, .int (nI (4 * S 3 c0 + S 1 c0))), (4, .int (nI 1)), (6, .int (nI (S 0 0))), (5, .int (nI c0)), (0, .ref (B 0)), (1, .int (nI a)), (2, .int (bI b))]) hx hb dX2_puts_153 rfl hl (by decide) rfl (fun ls hl => ?_)
                  refine lv_goto (tgt := 5) hx hb dX2_puts_154 (by decide) ?_
                  rw [← bI_s (4 * S 3 c0 + S 1 c0)] at hl
                  exact ih r0 (keyS S c0 + 1) (push1 T1 c0) _ _ ls (by omega) hasc2 (by have := hkk c0; unfold keyS; omega) (by rw [push1_top]; omega) hpush hP hD hS (lv_sub hl [1, 0, 4, 5, 6] rfl)
            · refine lv_aload_n hx hb dX2_puts_25 rfl (lv_at hl 4 rfl) ?_
              refine va_get (D := D) (ci := 2) (v := .ref (B 5)) (C := RX2) (T := TX2) (N := 19) hx hb hts hiX2 hown hK hP (0) rfl rfl 5 (by decide) (hts (.fieldLink RX2 22 "CoauthorTextModel" "knows" "[Z") (by decide +kernel)) (fun _ h9 => h9) rfl dX2_puts_26 ?_
              refine lv_iload_n hx hb dX2_puts_29 rfl (lv_at hl 5 rfl) ?_
              refine lv_iload hx hb dX2_puts_30 (lv_at hl 0 rfl) ?_
              refine K_i (va_runS (As := [.int (nI a), .int (nI j)]) (rest := [.ref (B 5)]) ⟨hx, hb, hml, hown, hts⟩ (c_X2_at l a j _) (va_cwS 2 hts gX2_puts_X2_at rfl rfl rfl (by decide +kernel) ⟨Nat.le_of_ble_eq_true rfl, Nat.le_of_ble_eq_true rfl⟩) (pS hP hK hD hS hA hX) rfl rfl hl.1 rfl (lv_room (Nat.le_of_ble_eq_true rfl)) dX2_puts_32 ⟨Nat.le_of_ble_eq_true rfl, Nat.le_of_ble_eq_true rfl⟩) hD hS hA (fun r w'  H locs hp hP hD hS => ?_)
              obtain ⟨rfl, hw9⟩ := hp
              rw [hw9] at hP hD
              refine r_zald hx hb hK hP (5) rfl (by omega) (by decide) dX2_puts_35 ?_
              have no : ¬ (chP S a b j ∧ lk ≤ keyS S j) → ∀ (H : Heap) (locs : List Loc) (ls : Array Slot), va_P D vwCl (MW cy B S T1 Y) H → va_D A (MW cy B S T1 Y) → va_S A s.heap H locs → lv_has ls 8 [(6, .int (nI j)), (5, .int (bI f)), (4, .int (nI 1)), (3, .int (bI lk)), (0, .ref (B 0)), (1, .int (nI a)), (2, .int (bI b))] → W p l e ({ frames := 2, cells := 0, slots := 0, locals := 33 } : Room) s m ([.ref (B 0), .int (nI a), .int (bI b)] : List Value).toArray below meth c H locs 0 0 (MQ below (va_Qv (fun w' => w' = MW cy B S (pushL T cs) Y) (fun w' t => wB D cy A w' t) A) ([.ref (B 0), .int (nI a), .int (bI b)] : List Value).toArray s 0 0 A) (F0 m 65 ls [.int (nI 0)]) := by
                intro hno H locs ls hP hD hS hl
                refine lv_istore (lv' := [(7, .int (nI 0)), (6, .int (nI j)), (5, .int (bI f)), (4, .int (nI 1)), (3, .int (bI lk)), (0, .ref (B 0)), (1, .int (nI a)), (2, .int (bI b))]) hx hb dX2_puts_65 hl (by decide) rfl (fun ls hl => ?_)
                refine lv_iload hx hb dX2_puts_67 (lv_at hl 0 rfl) ?_
                refine r_if_eq (tgt := 98) hx hb dX2_puts_69 (by decide) (by decide) (fun c6 => ?_) (fun c6 => ?_)
                · refine lv_iload hx hb dX2_puts_98 (lv_at hl 2 rfl) ?_
                  refine lv_istore (lv' := [(5, .int (bI f)), (7, .int (nI 0)), (6, .int (nI j)), (4, .int (nI 1)), (3, .int (bI lk)), (0, .ref (B 0)), (1, .int (nI a)), (2, .int (bI b))]) hx hb dX2_puts_100 hl (by decide) rfl (fun ls hl => ?_)
                  refine lv_iinc (v := nI (j + 1)) (lv' := [(6, .int (nI (j + 1))), (5, .int (bI f)), (7, .int (nI 0)), (4, .int (nI 1)), (3, .int (bI lk)), (0, .ref (B 0)), (1, .int (nI a)), (2, .int (bI b))]) hx hb dX2_puts_102 hl (k := 2) rfl (nI_inc _) (by decide) rfl (fun ls hl => ?_)
                  refine lv_goto (tgt := 16) hx hb dX2_puts_105 (by decide) ?_
                  exact ihk (j + 1) f _ _ ls (by omega) (bestP_no hbest hno) hf (by omega) hP hD hS (lv_sub hl [0, 1, 3, 4, 5, 6, 7] rfl)
                · omega
              refine r_if_eq (tgt := 64) hx hb dX2_puts_36 (by decide) (by have := h5 (60 * a + j); omega) (fun c7 => ?_) (fun c7 => ?_)
              · refine lv_iconst (v := nI 0) hx hb dX2_puts_64 (by decide) ?_
                exact no (fun h => by have := h.1.2.1; omega) _ _ ls hP hD hS hl
              · have hkn : S 5 (60 * a + j) = 1 := by have := h5 (60 * a + j); omega
                refine lv_aload_n hx hb dX2_puts_39 rfl (lv_at hl 4 rfl) ?_
                refine va_get (D := D) (ci := 2) (v := .ref (B 4)) (C := RX2) (T := TX2) (N := 19) hx hb hts hiX2 hown hK hP (0) rfl rfl 4 (by decide) (hts (.fieldLink RX2 19 "CoauthorTextModel" "behinds" "[I") (by decide +kernel)) (fun _ h9 => h9) rfl dX2_puts_40 ?_
                refine lv_iload hx hb dX2_puts_43 (lv_at hl 0 rfl) ?_
                refine r_iald hx hb hK hP (4) rfl (by omega) (by decide) dX2_puts_45 ?_
                refine lv_iload_n hx hb dX2_puts_46 rfl (lv_at hl 6 rfl) ?_
                refine lv_icmp_ne (tgt := 64) hx hb dX2_puts_47 (by decide) (fun cb => ?_) (fun cb => ?_)
                · refine lv_iconst (v := nI 0) hx hb dX2_puts_64 (by decide) ?_
                  exact no (fun h => by have := h.1.2.2; rw [bI_eq (by have := h4 j; omega) (by omega)] at cb; exact cb this) _ _ ls hP hD hS hl
                · rw [bI_eq (by have := h4 j; omega) (by omega)] at cb
                  refine lv_aload_n hx hb dX2_puts_50 rfl (lv_at hl 4 rfl) ?_
                  refine lv_iload hx hb dX2_puts_51 (lv_at hl 0 rfl) ?_
                  refine K_i (va_runV (As := [.int (nI j)]) (rest := []) ⟨hx, hb, hml, hown, hts⟩ (c_X2_key l (i := j) (by omega) _) (cwV 1 hts gX2_puts_X2_key rfl rfl rfl (by decide +kernel) ⟨Nat.le_of_ble_eq_true rfl, Nat.le_of_ble_eq_true rfl⟩) (pV hP hK hD hS hA hX (va_recv hK hP (ci := 2) (q0 := 0) rfl rfl)) rfl rfl hl.1 rfl (lv_room (Nat.le_of_ble_eq_true rfl)) dX2_puts_53 ⟨Nat.le_of_ble_eq_true rfl, Nat.le_of_ble_eq_true rfl⟩) hD hS hA (fun r w'  H locs hp hP hD hS => ?_)
                  obtain ⟨rfl, rfl⟩ := hp
                  refine lv_iload_n hx hb dX2_puts_56 rfl (lv_at hl 3 rfl) ?_
                  refine lv_icmp_le (tgt := 64) hx hb dX2_puts_57 (by decide) (fun cl => ?_) (fun cl => ?_)
                  · rw [bI_le (by have := hkk j; omega) (by omega)] at cl
                    refine lv_iconst (v := nI 0) hx hb dX2_puts_64 (by decide) ?_
                    exact no (fun h => by have := h.2; unfold keyS at this; omega) _ _ ls hP hD hS hl
                  · rw [bI_le (by have := hkk j; omega) (by omega)] at cl
                    have hcj : chP S a b j := ⟨by omega, hkn, cb⟩
                    have hlj : lk ≤ keyS S j := by unfold keyS; omega
                    refine lv_iconst (v := nI 1) hx hb dX2_puts_60 (by decide) ?_
                    refine lv_goto (tgt := 65) hx hb dX2_puts_61 (by decide) ?_
                    refine lv_istore (lv' := [(7, .int (nI 1)), (6, .int (nI j)), (5, .int (bI f)), (4, .int (nI 1)), (3, .int (bI lk)), (0, .ref (B 0)), (1, .int (nI a)), (2, .int (bI b))]) hx hb dX2_puts_65 hl (by decide) rfl (fun ls hl => ?_)
                    refine lv_iload hx hb dX2_puts_67 (lv_at hl 0 rfl) ?_
                    refine r_if_eq (tgt := 98) hx hb dX2_puts_69 (by decide) (by decide) (fun c8 => ?_) (fun c8 => ?_)
                    · omega
                    · refine lv_iload hx hb dX2_puts_72 (lv_at hl 2 rfl) ?_
                      refine lv_iconst (v := (-1)) hx hb dX2_puts_74 (by decide) ?_
                      refine lv_icmp_eq (tgt := 93) hx hb dX2_puts_75 (by decide) (fun cf => ?_) (fun cf => ?_)
                      · rw [bI_m1 (by omega)] at cf
                        refine lv_iload hx hb dX2_puts_93 (lv_at hl 1 rfl) ?_
                        refine lv_goto (tgt := 100) hx hb dX2_puts_95 (by decide) ?_
                        refine lv_istore (lv' := [(5, .int (nI j)), (7, .int (nI 1)), (6, .int (nI j)), (4, .int (nI 1)), (3, .int (bI lk)), (0, .ref (B 0)), (1, .int (nI a)), (2, .int (bI b))]) hx hb dX2_puts_100 hl (by decide) rfl (fun ls hl => ?_)
                        refine lv_iinc (v := nI (j + 1)) (lv' := [(6, .int (nI (j + 1))), (5, .int (nI j)), (7, .int (nI 1)), (4, .int (nI 1)), (3, .int (bI lk)), (0, .ref (B 0)), (1, .int (nI a)), (2, .int (bI b))]) hx hb dX2_puts_102 hl (k := 2) rfl (nI_inc _) (by decide) rfl (fun ls hl => ?_)
                        refine lv_goto (tgt := 16) hx hb dX2_puts_105 (by decide) ?_
                        rw [← bI_s j] at hl
                        exact ihk (j + 1) (j + 1) _ _ ls (by omega) (bestP_new hbest hcj hlj (Or.inl cf)) (by omega) (by omega) hP hD hS (lv_sub hl [0, 1, 3, 4, 5, 6, 7] rfl)
                      · rw [bI_m1 (by omega)] at cf
                        obtain ⟨g0, rfl⟩ : ∃ g0, f = g0 + 1 := ⟨f - 1, by omega⟩
                        rw [bI_s] at hl
                        refine lv_aload_n hx hb dX2_puts_78 rfl (lv_at hl 5 rfl) ?_
                        refine lv_iload hx hb dX2_puts_79 (lv_at hl 1 rfl) ?_
                        refine K_i (va_runV (As := [.int (nI j)]) (rest := []) ⟨hx, hb, hml, hown, hts⟩ (c_X2_key l (i := j) (by omega) _) (cwV 1 hts gX2_puts_X2_key rfl rfl rfl (by decide +kernel) ⟨Nat.le_of_ble_eq_true rfl, Nat.le_of_ble_eq_true rfl⟩) (pV hP hK hD hS hA hX (va_recv hK hP (ci := 2) (q0 := 0) rfl rfl)) rfl rfl hl.1 rfl (lv_room (Nat.le_of_ble_eq_true rfl)) dX2_puts_81 ⟨Nat.le_of_ble_eq_true rfl, Nat.le_of_ble_eq_true rfl⟩) hD hS hA (fun r w'  H locs hp hP hD hS => ?_)
                        obtain ⟨rfl, rfl⟩ := hp
                        refine lv_aload_n hx hb dX2_puts_84 rfl (lv_at hl 5 rfl) ?_
                        refine lv_iload hx hb dX2_puts_85 (lv_at hl 2 rfl) ?_
                        refine K_i (va_runV (As := [.int (nI g0)]) (rest := [.int (nI (4 * S 3 j + S 1 j))]) ⟨hx, hb, hml, hown, hts⟩ (c_X2_key l (i := g0) (by omega) _) (cwV 1 hts gX2_puts_X2_key rfl rfl rfl (by decide +kernel) ⟨Nat.le_of_ble_eq_true rfl, Nat.le_of_ble_eq_true rfl⟩) (pV hP hK hD hS hA hX (va_recv hK hP (ci := 2) (q0 := 0) rfl rfl)) rfl rfl hl.1 rfl (lv_room (Nat.le_of_ble_eq_true rfl)) dX2_puts_87 ⟨Nat.le_of_ble_eq_true rfl, Nat.le_of_ble_eq_true rfl⟩) hD hS hA (fun r w'  H locs hp hP hD hS => ?_)
                        obtain ⟨rfl, rfl⟩ := hp
                        refine r_icmp_ge (tgt := 98) hx hb dX2_puts_90 (by decide) (by have := hkk j; omega) (by have := hkk g0; omega) (fun c9 => ?_) (fun c9 => ?_)
                        · refine lv_iload hx hb dX2_puts_98 (lv_at hl 2 rfl) ?_
                          refine lv_istore (lv' := [(5, .int (nI g0)), (7, .int (nI 1)), (6, .int (nI j)), (4, .int (nI 1)), (3, .int (bI lk)), (0, .ref (B 0)), (1, .int (nI a)), (2, .int (bI b))]) hx hb dX2_puts_100 hl (by decide) rfl (fun ls hl => ?_)
                          refine lv_iinc (v := nI (j + 1)) (lv' := [(6, .int (nI (j + 1))), (5, .int (nI g0)), (7, .int (nI 1)), (4, .int (nI 1)), (3, .int (bI lk)), (0, .ref (B 0)), (1, .int (nI a)), (2, .int (bI b))]) hx hb dX2_puts_102 hl (k := 2) rfl (nI_inc _) (by decide) rfl (fun ls hl => ?_)
                          refine lv_goto (tgt := 16) hx hb dX2_puts_105 (by decide) ?_
                          rw [← bI_s g0] at hl
                          exact ihk (j + 1) (g0 + 1) _ _ ls (by omega) (bestP_old hbest (by unfold keyS; omega)) hf (by omega) hP hD hS (lv_sub hl [0, 1, 3, 4, 5, 6, 7] rfl)
                        · refine lv_iload hx hb dX2_puts_93 (lv_at hl 1 rfl) ?_
                          refine lv_goto (tgt := 100) hx hb dX2_puts_95 (by decide) ?_
                          refine lv_istore (lv' := [(5, .int (nI j)), (7, .int (nI 1)), (6, .int (nI j)), (4, .int (nI 1)), (3, .int (bI lk)), (0, .ref (B 0)), (1, .int (nI a)), (2, .int (bI b))]) hx hb dX2_puts_100 hl (by decide) rfl (fun ls hl => ?_)
                          refine lv_iinc (v := nI (j + 1)) (lv' := [(6, .int (nI (j + 1))), (5, .int (nI j)), (7, .int (nI 1)), (4, .int (nI 1)), (3, .int (bI lk)), (0, .ref (B 0)), (1, .int (nI a)), (2, .int (bI b))]) hx hb dX2_puts_102 hl (k := 2) rfl (nI_inc _) (by decide) rfl (fun ls hl => ?_)
                          refine lv_goto (tgt := 16) hx hb dX2_puts_105 (by decide) ?_
                          rw [← bI_s j] at hl
                          exact ihk (j + 1) (j + 1) _ _ ls (by omega) (bestP_new hbest hcj hlj (Or.inr ⟨g0, rfl, by unfold keyS; omega⟩)) (by omega) (by omega) hP hD hS (lv_sub hl [0, 1, 3, 4, 5, 6, 7] rfl)
        exact inner (S 0 0 + 1) 0 0 _ _ ls (by omega) (bestP_0 S a b lk) (by decide) (Nat.zero_le _) hP hD hS (lv_sub hl [0, 1, 2, 3, 4, 5, 6] rfl)
  exact outer (cs.length + 1) cs 0 T _ _ ls (by omega) hcs (by decide) hrm0 rfl hP hD hS (lv_sub hl [0, 1, 2, 3, 4] rfl)
end
section
/-! ===== the text, as the reference lays it ===== -/
theorem nd_len : ∀ (n : Nat) (L : List Nat), L.Nodup → (∀ i, i ∈ L → i < n) → L.length ≤ n
  | 0, L, _, h => by
    cases L with
    | nil => exact Nat.le_refl _
    | cons x r => exact absurd (h x List.mem_cons_self) (Nat.not_lt_zero x)
  | n + 1, L, hn, h => by
    by_cases hm : n ∈ L
    · have h1 := nd_len n (L.erase n) (hn.erase n) (fun i hi => by
        rw [hn.mem_erase_iff] at hi
        have := h i hi.2
        omega)
      rw [List.length_erase_of_mem hm] at h1
      omega
    · have h1 := nd_len n L hn (fun i hi => by
        have := h i hi
        have : i ≠ n := fun e => hm (e ▸ hi)
        omega)
      omega
theorem layP_len {S : Nat → Nat → Nat} {a : Nat} {L : List Nat} (h : layP S a L) : L.length ≤ S 0 0 := nd_len _ L h.1 (fun i hi => ((h.2.1 i).mp hi).1)
theorem ord_app {S : Nat → Nat → Nat} : ∀ (X Y rp : List Nat), ordP S rp (X ++ Y) → ordP S rp X ∧ ordP S (X.reverse ++ rp) Y
  | [], _, _, h => ⟨trivial, h⟩
  | x :: X, Y, rp, h => by
    obtain ⟨h1, h2⟩ := ord_app X Y (x :: rp) h.2
    refine ⟨⟨h.1, h1⟩, ?_⟩
    simpa using h2
theorem ord_par {S : Nat → Nat → Nat} : ∀ (X rp : List Nat), ordP S rp X → ∀ v, v ∈ X → S 4 v = 0 ∨ S 4 v - 1 ∈ rp ∨ S 4 v - 1 ∈ X
  | [], _, _, v, hv => absurd hv List.not_mem_nil
  | x :: X, rp, h, v, hv => by
    rcases List.mem_cons.mp hv with e | e
    · subst e
      have := sees_fr h.1
      simp only [frP, Bool.or_eq_true, decide_eq_true_eq] at this
      rcases this with h | h
      · exact Or.inl h
      · exact Or.inr (Or.inl h)
    · rcases ord_par X (x :: rp) h.2 v e with h | h | h
      · exact Or.inl h
      · rcases List.mem_cons.mp h with h | h
        · exact Or.inr (Or.inr (by rw [h]; exact List.mem_cons_self))
        · exact Or.inr (Or.inl h)
      · exact Or.inr (Or.inr (List.mem_cons_of_mem _ h))
theorem stk_step {S : Nat → Nat → Nat} {a s : Nat} {L rp suf : List Nat} (hL : layP S a L) (hg : growP S) (e : L = rp.reverse ++ s :: suf) : (kidsL S L (s + 1)).reverse ++ suf.filter (frP S rp) = suf.filter (frP S (s :: rp)) := by
  have hn := hL.1
  have ho := hL.2.2
  rw [e] at hn ho
  obtain ⟨ho1, ho2⟩ := ord_app _ _ _ ho
  simp only [List.reverse_reverse, List.append_nil] at ho2
  have hd := (List.nodup_append.mp hn)
  have hs : s ∉ rp := fun h => hd.2.2 s (List.mem_reverse.mpr h) s List.mem_cons_self rfl
  have hsn := List.nodup_cons.mp hd.2.1
  have hlt : ∀ z, z ∈ L → z < S 0 0 := fun z hz => ((hL.2.1 z).mp hz).1
  have hg2 : ∀ i, S 4 i = s + 1 → i < S 0 0 → keyS S s < keyS S i := fun i h1 h2 => by
    rcases hg i h2 with h | ⟨-, h⟩
    · omega
    · rw [h1] at h; exact h
  have h1 := fr_split hg2 hs suf [] (fun v hv => absurd hv List.not_mem_nil) (fun z hz => ⟨hlt z (by rw [e]; exact List.mem_append_right _ (List.mem_cons_of_mem _ hz)), fun h => hsn.1 (h ▸ hz), fun h => hd.2.2 z (List.mem_reverse.mpr h) z (List.mem_cons_of_mem _ hz) rfl⟩) ho2.2
  rw [h1]
  congr 1
  rw [kidsL, List.reverse_reverse, e, List.filter_append, List.filter_cons]
  have e1 : rp.reverse.filter (fun i => decide (S 4 i = s + 1)) = [] := by
    rw [List.filter_eq_nil_iff]
    intro v hv
    simp only [decide_eq_true_eq]
    intro h9
    rcases ord_par _ _ ho1 v hv with h | h | h
    · omega
    · exact absurd h List.not_mem_nil
    · rw [h9] at h
      exact hs (List.mem_reverse.mp h)
  have e2 : ¬ S 4 s = s + 1 := by
    intro h9
    have := sees_fr ho2.1
    simp only [frP, Bool.or_eq_true, decide_eq_true_eq] at this
    rcases this with h | h
    · omega
    · rw [h9] at h; exact hs h
  rw [e1]
  simp [e2]
theorem fr_head {S : Nat → Nat → Nat} {rp suf : List Nat} (ho : ordP S rp suf) (h : suf.filter (frP S rp) = []) : suf = [] := by
  cases suf with
  | nil => rfl
  | cons s r =>
    rw [List.filter_cons, if_pos (sees_fr ho.1)] at h
    cases h
theorem fr_0 (S : Nat → Nat → Nat) (L : List Nat) : (kidsL S L 0).reverse ++ [] = L.filter (frP S []) := by
  rw [kidsL, List.reverse_reverse, List.append_nil]
  apply List.filter_congr
  intro i _
  simp [frP]
def visB (S : Nat → Nat → Nat) (a i : Nat) : Bool := decide (S 6 (60 * a + i) = 0)
def txtP (T : Nat → Nat → Nat) (L : List Nat) : Prop := T 0 0 = L.length ∧ ∀ j, j < L.length → some (T 1 j) = L[j]?
theorem txtP_same {T T' : Nat → Nat → Nat} {L : List Nat} (h : txtP T L) (h0 : T' 0 0 = T 0 0) (h1 : T' 1 = T 1) : txtP T' L := ⟨by rw [h0]; exact h.1, fun j hj => by rw [h1]; exact h.2 j hj⟩
theorem txtP_add {T : Nat → Nat → Nat} {L : List Nat} {s : Nat} (h : txtP T L) : txtP (up2 (up2 T 1 (T 0 0) s) 0 0 (T 0 0 + 1)) (L ++ [s]) := by
  refine ⟨by rw [up2_s, h.1]; simp, fun j hj => ?_⟩
  by_cases e : j = T 0 0
  · subst e
    rw [List.getElem?_append_right (by rw [h.1]; exact Nat.le_refl _)]
    simp [up2, h.1]
  · have hk : j < L.length := by rw [List.length_append, List.length_singleton] at hj; rw [h.1] at e; omega
    rw [List.getElem?_append_left hk, ← h.2 j hk]
    simp [up2, e]
end
section
/-! ===== the reference: laysText ===== -/
set_option maxHeartbeats 4000000 in
set_option maxRecDepth 100000 in
theorem c_X2_laysText (l : Launch) {D : va_G} {cy : Nat → ClassId} {B : Nat → Nat} {S T : Nat → Nat → Nat} {Y : va_W} (hR : Rng S) (hg : growP S) {a : Nat} (ha : a < 4) {L : List Nat} (hL : layP S a L) : CV l yX2_laysText wsX2_laysText ({ frames := 3, cells := 0, slots := 0, locals := 60 } : Room) D cy [.ref (B 0), .int (nI a)] (MW cy B S T Y) (fun w' => ∃ T' : Nat → Nat → Nat, w' = MW cy B S T' Y ∧ T' 0 2 = T 0 2 ∧ txtP T' (L.filter (visB S a))) 0 0 := by
  refine CV.of (cc := cX2_laysText) (maxL := 3) (ret := none) (by decide) rfl (Nat.le_of_ble_eq_true rfl) ?_
  intro p e s m below meth c A ls E0 hl
  obtain ⟨hx, hb, hml, hown, hts, hr, hlocks, hA, hS, hP, hK, hD, hX⟩ := E0
  have hiX2 : ∀ w ∈ u_ws RX2 TX2 19, w ∈ wsX2_laysText := by decide +kernel
  have hl : lv_has ls 3 [(0, .ref (B 0)), (1, .int (nI a))] := hl
  have hn60 : S 0 0 ≤ 60 := hR.1
  have hlen := layP_len hL
  have h6 : ∀ i, S 6 i < 2 := hR.2.2.2.2.2.2.2.2.1
  refine lv_aload_n hx hb dX2_laysText_0 rfl (lv_at hl 0 rfl) ?_
  refine lv_iconst (v := nI 0) hx hb dX2_laysText_1 (by decide) ?_
  refine r_put (w' := MW cy B S (up2 T 0 0 0) Y) (own := RX2) (C := RX2) (T := TX2) (N := 19) (ci := 2) (q0 := 0) (k := 16) (index := 76) (ty := .int) hx hb hts hiX2 tyX2_ok nmX2 hown hK hP hD hS rfl rfl (by decide) (by decide +kernel) rfl (by decide +kernel) rfl rfl (Nat.le_of_ble_eq_true rfl) dX2_laysText_2 rfl (fun H locs hP hD hS => ?_)
  refine lv_aload_n hx hb dX2_laysText_5 rfl (lv_at hl 0 rfl) ?_
  refine lv_iconst (v := nI 0) hx hb dX2_laysText_6 (by decide) ?_
  obtain ⟨T0, hT0⟩ : ∃ T0, up2 (up2 T 0 0 0) 0 1 0 = T0 := ⟨_, rfl⟩
  refine r_put (w' := MW cy B S T0 Y) (own := RX2) (C := RX2) (T := TX2) (N := 19) (ci := 2) (q0 := 0) (k := 17) (index := 73) (ty := .int) hx hb hts hiX2 tyX2_ok nmX2 hown hK hP hD hS rfl rfl (by decide) (by decide +kernel) rfl (by decide +kernel) rfl rfl (Nat.le_of_ble_eq_true rfl) dX2_laysText_7 (by rw [← hT0]; rfl) (fun H locs hP hD hS => ?_)
  have h00 : T0 0 0 = 0 ∧ T0 0 1 = 0 ∧ T0 0 2 = T 0 2 := by rw [← hT0]; simp [up2]
  refine lv_aload_n hx hb dX2_laysText_10 rfl (lv_at hl 0 rfl) ?_
  refine lv_iload_n hx hb dX2_laysText_11 rfl (lv_at hl 1 rfl) ?_
  refine lv_iconst (v := bI 0) hx hb dX2_laysText_12 (by decide) ?_
  have hk0 : (kidsL S L 0).length ≤ L.length := by rw [kidsL, List.length_reverse]; exact List.length_filter_le _ _
  refine K_v (va_runV (As := [.int (nI a), .int (bI 0)]) (rest := []) ⟨hx, hb, hml, hown, hts⟩ (c_X2_puts l hR ha (b := 0) (by decide) (kids_asc hL) (by omega) _) (cwV 2 hts gX2_laysText_X2_puts rfl rfl rfl (by decide +kernel) ⟨Nat.le_of_ble_eq_true rfl, Nat.le_of_ble_eq_true rfl⟩) (pV hP hK hD hS hA hX (va_recv hK hP (ci := 2) (q0 := 0) rfl rfl)) rfl rfl hl.1 rfl (lv_room (Nat.le_of_ble_eq_true rfl)) dX2_laysText_13 ⟨Nat.le_of_ble_eq_true rfl, Nat.le_of_ble_eq_true rfl⟩) hD hS hA (fun w'  H locs hp hP hD hS => ?_)
  subst hp
  have loop : ∀ (q : Nat) (rp suf : List Nat) (T1 : Nat → Nat → Nat) (H : Heap) (locs : List Loc) (ls : Array Slot), suf.length < q → L = rp.reverse ++ suf → stkP T1 (suf.filter (frP S rp)) → txtP T1 (rp.reverse.filter (visB S a)) → T1 0 2 = T 0 2 → va_P D vwCl (MW cy B S T1 Y) H → va_D A (MW cy B S T1 Y) → va_S A s.heap H locs → lv_has ls 3 [(0, .ref (B 0)), (1, .int (nI a))] → W p l e ({ frames := 3, cells := 0, slots := 0, locals := 60 } : Room) s m ([.ref (B 0), .int (nI a)] : List Value).toArray below meth c H locs 0 0 (MQ below (va_Qv (fun w' => ∃ T' : Nat → Nat → Nat, w' = MW cy B S T' Y ∧ T' 0 2 = T 0 2 ∧ txtP T' (L.filter (visB S a))) (fun w' t => wB D cy A w' t) A) ([.ref (B 0), .int (nI a)] : List Value).toArray s 0 0 A) (F0 m 16 ls []) := by
    intro q
    induction q with
    | zero => intro rp suf T1 H locs ls hq; omega
    | succ q ih =>
      intro rp suf T1 H locs ls hq hsp hstk htx hth hP hD hS hl
      have ho2 : ordP S rp suf := by have := (ord_app _ _ _ (hsp ▸ hL.2.2)).2; simpa using this
      have hsl : suf.length ≤ L.length := by rw [hsp, List.length_append]; omega
      have htop : T1 0 1 ≤ 60 := by rw [hstk.1]; exact Nat.le_trans (List.length_filter_le _ _) (by omega)
      refine lv_aload_n hx hb dX2_laysText_16 rfl (lv_at hl 0 rfl) ?_
      refine va_get (D := D) (ci := 2) (v := .int (nI (T1 0 1))) (C := RX2) (T := TX2) (N := 19) hx hb hts hiX2 hown hK hP (0) rfl rfl 17 (by decide) (hts (.fieldLink RX2 73 "CoauthorTextModel" "top" "I") (by decide +kernel)) (fun _ h9 => h9) rfl dX2_laysText_17 ?_
      refine r_if_le (tgt := 85) hx hb dX2_laysText_20 (by decide) (by omega) (fun c1 => ?_) (fun c1 => ?_)
      · have e0 : suf = [] := fr_head ho2 (List.length_eq_zero_iff.mp (by rw [← hstk.1]; exact c1))
        subst e0
        have e1 : L = rp.reverse := by rw [hsp, List.append_nil]
        exact C_vret hx hb hr hlocks hS hP hK hD (Nat.le_of_ble_eq_true rfl) (Nat.le_of_ble_eq_true rfl) dX2_laysText_85 ⟨T1, rfl, hth, by rw [e1]; exact htx⟩
      · cases suf with
        | nil => have := hstk.1; simp at this; omega
        | cons sg suf =>
          rw [List.filter_cons, if_pos (sees_fr ho2.1)] at hstk
          obtain ⟨p1, p2, p3⟩ := stkP_pop hstk
          have hs60 : sg < 60 := by have := (hL.2.1 sg).mp (by rw [hsp]; exact List.mem_append_right _ List.mem_cons_self); omega
          have hrl : (suf.filter (frP S rp)).length ≤ suf.length := List.length_filter_le _ _
          rw [List.length_cons] at hsl hq
          obtain ⟨T2, hT2⟩ : ∃ T2, up2 T1 0 1 (T1 0 1 - 1) = T2 := ⟨_, rfl⟩
          rw [hT2] at p3
          have q2 : T2 0 0 = T1 0 0 ∧ T2 1 = T1 1 ∧ T2 0 2 = T1 0 2 ∧ T2 2 = T1 2 := by rw [← hT2]; exact ⟨by simp [up2], by funext j; simp [up2], by simp [up2], by funext j; simp [up2]⟩
          have q1 : T2 0 1 = (suf.filter (frP S rp)).length := p3.1
          refine lv_aload_n hx hb dX2_laysText_23 rfl (lv_at hl 0 rfl) ?_
          refine lv_dup hx hb dX2_laysText_24 rfl ?_
          refine va_get (D := D) (ci := 2) (v := .int (nI (T1 0 1))) (C := RX2) (T := TX2) (N := 19) hx hb hts hiX2 hown hK hP (0) rfl rfl 17 (by decide) (hts (.fieldLink RX2 73 "CoauthorTextModel" "top" "I") (by decide +kernel)) (fun _ h9 => h9) rfl dX2_laysText_25 ?_
          refine lv_iconst (v := nI 1) hx hb dX2_laysText_28 (by decide) ?_
          refine r_isub hx hb dX2_laysText_29 (by omega) ?_
          refine r_put (w' := MW cy B S T2 Y) (own := RX2) (C := RX2) (T := TX2) (N := 19) (ci := 2) (q0 := 0) (k := 17) (index := 73) (ty := .int) hx hb hts hiX2 tyX2_ok nmX2 hown hK hP hD hS rfl rfl (by decide) (by decide +kernel) rfl (by decide +kernel) rfl rfl (Nat.le_of_ble_eq_true rfl) dX2_laysText_30 (by rw [← hT2]; rfl) (fun H locs hP hD hS => ?_)
          refine lv_aload_n hx hb dX2_laysText_33 rfl (lv_at hl 0 rfl) ?_
          refine va_get (D := D) (ci := 2) (v := .ref (B 13)) (C := RX2) (T := TX2) (N := 19) hx hb hts hiX2 hown hK hP (0) rfl rfl 15 (by decide) (hts (.fieldLink RX2 48 "CoauthorTextModel" "stack" "[I") (by decide +kernel)) (fun _ h9 => h9) rfl dX2_laysText_34 ?_
          refine lv_aload_n hx hb dX2_laysText_37 rfl (lv_at hl 0 rfl) ?_
          refine va_get (D := D) (ci := 2) (v := .int (nI (T2 0 1))) (C := RX2) (T := TX2) (N := 19) hx hb hts hiX2 hown hK hP (0) rfl rfl 17 (by decide) (hts (.fieldLink RX2 73 "CoauthorTextModel" "top" "I") (by decide +kernel)) (fun _ h9 => h9) rfl dX2_laysText_38 ?_
          refine r_iald hx hb hK hP (13) rfl (by omega) (by decide) dX2_laysText_41 ?_
          refine lv_topi (fun y9 ey9 => ?_)
          obtain rfl : y9 = nI sg := ey9.trans (by show nI (T2 2 (T2 0 1)) = nI sg; rw [q1, q2.2.2.2, p2])
          refine lv_istore_n (lv' := [(2, .int (nI sg)), (0, .ref (B 0)), (1, .int (nI a))]) hx hb dX2_laysText_42 rfl hl (by decide) rfl (fun ls hl => ?_)
          refine lv_aload_n hx hb dX2_laysText_43 rfl (lv_at hl 1 rfl) ?_
          refine va_get (D := D) (ci := 2) (v := .ref (B 6)) (C := RX2) (T := TX2) (N := 19) hx hb hts hiX2 hown hK hP (0) rfl rfl 6 (by decide) (hts (.fieldLink RX2 26 "CoauthorTextModel" "isRemoved" "[Z") (by decide +kernel)) (fun _ h9 => h9) rfl dX2_laysText_44 ?_
          refine lv_iload_n hx hb dX2_laysText_47 rfl (lv_at hl 2 rfl) ?_
          refine lv_iload_n hx hb dX2_laysText_48 rfl (lv_at hl 0 rfl) ?_
          refine K_i (va_runS (As := [.int (nI a), .int (nI sg)]) (rest := [.ref (B 6)]) ⟨hx, hb, hml, hown, hts⟩ (c_X2_at l a sg _) (va_cwS 2 hts gX2_laysText_X2_at rfl rfl rfl (by decide +kernel) ⟨Nat.le_of_ble_eq_true rfl, Nat.le_of_ble_eq_true rfl⟩) (pS hP hK hD hS hA hX) rfl rfl hl.1 rfl (lv_room (Nat.le_of_ble_eq_true rfl)) dX2_laysText_49 ⟨Nat.le_of_ble_eq_true rfl, Nat.le_of_ble_eq_true rfl⟩) hD hS hA (fun r w'  H locs hp hP hD hS => ?_)
          obtain ⟨rfl, hw9⟩ := hp
          rw [hw9] at hP hD
          refine r_zald hx hb hK hP (6) rfl (by omega) (by decide) dX2_laysText_52 ?_
          have join : ∀ (T3 : Nat → Nat → Nat) (H : Heap) (locs : List Loc) (ls : Array Slot), stkP T3 (suf.filter (frP S rp)) → txtP T3 ((sg :: rp).reverse.filter (visB S a)) → T3 0 2 = T 0 2 → va_P D vwCl (MW cy B S T3 Y) H → va_D A (MW cy B S T3 Y) → va_S A s.heap H locs → lv_has ls 3 [(2, .int (nI sg)), (0, .ref (B 0)), (1, .int (nI a))] → W p l e ({ frames := 3, cells := 0, slots := 0, locals := 60 } : Room) s m ([.ref (B 0), .int (nI a)] : List Value).toArray below meth c H locs 0 0 (MQ below (va_Qv (fun w' => ∃ T' : Nat → Nat → Nat, w' = MW cy B S T' Y ∧ T' 0 2 = T 0 2 ∧ txtP T' (L.filter (visB S a))) (fun w' t => wB D cy A w' t) A) ([.ref (B 0), .int (nI a)] : List Value).toArray s 0 0 A) (F0 m 76 ls []) := by
            intro T3 H locs ls h3s h3t h3h hP hD hS hl
            refine lv_aload_n hx hb dX2_laysText_76 rfl (lv_at hl 1 rfl) ?_
            refine lv_iload_n hx hb dX2_laysText_77 rfl (lv_at hl 2 rfl) ?_
            refine lv_iload_n hx hb dX2_laysText_78 rfl (lv_at hl 0 rfl) ?_
            refine lv_topi (fun y9 ey9 => ?_)
            obtain rfl : y9 = bI (sg + 1) := ey9.trans (bI_s sg).symm
            have hstep := stk_step hL hg hsp
            have hlen2 : (kidsL S L (sg + 1)).length + (suf.filter (frP S rp)).length ≤ suf.length := by have := congrArg List.length hstep; rw [List.length_append, List.length_reverse] at this; rw [this]; exact List.length_filter_le _ _
            refine K_v (va_runV (As := [.int (nI a), .int (bI (sg + 1))]) (rest := []) ⟨hx, hb, hml, hown, hts⟩ (c_X2_puts l hR ha (b := sg + 1) (by omega) (kids_asc hL) (by rw [h3s.1]; omega) _) (cwV 2 hts gX2_laysText_X2_puts rfl rfl rfl (by decide +kernel) ⟨Nat.le_of_ble_eq_true rfl, Nat.le_of_ble_eq_true rfl⟩) (pV hP hK hD hS hA hX (va_recv hK hP (ci := 2) (q0 := 0) rfl rfl)) rfl rfl hl.1 rfl (lv_room (Nat.le_of_ble_eq_true rfl)) dX2_laysText_79 ⟨Nat.le_of_ble_eq_true rfl, Nat.le_of_ble_eq_true rfl⟩) hD hS hA (fun w'  H locs hp hP hD hS => ?_)
            subst hp
            refine lv_goto (tgt := 16) hx hb dX2_laysText_82 (by decide) ?_
            obtain ⟨k1, k2, k3, k4, k5⟩ := pushL_keep (kidsL S L (sg + 1)) T3
            exact ih (sg :: rp) suf (pushL T3 (kidsL S L (sg + 1))) _ _ ls (by omega) (by rw [hsp]; simp) (by rw [← hstep]; exact stkP_pushL _ h3s) (txtP_same h3t k2 k4) (by rw [k3, h3h]) hP hD hS (lv_sub hl [1, 2] rfl)
          refine r_if_ne (tgt := 76) hx hb dX2_laysText_53 (by decide) (by have := h6 (60 * a + sg); omega) (fun c2 => ?_) (fun c2 => ?_)
          · exact join T2 _ _ ls p3 (txtP_same (by rw [List.reverse_cons, List.filter_append, List.filter_cons, if_neg (by simp [visB]; omega)]; simpa using htx) q2.1 q2.2.1) (by rw [q2.2.2.1, hth]) hP hD hS hl
          · have htl : T2 0 0 < 60 := by rw [q2.1, htx.1]; have h7 := congrArg List.length hsp; rw [List.length_append, List.length_cons] at h7; have h8 := List.length_filter_le (visB S a) rp.reverse; omega
            refine lv_aload_n hx hb dX2_laysText_56 rfl (lv_at hl 1 rfl) ?_
            refine va_get (D := D) (ci := 2) (v := .ref (B 12)) (C := RX2) (T := TX2) (N := 19) hx hb hts hiX2 hown hK hP (0) rfl rfl 14 (by decide) (hts (.fieldLink RX2 45 "CoauthorTextModel" "text" "[I") (by decide +kernel)) (fun _ h9 => h9) rfl dX2_laysText_57 ?_
            refine lv_aload_n hx hb dX2_laysText_60 rfl (lv_at hl 1 rfl) ?_
            refine va_get (D := D) (ci := 2) (v := .int (nI (T2 0 0))) (C := RX2) (T := TX2) (N := 19) hx hb hts hiX2 hown hK hP (0) rfl rfl 16 (by decide) (hts (.fieldLink RX2 76 "CoauthorTextModel" "length" "I") (by decide +kernel)) (fun _ h9 => h9) rfl dX2_laysText_61 ?_
            refine lv_iload_n hx hb dX2_laysText_64 rfl (lv_at hl 0 rfl) ?_
            refine r_iast (w' := MW cy B S (up2 T2 1 (T2 0 0) sg) Y) hx hb hK hP hD hS (12) rfl (by omega) (by decide) dX2_laysText_65 (by rw [show upd (fun j => nI (T2 1 j)) (T2 0 0) (nI sg) = fun j => nI (up2 T2 1 (T2 0 0) sg 1 j) from upd_n T2 1 _ _]; rfl) (fun H locs hP hD hS => ?_)
            obtain ⟨T3, hT3⟩ : ∃ T3, up2 (up2 T2 1 (T2 0 0) sg) 0 0 (T2 0 0 + 1) = T3 := ⟨_, rfl⟩
            refine lv_aload_n hx hb dX2_laysText_66 rfl (lv_at hl 1 rfl) ?_
            refine lv_dup hx hb dX2_laysText_67 rfl ?_
            refine va_get (D := D) (ci := 2) (v := .int (nI ((up2 T2 1 (T2 0 0) sg) 0 0))) (C := RX2) (T := TX2) (N := 19) hx hb hts hiX2 hown hK hP (0) rfl rfl 16 (by decide) (hts (.fieldLink RX2 76 "CoauthorTextModel" "length" "I") (by decide +kernel)) (fun _ h9 => h9) rfl dX2_laysText_68 ?_
            refine lv_iconst (v := nI 1) hx hb dX2_laysText_71 (by decide) ?_
            refine r_iadd hx hb dX2_laysText_72 ?_
            refine r_put (w' := MW cy B S T3 Y) (own := RX2) (C := RX2) (T := TX2) (N := 19) (ci := 2) (q0 := 0) (k := 16) (index := 76) (ty := .int) hx hb hts hiX2 tyX2_ok nmX2 hown hK hP hD hS rfl rfl (by decide) (by decide +kernel) rfl (by decide +kernel) rfl rfl (Nat.le_of_ble_eq_true rfl) dX2_laysText_73 (by rw [← hT3]; rfl) (fun H locs hP hD hS => ?_)
            have q3 : T3 0 1 = T2 0 1 ∧ T3 2 = T2 2 ∧ T3 0 2 = T2 0 2 := by rw [← hT3]; exact ⟨by simp [up2], by funext j; simp [up2], by simp [up2]⟩
            exact join T3 _ _ ls ⟨by rw [q3.1]; exact p3.1, fun k hk => by rw [q3.2.1]; exact p3.2 k hk⟩ (by rw [List.reverse_cons, List.filter_append, List.filter_cons, if_pos (by simp [visB]; omega), ← hT3]; exact txtP_add (txtP_same htx q2.1 q2.2.1)) (by rw [q3.2.2, q2.2.2.1, hth]) hP hD hS hl
  obtain ⟨k1, k2, k3, k4, k5⟩ := pushL_keep (kidsL S L 0) T0
  exact loop (L.length + 1) [] L (pushL T0 (kidsL S L 0)) _ _ ls (by omega) rfl (by rw [← fr_0]; exact stkP_pushL _ ⟨h00.2.1, fun k hk => absurd hk (Nat.not_lt_zero k)⟩) ⟨by rw [k2, h00.1]; rfl, fun j hj => absurd hj (Nat.not_lt_zero j)⟩ (by rw [k3, h00.2.2]) hP hD hS hl
end
section
/-! ===== what each call does, once for both sides: (which exception, answer, state) ===== -/
def aN (p : Int32) : Nat := p.toNatClampNeg
theorem aN_n {a : Nat} (h : a < 2 ^ 31) : aN (nI a) = a := nI_clamp h
def vsb (S : Nat → Nat → Nat) (a i : Nat) : Bool := decide (S 5 (60 * a + i) = 1) && decide (S 6 (60 * a + i) = 0)
/-- the text of a copy -/
def txL (S : Nat → Nat → Nat) (O : List Nat) (a : Nat) : List Nat := O.filter (vsb S a)
abbrev Res : Type := Nat × Int32 × (Nat → Nat → Nat)
def insS (S : Nat → Nat → Nat) (a b c : Nat) : Nat → Nat → Nat := up2 (up2 (up2 (up2 (up2 (up2 (up2 S 8 a (S 8 a + 1)) 1 (S 0 0) a) 2 (S 0 0) c) 3 (S 0 0) (S 8 a + 1)) 4 (S 0 0) b) 5 (60 * a + S 0 0) 1) 0 0 (S 0 0 + 1)
def parL (S : Nat → Nat → Nat) (O : List Nat) (a k : Nat) : Nat := if k = 0 then 0 else (txL S O a).getD (k - 1) 0 + 1
def spInsert (S : Nat → Nat → Nat) (O : List Nat) (p0 p1 p2 : Int32) : Res :=
  if (isA p0 && inB p2 0 25) = false then (1, 0, S) else if inB p1 0 (nI (txL S O (aN p0)).length) = false then (2, 0, S) else if S 0 0 = 60 then (3, 0, S) else (0, nI (S 0 0), insS S (aN p0) (parL S O (aN p0) (aN p1)) (aN p2))
/-- removal (v = 1) or restoration (v = 0) of a sign -/
def setS (S : Nat → Nat → Nat) (a i v : Nat) : Nat → Nat → Nat := up2 (up2 (up2 S 6 (60 * a + i) v) 8 a (S 8 a + 1)) 7 (60 * a + i) (4 * (S 8 a + 1) + a)
def spRemove (S : Nat → Nat → Nat) (O : List Nat) (p0 p1 : Int32) : Res :=
  if isA p0 = false then (1, 0, S) else if inS p1 (txL S O (aN p0)).length = false then (2, 0, S) else (0, nI ((txL S O (aN p0)).getD (aN p1) 0), setS S (aN p0) ((txL S O (aN p0)).getD (aN p1) 0) 1)
/-- how many stand ahead of i -/
def posL : List Nat → Nat → Nat
  | [], _ => 0
  | x :: r, i => if x = i then 0 else posL r i + 1
theorem posL_at {i : Nat} : ∀ {L : List Nat}, i ∈ L → posL L i < L.length ∧ L[posL L i]? = some i
  | [], h => absurd h List.not_mem_nil
  | x :: r, h => by
    by_cases e : x = i
    · subst e
      simp [posL]
    · rcases List.mem_cons.mp h with h | h
      · exact absurd h.symm e
      · obtain ⟨h1, h2⟩ := posL_at h
        simp only [posL, if_neg e, List.length_cons, List.getElem?_cons_succ]
        exact ⟨by omega, h2⟩
theorem posL_eq {i : Nat} : ∀ {L : List Nat} {j : Nat}, L.Nodup → L[j]? = some i → j = posL L i
  | [], j, _, h => by simp at h
  | x :: r, 0, _, h => by
    have : x = i := by simpa using h
    simp [posL, this]
  | x :: r, j + 1, hn, h => by
    have h2 : r[j]? = some i := by simpa using h
    have hne : ¬ x = i := fun e => (List.nodup_cons.mp hn).1 (e ▸ List.mem_of_getElem? h2)
    simp only [posL, if_neg hne]
    rw [posL_eq (List.nodup_cons.mp hn).2 h2]
def spRestore (S : Nat → Nat → Nat) (O : List Nat) (p0 p1 : Int32) : Res :=
  if inS p1 (S 0 0) = false then (1, 0, S) else if isA p0 = false then (2, 0, S) else if S 5 (60 * aN p0 + aN p1) = 1 ∧ S 6 (60 * aN p0 + aN p1) = 1 then (0, nI (posL (txL (setS S (aN p0) (aN p1) 0) O (aN p0)) (aN p1)), setS S (aN p0) (aN p1) 0) else (3, 0, S)
/-- learning: done for the signs of P -/
def lrB (S : Nat → Nat → Nat) (a f i : Nat) : Bool := decide (S 5 (60 * f + i) = 1) && (decide (S 5 (60 * a + i) = 0) || decide (S 7 (60 * a + i) < S 7 (60 * f + i)))
def lrP (S : Nat → Nat → Nat) (a f : Nat) (P : Nat → Bool) : Nat → Nat → Nat := fun k j =>
  if k = 5 then (if 60 * a ≤ j ∧ j < 60 * a + 60 ∧ (P (j - 60 * a) && lrB S a f (j - 60 * a)) = true then 1 else S 5 j)
  else if k = 6 then (if 60 * a ≤ j ∧ j < 60 * a + 60 ∧ (P (j - 60 * a) && lrB S a f (j - 60 * a)) = true then S 6 (60 * f + (j - 60 * a)) else S 6 j)
  else if k = 7 then (if 60 * a ≤ j ∧ j < 60 * a + 60 ∧ (P (j - 60 * a) && lrB S a f (j - 60 * a)) = true then S 7 (60 * f + (j - 60 * a)) else S 7 j)
  else S k j
def nwB (S : Nat → Nat → Nat) (a f i : Nat) : Bool := decide (S 5 (60 * f + i) = 1) && decide (S 5 (60 * a + i) = 0)
def lrS (S : Nat → Nat → Nat) (a f : Nat) : Nat → Nat → Nat := up2 (lrP S a f (fun i => decide (i < S 0 0))) 8 a (max (S 8 a) (S 8 f))
def spLearn (S : Nat → Nat → Nat) (p0 p1 : Int32) : Res :=
  if (isA p0 && isA p1 && !decide (p0 = p1)) = false then (1, 0, S) else (0, nI ((List.range (S 0 0)).countP (nwB S (aN p0) (aN p1))), lrS S (aN p0) (aN p1))
def spLength (S : Nat → Nat → Nat) (O : List Nat) (p0 : Int32) : Res := if isA p0 = false then (1, 0, S) else (0, nI (txL S O (aN p0)).length, S)
def spSignAt (S : Nat → Nat → Nat) (O : List Nat) (p0 p1 : Int32) : Res :=
  if isA p0 = false then (1, 0, S) else if inS p1 (txL S O (aN p0)).length = false then (2, 0, S) else (0, nI ((txL S O (aN p0)).getD (aN p1) 0), S)
def spLetterAt (S : Nat → Nat → Nat) (O : List Nat) (p0 p1 : Int32) : Res :=
  if isA p0 = false then (1, 0, S) else if inS p1 (txL S O (aN p0)).length = false then (2, 0, S) else (0, nI (S 2 ((txL S O (aN p0)).getD (aN p1) 0)), S)
def alB (S : Nat → Nat → Nat) (a b n : Nat) : Bool := (List.range n).all (fun i => vsb S a i == vsb S b i)
def spAreAlike (S : Nat → Nat → Nat) (p0 p1 : Int32) : Res := if (isA p0 && isA p1) = false then (1, 0, S) else (0, nI (bN (alB S (aN p0) (aN p1) (S 0 0))), S)
def spAuthorOf (S : Nat → Nat → Nat) (p0 : Int32) : Res := if inS p0 (S 0 0) = false then (1, 0, S) else (0, nI (S 1 (aN p0)), S)
def spBehind (S : Nat → Nat → Nat) (p0 : Int32) : Res := if inS p0 (S 0 0) = false then (1, 0, S) else (0, bI (S 4 (aN p0)), S)
def spClock (S : Nat → Nat → Nat) (p0 : Int32) : Res := if isA p0 = false then (1, 0, S) else (0, nI (S 8 (aN p0)), S)
/-- the row of the next edition -/
def rowS (S : Nat → Nat → Nat) (f : Nat → Nat) : Nat → Nat → Nat := fun k j => if k = 9 then (if 4 * S 0 1 ≤ j ∧ j < 4 * S 0 1 + 4 then f (j - 4 * S 0 1) else S 9 j) else S k j
def cntA (S : Nat → Nat → Nat) (L : List Nat) (a : Nat) : Nat := L.countP (fun i => decide (S 1 i = a))
def prS (S : Nat → Nat → Nat) (L : List Nat) : Nat → Nat → Nat := up2 (rowS S (cntA S L)) 0 1 (S 0 1 + 1)
def spPrint (S : Nat → Nat → Nat) (O : List Nat) (p0 : Int32) : Res :=
  if isA p0 = false then (1, 0, S) else if (txL S O (aN p0)).length = 0 ∨ S 0 1 = 20 then (2, 0, S) else (0, nI (S 0 1), prS S (txL S O (aN p0)))
def spPrinted (S : Nat → Nat → Nat) (p0 p1 : Int32) : Res := if inS p0 (S 0 1) = false then (1, 0, S) else if isA p1 = false then (2, 0, S) else (0, nI (S 9 (4 * aN p0 + aN p1)), S)
def spSetFloor (S : Nat → Nat → Nat) (p0 : Int32) : Res := if inB p0 0 25 = false then (1, 0, S) else (0, nI (S 0 2), up2 S 0 2 (aN p0))
def spAdvance (S : Nat → Nat → Nat) (p0 p1 : Int32) : Res := if (isA p0 && inB p1 1 100000) = false then (1, 0, S) else (0, nI (S 10 (aN p0) + aN p1), up2 S 10 (aN p0) (S 10 (aN p0) + aN p1))
def spLeft (S : Nat → Nat → Nat) (p0 : Int32) : Res := if isA p0 = false then (1, 0, S) else (0, nI (S 10 (aN p0)), S)
def cPaid (p0 : Int32) : Nat := if isA p0 = false then 1 else 0
/-- splitting a sale of edition e for m -/
def s4 (f : Nat → Nat) : Nat := f 0 + f 1 + f 2 + f 3
def slF (S : Nat → Nat → Nat) (m : Nat) : Nat := m * S 0 2 / 100
def slW (S : Nat → Nat → Nat) (e : Nat) : Nat := s4 (fun a => if S 9 (4 * e + a) = 0 then 0 else 1)
def slL (S : Nat → Nat → Nat) (e m : Nat) : Nat := m - slW S e * slF S m
def slA (S : Nat → Nat → Nat) (e : Nat) : Nat := s4 (fun a => S 9 (4 * e + a))
def slP (S : Nat → Nat → Nat) (e m a : Nat) : Nat := slL S e m * S 9 (4 * e + a) / slA S e
def slR (S : Nat → Nat → Nat) (e m : Nat) : Nat := slL S e m - s4 (slP S e m)
def slI (S : Nat → Nat → Nat) (e : Nat) : Nat := if S 9 (4 * e + 0) = 0 then (if S 9 (4 * e + 1) = 0 then (if S 9 (4 * e + 2) = 0 then 3 else 2) else 1) else 0
/-- what an author gets -/
def slG (S : Nat → Nat → Nat) (e m a : Nat) : Nat := slP S e m a + (if S 9 (4 * e + a) = 0 then 0 else slF S m) + (if a = slI S e then slR S e m else 0)
def slH (S : Nat → Nat → Nat) (e m a : Nat) : Nat := min (slG S e m a) (S 10 a)
/-- done for the authors below n -/
def slS (S : Nat → Nat → Nat) (e m n : Nat) : Nat → Nat → Nat := fun k j => if k = 10 then (if j < n then S 10 j - slH S e m j else S 10 j) else if k = 11 then (if j < n then S 11 j + (slG S e m j - slH S e m j) else S 11 j) else S k j
def spSell (S : Nat → Nat → Nat) (p0 p1 : Int32) : Res :=
  if inS p0 (S 0 1) = false then (1, 0, S) else if inB p1 1 1000000 = false then (2, 0, S) else (0, nI (s4 (fun a => slG S (aN p0) (aN p1) a - slH S (aN p0) (aN p1) a)), slS S (aN p0) (aN p1) 4)
/-- what holds between calls: O is the order of all signs -/
def Inv (S : Nat → Nat → Nat) (O : List Nat) : Prop := Rng S ∧ growP S ∧ ordP S [] O ∧ O.Nodup ∧ (∀ i, i ∈ O ↔ i < S 0 0) ∧
  (∀ a i, a < 4 → i < S 0 0 → S 5 (60 * a + i) = 1 → (S 4 i = 0 ∨ S 5 (60 * a + (S 4 i - 1)) = 1) ∧ S 3 i ≤ S 8 a) ∧ (∀ i, i < S 0 0 → S 3 i ≤ S 8 (S 1 i)) ∧
  (∀ a i, a < 4 → S 0 0 ≤ i → i < 60 → S 5 (60 * a + i) = 0 ∧ S 6 (60 * a + i) = 0 ∧ S 7 (60 * a + i) = 0) ∧
  (∀ e a, S 0 1 ≤ e → a < 4 → S 9 (4 * e + a) = 0) ∧ (∀ e, e < S 0 1 → 0 < slA S e ∧ slA S e ≤ 60)
def layL (S : Nat → Nat → Nat) (O : List Nat) (a : Nat) : List Nat := O.filter (fun i => decide (S 5 (60 * a + i) = 1))
theorem lay_txt (S : Nat → Nat → Nat) (O : List Nat) (a : Nat) : (layL S O a).filter (visB S a) = txL S O a := by
  rw [layL, List.filter_filter, txL]
  apply List.filter_congr
  intro i _
  simp [vsb, visB, Bool.and_comm]
theorem sees_filter {S : Nat → Nat → Nat} {K : Nat → Bool} {t : Nat} (hK : S 4 t = 0 ∨ K (S 4 t - 1) = true) : ∀ {rp : List Nat}, sees S t rp → sees S t (rp.filter K)
  | [], h => h
  | u :: r, h => by
    rw [List.filter_cons]
    rcases h with h | ⟨h1, h2⟩
    · have : K u = true := by
        rcases hK with hK | hK
        · omega
        · rw [h] at hK; exact hK
      rw [if_pos this]
      exact Or.inl h
    · by_cases hu : K u = true
      · rw [if_pos hu]; exact Or.inr ⟨h1, sees_filter hK h2⟩
      · rw [if_neg hu]; exact sees_filter hK h2
theorem ord_filter {S : Nat → Nat → Nat} {K : Nat → Bool} : ∀ (suf rp : List Nat), (∀ t, t ∈ suf → K t = true → S 4 t = 0 ∨ K (S 4 t - 1) = true) → ordP S rp suf → ordP S (rp.filter K) (suf.filter K)
  | [], _, _, _ => trivial
  | t :: suf, rp, hK, h => by
    have ih := ord_filter suf (t :: rp) (fun u hu => hK u (List.mem_cons_of_mem _ hu)) h.2
    rw [List.filter_cons]
    by_cases ht : K t = true
    · rw [if_pos ht]
      refine ⟨sees_filter (hK t List.mem_cons_self ht) h.1, ?_⟩
      rw [List.filter_cons, if_pos ht] at ih
      exact ih
    · rw [if_neg ht]
      rw [List.filter_cons, if_neg ht] at ih
      exact ih
theorem Inv.lay {S : Nat → Nat → Nat} {O : List Nat} (h : Inv S O) {a : Nat} (ha : a < 4) : layP S a (layL S O a) := by
  obtain ⟨hR, hg, ho, hn, hm, hk, -⟩ := h
  refine ⟨hn.filter _, fun i => ?_, ?_⟩
  · rw [layL, List.mem_filter, hm i]
    simp
  · have := ord_filter (K := fun i => decide (S 5 (60 * a + i) = 1)) O [] (fun t ht h5 => by
      have := (hk a t ha ((hm t).mp ht) (by simpa using h5)).1
      simpa using this) ho
    exact this
theorem Inv.R {S : Nat → Nat → Nat} {O : List Nat} (h : Inv S O) : Rng S := h.1
theorem Inv.g {S : Nat → Nat → Nat} {O : List Nat} (h : Inv S O) : growP S := h.2.1
theorem Inv.len {S : Nat → Nat → Nat} {O : List Nat} (h : Inv S O) (a : Nat) : (txL S O a).length ≤ 60 := by
  have h1 : (txL S O a).length ≤ O.length := List.length_filter_le _ _
  have h2 : O.length ≤ S 0 0 := nd_len _ O h.2.2.2.1 (fun i hi => (h.2.2.2.2.1 i).mp hi)
  have := h.1.1
  omega
theorem txL_mem {S : Nat → Nat → Nat} {O : List Nat} (h : Inv S O) {a i : Nat} (hi : i ∈ txL S O a) : i < S 0 0 ∧ S 5 (60 * a + i) = 1 ∧ S 6 (60 * a + i) = 0 := by
  obtain ⟨h1, h2⟩ := List.mem_filter.mp hi
  simp only [vsb, Bool.and_eq_true, decide_eq_true_eq] at h2
  exact ⟨(h.2.2.2.2.1 i).mp h1, h2.1, h2.2⟩
theorem getD_lt {L : List Nat} {k : Nat} (h : k < L.length) : L.getD k 0 = L[k] := by
  rw [List.getD_eq_getElem?_getD, List.getElem?_eq_getElem h]
  rfl
theorem getD_mem {L : List Nat} {k : Nat} (h : k < L.length) : L.getD k 0 ∈ L := by
  rw [getD_lt h]
  exact List.getElem_mem h
theorem txt_at {T : Nat → Nat → Nat} {L : List Nat} (h : txtP T L) {k : Nat} (hk : k < L.length) : T 1 k = L.getD k 0 := by
  have h9 := h.2 k hk
  rw [List.getElem?_eq_getElem hk] at h9
  rw [getD_lt hk]
  exact Option.some.inj h9
theorem sees_congr {S S' : Nat → Nat → Nat} {t : Nat} (h4 : S' 4 t = S 4 t) (hk : ∀ i, keyS S' i = keyS S i) : ∀ {rp : List Nat}, sees S t rp → sees S' t rp
  | [], h => h4.trans h
  | u :: r, h => by
    rcases h with h | ⟨h1, h2⟩
    · exact Or.inl (h4.trans h)
    · exact Or.inr ⟨by rw [hk, hk]; exact h1, sees_congr h4 hk h2⟩
theorem ord_congr {S S' : Nat → Nat → Nat} (h4 : ∀ i, S' 4 i = S 4 i) (hk : ∀ i, keyS S' i = keyS S i) : ∀ (suf rp : List Nat), ordP S rp suf → ordP S' rp suf
  | [], _, _ => trivial
  | t :: suf, rp, h => ⟨sees_congr (h4 t) hk h.1, ord_congr h4 hk suf (t :: rp) h.2⟩
/-- clocks are far from their bound -/
def Few (S : Nat → Nat → Nat) : Prop := ∀ i, S 8 i < 100000
theorem Rng.set {S : Nat → Nat → Nat} (h : Rng S) (hf : Few S) {a i v : Nat} (ha : a < 4) (hv : v < 2) : Rng (setS S a i v) := by
  obtain ⟨h1, h2, h3, h4, h5, h6, h7, h8, h9, h10, h11, h12, h13⟩ := h
  refine ⟨h1, h2, h3, h4, h5, h6, h7, h8, fun j => ?_, fun j => ?_, fun j => ?_, h12, h13⟩
  · by_cases e : j = 60 * a + i
    · subst e; simp [setS, up2, hv]
    · have := h9 j; simp [setS, up2, e]; exact this
  · have := hf a
    by_cases e : j = 60 * a + i
    · subst e; simp [setS, up2]; omega
    · have := h10 j; simp [setS, up2, e]; exact this
  · have := hf a
    by_cases e : j = a
    · subst e; simp [setS, up2]; omega
    · have := h11 j; simp [setS, up2, e]; exact this
theorem grow_set {S : Nat → Nat → Nat} (h : growP S) (a i v : Nat) : growP (setS S a i v) := h
theorem lay_set {S : Nat → Nat → Nat} {b : Nat} {L : List Nat} (h : layP S b L) (a i v : Nat) : layP (setS S a i v) b L := ⟨h.1, h.2.1, ord_congr (S := S) (S' := setS S a i v) (fun _ => rfl) (fun _ => rfl) L [] h.2.2⟩
end
section
/-! ===== the reference: what only reads, floors and advances ===== -/
set_option maxHeartbeats 4000000 in
set_option maxRecDepth 100000 in
theorem c_X2_length (l : Launch) {D : va_G} {cy : Nat → ClassId} {B : Nat → Nat} {S T : Nat → Nat → Nat} {Y : va_W} {O : List Nat} (hI : Inv S O) (p0 : Int32) : CI l yX2_length wsX2_length ({ frames := 4, cells := 0, slots := 0, locals := 82 } : Room) D cy [.ref (B 0), .int p0] (MW cy B S T Y) (fun r w' => ∃ T' : Nat → Nat → Nat, T' 0 2 = (spLength S O p0).1 ∧ w' = MW cy B (spLength S O p0).2.2 T' Y ∧ ((spLength S O p0).1 = 0 → r = (spLength S O p0).2.1)) 0 0 := by
  refine CI.of (cc := cX2_length) (maxL := 2) (ret := (some .int)) (by decide) rfl (Nat.le_of_ble_eq_true rfl) ?_
  intro p e s m below meth c A ls E0 hl
  obtain ⟨hx, hb, hml, hown, hts, hr, hlocks, hA, hS, hP, hK, hD, hX⟩ := E0
  have hiX2 : ∀ w ∈ u_ws RX2 TX2 19, w ∈ wsX2_length := by decide +kernel
  have hl : lv_has ls 2 [(0, .ref (B 0)), (1, .int p0)] := hl
  refine lv_aload_n hx hb dX2_length_0 rfl (lv_at hl 0 rfl) ?_
  refine lv_iload_n hx hb dX2_length_1 rfl (lv_at hl 1 rfl) ?_
  refine K_i (va_runV (As := [.int p0]) (rest := []) ⟨hx, hb, hml, hown, hts⟩ (c_X2_asks l p0 _) (cwV 1 hts gX2_length_X2_asks rfl rfl rfl (by decide +kernel) ⟨Nat.le_of_ble_eq_true rfl, Nat.le_of_ble_eq_true rfl⟩) (pV hP hK hD hS hA hX (va_recv hK hP (ci := 2) (q0 := 0) rfl rfl)) rfl rfl hl.1 rfl (lv_room (Nat.le_of_ble_eq_true rfl)) dX2_length_2 ⟨Nat.le_of_ble_eq_true rfl, Nat.le_of_ble_eq_true rfl⟩) hD hS hA (fun r w'  H locs hp hP hD hS => ?_)
  obtain ⟨rfl, rfl⟩ := hp
  refine r_if_ne (tgt := 10) hx hb dX2_length_5 (by decide) (Nat.lt_trans (bN_lt _) (by decide)) (fun c1 => ?_) (fun c1 => ?_)
  · have hU := bN_1.mp c1
    obtain ⟨a, ha, rfl⟩ := isA_n hU
    refine lv_aload_n hx hb dX2_length_10 rfl (lv_at hl 0 rfl) ?_
    refine lv_iload_n hx hb dX2_length_11 rfl (lv_at hl 1 rfl) ?_
    refine K_v (va_runV (As := [.int (nI a)]) (rest := []) ⟨hx, hb, hml, hown, hts⟩ (c_X2_laysText l hI.R hI.g (a := a) ha (hI.lay ha) _) (cwV 1 hts gX2_length_X2_laysText rfl rfl rfl (by decide +kernel) ⟨Nat.le_of_ble_eq_true rfl, Nat.le_of_ble_eq_true rfl⟩) (pV hP hK hD hS hA hX (va_recv hK hP (ci := 2) (q0 := 0) rfl rfl)) rfl rfl hl.1 rfl (lv_room (Nat.le_of_ble_eq_true rfl)) dX2_length_12 ⟨Nat.le_of_ble_eq_true rfl, Nat.le_of_ble_eq_true rfl⟩) hD hS hA (fun w'  H locs hp hP hD hS => ?_)
    obtain ⟨T2, rfl, h2, ht⟩ := hp
    rw [lay_txt] at ht
    refine lv_aload_n hx hb dX2_length_15 rfl (lv_at hl 0 rfl) ?_
    refine va_get (D := D) (ci := 2) (v := .int (nI (T2 0 0))) (C := RX2) (T := TX2) (N := 19) hx hb hts hiX2 hown hK hP (0) rfl rfl 16 (by decide) (hts (.fieldLink RX2 76 "CoauthorTextModel" "length" "I") (by decide +kernel)) (fun _ h9 => h9) rfl dX2_length_16 ?_
    exact C_iret hx hb hr hlocks hS hP hK hD (Nat.le_of_ble_eq_true rfl) (Nat.le_of_ble_eq_true rfl) dX2_length_19 (by rw [show spLength S O (nI a) = (0, nI (txL S O a).length, S) from by simp [spLength, hU, aN_n (show a < 2 ^ 31 by omega)]]; exact ⟨T2, by rw [h2, hU]; rfl, rfl, fun _ => by rw [ht.1]⟩)
  · have hU := bN_0.mp c1
    refine lv_iconst (v := nI 0) hx hb dX2_length_8 (by decide) ?_
    exact C_iret hx hb hr hlocks hS hP hK hD (Nat.le_of_ble_eq_true rfl) (Nat.le_of_ble_eq_true rfl) dX2_length_9 (by rw [show spLength S O p0 = (1, 0, S) from by simp [spLength, hU]]; exact ⟨_, (by rw [hU]; rfl), rfl, fun h => absurd (show (1 : Nat) = 0 from h) (by decide)⟩)

set_option maxHeartbeats 4000000 in
set_option maxRecDepth 100000 in
theorem c_X2_signs (l : Launch) {D : va_G} {cy : Nat → ClassId} {B : Nat → Nat} {S T : Nat → Nat → Nat} {Y : va_W} : CI l yX2_signs wsX2_signs ({ frames := 1, cells := 0, slots := 0, locals := 12 } : Room) D cy [.ref (B 0)] (MW cy B S T Y) (fun r w' => ∃ T' : Nat → Nat → Nat, T' 0 2 = 0 ∧ w' = MW cy B S T' Y ∧ r = nI (S 0 0)) 0 0 := by
  refine CI.of (cc := cX2_signs) (maxL := 1) (ret := (some .int)) (by decide) rfl (Nat.le_of_ble_eq_true rfl) ?_
  intro p e s m below meth c A ls E0 hl
  obtain ⟨hx, hb, hml, hown, hts, hr, hlocks, hA, hS, hP, hK, hD, hX⟩ := E0
  have hiX2 : ∀ w ∈ u_ws RX2 TX2 19, w ∈ wsX2_signs := by decide +kernel
  have hl : lv_has ls 1 [(0, .ref (B 0))] := hl
  refine lv_aload_n hx hb dX2_signs_0 rfl (lv_at hl 0 rfl) ?_
  refine lv_iconst (v := nI 0) hx hb dX2_signs_1 (by decide) ?_
  refine r_put (w' := MW cy B S (up2 T 0 2 0) Y) (own := RX2) (C := RX2) (T := TX2) (N := 19) (ci := 2) (q0 := 0) (k := 18) (index := 51) (ty := .int) hx hb hts hiX2 tyX2_ok nmX2 hown hK hP hD hS rfl rfl (by decide) (by decide +kernel) rfl (by decide +kernel) rfl rfl (Nat.le_of_ble_eq_true rfl) dX2_signs_2 rfl (fun H locs hP hD hS => ?_)
  refine lv_aload_n hx hb dX2_signs_5 rfl (lv_at hl 0 rfl) ?_
  refine va_get (D := D) (ci := 2) (v := .int (nI (S 0 0))) (C := RX2) (T := TX2) (N := 19) hx hb hts hiX2 hown hK hP (0) rfl rfl 0 (by decide) (hts (.fieldLink RX2 59 "CoauthorTextModel" "signs" "I") (by decide +kernel)) (fun _ h9 => h9) rfl dX2_signs_6 ?_
  exact C_iret hx hb hr hlocks hS hP hK hD (Nat.le_of_ble_eq_true rfl) (Nat.le_of_ble_eq_true rfl) dX2_signs_9 ⟨_, up2_s _ _ _ _, rfl, rfl⟩

def apC (S : Nat → Nat → Nat) (O : List Nat) (p0 p1 : Int32) : Nat := if isA p0 = false then 1 else if inS p1 (txL S O (aN p0)).length = false then 2 else 0

set_option maxHeartbeats 4000000 in
set_option maxRecDepth 100000 in
theorem c_X2_asksPlace (l : Launch) {D : va_G} {cy : Nat → ClassId} {B : Nat → Nat} {S T : Nat → Nat → Nat} {Y : va_W} {O : List Nat} (hI : Inv S O) (p0 p1 : Int32) : CI l yX2_asksPlace wsX2_asksPlace ({ frames := 4, cells := 0, slots := 0, locals := 82 } : Room) D cy [.ref (B 0), .int p0, .int p1] (MW cy B S T Y) (fun r w' => ∃ T' : Nat → Nat → Nat, w' = MW cy B S T' Y ∧ T' 0 2 = apC S O p0 p1 ∧ r = nI (bN (decide (apC S O p0 p1 = 0))) ∧ (apC S O p0 p1 = 0 → txtP T' (txL S O (aN p0)))) 0 0 := by
  refine CI.of (cc := cX2_asksPlace) (maxL := 3) (ret := (some .boolean)) (by decide) rfl (Nat.le_of_ble_eq_true rfl) ?_
  intro p e s m below meth c A ls E0 hl
  obtain ⟨hx, hb, hml, hown, hts, hr, hlocks, hA, hS, hP, hK, hD, hX⟩ := E0
  have hiX2 : ∀ w ∈ u_ws RX2 TX2 19, w ∈ wsX2_asksPlace := by decide +kernel
  have hl : lv_has ls 3 [(0, .ref (B 0)), (1, .int p0), (2, .int p1)] := hl
  refine lv_aload_n hx hb dX2_asksPlace_0 rfl (lv_at hl 0 rfl) ?_
  refine lv_iload_n hx hb dX2_asksPlace_1 rfl (lv_at hl 1 rfl) ?_
  refine K_i (va_runV (As := [.int p0]) (rest := []) ⟨hx, hb, hml, hown, hts⟩ (c_X2_asks l p0 _) (cwV 1 hts gX2_asksPlace_X2_asks rfl rfl rfl (by decide +kernel) ⟨Nat.le_of_ble_eq_true rfl, Nat.le_of_ble_eq_true rfl⟩) (pV hP hK hD hS hA hX (va_recv hK hP (ci := 2) (q0 := 0) rfl rfl)) rfl rfl hl.1 rfl (lv_room (Nat.le_of_ble_eq_true rfl)) dX2_asksPlace_2 ⟨Nat.le_of_ble_eq_true rfl, Nat.le_of_ble_eq_true rfl⟩) hD hS hA (fun r w'  H locs hp hP hD hS => ?_)
  obtain ⟨rfl, rfl⟩ := hp
  refine r_if_ne (tgt := 10) hx hb dX2_asksPlace_5 (by decide) (Nat.lt_trans (bN_lt _) (by decide)) (fun c1 => ?_) (fun c1 => ?_)
  · have hU := bN_1.mp c1
    obtain ⟨a, ha, rfl⟩ := isA_n hU
    refine lv_aload_n hx hb dX2_asksPlace_10 rfl (lv_at hl 0 rfl) ?_
    refine lv_iload_n hx hb dX2_asksPlace_11 rfl (lv_at hl 1 rfl) ?_
    refine K_v (va_runV (As := [.int (nI a)]) (rest := []) ⟨hx, hb, hml, hown, hts⟩ (c_X2_laysText l hI.R hI.g (a := a) ha (hI.lay ha) _) (cwV 1 hts gX2_asksPlace_X2_laysText rfl rfl rfl (by decide +kernel) ⟨Nat.le_of_ble_eq_true rfl, Nat.le_of_ble_eq_true rfl⟩) (pV hP hK hD hS hA hX (va_recv hK hP (ci := 2) (q0 := 0) rfl rfl)) rfl rfl hl.1 rfl (lv_room (Nat.le_of_ble_eq_true rfl)) dX2_asksPlace_12 ⟨Nat.le_of_ble_eq_true rfl, Nat.le_of_ble_eq_true rfl⟩) hD hS hA (fun w'  H locs hp hP hD hS => ?_)
    obtain ⟨T2, rfl, h2, ht⟩ := hp
    rw [lay_txt] at ht
    refine lv_aload_n hx hb dX2_asksPlace_15 rfl (lv_at hl 0 rfl) ?_
    refine lv_iload_n hx hb dX2_asksPlace_16 rfl (lv_at hl 2 rfl) ?_
    refine lv_iconst (v := nI 0) hx hb dX2_asksPlace_17 (by decide) ?_
    refine lv_aload_n hx hb dX2_asksPlace_18 rfl (lv_at hl 0 rfl) ?_
    refine va_get (D := D) (ci := 2) (v := .int (nI (T2 0 0))) (C := RX2) (T := TX2) (N := 19) hx hb hts hiX2 hown hK hP (0) rfl rfl 16 (by decide) (hts (.fieldLink RX2 76 "CoauthorTextModel" "length" "I") (by decide +kernel)) (fun _ h9 => h9) rfl dX2_asksPlace_19 ?_
    refine lv_iconst (v := nI 1) hx hb dX2_asksPlace_22 (by decide) ?_
    refine lv_isub hx hb dX2_asksPlace_23 ?_
    refine K_i (va_runS (As := [.int p1, .int (nI 0), .int (bI (T2 0 0))]) (rest := [.ref (B 0)]) ⟨hx, hb, hml, hown, hts⟩ (c_X2_isIn l p1 (nI 0) (bI (T2 0 0)) _) (va_cwS 3 hts gX2_asksPlace_X2_isIn rfl rfl rfl (by decide +kernel) ⟨Nat.le_of_ble_eq_true rfl, Nat.le_of_ble_eq_true rfl⟩) (pS hP hK hD hS hA hX) rfl rfl hl.1 rfl (lv_room (Nat.le_of_ble_eq_true rfl)) dX2_asksPlace_24 ⟨Nat.le_of_ble_eq_true rfl, Nat.le_of_ble_eq_true rfl⟩) hD hS hA (fun r w'  H locs hp hP hD hS => ?_)
    obtain ⟨rfl, hw9⟩ := hp
    rw [hw9] at hP hD
    refine r_if_eq (tgt := 34) hx hb dX2_asksPlace_27 (by decide) (Nat.lt_trans (bN_lt _) (by decide)) (fun c2 => ?_) (fun c2 => ?_)
    · have hV : inS p1 (txL S O a).length = false := by rw [← ht.1]; exact bN_0.mp c2
      refine lv_iconst (v := nI 2) hx hb dX2_asksPlace_34 (by decide) ?_
      refine K_i (va_runV (As := [.int (nI 2)]) (rest := []) ⟨hx, hb, hml, hown, hts⟩ (c_X2_goes l (k := 2) (by decide) _) (cwV 1 hts gX2_asksPlace_X2_goes rfl rfl rfl (by decide +kernel) ⟨Nat.le_of_ble_eq_true rfl, Nat.le_of_ble_eq_true rfl⟩) (pV hP hK hD hS hA hX (va_recv hK hP (ci := 2) (q0 := 0) rfl rfl)) rfl rfl hl.1 rfl (lv_room (Nat.le_of_ble_eq_true rfl)) dX2_asksPlace_35 ⟨Nat.le_of_ble_eq_true rfl, Nat.le_of_ble_eq_true rfl⟩) hD hS hA (fun r w'  H locs hp hP hD hS => ?_)
      obtain ⟨hr9, rfl⟩ := hp
      obtain rfl : r = nI 0 := hr9
      exact C_zret hx hb hr hlocks hS hP hK hD (Nat.le_of_ble_eq_true rfl) (Nat.le_of_ble_eq_true rfl) dX2_asksPlace_38 rfl ⟨_, rfl, by rw [show apC S O (nI a) p1 = 2 from by simp [apC, hU, hV, aN_n (show a < 2 ^ 31 by omega)]]; exact up2_s _ _ _ _, by rw [show apC S O (nI a) p1 = 2 from by simp [apC, hU, hV, aN_n (show a < 2 ^ 31 by omega)]]; rfl, fun h => by rw [show apC S O (nI a) p1 = 2 from by simp [apC, hU, hV, aN_n (show a < 2 ^ 31 by omega)]] at h; exact absurd h (by decide)⟩
    · have hV : inS p1 (txL S O a).length = true := by rw [← ht.1]; exact bN_1.mp c2
      refine lv_iconst (v := nI 0) hx hb dX2_asksPlace_30 (by decide) ?_
      refine lv_goto (tgt := 35) hx hb dX2_asksPlace_31 (by decide) ?_
      refine K_i (va_runV (As := [.int (nI 0)]) (rest := []) ⟨hx, hb, hml, hown, hts⟩ (c_X2_goes l (k := 0) (by decide) _) (cwV 1 hts gX2_asksPlace_X2_goes rfl rfl rfl (by decide +kernel) ⟨Nat.le_of_ble_eq_true rfl, Nat.le_of_ble_eq_true rfl⟩) (pV hP hK hD hS hA hX (va_recv hK hP (ci := 2) (q0 := 0) rfl rfl)) rfl rfl hl.1 rfl (lv_room (Nat.le_of_ble_eq_true rfl)) dX2_asksPlace_35 ⟨Nat.le_of_ble_eq_true rfl, Nat.le_of_ble_eq_true rfl⟩) hD hS hA (fun r w'  H locs hp hP hD hS => ?_)
      obtain ⟨hr9, rfl⟩ := hp
      obtain rfl : r = nI 1 := hr9
      exact C_zret hx hb hr hlocks hS hP hK hD (Nat.le_of_ble_eq_true rfl) (Nat.le_of_ble_eq_true rfl) dX2_asksPlace_38 rfl ⟨_, rfl, by rw [show apC S O (nI a) p1 = 0 from by simp [apC, hU, hV, aN_n (show a < 2 ^ 31 by omega)]]; exact up2_s _ _ _ _, by rw [show apC S O (nI a) p1 = 0 from by simp [apC, hU, hV, aN_n (show a < 2 ^ 31 by omega)]]; rfl, fun _ => by rw [aN_n (show a < 2 ^ 31 by omega)]; exact txtP_same ht rfl rfl⟩
  · have hU := bN_0.mp c1
    refine lv_iconst (v := nI 0) hx hb dX2_asksPlace_8 (by decide) ?_
    exact C_zret hx hb hr hlocks hS hP hK hD (Nat.le_of_ble_eq_true rfl) (Nat.le_of_ble_eq_true rfl) dX2_asksPlace_9 rfl ⟨_, rfl, by rw [show apC S O p0 p1 = 1 from by simp [apC, hU], hU]; rfl, by rw [show apC S O p0 p1 = 1 from by simp [apC, hU]]; rfl, fun h => by rw [show apC S O p0 p1 = 1 from by simp [apC, hU]] at h; exact absurd h (by decide)⟩

theorem apC_0 {S : Nat → Nat → Nat} {O : List Nat} {p0 p1 : Int32} (hl : ∀ a, (txL S O a).length ≤ 60) (h : apC S O p0 p1 = 0) : ∃ a k : Nat, a < 4 ∧ p0 = nI a ∧ k < (txL S O a).length ∧ p1 = nI k ∧ isA p0 = true ∧ inS p1 (txL S O (aN p0)).length = true := by
  unfold apC at h
  by_cases hU : isA p0 = false
  · rw [if_pos hU] at h; omega
  · rw [if_neg hU] at h
    by_cases hV : inS p1 (txL S O (aN p0)).length = false
    · rw [if_pos hV] at h; omega
    · have hU := (Bool.not_eq_false _).mp hU
      have hV := (Bool.not_eq_false _).mp hV
      obtain ⟨a, ha, rfl⟩ := isA_n hU
      have := hl (aN (nI a))
      obtain ⟨k, hk, rfl⟩ := inS_n (by omega) hV
      rw [aN_n (by omega)] at hk
      exact ⟨a, k, ha, rfl, hk, rfl, hU, hV⟩
theorem apC_n {S : Nat → Nat → Nat} {O : List Nat} {p0 p1 : Int32} (h : apC S O p0 p1 ≠ 0) : (isA p0 = false ∧ apC S O p0 p1 = 1) ∨ (isA p0 = true ∧ inS p1 (txL S O (aN p0)).length = false ∧ apC S O p0 p1 = 2) := by
  unfold apC at h ⊢
  by_cases hU : isA p0 = false
  · exact Or.inl ⟨hU, if_pos hU⟩
  · by_cases hV : inS p1 (txL S O (aN p0)).length = false
    · exact Or.inr ⟨(Bool.not_eq_false _).mp hU, hV, by rw [if_neg hU, if_pos hV]⟩
    · rw [if_neg hU, if_neg hV] at h
      exact absurd rfl h

set_option maxHeartbeats 4000000 in
set_option maxRecDepth 100000 in
theorem c_X2_signAt (l : Launch) {D : va_G} {cy : Nat → ClassId} {B : Nat → Nat} {S T : Nat → Nat → Nat} {Y : va_W} {O : List Nat} (hI : Inv S O) (p0 p1 : Int32) : CI l yX2_signAt wsX2_signAt ({ frames := 5, cells := 0, slots := 0, locals := 104 } : Room) D cy [.ref (B 0), .int p0, .int p1] (MW cy B S T Y) (fun r w' => ∃ T' : Nat → Nat → Nat, T' 0 2 = (spSignAt S O p0 p1).1 ∧ w' = MW cy B (spSignAt S O p0 p1).2.2 T' Y ∧ ((spSignAt S O p0 p1).1 = 0 → r = (spSignAt S O p0 p1).2.1)) 0 0 := by
  refine CI.of (cc := cX2_signAt) (maxL := 3) (ret := (some .int)) (by decide) rfl (Nat.le_of_ble_eq_true rfl) ?_
  intro p e s m below meth c A ls E0 hl
  obtain ⟨hx, hb, hml, hown, hts, hr, hlocks, hA, hS, hP, hK, hD, hX⟩ := E0
  have hiX2 : ∀ w ∈ u_ws RX2 TX2 19, w ∈ wsX2_signAt := by decide +kernel
  have hl : lv_has ls 3 [(0, .ref (B 0)), (1, .int p0), (2, .int p1)] := hl
  refine lv_aload_n hx hb dX2_signAt_0 rfl (lv_at hl 0 rfl) ?_
  refine lv_iload_n hx hb dX2_signAt_1 rfl (lv_at hl 1 rfl) ?_
  refine lv_iload_n hx hb dX2_signAt_2 rfl (lv_at hl 2 rfl) ?_
  refine K_i (va_runV (As := [.int p0, .int p1]) (rest := []) ⟨hx, hb, hml, hown, hts⟩ (c_X2_asksPlace l hI p0 p1 _) (cwV 2 hts gX2_signAt_X2_asksPlace rfl rfl rfl (by decide +kernel) ⟨Nat.le_of_ble_eq_true rfl, Nat.le_of_ble_eq_true rfl⟩) (pV hP hK hD hS hA hX (va_recv hK hP (ci := 2) (q0 := 0) rfl rfl)) rfl rfl hl.1 rfl (lv_room (Nat.le_of_ble_eq_true rfl)) dX2_signAt_3 ⟨Nat.le_of_ble_eq_true rfl, Nat.le_of_ble_eq_true rfl⟩) hD hS hA (fun r w'  H locs hp hP hD hS => ?_)
  obtain ⟨T2, rfl, h2, rfl, ht⟩ := hp
  refine r_if_eq (tgt := 18) hx hb dX2_signAt_6 (by decide) (Nat.lt_trans (bN_lt _) (by decide)) (fun c1 => ?_) (fun c1 => ?_)
  · have h0 : apC S O p0 p1 ≠ 0 := of_decide_eq_false (bN_0.mp c1)
    refine lv_iconst (v := nI 0) hx hb dX2_signAt_18 (by decide) ?_
    rcases apC_n h0 with ⟨hU, e⟩ | ⟨hU, hV, e⟩
    · exact C_iret hx hb hr hlocks hS hP hK hD (Nat.le_of_ble_eq_true rfl) (Nat.le_of_ble_eq_true rfl) dX2_signAt_19 (by rw [show spSignAt S O p0 p1 = (1, 0, S) from by simp [spSignAt, hU]]; exact ⟨T2, (by rw [h2, e]), rfl, fun h => absurd (show (1 : Nat) = 0 from h) (by decide)⟩)
    · exact C_iret hx hb hr hlocks hS hP hK hD (Nat.le_of_ble_eq_true rfl) (Nat.le_of_ble_eq_true rfl) dX2_signAt_19 (by rw [show spSignAt S O p0 p1 = (2, 0, S) from by simp [spSignAt, hU, hV]]; exact ⟨T2, (by rw [h2, e]), rfl, fun h => absurd (show (2 : Nat) = 0 from h) (by decide)⟩)
  · have h0 : apC S O p0 p1 = 0 := of_decide_eq_true (bN_1.mp c1)
    have ht3 := ht h0
    rw [h0] at h2
    obtain ⟨a, k, ha, rfl, hk, rfl, hU, hV⟩ := apC_0 hI.len h0
    have hl60 := hI.len a
    rw [aN_n (show a < 2 ^ 31 by omega)] at ht3 hV
    have hk1 := txt_at ht3 hk
    have hm := txL_mem hI (getD_mem hk)
    have hn60 := hI.R.1
    refine lv_aload_n hx hb dX2_signAt_9 rfl (lv_at hl 0 rfl) ?_
    refine va_get (D := D) (ci := 2) (v := .ref (B 12)) (C := RX2) (T := TX2) (N := 19) hx hb hts hiX2 hown hK hP (0) rfl rfl 14 (by decide) (hts (.fieldLink RX2 45 "CoauthorTextModel" "text" "[I") (by decide +kernel)) (fun _ h9 => h9) rfl dX2_signAt_10 ?_
    refine lv_iload_n hx hb dX2_signAt_13 rfl (lv_at hl 2 rfl) ?_
    refine r_iald hx hb hK hP (12) rfl (by omega) (by decide) dX2_signAt_14 ?_
    refine lv_goto (tgt := 19) hx hb dX2_signAt_15 (by decide) ?_
    exact C_iret hx hb hr hlocks hS hP hK hD (Nat.le_of_ble_eq_true rfl) (Nat.le_of_ble_eq_true rfl) dX2_signAt_19 (by rw [show spSignAt S O (nI a) (nI k) = (0, nI ((txL S O a).getD k 0), S) from by simp [spSignAt, hU, hV, aN_n (show a < 2 ^ 31 by omega), aN_n (show k < 2 ^ 31 by omega)]]; exact ⟨T2, h2, rfl, fun _ => by rw [hk1]⟩)

set_option maxHeartbeats 4000000 in
set_option maxRecDepth 100000 in
theorem c_X2_letterAt (l : Launch) {D : va_G} {cy : Nat → ClassId} {B : Nat → Nat} {S T : Nat → Nat → Nat} {Y : va_W} {O : List Nat} (hI : Inv S O) (p0 p1 : Int32) : CI l yX2_letterAt wsX2_letterAt ({ frames := 5, cells := 0, slots := 0, locals := 104 } : Room) D cy [.ref (B 0), .int p0, .int p1] (MW cy B S T Y) (fun r w' => ∃ T' : Nat → Nat → Nat, T' 0 2 = (spLetterAt S O p0 p1).1 ∧ w' = MW cy B (spLetterAt S O p0 p1).2.2 T' Y ∧ ((spLetterAt S O p0 p1).1 = 0 → r = (spLetterAt S O p0 p1).2.1)) 0 0 := by
  refine CI.of (cc := cX2_letterAt) (maxL := 3) (ret := (some .int)) (by decide) rfl (Nat.le_of_ble_eq_true rfl) ?_
  intro p e s m below meth c A ls E0 hl
  obtain ⟨hx, hb, hml, hown, hts, hr, hlocks, hA, hS, hP, hK, hD, hX⟩ := E0
  have hiX2 : ∀ w ∈ u_ws RX2 TX2 19, w ∈ wsX2_letterAt := by decide +kernel
  have hl : lv_has ls 3 [(0, .ref (B 0)), (1, .int p0), (2, .int p1)] := hl
  refine lv_aload_n hx hb dX2_letterAt_0 rfl (lv_at hl 0 rfl) ?_
  refine lv_iload_n hx hb dX2_letterAt_1 rfl (lv_at hl 1 rfl) ?_
  refine lv_iload_n hx hb dX2_letterAt_2 rfl (lv_at hl 2 rfl) ?_
  refine K_i (va_runV (As := [.int p0, .int p1]) (rest := []) ⟨hx, hb, hml, hown, hts⟩ (c_X2_asksPlace l hI p0 p1 _) (cwV 2 hts gX2_letterAt_X2_asksPlace rfl rfl rfl (by decide +kernel) ⟨Nat.le_of_ble_eq_true rfl, Nat.le_of_ble_eq_true rfl⟩) (pV hP hK hD hS hA hX (va_recv hK hP (ci := 2) (q0 := 0) rfl rfl)) rfl rfl hl.1 rfl (lv_room (Nat.le_of_ble_eq_true rfl)) dX2_letterAt_3 ⟨Nat.le_of_ble_eq_true rfl, Nat.le_of_ble_eq_true rfl⟩) hD hS hA (fun r w'  H locs hp hP hD hS => ?_)
  obtain ⟨T2, rfl, h2, rfl, ht⟩ := hp
  refine r_if_eq (tgt := 23) hx hb dX2_letterAt_6 (by decide) (Nat.lt_trans (bN_lt _) (by decide)) (fun c1 => ?_) (fun c1 => ?_)
  · have h0 : apC S O p0 p1 ≠ 0 := of_decide_eq_false (bN_0.mp c1)
    refine lv_iconst (v := nI 0) hx hb dX2_letterAt_23 (by decide) ?_
    rcases apC_n h0 with ⟨hU, e⟩ | ⟨hU, hV, e⟩
    · exact C_iret hx hb hr hlocks hS hP hK hD (Nat.le_of_ble_eq_true rfl) (Nat.le_of_ble_eq_true rfl) dX2_letterAt_24 (by rw [show spLetterAt S O p0 p1 = (1, 0, S) from by simp [spLetterAt, hU]]; exact ⟨T2, (by rw [h2, e]), rfl, fun h => absurd (show (1 : Nat) = 0 from h) (by decide)⟩)
    · exact C_iret hx hb hr hlocks hS hP hK hD (Nat.le_of_ble_eq_true rfl) (Nat.le_of_ble_eq_true rfl) dX2_letterAt_24 (by rw [show spLetterAt S O p0 p1 = (2, 0, S) from by simp [spLetterAt, hU, hV]]; exact ⟨T2, (by rw [h2, e]), rfl, fun h => absurd (show (2 : Nat) = 0 from h) (by decide)⟩)
  · have h0 : apC S O p0 p1 = 0 := of_decide_eq_true (bN_1.mp c1)
    have ht3 := ht h0
    rw [h0] at h2
    obtain ⟨a, k, ha, rfl, hk, rfl, hU, hV⟩ := apC_0 hI.len h0
    have hl60 := hI.len a
    rw [aN_n (show a < 2 ^ 31 by omega)] at ht3 hV
    have hk1 := txt_at ht3 hk
    have hm := txL_mem hI (getD_mem hk)
    have hn60 := hI.R.1
    refine lv_aload_n hx hb dX2_letterAt_9 rfl (lv_at hl 0 rfl) ?_
    refine va_get (D := D) (ci := 2) (v := .ref (B 2)) (C := RX2) (T := TX2) (N := 19) hx hb hts hiX2 hown hK hP (0) rfl rfl 2 (by decide) (hts (.fieldLink RX2 13 "CoauthorTextModel" "letters" "[I") (by decide +kernel)) (fun _ h9 => h9) rfl dX2_letterAt_10 ?_
    refine lv_aload_n hx hb dX2_letterAt_13 rfl (lv_at hl 0 rfl) ?_
    refine va_get (D := D) (ci := 2) (v := .ref (B 12)) (C := RX2) (T := TX2) (N := 19) hx hb hts hiX2 hown hK hP (0) rfl rfl 14 (by decide) (hts (.fieldLink RX2 45 "CoauthorTextModel" "text" "[I") (by decide +kernel)) (fun _ h9 => h9) rfl dX2_letterAt_14 ?_
    refine lv_iload_n hx hb dX2_letterAt_17 rfl (lv_at hl 2 rfl) ?_
    refine r_iald hx hb hK hP (12) rfl (by omega) (by decide) dX2_letterAt_18 ?_
    refine r_iald hx hb hK hP (2) rfl (by rw [hk1]; omega) (by decide) dX2_letterAt_19 ?_
    refine lv_goto (tgt := 24) hx hb dX2_letterAt_20 (by decide) ?_
    exact C_iret hx hb hr hlocks hS hP hK hD (Nat.le_of_ble_eq_true rfl) (Nat.le_of_ble_eq_true rfl) dX2_letterAt_24 (by rw [show spLetterAt S O (nI a) (nI k) = (0, nI (S 2 ((txL S O a).getD k 0)), S) from by simp [spLetterAt, hU, hV, aN_n (show a < 2 ^ 31 by omega), aN_n (show k < 2 ^ 31 by omega)]]; exact ⟨T2, h2, rfl, fun _ => by rw [hk1]⟩)

set_option maxHeartbeats 4000000 in
set_option maxRecDepth 100000 in
theorem c_X2_authorOf (l : Launch) {D : va_G} {cy : Nat → ClassId} {B : Nat → Nat} {S T : Nat → Nat → Nat} {Y : va_W} {O : List Nat} (hI : Inv S O) (p0 : Int32) : CI l yX2_authorOf wsX2_authorOf ({ frames := 3, cells := 0, slots := 0, locals := 55 } : Room) D cy [.ref (B 0), .int p0] (MW cy B S T Y) (fun r w' => ∃ T' : Nat → Nat → Nat, T' 0 2 = (spAuthorOf S p0).1 ∧ w' = MW cy B (spAuthorOf S p0).2.2 T' Y ∧ ((spAuthorOf S p0).1 = 0 → r = (spAuthorOf S p0).2.1)) 0 0 := by
  refine CI.of (cc := cX2_authorOf) (maxL := 2) (ret := (some .int)) (by decide) rfl (Nat.le_of_ble_eq_true rfl) ?_
  intro p e s m below meth c A ls E0 hl
  obtain ⟨hx, hb, hml, hown, hts, hr, hlocks, hA, hS, hP, hK, hD, hX⟩ := E0
  have hiX2 : ∀ w ∈ u_ws RX2 TX2 19, w ∈ wsX2_authorOf := by decide +kernel
  have hl : lv_has ls 2 [(0, .ref (B 0)), (1, .int p0)] := hl
  refine lv_aload_n hx hb dX2_authorOf_0 rfl (lv_at hl 0 rfl) ?_
  refine lv_aload_n hx hb dX2_authorOf_1 rfl (lv_at hl 0 rfl) ?_
  refine lv_iload_n hx hb dX2_authorOf_2 rfl (lv_at hl 1 rfl) ?_
  refine K_i (va_runV (As := [.int p0]) (rest := [.ref (B 0)]) ⟨hx, hb, hml, hown, hts⟩ (c_X2_isSign l p0 _) (cwV 1 hts gX2_authorOf_X2_isSign rfl rfl rfl (by decide +kernel) ⟨Nat.le_of_ble_eq_true rfl, Nat.le_of_ble_eq_true rfl⟩) (pV hP hK hD hS hA hX (va_recv hK hP (ci := 2) (q0 := 0) rfl rfl)) rfl rfl hl.1 rfl (lv_room (Nat.le_of_ble_eq_true rfl)) dX2_authorOf_3 ⟨Nat.le_of_ble_eq_true rfl, Nat.le_of_ble_eq_true rfl⟩) hD hS hA (fun r w'  H locs hp hP hD hS => ?_)
  obtain ⟨rfl, rfl⟩ := hp
  refine r_if_eq (tgt := 13) hx hb dX2_authorOf_6 (by decide) (Nat.lt_trans (bN_lt _) (by decide)) (fun c1 => ?_) (fun c1 => ?_)
  · have hV := bN_0.mp c1
    refine lv_iconst (v := nI 1) hx hb dX2_authorOf_13 (by decide) ?_
    refine K_i (va_runV (As := [.int (nI 1)]) (rest := []) ⟨hx, hb, hml, hown, hts⟩ (c_X2_goes l (k := 1) (by decide) _) (cwV 1 hts gX2_authorOf_X2_goes rfl rfl rfl (by decide +kernel) ⟨Nat.le_of_ble_eq_true rfl, Nat.le_of_ble_eq_true rfl⟩) (pV hP hK hD hS hA hX (va_recv hK hP (ci := 2) (q0 := 0) rfl rfl)) rfl rfl hl.1 rfl (lv_room (Nat.le_of_ble_eq_true rfl)) dX2_authorOf_14 ⟨Nat.le_of_ble_eq_true rfl, Nat.le_of_ble_eq_true rfl⟩) hD hS hA (fun r w'  H locs hp hP hD hS => ?_)
    obtain ⟨hr9, rfl⟩ := hp
    obtain rfl : r = nI 0 := hr9
    refine r_if_eq (tgt := 29) hx hb dX2_authorOf_17 (by decide) (by decide) (fun c2 => ?_) (fun c2 => ?_)
    · refine lv_iconst (v := nI 0) hx hb dX2_authorOf_29 (by decide) ?_
      exact C_iret hx hb hr hlocks hS hP hK hD (Nat.le_of_ble_eq_true rfl) (Nat.le_of_ble_eq_true rfl) dX2_authorOf_30 (by rw [show spAuthorOf S p0 = (1, 0, S) from by simp [spAuthorOf, hV]]; exact ⟨_, up2_s _ _ _ _, rfl, fun h => absurd (show (1 : Nat) = 0 from h) (by decide)⟩)
    · omega
  · have hV := bN_1.mp c1
    refine lv_iconst (v := nI 0) hx hb dX2_authorOf_9 (by decide) ?_
    refine lv_goto (tgt := 14) hx hb dX2_authorOf_10 (by decide) ?_
    refine K_i (va_runV (As := [.int (nI 0)]) (rest := []) ⟨hx, hb, hml, hown, hts⟩ (c_X2_goes l (k := 0) (by decide) _) (cwV 1 hts gX2_authorOf_X2_goes rfl rfl rfl (by decide +kernel) ⟨Nat.le_of_ble_eq_true rfl, Nat.le_of_ble_eq_true rfl⟩) (pV hP hK hD hS hA hX (va_recv hK hP (ci := 2) (q0 := 0) rfl rfl)) rfl rfl hl.1 rfl (lv_room (Nat.le_of_ble_eq_true rfl)) dX2_authorOf_14 ⟨Nat.le_of_ble_eq_true rfl, Nat.le_of_ble_eq_true rfl⟩) hD hS hA (fun r w'  H locs hp hP hD hS => ?_)
    obtain ⟨hr9, rfl⟩ := hp
    obtain rfl : r = nI 1 := hr9
    refine r_if_eq (tgt := 29) hx hb dX2_authorOf_17 (by decide) (by decide) (fun c3 => ?_) (fun c3 => ?_)
    · omega
    · have hn60 := hI.R.1
      obtain ⟨i, hi, rfl⟩ := inS_n (by omega) hV
      refine lv_aload_n hx hb dX2_authorOf_20 rfl (lv_at hl 0 rfl) ?_
      refine va_get (D := D) (ci := 2) (v := .ref (B 1)) (C := RX2) (T := TX2) (N := 19) hx hb hts hiX2 hown hK hP (0) rfl rfl 1 (by decide) (hts (.fieldLink RX2 7 "CoauthorTextModel" "authors" "[I") (by decide +kernel)) (fun _ h9 => h9) rfl dX2_authorOf_21 ?_
      refine lv_iload_n hx hb dX2_authorOf_24 rfl (lv_at hl 1 rfl) ?_
      refine r_iald hx hb hK hP (1) rfl (by omega) (by decide) dX2_authorOf_25 ?_
      refine lv_goto (tgt := 30) hx hb dX2_authorOf_26 (by decide) ?_
      exact C_iret hx hb hr hlocks hS hP hK hD (Nat.le_of_ble_eq_true rfl) (Nat.le_of_ble_eq_true rfl) dX2_authorOf_30 (by rw [show spAuthorOf S (nI i) = (0, nI (S 1 i), S) from by simp [spAuthorOf, hV, aN_n (show i < 2 ^ 31 by omega)]]; exact ⟨_, up2_s _ _ _ _, rfl, fun h => rfl⟩)

set_option maxHeartbeats 4000000 in
set_option maxRecDepth 100000 in
theorem c_X2_behind (l : Launch) {D : va_G} {cy : Nat → ClassId} {B : Nat → Nat} {S T : Nat → Nat → Nat} {Y : va_W} {O : List Nat} (hI : Inv S O) (p0 : Int32) : CI l yX2_behind wsX2_behind ({ frames := 3, cells := 0, slots := 0, locals := 55 } : Room) D cy [.ref (B 0), .int p0] (MW cy B S T Y) (fun r w' => ∃ T' : Nat → Nat → Nat, T' 0 2 = (spBehind S p0).1 ∧ w' = MW cy B (spBehind S p0).2.2 T' Y ∧ ((spBehind S p0).1 = 0 → r = (spBehind S p0).2.1)) 0 0 := by
  refine CI.of (cc := cX2_behind) (maxL := 2) (ret := (some .int)) (by decide) rfl (Nat.le_of_ble_eq_true rfl) ?_
  intro p e s m below meth c A ls E0 hl
  obtain ⟨hx, hb, hml, hown, hts, hr, hlocks, hA, hS, hP, hK, hD, hX⟩ := E0
  have hiX2 : ∀ w ∈ u_ws RX2 TX2 19, w ∈ wsX2_behind := by decide +kernel
  have hl : lv_has ls 2 [(0, .ref (B 0)), (1, .int p0)] := hl
  refine lv_aload_n hx hb dX2_behind_0 rfl (lv_at hl 0 rfl) ?_
  refine lv_aload_n hx hb dX2_behind_1 rfl (lv_at hl 0 rfl) ?_
  refine lv_iload_n hx hb dX2_behind_2 rfl (lv_at hl 1 rfl) ?_
  refine K_i (va_runV (As := [.int p0]) (rest := [.ref (B 0)]) ⟨hx, hb, hml, hown, hts⟩ (c_X2_isSign l p0 _) (cwV 1 hts gX2_behind_X2_isSign rfl rfl rfl (by decide +kernel) ⟨Nat.le_of_ble_eq_true rfl, Nat.le_of_ble_eq_true rfl⟩) (pV hP hK hD hS hA hX (va_recv hK hP (ci := 2) (q0 := 0) rfl rfl)) rfl rfl hl.1 rfl (lv_room (Nat.le_of_ble_eq_true rfl)) dX2_behind_3 ⟨Nat.le_of_ble_eq_true rfl, Nat.le_of_ble_eq_true rfl⟩) hD hS hA (fun r w'  H locs hp hP hD hS => ?_)
  obtain ⟨rfl, rfl⟩ := hp
  refine r_if_eq (tgt := 13) hx hb dX2_behind_6 (by decide) (Nat.lt_trans (bN_lt _) (by decide)) (fun c1 => ?_) (fun c1 => ?_)
  · have hV := bN_0.mp c1
    refine lv_iconst (v := nI 1) hx hb dX2_behind_13 (by decide) ?_
    refine K_i (va_runV (As := [.int (nI 1)]) (rest := []) ⟨hx, hb, hml, hown, hts⟩ (c_X2_goes l (k := 1) (by decide) _) (cwV 1 hts gX2_behind_X2_goes rfl rfl rfl (by decide +kernel) ⟨Nat.le_of_ble_eq_true rfl, Nat.le_of_ble_eq_true rfl⟩) (pV hP hK hD hS hA hX (va_recv hK hP (ci := 2) (q0 := 0) rfl rfl)) rfl rfl hl.1 rfl (lv_room (Nat.le_of_ble_eq_true rfl)) dX2_behind_14 ⟨Nat.le_of_ble_eq_true rfl, Nat.le_of_ble_eq_true rfl⟩) hD hS hA (fun r w'  H locs hp hP hD hS => ?_)
    obtain ⟨hr9, rfl⟩ := hp
    obtain rfl : r = nI 0 := hr9
    refine r_if_eq (tgt := 29) hx hb dX2_behind_17 (by decide) (by decide) (fun c2 => ?_) (fun c2 => ?_)
    · refine lv_iconst (v := nI 0) hx hb dX2_behind_29 (by decide) ?_
      exact C_iret hx hb hr hlocks hS hP hK hD (Nat.le_of_ble_eq_true rfl) (Nat.le_of_ble_eq_true rfl) dX2_behind_30 (by rw [show spBehind S p0 = (1, 0, S) from by simp [spBehind, hV]]; exact ⟨_, up2_s _ _ _ _, rfl, fun h => absurd (show (1 : Nat) = 0 from h) (by decide)⟩)
    · omega
  · have hV := bN_1.mp c1
    refine lv_iconst (v := nI 0) hx hb dX2_behind_9 (by decide) ?_
    refine lv_goto (tgt := 14) hx hb dX2_behind_10 (by decide) ?_
    refine K_i (va_runV (As := [.int (nI 0)]) (rest := []) ⟨hx, hb, hml, hown, hts⟩ (c_X2_goes l (k := 0) (by decide) _) (cwV 1 hts gX2_behind_X2_goes rfl rfl rfl (by decide +kernel) ⟨Nat.le_of_ble_eq_true rfl, Nat.le_of_ble_eq_true rfl⟩) (pV hP hK hD hS hA hX (va_recv hK hP (ci := 2) (q0 := 0) rfl rfl)) rfl rfl hl.1 rfl (lv_room (Nat.le_of_ble_eq_true rfl)) dX2_behind_14 ⟨Nat.le_of_ble_eq_true rfl, Nat.le_of_ble_eq_true rfl⟩) hD hS hA (fun r w'  H locs hp hP hD hS => ?_)
    obtain ⟨hr9, rfl⟩ := hp
    obtain rfl : r = nI 1 := hr9
    refine r_if_eq (tgt := 29) hx hb dX2_behind_17 (by decide) (by decide) (fun c3 => ?_) (fun c3 => ?_)
    · omega
    · have hn60 := hI.R.1
      obtain ⟨i, hi, rfl⟩ := inS_n (by omega) hV
      refine lv_aload_n hx hb dX2_behind_20 rfl (lv_at hl 0 rfl) ?_
      refine va_get (D := D) (ci := 2) (v := .ref (B 4)) (C := RX2) (T := TX2) (N := 19) hx hb hts hiX2 hown hK hP (0) rfl rfl 4 (by decide) (hts (.fieldLink RX2 19 "CoauthorTextModel" "behinds" "[I") (by decide +kernel)) (fun _ h9 => h9) rfl dX2_behind_21 ?_
      refine lv_iload_n hx hb dX2_behind_24 rfl (lv_at hl 1 rfl) ?_
      refine r_iald hx hb hK hP (4) rfl (by omega) (by decide) dX2_behind_25 ?_
      refine lv_goto (tgt := 30) hx hb dX2_behind_26 (by decide) ?_
      exact C_iret hx hb hr hlocks hS hP hK hD (Nat.le_of_ble_eq_true rfl) (Nat.le_of_ble_eq_true rfl) dX2_behind_30 (by rw [show spBehind S (nI i) = (0, bI (S 4 i), S) from by simp [spBehind, hV, aN_n (show i < 2 ^ 31 by omega)]]; exact ⟨_, up2_s _ _ _ _, rfl, fun h => rfl⟩)

set_option maxHeartbeats 4000000 in
set_option maxRecDepth 100000 in
theorem c_X2_clock (l : Launch) {D : va_G} {cy : Nat → ClassId} {B : Nat → Nat} {S T : Nat → Nat → Nat} {Y : va_W} (p0 : Int32) : CI l yX2_clock wsX2_clock ({ frames := 4, cells := 0, slots := 0, locals := 75 } : Room) D cy [.ref (B 0), .int p0] (MW cy B S T Y) (fun r w' => ∃ T' : Nat → Nat → Nat, T' 0 2 = (spClock S p0).1 ∧ w' = MW cy B (spClock S p0).2.2 T' Y ∧ ((spClock S p0).1 = 0 → r = (spClock S p0).2.1)) 0 0 := by
  refine CI.of (cc := cX2_clock) (maxL := 2) (ret := (some .int)) (by decide) rfl (Nat.le_of_ble_eq_true rfl) ?_
  intro p e s m below meth c A ls E0 hl
  obtain ⟨hx, hb, hml, hown, hts, hr, hlocks, hA, hS, hP, hK, hD, hX⟩ := E0
  have hiX2 : ∀ w ∈ u_ws RX2 TX2 19, w ∈ wsX2_clock := by decide +kernel
  have hl : lv_has ls 2 [(0, .ref (B 0)), (1, .int p0)] := hl
  refine lv_aload_n hx hb dX2_clock_0 rfl (lv_at hl 0 rfl) ?_
  refine lv_iload_n hx hb dX2_clock_1 rfl (lv_at hl 1 rfl) ?_
  refine K_i (va_runV (As := [.int p0]) (rest := []) ⟨hx, hb, hml, hown, hts⟩ (c_X2_asks l p0 _) (cwV 1 hts gX2_clock_X2_asks rfl rfl rfl (by decide +kernel) ⟨Nat.le_of_ble_eq_true rfl, Nat.le_of_ble_eq_true rfl⟩) (pV hP hK hD hS hA hX (va_recv hK hP (ci := 2) (q0 := 0) rfl rfl)) rfl rfl hl.1 rfl (lv_room (Nat.le_of_ble_eq_true rfl)) dX2_clock_2 ⟨Nat.le_of_ble_eq_true rfl, Nat.le_of_ble_eq_true rfl⟩) hD hS hA (fun r w'  H locs hp hP hD hS => ?_)
  obtain ⟨rfl, rfl⟩ := hp
  refine r_if_eq (tgt := 17) hx hb dX2_clock_5 (by decide) (Nat.lt_trans (bN_lt _) (by decide)) (fun c1 => ?_) (fun c1 => ?_)
  · have hU := bN_0.mp c1
    refine lv_iconst (v := nI 0) hx hb dX2_clock_17 (by decide) ?_
    exact C_iret hx hb hr hlocks hS hP hK hD (Nat.le_of_ble_eq_true rfl) (Nat.le_of_ble_eq_true rfl) dX2_clock_18 (by rw [show spClock S p0 = (1, 0, S) from by simp [spClock, hU]]; exact ⟨_, (by rw [hU]; rfl), rfl, fun h => absurd (show (1 : Nat) = 0 from h) (by decide)⟩)
  · have hU := bN_1.mp c1
    obtain ⟨a, ha, rfl⟩ := isA_n hU
    refine lv_aload_n hx hb dX2_clock_8 rfl (lv_at hl 0 rfl) ?_
    refine va_get (D := D) (ci := 2) (v := .ref (B 8)) (C := RX2) (T := TX2) (N := 19) hx hb hts hiX2 hown hK hP (0) rfl rfl 8 (by decide) (hts (.fieldLink RX2 32 "CoauthorTextModel" "clocks" "[I") (by decide +kernel)) (fun _ h9 => h9) rfl dX2_clock_9 ?_
    refine lv_iload_n hx hb dX2_clock_12 rfl (lv_at hl 1 rfl) ?_
    refine r_iald hx hb hK hP (8) rfl (by omega) (by decide) dX2_clock_13 ?_
    refine lv_goto (tgt := 18) hx hb dX2_clock_14 (by decide) ?_
    exact C_iret hx hb hr hlocks hS hP hK hD (Nat.le_of_ble_eq_true rfl) (Nat.le_of_ble_eq_true rfl) dX2_clock_18 (by rw [show spClock S (nI a) = (0, nI (S 8 a), S) from by simp [spClock, hU, aN_n (show a < 2 ^ 31 by omega)]]; exact ⟨_, (by rw [hU]; rfl), rfl, fun h => rfl⟩)

set_option maxHeartbeats 4000000 in
set_option maxRecDepth 100000 in
theorem c_X2_left (l : Launch) {D : va_G} {cy : Nat → ClassId} {B : Nat → Nat} {S T : Nat → Nat → Nat} {Y : va_W} (p0 : Int32) : CI l yX2_left wsX2_left ({ frames := 4, cells := 0, slots := 0, locals := 75 } : Room) D cy [.ref (B 0), .int p0] (MW cy B S T Y) (fun r w' => ∃ T' : Nat → Nat → Nat, T' 0 2 = (spLeft S p0).1 ∧ w' = MW cy B (spLeft S p0).2.2 T' Y ∧ ((spLeft S p0).1 = 0 → r = (spLeft S p0).2.1)) 0 0 := by
  refine CI.of (cc := cX2_left) (maxL := 2) (ret := (some .int)) (by decide) rfl (Nat.le_of_ble_eq_true rfl) ?_
  intro p e s m below meth c A ls E0 hl
  obtain ⟨hx, hb, hml, hown, hts, hr, hlocks, hA, hS, hP, hK, hD, hX⟩ := E0
  have hiX2 : ∀ w ∈ u_ws RX2 TX2 19, w ∈ wsX2_left := by decide +kernel
  have hl : lv_has ls 2 [(0, .ref (B 0)), (1, .int p0)] := hl
  refine lv_aload_n hx hb dX2_left_0 rfl (lv_at hl 0 rfl) ?_
  refine lv_iload_n hx hb dX2_left_1 rfl (lv_at hl 1 rfl) ?_
  refine K_i (va_runV (As := [.int p0]) (rest := []) ⟨hx, hb, hml, hown, hts⟩ (c_X2_asks l p0 _) (cwV 1 hts gX2_left_X2_asks rfl rfl rfl (by decide +kernel) ⟨Nat.le_of_ble_eq_true rfl, Nat.le_of_ble_eq_true rfl⟩) (pV hP hK hD hS hA hX (va_recv hK hP (ci := 2) (q0 := 0) rfl rfl)) rfl rfl hl.1 rfl (lv_room (Nat.le_of_ble_eq_true rfl)) dX2_left_2 ⟨Nat.le_of_ble_eq_true rfl, Nat.le_of_ble_eq_true rfl⟩) hD hS hA (fun r w'  H locs hp hP hD hS => ?_)
  obtain ⟨rfl, rfl⟩ := hp
  refine r_if_eq (tgt := 17) hx hb dX2_left_5 (by decide) (Nat.lt_trans (bN_lt _) (by decide)) (fun c1 => ?_) (fun c1 => ?_)
  · have hU := bN_0.mp c1
    refine lv_iconst (v := nI 0) hx hb dX2_left_17 (by decide) ?_
    exact C_iret hx hb hr hlocks hS hP hK hD (Nat.le_of_ble_eq_true rfl) (Nat.le_of_ble_eq_true rfl) dX2_left_18 (by rw [show spLeft S p0 = (1, 0, S) from by simp [spLeft, hU]]; exact ⟨_, (by rw [hU]; rfl), rfl, fun h => absurd (show (1 : Nat) = 0 from h) (by decide)⟩)
  · have hU := bN_1.mp c1
    obtain ⟨a, ha, rfl⟩ := isA_n hU
    refine lv_aload_n hx hb dX2_left_8 rfl (lv_at hl 0 rfl) ?_
    refine va_get (D := D) (ci := 2) (v := .ref (B 10)) (C := RX2) (T := TX2) (N := 19) hx hb hts hiX2 hown hK hP (0) rfl rfl 12 (by decide) (hts (.fieldLink RX2 38 "CoauthorTextModel" "advances" "[I") (by decide +kernel)) (fun _ h9 => h9) rfl dX2_left_9 ?_
    refine lv_iload_n hx hb dX2_left_12 rfl (lv_at hl 1 rfl) ?_
    refine r_iald hx hb hK hP (10) rfl (by omega) (by decide) dX2_left_13 ?_
    refine lv_goto (tgt := 18) hx hb dX2_left_14 (by decide) ?_
    exact C_iret hx hb hr hlocks hS hP hK hD (Nat.le_of_ble_eq_true rfl) (Nat.le_of_ble_eq_true rfl) dX2_left_18 (by rw [show spLeft S (nI a) = (0, nI (S 10 a), S) from by simp [spLeft, hU, aN_n (show a < 2 ^ 31 by omega)]]; exact ⟨_, (by rw [hU]; rfl), rfl, fun h => rfl⟩)

set_option maxHeartbeats 4000000 in
set_option maxRecDepth 100000 in
theorem c_X2_paid (l : Launch) {D : va_G} {cy : Nat → ClassId} {B : Nat → Nat} {S T : Nat → Nat → Nat} {Y : va_W} (p0 : Int32) : CL l yX2_paid wsX2_paid ({ frames := 4, cells := 0, slots := 0, locals := 75 } : Room) D cy [.ref (B 0), .int p0] (MW cy B S T Y) (fun r w' => ∃ T' : Nat → Nat → Nat, T' 0 2 = cPaid p0 ∧ w' = MW cy B S T' Y ∧ (cPaid p0 = 0 → r = lN (S 11 (aN p0)))) 0 0 := by
  refine CL.of (cc := cX2_paid) (maxL := 2) (ret := (some .long)) (by decide) rfl (Nat.le_of_ble_eq_true rfl) ?_
  intro p e s m below meth c A ls E0 hl
  obtain ⟨hx, hb, hml, hown, hts, hr, hlocks, hA, hS, hP, hK, hD, hX⟩ := E0
  have hiX2 : ∀ w ∈ u_ws RX2 TX2 19, w ∈ wsX2_paid := by decide +kernel
  have hl : lv_has ls 2 [(0, .ref (B 0)), (1, .int p0)] := hl
  refine lv_aload_n hx hb dX2_paid_0 rfl (lv_at hl 0 rfl) ?_
  refine lv_iload_n hx hb dX2_paid_1 rfl (lv_at hl 1 rfl) ?_
  refine K_i (va_runV (As := [.int p0]) (rest := []) ⟨hx, hb, hml, hown, hts⟩ (c_X2_asks l p0 _) (cwV 1 hts gX2_paid_X2_asks rfl rfl rfl (by decide +kernel) ⟨Nat.le_of_ble_eq_true rfl, Nat.le_of_ble_eq_true rfl⟩) (pV hP hK hD hS hA hX (va_recv hK hP (ci := 2) (q0 := 0) rfl rfl)) rfl rfl hl.1 rfl (lv_room (Nat.le_of_ble_eq_true rfl)) dX2_paid_2 ⟨Nat.le_of_ble_eq_true rfl, Nat.le_of_ble_eq_true rfl⟩) hD hS hA (fun r w'  H locs hp hP hD hS => ?_)
  obtain ⟨rfl, rfl⟩ := hp
  refine r_if_eq (tgt := 17) hx hb dX2_paid_5 (by decide) (Nat.lt_trans (bN_lt _) (by decide)) (fun c1 => ?_) (fun c1 => ?_)
  · have hU := bN_0.mp c1
    refine lv_lconst (v := lN 0) hx hb dX2_paid_17 (by decide) ?_
    exact C_lret hx hb hr hlocks hS hP hK hD (Nat.le_of_ble_eq_true rfl) (Nat.le_of_ble_eq_true rfl) dX2_paid_18 ⟨_, by rw [show cPaid p0 = 1 from by simp [cPaid, hU], hU]; rfl, rfl, fun h => by rw [show cPaid p0 = 1 from by simp [cPaid, hU]] at h; exact absurd h (by decide)⟩
  · have hU := bN_1.mp c1
    obtain ⟨a, ha, rfl⟩ := isA_n hU
    refine lv_aload_n hx hb dX2_paid_8 rfl (lv_at hl 0 rfl) ?_
    refine va_get (D := D) (ci := 2) (v := .ref (B 11)) (C := RX2) (T := TX2) (N := 19) hx hb hts hiX2 hown hK hP (0) rfl rfl 13 (by decide) (hts (.fieldLink RX2 41 "CoauthorTextModel" "paid" "[J") (by decide +kernel)) (fun _ h9 => h9) rfl dX2_paid_9 ?_
    refine lv_iload_n hx hb dX2_paid_12 rfl (lv_at hl 1 rfl) ?_
    refine r_lald hx hb hK hP (11) rfl (by omega) (by decide) dX2_paid_13 ?_
    refine lv_goto (tgt := 18) hx hb dX2_paid_14 (by decide) ?_
    exact C_lret hx hb hr hlocks hS hP hK hD (Nat.le_of_ble_eq_true rfl) (Nat.le_of_ble_eq_true rfl) dX2_paid_18 ⟨_, by rw [show cPaid (nI a) = 0 from by simp [cPaid, hU], hU]; rfl, rfl, fun h => by rw [aN_n (show a < 2 ^ 31 by omega)]⟩

set_option maxHeartbeats 4000000 in
set_option maxRecDepth 100000 in
theorem c_X2_printed (l : Launch) {D : va_G} {cy : Nat → ClassId} {B : Nat → Nat} {S T : Nat → Nat → Nat} {Y : va_W} {O : List Nat} (hI : Inv S O) (p0 p1 : Int32) : CI l yX2_printed wsX2_printed ({ frames := 3, cells := 0, slots := 0, locals := 55 } : Room) D cy [.ref (B 0), .int p0, .int p1] (MW cy B S T Y) (fun r w' => ∃ T' : Nat → Nat → Nat, T' 0 2 = (spPrinted S p0 p1).1 ∧ w' = MW cy B (spPrinted S p0 p1).2.2 T' Y ∧ ((spPrinted S p0 p1).1 = 0 → r = (spPrinted S p0 p1).2.1)) 0 0 := by
  refine CI.of (cc := cX2_printed) (maxL := 3) (ret := (some .int)) (by decide) rfl (Nat.le_of_ble_eq_true rfl) ?_
  intro p e s m below meth c A ls E0 hl
  obtain ⟨hx, hb, hml, hown, hts, hr, hlocks, hA, hS, hP, hK, hD, hX⟩ := E0
  have hiX2 : ∀ w ∈ u_ws RX2 TX2 19, w ∈ wsX2_printed := by decide +kernel
  have hl : lv_has ls 3 [(0, .ref (B 0)), (1, .int p0), (2, .int p1)] := hl
  refine lv_aload_n hx hb dX2_printed_0 rfl (lv_at hl 0 rfl) ?_
  refine lv_aload_n hx hb dX2_printed_1 rfl (lv_at hl 0 rfl) ?_
  refine lv_iload_n hx hb dX2_printed_2 rfl (lv_at hl 1 rfl) ?_
  refine K_i (va_runV (As := [.int p0]) (rest := [.ref (B 0)]) ⟨hx, hb, hml, hown, hts⟩ (c_X2_isEdition l p0 _) (cwV 1 hts gX2_printed_X2_isEdition rfl rfl rfl (by decide +kernel) ⟨Nat.le_of_ble_eq_true rfl, Nat.le_of_ble_eq_true rfl⟩) (pV hP hK hD hS hA hX (va_recv hK hP (ci := 2) (q0 := 0) rfl rfl)) rfl rfl hl.1 rfl (lv_room (Nat.le_of_ble_eq_true rfl)) dX2_printed_3 ⟨Nat.le_of_ble_eq_true rfl, Nat.le_of_ble_eq_true rfl⟩) hD hS hA (fun r w'  H locs hp hP hD hS => ?_)
  obtain ⟨rfl, rfl⟩ := hp
  refine r_if_ne (tgt := 13) hx hb dX2_printed_6 (by decide) (Nat.lt_trans (bN_lt _) (by decide)) (fun c1 => ?_) (fun c1 => ?_)
  · have hV := bN_1.mp c1
    refine lv_iload_n hx hb dX2_printed_13 rfl (lv_at hl 2 rfl) ?_
    refine K_i (va_runS (As := [.int p1]) (rest := [.ref (B 0)]) ⟨hx, hb, hml, hown, hts⟩ (c_X2_isAuthor l p1 _) (va_cwS 1 hts gX2_printed_X2_isAuthor rfl rfl rfl (by decide +kernel) ⟨Nat.le_of_ble_eq_true rfl, Nat.le_of_ble_eq_true rfl⟩) (pS hP hK hD hS hA hX) rfl rfl hl.1 rfl (lv_room (Nat.le_of_ble_eq_true rfl)) dX2_printed_14 ⟨Nat.le_of_ble_eq_true rfl, Nat.le_of_ble_eq_true rfl⟩) hD hS hA (fun r w'  H locs hp hP hD hS => ?_)
    obtain ⟨rfl, hw9⟩ := hp
    rw [hw9] at hP hD
    refine r_if_eq (tgt := 24) hx hb dX2_printed_17 (by decide) (Nat.lt_trans (bN_lt _) (by decide)) (fun c2 => ?_) (fun c2 => ?_)
    · have hU := bN_0.mp c2
      refine lv_iconst (v := nI 2) hx hb dX2_printed_24 (by decide) ?_
      refine K_i (va_runV (As := [.int (nI 2)]) (rest := []) ⟨hx, hb, hml, hown, hts⟩ (c_X2_goes l (k := 2) (by decide) _) (cwV 1 hts gX2_printed_X2_goes rfl rfl rfl (by decide +kernel) ⟨Nat.le_of_ble_eq_true rfl, Nat.le_of_ble_eq_true rfl⟩) (pV hP hK hD hS hA hX (va_recv hK hP (ci := 2) (q0 := 0) rfl rfl)) rfl rfl hl.1 rfl (lv_room (Nat.le_of_ble_eq_true rfl)) dX2_printed_25 ⟨Nat.le_of_ble_eq_true rfl, Nat.le_of_ble_eq_true rfl⟩) hD hS hA (fun r w'  H locs hp hP hD hS => ?_)
      obtain ⟨hr9, rfl⟩ := hp
      obtain rfl : r = nI 0 := hr9
      refine r_if_eq (tgt := 44) hx hb dX2_printed_28 (by decide) (by decide) (fun c3 => ?_) (fun c3 => ?_)
      · refine lv_iconst (v := nI 0) hx hb dX2_printed_44 (by decide) ?_
        exact C_iret hx hb hr hlocks hS hP hK hD (Nat.le_of_ble_eq_true rfl) (Nat.le_of_ble_eq_true rfl) dX2_printed_45 (by rw [show spPrinted S p0 p1 = (2, 0, S) from by simp [spPrinted, hV, hU]]; exact ⟨_, up2_s _ _ _ _, rfl, fun h => absurd (show (2 : Nat) = 0 from h) (by decide)⟩)
      · omega
    · have hU := bN_1.mp c2
      refine lv_iconst (v := nI 0) hx hb dX2_printed_20 (by decide) ?_
      refine lv_goto (tgt := 25) hx hb dX2_printed_21 (by decide) ?_
      refine K_i (va_runV (As := [.int (nI 0)]) (rest := []) ⟨hx, hb, hml, hown, hts⟩ (c_X2_goes l (k := 0) (by decide) _) (cwV 1 hts gX2_printed_X2_goes rfl rfl rfl (by decide +kernel) ⟨Nat.le_of_ble_eq_true rfl, Nat.le_of_ble_eq_true rfl⟩) (pV hP hK hD hS hA hX (va_recv hK hP (ci := 2) (q0 := 0) rfl rfl)) rfl rfl hl.1 rfl (lv_room (Nat.le_of_ble_eq_true rfl)) dX2_printed_25 ⟨Nat.le_of_ble_eq_true rfl, Nat.le_of_ble_eq_true rfl⟩) hD hS hA (fun r w'  H locs hp hP hD hS => ?_)
      obtain ⟨hr9, rfl⟩ := hp
      obtain rfl : r = nI 1 := hr9
      refine r_if_eq (tgt := 44) hx hb dX2_printed_28 (by decide) (by decide) (fun c4 => ?_) (fun c4 => ?_)
      · omega
      · have he20 := hI.R.2.1
        obtain ⟨e9, he9, rfl⟩ := inS_n (by omega) hV
        obtain ⟨a, ha, rfl⟩ := isA_n hU
        refine lv_aload_n hx hb dX2_printed_31 rfl (lv_at hl 0 rfl) ?_
        refine va_get (D := D) (ci := 2) (v := .ref (B 9)) (C := RX2) (T := TX2) (N := 19) hx hb hts hiX2 hown hK hP (0) rfl rfl 10 (by decide) (hts (.fieldLink RX2 35 "CoauthorTextModel" "printed" "[I") (by decide +kernel)) (fun _ h9 => h9) rfl dX2_printed_32 ?_
        refine lv_iconst (v := nI 4) hx hb dX2_printed_35 (by decide) ?_
        refine lv_iload_n hx hb dX2_printed_36 rfl (lv_at hl 1 rfl) ?_
        refine r_imul hx hb dX2_printed_37 ?_
        refine lv_iload_n hx hb dX2_printed_38 rfl (lv_at hl 2 rfl) ?_
        refine r_iadd hx hb dX2_printed_39 ?_
        refine r_iald hx hb hK hP (9) rfl (by omega) (by decide) dX2_printed_40 ?_
        refine lv_goto (tgt := 45) hx hb dX2_printed_41 (by decide) ?_
        exact C_iret hx hb hr hlocks hS hP hK hD (Nat.le_of_ble_eq_true rfl) (Nat.le_of_ble_eq_true rfl) dX2_printed_45 (by rw [show spPrinted S (nI e9) (nI a) = (0, nI (S 9 (4 * e9 + a)), S) from by simp [spPrinted, hV, hU, aN_n (show e9 < 2 ^ 31 by omega), aN_n (show a < 2 ^ 31 by omega)]]; exact ⟨_, up2_s _ _ _ _, rfl, fun h => rfl⟩)
  · have hV := bN_0.mp c1
    refine lv_iconst (v := nI 1) hx hb dX2_printed_9 (by decide) ?_
    refine lv_goto (tgt := 25) hx hb dX2_printed_10 (by decide) ?_
    refine K_i (va_runV (As := [.int (nI 1)]) (rest := []) ⟨hx, hb, hml, hown, hts⟩ (c_X2_goes l (k := 1) (by decide) _) (cwV 1 hts gX2_printed_X2_goes rfl rfl rfl (by decide +kernel) ⟨Nat.le_of_ble_eq_true rfl, Nat.le_of_ble_eq_true rfl⟩) (pV hP hK hD hS hA hX (va_recv hK hP (ci := 2) (q0 := 0) rfl rfl)) rfl rfl hl.1 rfl (lv_room (Nat.le_of_ble_eq_true rfl)) dX2_printed_25 ⟨Nat.le_of_ble_eq_true rfl, Nat.le_of_ble_eq_true rfl⟩) hD hS hA (fun r w'  H locs hp hP hD hS => ?_)
    obtain ⟨hr9, rfl⟩ := hp
    obtain rfl : r = nI 0 := hr9
    refine r_if_eq (tgt := 44) hx hb dX2_printed_28 (by decide) (by decide) (fun c5 => ?_) (fun c5 => ?_)
    · refine lv_iconst (v := nI 0) hx hb dX2_printed_44 (by decide) ?_
      exact C_iret hx hb hr hlocks hS hP hK hD (Nat.le_of_ble_eq_true rfl) (Nat.le_of_ble_eq_true rfl) dX2_printed_45 (by rw [show spPrinted S p0 p1 = (1, 0, S) from by simp [spPrinted, hV]]; exact ⟨_, up2_s _ _ _ _, rfl, fun h => absurd (show (1 : Nat) = 0 from h) (by decide)⟩)
    · omega

set_option maxHeartbeats 4000000 in
set_option maxRecDepth 100000 in
theorem c_X2_setFloor (l : Launch) {D : va_G} {cy : Nat → ClassId} {B : Nat → Nat} {S T : Nat → Nat → Nat} {Y : va_W} (p0 : Int32) : CI l yX2_setFloor wsX2_setFloor ({ frames := 2, cells := 0, slots := 0, locals := 34 } : Room) D cy [.ref (B 0), .int p0] (MW cy B S T Y) (fun r w' => ∃ T' : Nat → Nat → Nat, T' 0 2 = (spSetFloor S p0).1 ∧ w' = MW cy B (spSetFloor S p0).2.2 T' Y ∧ ((spSetFloor S p0).1 = 0 → r = (spSetFloor S p0).2.1)) 0 0 := by
  refine CI.of (cc := cX2_setFloor) (maxL := 3) (ret := (some .int)) (by decide) rfl (Nat.le_of_ble_eq_true rfl) ?_
  intro p e s m below meth c A ls E0 hl
  obtain ⟨hx, hb, hml, hown, hts, hr, hlocks, hA, hS, hP, hK, hD, hX⟩ := E0
  have hiX2 : ∀ w ∈ u_ws RX2 TX2 19, w ∈ wsX2_setFloor := by decide +kernel
  have hl : lv_has ls 3 [(0, .ref (B 0)), (1, .int p0)] := hl
  refine lv_aload_n hx hb dX2_setFloor_0 rfl (lv_at hl 0 rfl) ?_
  refine lv_iload_n hx hb dX2_setFloor_1 rfl (lv_at hl 1 rfl) ?_
  refine lv_iconst (v := nI 0) hx hb dX2_setFloor_2 (by decide) ?_
  refine lv_bipush (v := nI 25) hx hb dX2_setFloor_3 (by decide) ?_
  refine K_i (va_runS (As := [.int p0, .int (nI 0), .int (nI 25)]) (rest := [.ref (B 0)]) ⟨hx, hb, hml, hown, hts⟩ (c_X2_isIn l p0 (nI 0) (nI 25) _) (va_cwS 3 hts gX2_setFloor_X2_isIn rfl rfl rfl (by decide +kernel) ⟨Nat.le_of_ble_eq_true rfl, Nat.le_of_ble_eq_true rfl⟩) (pS hP hK hD hS hA hX) rfl rfl hl.1 rfl (lv_room (Nat.le_of_ble_eq_true rfl)) dX2_setFloor_5 ⟨Nat.le_of_ble_eq_true rfl, Nat.le_of_ble_eq_true rfl⟩) hD hS hA (fun r w'  H locs hp hP hD hS => ?_)
  obtain ⟨rfl, hw9⟩ := hp
  rw [hw9] at hP hD
  refine r_if_eq (tgt := 15) hx hb dX2_setFloor_8 (by decide) (Nat.lt_trans (bN_lt _) (by decide)) (fun c1 => ?_) (fun c1 => ?_)
  · have hV : inB p0 0 25 = false := bN_0.mp c1
    refine lv_iconst (v := nI 1) hx hb dX2_setFloor_15 (by decide) ?_
    refine K_i (va_runV (As := [.int (nI 1)]) (rest := []) ⟨hx, hb, hml, hown, hts⟩ (c_X2_goes l (k := 1) (by decide) _) (cwV 1 hts gX2_setFloor_X2_goes rfl rfl rfl (by decide +kernel) ⟨Nat.le_of_ble_eq_true rfl, Nat.le_of_ble_eq_true rfl⟩) (pV hP hK hD hS hA hX (va_recv hK hP (ci := 2) (q0 := 0) rfl rfl)) rfl rfl hl.1 rfl (lv_room (Nat.le_of_ble_eq_true rfl)) dX2_setFloor_16 ⟨Nat.le_of_ble_eq_true rfl, Nat.le_of_ble_eq_true rfl⟩) hD hS hA (fun r w'  H locs hp hP hD hS => ?_)
    obtain ⟨hr9, rfl⟩ := hp
    obtain rfl : r = nI 0 := hr9
    refine r_if_ne (tgt := 24) hx hb dX2_setFloor_19 (by decide) (by decide) (fun c2 => ?_) (fun c2 => ?_)
    · omega
    · refine lv_iconst (v := nI 0) hx hb dX2_setFloor_22 (by decide) ?_
      exact C_iret hx hb hr hlocks hS hP hK hD (Nat.le_of_ble_eq_true rfl) (Nat.le_of_ble_eq_true rfl) dX2_setFloor_23 (by rw [show spSetFloor S p0 = (1, 0, S) from by simp [spSetFloor, hV]]; exact ⟨_, up2_s _ _ _ _, rfl, fun h => absurd (show (1 : Nat) = 0 from h) (by decide)⟩)
  · have hV : inB p0 0 25 = true := bN_1.mp c1
    refine lv_iconst (v := nI 0) hx hb dX2_setFloor_11 (by decide) ?_
    refine lv_goto (tgt := 16) hx hb dX2_setFloor_12 (by decide) ?_
    refine K_i (va_runV (As := [.int (nI 0)]) (rest := []) ⟨hx, hb, hml, hown, hts⟩ (c_X2_goes l (k := 0) (by decide) _) (cwV 1 hts gX2_setFloor_X2_goes rfl rfl rfl (by decide +kernel) ⟨Nat.le_of_ble_eq_true rfl, Nat.le_of_ble_eq_true rfl⟩) (pV hP hK hD hS hA hX (va_recv hK hP (ci := 2) (q0 := 0) rfl rfl)) rfl rfl hl.1 rfl (lv_room (Nat.le_of_ble_eq_true rfl)) dX2_setFloor_16 ⟨Nat.le_of_ble_eq_true rfl, Nat.le_of_ble_eq_true rfl⟩) hD hS hA (fun r w'  H locs hp hP hD hS => ?_)
    obtain ⟨hr9, rfl⟩ := hp
    obtain rfl : r = nI 1 := hr9
    refine r_if_ne (tgt := 24) hx hb dX2_setFloor_19 (by decide) (by decide) (fun c3 => ?_) (fun c3 => ?_)
    · obtain ⟨v, hv, rfl⟩ := inB_n (k := 25) (by decide) hV
      refine lv_aload_n hx hb dX2_setFloor_24 rfl (lv_at hl 0 rfl) ?_
      refine va_get (D := D) (ci := 2) (v := .int (nI (S 0 2))) (C := RX2) (T := TX2) (N := 19) hx hb hts hiX2 hown hK hP (0) rfl rfl 11 (by decide) (hts (.fieldLink RX2 113 "CoauthorTextModel" "floor" "I") (by decide +kernel)) (fun _ h9 => h9) rfl dX2_setFloor_25 ?_
      refine lv_istore_n (lv' := [(2, .int (nI (S 0 2))), (0, .ref (B 0)), (1, .int (nI v))]) hx hb dX2_setFloor_28 rfl hl (by decide) rfl (fun ls hl => ?_)
      refine lv_aload_n hx hb dX2_setFloor_29 rfl (lv_at hl 1 rfl) ?_
      refine lv_iload_n hx hb dX2_setFloor_30 rfl (lv_at hl 2 rfl) ?_
      refine r_put (w' := MW cy B (up2 S 0 2 v) (up2 T 0 2 0) Y) (own := RX2) (C := RX2) (T := TX2) (N := 19) (ci := 2) (q0 := 0) (k := 11) (index := 113) (ty := .int) hx hb hts hiX2 tyX2_ok nmX2 hown hK hP hD hS rfl rfl (by decide) (by decide +kernel) rfl (by decide +kernel) rfl rfl (Nat.le_of_ble_eq_true rfl) dX2_setFloor_31 rfl (fun H locs hP hD hS => ?_)
      refine lv_iload_n hx hb dX2_setFloor_34 rfl (lv_at hl 0 rfl) ?_
      exact C_iret hx hb hr hlocks hS hP hK hD (Nat.le_of_ble_eq_true rfl) (Nat.le_of_ble_eq_true rfl) dX2_setFloor_35 (by rw [show spSetFloor S (nI v) = (0, nI (S 0 2), up2 S 0 2 v) from by simp [spSetFloor, hV, aN_n (show v < 2 ^ 31 by omega)]]; exact ⟨_, up2_s _ _ _ _, rfl, fun h => rfl⟩)
    · omega

theorem inB_1 {v : Int32} {k : Nat} (hk : k < 2 ^ 31) (h : inB v 1 (nI k) = true) : ∃ a : Nat, (1 ≤ a ∧ a ≤ k) ∧ v = nI a := by
  simp only [inB, Bool.and_eq_true, decide_eq_true_eq] at h
  have h0 : (0 : Int32) ≤ v := Int32.le_trans (by decide) h.1
  obtain ⟨a, h1, rfl⟩ := nI_of2 (nI_toInt hk) (by rw [Int32.not_lt]; exact h0) h.2
  have h2 : nI 1 ≤ nI a := h.1
  rw [nI_leI (by decide) (by omega)] at h2
  exact ⟨a, ⟨h2, h1⟩, rfl⟩

set_option maxHeartbeats 4000000 in
set_option maxRecDepth 100000 in
theorem c_X2_advance (l : Launch) {D : va_G} {cy : Nat → ClassId} {B : Nat → Nat} {S T : Nat → Nat → Nat} {Y : va_W} (p0 p1 : Int32) : CI l yX2_advance wsX2_advance ({ frames := 3, cells := 0, slots := 0, locals := 54 } : Room) D cy [.ref (B 0), .int p0, .int p1] (MW cy B S T Y) (fun r w' => ∃ T' : Nat → Nat → Nat, T' 0 2 = (spAdvance S p0 p1).1 ∧ w' = MW cy B (spAdvance S p0 p1).2.2 T' Y ∧ ((spAdvance S p0 p1).1 = 0 → r = (spAdvance S p0 p1).2.1)) 0 0 := by
  refine CI.of (cc := cX2_advance) (maxL := 3) (ret := (some .int)) (by decide) rfl (Nat.le_of_ble_eq_true rfl) ?_
  intro p e s m below meth c A ls E0 hl
  obtain ⟨hx, hb, hml, hown, hts, hr, hlocks, hA, hS, hP, hK, hD, hX⟩ := E0
  have hiX2 : ∀ w ∈ u_ws RX2 TX2 19, w ∈ wsX2_advance := by decide +kernel
  have hl : lv_has ls 3 [(0, .ref (B 0)), (1, .int p0), (2, .int p1)] := hl
  refine lv_aload_n hx hb dX2_advance_0 rfl (lv_at hl 0 rfl) ?_
  refine lv_iload_n hx hb dX2_advance_1 rfl (lv_at hl 1 rfl) ?_
  refine K_i (va_runS (As := [.int p0]) (rest := [.ref (B 0)]) ⟨hx, hb, hml, hown, hts⟩ (c_X2_isAuthor l p0 _) (va_cwS 1 hts gX2_advance_X2_isAuthor rfl rfl rfl (by decide +kernel) ⟨Nat.le_of_ble_eq_true rfl, Nat.le_of_ble_eq_true rfl⟩) (pS hP hK hD hS hA hX) rfl rfl hl.1 rfl (lv_room (Nat.le_of_ble_eq_true rfl)) dX2_advance_2 ⟨Nat.le_of_ble_eq_true rfl, Nat.le_of_ble_eq_true rfl⟩) hD hS hA (fun r w'  H locs hp hP hD hS => ?_)
  obtain ⟨rfl, hw9⟩ := hp
  rw [hw9] at hP hD
  refine r_if_eq (tgt := 22) hx hb dX2_advance_5 (by decide) (Nat.lt_trans (bN_lt _) (by decide)) (fun c1 => ?_) (fun c1 => ?_)
  · have hU := bN_0.mp c1
    refine lv_iconst (v := nI 1) hx hb dX2_advance_22 (by decide) ?_
    refine K_i (va_runV (As := [.int (nI 1)]) (rest := []) ⟨hx, hb, hml, hown, hts⟩ (c_X2_goes l (k := 1) (by decide) _) (cwV 1 hts gX2_advance_X2_goes rfl rfl rfl (by decide +kernel) ⟨Nat.le_of_ble_eq_true rfl, Nat.le_of_ble_eq_true rfl⟩) (pV hP hK hD hS hA hX (va_recv hK hP (ci := 2) (q0 := 0) rfl rfl)) rfl rfl hl.1 rfl (lv_room (Nat.le_of_ble_eq_true rfl)) dX2_advance_23 ⟨Nat.le_of_ble_eq_true rfl, Nat.le_of_ble_eq_true rfl⟩) hD hS hA (fun r w'  H locs hp hP hD hS => ?_)
    obtain ⟨hr9, rfl⟩ := hp
    obtain rfl : r = nI 0 := hr9
    refine r_if_ne (tgt := 31) hx hb dX2_advance_26 (by decide) (by decide) (fun c2 => ?_) (fun c2 => ?_)
    · omega
    · refine lv_iconst (v := nI 0) hx hb dX2_advance_29 (by decide) ?_
      exact C_iret hx hb hr hlocks hS hP hK hD (Nat.le_of_ble_eq_true rfl) (Nat.le_of_ble_eq_true rfl) dX2_advance_30 (by rw [show spAdvance S p0 p1 = (1, 0, S) from by simp [spAdvance, hU]]; exact ⟨_, up2_s _ _ _ _, rfl, fun h => absurd (show (1 : Nat) = 0 from h) (by decide)⟩)
  · have hU := bN_1.mp c1
    refine lv_iload_n hx hb dX2_advance_8 rfl (lv_at hl 2 rfl) ?_
    refine lv_iconst (v := nI 1) hx hb dX2_advance_9 (by decide) ?_
    refine lv_ldc (v := nI 100000) hx hb hown (hts (.constant RX2 116 (100000)) (by decide +kernel)) dX2_advance_10 ?_
    refine K_i (va_runS (As := [.int p1, .int (nI 1), .int (nI 100000)]) (rest := [.ref (B 0)]) ⟨hx, hb, hml, hown, hts⟩ (c_X2_isIn l p1 (nI 1) (nI 100000) _) (va_cwS 3 hts gX2_advance_X2_isIn rfl rfl rfl (by decide +kernel) ⟨Nat.le_of_ble_eq_true rfl, Nat.le_of_ble_eq_true rfl⟩) (pS hP hK hD hS hA hX) rfl rfl hl.1 rfl (lv_room (Nat.le_of_ble_eq_true rfl)) dX2_advance_12 ⟨Nat.le_of_ble_eq_true rfl, Nat.le_of_ble_eq_true rfl⟩) hD hS hA (fun r w'  H locs hp hP hD hS => ?_)
    obtain ⟨rfl, hw9⟩ := hp
    rw [hw9] at hP hD
    refine r_if_eq (tgt := 22) hx hb dX2_advance_15 (by decide) (Nat.lt_trans (bN_lt _) (by decide)) (fun cB => ?_) (fun cB => ?_)
    · have hV : inB p1 1 100000 = false := bN_0.mp cB
      refine lv_iconst (v := nI 1) hx hb dX2_advance_22 (by decide) ?_
      refine K_i (va_runV (As := [.int (nI 1)]) (rest := []) ⟨hx, hb, hml, hown, hts⟩ (c_X2_goes l (k := 1) (by decide) _) (cwV 1 hts gX2_advance_X2_goes rfl rfl rfl (by decide +kernel) ⟨Nat.le_of_ble_eq_true rfl, Nat.le_of_ble_eq_true rfl⟩) (pV hP hK hD hS hA hX (va_recv hK hP (ci := 2) (q0 := 0) rfl rfl)) rfl rfl hl.1 rfl (lv_room (Nat.le_of_ble_eq_true rfl)) dX2_advance_23 ⟨Nat.le_of_ble_eq_true rfl, Nat.le_of_ble_eq_true rfl⟩) hD hS hA (fun r w'  H locs hp hP hD hS => ?_)
      obtain ⟨hr9, rfl⟩ := hp
      obtain rfl : r = nI 0 := hr9
      refine r_if_ne (tgt := 31) hx hb dX2_advance_26 (by decide) (by decide) (fun c3 => ?_) (fun c3 => ?_)
      · omega
      · refine lv_iconst (v := nI 0) hx hb dX2_advance_29 (by decide) ?_
        exact C_iret hx hb hr hlocks hS hP hK hD (Nat.le_of_ble_eq_true rfl) (Nat.le_of_ble_eq_true rfl) dX2_advance_30 (by rw [show spAdvance S p0 p1 = (1, 0, S) from by simp [spAdvance, hU, hV]]; exact ⟨_, up2_s _ _ _ _, rfl, fun h => absurd (show (1 : Nat) = 0 from h) (by decide)⟩)
    · have hV : inB p1 1 100000 = true := bN_1.mp cB
      refine lv_iconst (v := nI 0) hx hb dX2_advance_18 (by decide) ?_
      refine lv_goto (tgt := 23) hx hb dX2_advance_19 (by decide) ?_
      refine K_i (va_runV (As := [.int (nI 0)]) (rest := []) ⟨hx, hb, hml, hown, hts⟩ (c_X2_goes l (k := 0) (by decide) _) (cwV 1 hts gX2_advance_X2_goes rfl rfl rfl (by decide +kernel) ⟨Nat.le_of_ble_eq_true rfl, Nat.le_of_ble_eq_true rfl⟩) (pV hP hK hD hS hA hX (va_recv hK hP (ci := 2) (q0 := 0) rfl rfl)) rfl rfl hl.1 rfl (lv_room (Nat.le_of_ble_eq_true rfl)) dX2_advance_23 ⟨Nat.le_of_ble_eq_true rfl, Nat.le_of_ble_eq_true rfl⟩) hD hS hA (fun r w'  H locs hp hP hD hS => ?_)
      obtain ⟨hr9, rfl⟩ := hp
      obtain rfl : r = nI 1 := hr9
      refine r_if_ne (tgt := 31) hx hb dX2_advance_26 (by decide) (by decide) (fun c4 => ?_) (fun c4 => ?_)
      · obtain ⟨v, hv, rfl⟩ := inB_1 (k := 100000) (by decide) hV
        obtain ⟨a, ha, rfl⟩ := isA_n hU
        refine lv_aload_n hx hb dX2_advance_31 rfl (lv_at hl 0 rfl) ?_
        refine va_get (D := D) (ci := 2) (v := .ref (B 10)) (C := RX2) (T := TX2) (N := 19) hx hb hts hiX2 hown hK hP (0) rfl rfl 12 (by decide) (hts (.fieldLink RX2 38 "CoauthorTextModel" "advances" "[I") (by decide +kernel)) (fun _ h9 => h9) rfl dX2_advance_32 ?_
        refine lv_iload_n hx hb dX2_advance_35 rfl (lv_at hl 1 rfl) ?_
        refine lv_dup2_11 hx hb dX2_advance_36 rfl rfl ?_
        refine r_iald hx hb hK hP (10) rfl (by omega) (by decide) dX2_advance_37 ?_
        refine lv_iload_n hx hb dX2_advance_38 rfl (lv_at hl 2 rfl) ?_
        refine r_iadd hx hb dX2_advance_39 ?_
        refine r_iast (w' := MW cy B (up2 S 10 a (S 10 a + v)) (up2 T 0 2 0) Y) hx hb hK hP hD hS (10) rfl (by omega) (by decide) dX2_advance_40 (by rw [show upd (fun j => nI (S 10 j)) a (nI (S 10 a + v)) = fun j => nI (up2 S 10 a (S 10 a + v) 10 j) from upd_n S 10 a _]; rfl) (fun H locs hP hD hS => ?_)
        refine lv_aload_n hx hb dX2_advance_41 rfl (lv_at hl 0 rfl) ?_
        refine va_get (D := D) (ci := 2) (v := .ref (B 10)) (C := RX2) (T := TX2) (N := 19) hx hb hts hiX2 hown hK hP (0) rfl rfl 12 (by decide) (hts (.fieldLink RX2 38 "CoauthorTextModel" "advances" "[I") (by decide +kernel)) (fun _ h9 => h9) rfl dX2_advance_42 ?_
        refine lv_iload_n hx hb dX2_advance_45 rfl (lv_at hl 1 rfl) ?_
        refine r_iald hx hb hK hP (10) rfl (by omega) (by decide) dX2_advance_46 ?_
        exact C_iret hx hb hr hlocks hS hP hK hD (Nat.le_of_ble_eq_true rfl) (Nat.le_of_ble_eq_true rfl) dX2_advance_47 (by rw [show spAdvance S (nI a) (nI v) = (0, nI (S 10 a + v), up2 S 10 a (S 10 a + v)) from by simp [spAdvance, hU, hV, aN_n (show a < 2 ^ 31 by omega), aN_n (show v < 2 ^ 31 by omega)]]; exact ⟨_, up2_s _ _ _ _, rfl, fun _ => by rw [up2_s]⟩)
      · omega
end
section
/-! ===== the reference: insert, remove, restore ===== -/
set_option maxHeartbeats 4000000 in
set_option maxRecDepth 100000 in
theorem c_X2_insert (l : Launch) {D : va_G} {cy : Nat → ClassId} {B : Nat → Nat} {S T : Nat → Nat → Nat} {Y : va_W} {O : List Nat} (hI : Inv S O) (p0 p1 p2 : Int32) : CI l yX2_insert wsX2_insert ({ frames := 4, cells := 0, slots := 0, locals := 82 } : Room) D cy [.ref (B 0), .int p0, .int p1, .int p2] (MW cy B S T Y) (fun r w' => ∃ T' : Nat → Nat → Nat, T' 0 2 = (spInsert S O p0 p1 p2).1 ∧ w' = MW cy B (spInsert S O p0 p1 p2).2.2 T' Y ∧ ((spInsert S O p0 p1 p2).1 = 0 → r = (spInsert S O p0 p1 p2).2.1)) 0 0 := by
  refine CI.of (cc := cX2_insert) (maxL := 4) (ret := (some .int)) (by decide) rfl (Nat.le_of_ble_eq_true rfl) ?_
  intro p e s m below meth c A ls E0 hl
  obtain ⟨hx, hb, hml, hown, hts, hr, hlocks, hA, hS, hP, hK, hD, hX⟩ := E0
  have hiX2 : ∀ w ∈ u_ws RX2 TX2 19, w ∈ wsX2_insert := by decide +kernel
  have hl : lv_has ls 4 [(0, .ref (B 0)), (1, .int p0), (2, .int p1), (3, .int p2)] := hl
  refine lv_aload_n hx hb dX2_insert_0 rfl (lv_at hl 0 rfl) ?_
  refine lv_iload_n hx hb dX2_insert_1 rfl (lv_at hl 1 rfl) ?_
  refine K_i (va_runS (As := [.int p0]) (rest := [.ref (B 0)]) ⟨hx, hb, hml, hown, hts⟩ (c_X2_isAuthor l p0 _) (va_cwS 1 hts gX2_insert_X2_isAuthor rfl rfl rfl (by decide +kernel) ⟨Nat.le_of_ble_eq_true rfl, Nat.le_of_ble_eq_true rfl⟩) (pS hP hK hD hS hA hX) rfl rfl hl.1 rfl (lv_room (Nat.le_of_ble_eq_true rfl)) dX2_insert_2 ⟨Nat.le_of_ble_eq_true rfl, Nat.le_of_ble_eq_true rfl⟩) hD hS hA (fun r w'  H locs hp hP hD hS => ?_)
  obtain ⟨rfl, hw9⟩ := hp
  rw [hw9] at hP hD
  refine r_if_eq (tgt := 22) hx hb dX2_insert_5 (by decide) (Nat.lt_trans (bN_lt _) (by decide)) (fun cA => ?_) (fun cA => ?_)
  · have hU := bN_0.mp cA
    refine lv_iconst (v := nI 1) hx hb dX2_insert_22 (by decide) ?_
    refine K_i (va_runV (As := [.int (nI 1)]) (rest := []) ⟨hx, hb, hml, hown, hts⟩ (c_X2_goes l (k := 1) (by decide) _) (cwV 1 hts gX2_insert_X2_goes rfl rfl rfl (by decide +kernel) ⟨Nat.le_of_ble_eq_true rfl, Nat.le_of_ble_eq_true rfl⟩) (pV hP hK hD hS hA hX (va_recv hK hP (ci := 2) (q0 := 0) rfl rfl)) rfl rfl hl.1 rfl (lv_room (Nat.le_of_ble_eq_true rfl)) dX2_insert_23 ⟨Nat.le_of_ble_eq_true rfl, Nat.le_of_ble_eq_true rfl⟩) hD hS hA (fun r w'  H locs hp hP hD hS => ?_)
    obtain ⟨hr9, rfl⟩ := hp
    obtain rfl : r = nI 0 := hr9
    refine r_if_ne (tgt := 31) hx hb dX2_insert_26 (by decide) (by decide) (fun c1 => ?_) (fun c1 => ?_)
    · omega
    · refine lv_iconst (v := nI 0) hx hb dX2_insert_29 (by decide) ?_
      exact C_iret hx hb hr hlocks hS hP hK hD (Nat.le_of_ble_eq_true rfl) (Nat.le_of_ble_eq_true rfl) dX2_insert_30 (by rw [show spInsert S O p0 p1 p2 = (1, 0, S) from by simp [spInsert, hU]]; exact ⟨_, up2_s _ _ _ _, rfl, fun h => absurd (show (1 : Nat) = 0 from h) (by decide)⟩)
  · have hU := bN_1.mp cA
    refine lv_iload_n hx hb dX2_insert_8 rfl (lv_at hl 3 rfl) ?_
    refine lv_iconst (v := nI 0) hx hb dX2_insert_9 (by decide) ?_
    refine lv_bipush (v := nI 25) hx hb dX2_insert_10 (by decide) ?_
    refine K_i (va_runS (As := [.int p2, .int (nI 0), .int (nI 25)]) (rest := [.ref (B 0)]) ⟨hx, hb, hml, hown, hts⟩ (c_X2_isIn l p2 (nI 0) (nI 25) _) (va_cwS 3 hts gX2_insert_X2_isIn rfl rfl rfl (by decide +kernel) ⟨Nat.le_of_ble_eq_true rfl, Nat.le_of_ble_eq_true rfl⟩) (pS hP hK hD hS hA hX) rfl rfl hl.1 rfl (lv_room (Nat.le_of_ble_eq_true rfl)) dX2_insert_12 ⟨Nat.le_of_ble_eq_true rfl, Nat.le_of_ble_eq_true rfl⟩) hD hS hA (fun r w'  H locs hp hP hD hS => ?_)
    obtain ⟨rfl, hw9⟩ := hp
    rw [hw9] at hP hD
    refine r_if_eq (tgt := 22) hx hb dX2_insert_15 (by decide) (Nat.lt_trans (bN_lt _) (by decide)) (fun cB => ?_) (fun cB => ?_)
    · have hV : inB p2 0 25 = false := bN_0.mp cB
      refine lv_iconst (v := nI 1) hx hb dX2_insert_22 (by decide) ?_
      refine K_i (va_runV (As := [.int (nI 1)]) (rest := []) ⟨hx, hb, hml, hown, hts⟩ (c_X2_goes l (k := 1) (by decide) _) (cwV 1 hts gX2_insert_X2_goes rfl rfl rfl (by decide +kernel) ⟨Nat.le_of_ble_eq_true rfl, Nat.le_of_ble_eq_true rfl⟩) (pV hP hK hD hS hA hX (va_recv hK hP (ci := 2) (q0 := 0) rfl rfl)) rfl rfl hl.1 rfl (lv_room (Nat.le_of_ble_eq_true rfl)) dX2_insert_23 ⟨Nat.le_of_ble_eq_true rfl, Nat.le_of_ble_eq_true rfl⟩) hD hS hA (fun r w'  H locs hp hP hD hS => ?_)
      obtain ⟨hr9, rfl⟩ := hp
      obtain rfl : r = nI 0 := hr9
      refine r_if_ne (tgt := 31) hx hb dX2_insert_26 (by decide) (by decide) (fun c2 => ?_) (fun c2 => ?_)
      · omega
      · refine lv_iconst (v := nI 0) hx hb dX2_insert_29 (by decide) ?_
        exact C_iret hx hb hr hlocks hS hP hK hD (Nat.le_of_ble_eq_true rfl) (Nat.le_of_ble_eq_true rfl) dX2_insert_30 (by rw [show spInsert S O p0 p1 p2 = (1, 0, S) from by simp [spInsert, hU, hV]]; exact ⟨_, up2_s _ _ _ _, rfl, fun h => absurd (show (1 : Nat) = 0 from h) (by decide)⟩)
    · have hV : inB p2 0 25 = true := bN_1.mp cB
      refine lv_iconst (v := nI 0) hx hb dX2_insert_18 (by decide) ?_
      refine lv_goto (tgt := 23) hx hb dX2_insert_19 (by decide) ?_
      refine K_i (va_runV (As := [.int (nI 0)]) (rest := []) ⟨hx, hb, hml, hown, hts⟩ (c_X2_goes l (k := 0) (by decide) _) (cwV 1 hts gX2_insert_X2_goes rfl rfl rfl (by decide +kernel) ⟨Nat.le_of_ble_eq_true rfl, Nat.le_of_ble_eq_true rfl⟩) (pV hP hK hD hS hA hX (va_recv hK hP (ci := 2) (q0 := 0) rfl rfl)) rfl rfl hl.1 rfl (lv_room (Nat.le_of_ble_eq_true rfl)) dX2_insert_23 ⟨Nat.le_of_ble_eq_true rfl, Nat.le_of_ble_eq_true rfl⟩) hD hS hA (fun r w'  H locs hp hP hD hS => ?_)
      obtain ⟨hr9, rfl⟩ := hp
      obtain rfl : r = nI 1 := hr9
      refine r_if_ne (tgt := 31) hx hb dX2_insert_26 (by decide) (by decide) (fun c3 => ?_) (fun c3 => ?_)
      · obtain ⟨v, hv, rfl⟩ := inB_n (k := 25) (by decide) hV
        obtain ⟨a, ha, rfl⟩ := isA_n hU
        have hn60 := hI.R.1
        have hl60 := hI.len a
        have ea := aN_n (show a < 2 ^ 31 by omega)
        have ev := aN_n (show v < 2 ^ 31 by omega)
        refine lv_aload_n hx hb dX2_insert_31 rfl (lv_at hl 0 rfl) ?_
        refine lv_iload_n hx hb dX2_insert_32 rfl (lv_at hl 1 rfl) ?_
        refine K_v (va_runV (As := [.int (nI a)]) (rest := []) ⟨hx, hb, hml, hown, hts⟩ (c_X2_laysText l hI.R hI.g (a := a) ha (hI.lay ha) _) (cwV 1 hts gX2_insert_X2_laysText rfl rfl rfl (by decide +kernel) ⟨Nat.le_of_ble_eq_true rfl, Nat.le_of_ble_eq_true rfl⟩) (pV hP hK hD hS hA hX (va_recv hK hP (ci := 2) (q0 := 0) rfl rfl)) rfl rfl hl.1 rfl (lv_room (Nat.le_of_ble_eq_true rfl)) dX2_insert_33 ⟨Nat.le_of_ble_eq_true rfl, Nat.le_of_ble_eq_true rfl⟩) hD hS hA (fun w'  H locs hp hP hD hS => ?_)
        obtain ⟨T2, rfl, h2, ht⟩ := hp
        rw [lay_txt] at ht
        refine lv_aload_n hx hb dX2_insert_36 rfl (lv_at hl 0 rfl) ?_
        refine lv_iload_n hx hb dX2_insert_37 rfl (lv_at hl 2 rfl) ?_
        refine lv_iconst (v := nI 0) hx hb dX2_insert_38 (by decide) ?_
        refine lv_aload_n hx hb dX2_insert_39 rfl (lv_at hl 0 rfl) ?_
        refine va_get (D := D) (ci := 2) (v := .int (nI (T2 0 0))) (C := RX2) (T := TX2) (N := 19) hx hb hts hiX2 hown hK hP (0) rfl rfl 16 (by decide) (hts (.fieldLink RX2 76 "CoauthorTextModel" "length" "I") (by decide +kernel)) (fun _ h9 => h9) rfl dX2_insert_40 ?_
        refine K_i (va_runS (As := [.int p1, .int (nI 0), .int (nI (T2 0 0))]) (rest := [.ref (B 0)]) ⟨hx, hb, hml, hown, hts⟩ (c_X2_isIn l p1 (nI 0) (nI (T2 0 0)) _) (va_cwS 3 hts gX2_insert_X2_isIn rfl rfl rfl (by decide +kernel) ⟨Nat.le_of_ble_eq_true rfl, Nat.le_of_ble_eq_true rfl⟩) (pS hP hK hD hS hA hX) rfl rfl hl.1 rfl (lv_room (Nat.le_of_ble_eq_true rfl)) dX2_insert_43 ⟨Nat.le_of_ble_eq_true rfl, Nat.le_of_ble_eq_true rfl⟩) hD hS hA (fun r w'  H locs hp hP hD hS => ?_)
        obtain ⟨rfl, hw9⟩ := hp
        rw [hw9] at hP hD
        refine r_if_ne (tgt := 53) hx hb dX2_insert_46 (by decide) (Nat.lt_trans (bN_lt _) (by decide)) (fun cC => ?_) (fun cC => ?_)
        · have hW : inB p1 0 (nI (txL S O a).length) = true := by rw [← ht.1]; exact bN_1.mp cC
          refine lv_aload_n hx hb dX2_insert_53 rfl (lv_at hl 0 rfl) ?_
          refine va_get (D := D) (ci := 2) (v := .int (nI (S 0 0))) (C := RX2) (T := TX2) (N := 19) hx hb hts hiX2 hown hK hP (0) rfl rfl 0 (by decide) (hts (.fieldLink RX2 59 "CoauthorTextModel" "signs" "I") (by decide +kernel)) (fun _ h9 => h9) rfl dX2_insert_54 ?_
          refine lv_bipush (v := nI 60) hx hb dX2_insert_57 (by decide) ?_
          refine r_icmp_ne (tgt := 66) hx hb dX2_insert_59 (by decide) (by omega) (by omega) (fun cD => ?_) (fun cD => ?_)
          · refine lv_iconst (v := nI 0) hx hb dX2_insert_66 (by decide) ?_
            refine K_i (va_runV (As := [.int (nI 0)]) (rest := []) ⟨hx, hb, hml, hown, hts⟩ (c_X2_goes l (k := 0) (by decide) _) (cwV 1 hts gX2_insert_X2_goes rfl rfl rfl (by decide +kernel) ⟨Nat.le_of_ble_eq_true rfl, Nat.le_of_ble_eq_true rfl⟩) (pV hP hK hD hS hA hX (va_recv hK hP (ci := 2) (q0 := 0) rfl rfl)) rfl rfl hl.1 rfl (lv_room (Nat.le_of_ble_eq_true rfl)) dX2_insert_67 ⟨Nat.le_of_ble_eq_true rfl, Nat.le_of_ble_eq_true rfl⟩) hD hS hA (fun r w'  H locs hp hP hD hS => ?_)
            obtain ⟨hr9, rfl⟩ := hp
            obtain rfl : r = nI 1 := hr9
            refine r_if_ne (tgt := 75) hx hb dX2_insert_70 (by decide) (by decide) (fun c4 => ?_) (fun c4 => ?_)
            · obtain ⟨k, hk, rfl⟩ := inB_n (by omega) hW
              have ek := aN_n (show k < 2 ^ 31 by omega)
              refine lv_aload_n hx hb dX2_insert_75 rfl (lv_at hl 0 rfl) ?_
              refine lv_iload_n hx hb dX2_insert_76 rfl (lv_at hl 1 rfl) ?_
              refine K_i (va_runV (As := [.int (nI a)]) (rest := []) ⟨hx, hb, hml, hown, hts⟩ (c_X2_stamp l ha _) (cwV 1 hts gX2_insert_X2_stamp rfl rfl rfl (by decide +kernel) ⟨Nat.le_of_ble_eq_true rfl, Nat.le_of_ble_eq_true rfl⟩) (pV hP hK hD hS hA hX (va_recv hK hP (ci := 2) (q0 := 0) rfl rfl)) rfl rfl hl.1 rfl (lv_room (Nat.le_of_ble_eq_true rfl)) dX2_insert_77 ⟨Nat.le_of_ble_eq_true rfl, Nat.le_of_ble_eq_true rfl⟩) hD hS hA (fun r w'  H locs hp hP hD hS => ?_)
              obtain ⟨rfl, rfl⟩ := hp
              refine lv_pop hx hb dX2_insert_80 rfl ?_
              refine lv_aload_n hx hb dX2_insert_81 rfl (lv_at hl 0 rfl) ?_
              refine va_get (D := D) (ci := 2) (v := .ref (B 1)) (C := RX2) (T := TX2) (N := 19) hx hb hts hiX2 hown hK hP (0) rfl rfl 1 (by decide) (hts (.fieldLink RX2 7 "CoauthorTextModel" "authors" "[I") (by decide +kernel)) (fun _ h9 => h9) rfl dX2_insert_82 ?_
              refine lv_aload_n hx hb dX2_insert_85 rfl (lv_at hl 0 rfl) ?_
              refine va_get (D := D) (ci := 2) (v := .int (nI (S 0 0))) (C := RX2) (T := TX2) (N := 19) hx hb hts hiX2 hown hK hP (0) rfl rfl 0 (by decide) (hts (.fieldLink RX2 59 "CoauthorTextModel" "signs" "I") (by decide +kernel)) (fun _ h9 => h9) rfl dX2_insert_86 ?_
              refine lv_iload_n hx hb dX2_insert_89 rfl (lv_at hl 1 rfl) ?_
              refine r_iast (w' := MW cy B (up2 (up2 S 8 a (S 8 a + 1)) 1 (S 0 0) a) (up2 T2 0 2 0) Y) hx hb hK hP hD hS (1) rfl (by omega) (by decide) dX2_insert_90 (by rw [show upd (fun j => nI ((up2 S 8 a (S 8 a + 1)) 1 j)) (S 0 0) (nI a) = fun j => nI ((up2 (up2 S 8 a (S 8 a + 1)) 1 (S 0 0) a) 1 j) from upd_n (up2 S 8 a (S 8 a + 1)) 1 _ _]; rfl) (fun H locs hP hD hS => ?_)
              refine lv_aload_n hx hb dX2_insert_91 rfl (lv_at hl 0 rfl) ?_
              refine va_get (D := D) (ci := 2) (v := .ref (B 2)) (C := RX2) (T := TX2) (N := 19) hx hb hts hiX2 hown hK hP (0) rfl rfl 2 (by decide) (hts (.fieldLink RX2 13 "CoauthorTextModel" "letters" "[I") (by decide +kernel)) (fun _ h9 => h9) rfl dX2_insert_92 ?_
              refine lv_aload_n hx hb dX2_insert_95 rfl (lv_at hl 0 rfl) ?_
              refine va_get (D := D) (ci := 2) (v := .int (nI (S 0 0))) (C := RX2) (T := TX2) (N := 19) hx hb hts hiX2 hown hK hP (0) rfl rfl 0 (by decide) (hts (.fieldLink RX2 59 "CoauthorTextModel" "signs" "I") (by decide +kernel)) (fun _ h9 => h9) rfl dX2_insert_96 ?_
              refine lv_iload_n hx hb dX2_insert_99 rfl (lv_at hl 3 rfl) ?_
              refine r_iast (w' := MW cy B (up2 (up2 (up2 S 8 a (S 8 a + 1)) 1 (S 0 0) a) 2 (S 0 0) v) (up2 T2 0 2 0) Y) hx hb hK hP hD hS (2) rfl (by omega) (by decide) dX2_insert_100 (by rw [show upd (fun j => nI ((up2 (up2 S 8 a (S 8 a + 1)) 1 (S 0 0) a) 2 j)) (S 0 0) (nI v) = fun j => nI ((up2 (up2 (up2 S 8 a (S 8 a + 1)) 1 (S 0 0) a) 2 (S 0 0) v) 2 j) from upd_n (up2 (up2 S 8 a (S 8 a + 1)) 1 (S 0 0) a) 2 _ _]; rfl) (fun H locs hP hD hS => ?_)
              refine lv_aload_n hx hb dX2_insert_101 rfl (lv_at hl 0 rfl) ?_
              refine va_get (D := D) (ci := 2) (v := .ref (B 3)) (C := RX2) (T := TX2) (N := 19) hx hb hts hiX2 hown hK hP (0) rfl rfl 3 (by decide) (hts (.fieldLink RX2 16 "CoauthorTextModel" "clocksOf" "[I") (by decide +kernel)) (fun _ h9 => h9) rfl dX2_insert_102 ?_
              refine lv_aload_n hx hb dX2_insert_105 rfl (lv_at hl 0 rfl) ?_
              refine va_get (D := D) (ci := 2) (v := .int (nI (S 0 0))) (C := RX2) (T := TX2) (N := 19) hx hb hts hiX2 hown hK hP (0) rfl rfl 0 (by decide) (hts (.fieldLink RX2 59 "CoauthorTextModel" "signs" "I") (by decide +kernel)) (fun _ h9 => h9) rfl dX2_insert_106 ?_
              refine lv_aload_n hx hb dX2_insert_109 rfl (lv_at hl 0 rfl) ?_
              refine va_get (D := D) (ci := 2) (v := .ref (B 8)) (C := RX2) (T := TX2) (N := 19) hx hb hts hiX2 hown hK hP (0) rfl rfl 8 (by decide) (hts (.fieldLink RX2 32 "CoauthorTextModel" "clocks" "[I") (by decide +kernel)) (fun _ h9 => h9) rfl dX2_insert_110 ?_
              refine lv_iload_n hx hb dX2_insert_113 rfl (lv_at hl 1 rfl) ?_
              refine r_iald hx hb hK hP (8) rfl (by omega) (by decide) dX2_insert_114 ?_
              refine lv_topi (fun y9 ey9 => ?_)
              obtain rfl : y9 = nI (S 8 a + 1) := ey9.trans (by show nI (up2 _ 2 _ _ 8 a) = _; simp [up2])
              refine r_iast (w' := MW cy B (up2 (up2 (up2 (up2 S 8 a (S 8 a + 1)) 1 (S 0 0) a) 2 (S 0 0) v) 3 (S 0 0) (S 8 a + 1)) (up2 T2 0 2 0) Y) hx hb hK hP hD hS (3) rfl (by omega) (by decide) dX2_insert_115 (by rw [show upd (fun j => nI ((up2 (up2 (up2 S 8 a (S 8 a + 1)) 1 (S 0 0) a) 2 (S 0 0) v) 3 j)) (S 0 0) (nI (S 8 a + 1)) = fun j => nI ((up2 (up2 (up2 (up2 S 8 a (S 8 a + 1)) 1 (S 0 0) a) 2 (S 0 0) v) 3 (S 0 0) (S 8 a + 1)) 3 j) from upd_n (up2 (up2 (up2 S 8 a (S 8 a + 1)) 1 (S 0 0) a) 2 (S 0 0) v) 3 _ _]; rfl) (fun H locs hP hD hS => ?_)
              refine lv_aload_n hx hb dX2_insert_116 rfl (lv_at hl 0 rfl) ?_
              refine va_get (D := D) (ci := 2) (v := .ref (B 4)) (C := RX2) (T := TX2) (N := 19) hx hb hts hiX2 hown hK hP (0) rfl rfl 4 (by decide) (hts (.fieldLink RX2 19 "CoauthorTextModel" "behinds" "[I") (by decide +kernel)) (fun _ h9 => h9) rfl dX2_insert_117 ?_
              refine lv_aload_n hx hb dX2_insert_120 rfl (lv_at hl 0 rfl) ?_
              refine va_get (D := D) (ci := 2) (v := .int (nI (S 0 0))) (C := RX2) (T := TX2) (N := 19) hx hb hts hiX2 hown hK hP (0) rfl rfl 0 (by decide) (hts (.fieldLink RX2 59 "CoauthorTextModel" "signs" "I") (by decide +kernel)) (fun _ h9 => h9) rfl dX2_insert_121 ?_
              refine lv_iload_n hx hb dX2_insert_124 rfl (lv_at hl 2 rfl) ?_
              have join : W p l e ({ frames := 4, cells := 0, slots := 0, locals := 82 } : Room) s m ([.ref (B 0), .int (nI a), .int (nI k), .int (nI v)] : List Value).toArray below meth c H locs 0 0 (MQ below (va_Qi (fun r w' => ∃ T' : Nat → Nat → Nat, T' 0 2 = (spInsert S O (nI a) (nI k) (nI v)).1 ∧ w' = MW cy B (spInsert S O (nI a) (nI k) (nI v)).2.2 T' Y ∧ ((spInsert S O (nI a) (nI k) (nI v)).1 = 0 → r = (spInsert S O (nI a) (nI k) (nI v)).2.1)) (fun w' t => wB D cy A w' t) A) ([.ref (B 0), .int (nI a), .int (nI k), .int (nI v)] : List Value).toArray s 0 0 A) (F0 m 140 ls [.int (bI (parL S O a k)), .int (nI (S 0 0)), .ref (B 4)]) := by
                refine r_iast (w' := MW cy B (up2 (up2 (up2 (up2 (up2 S 8 a (S 8 a + 1)) 1 (S 0 0) a) 2 (S 0 0) v) 3 (S 0 0) (S 8 a + 1)) 4 (S 0 0) (parL S O a k)) (up2 T2 0 2 0) Y) hx hb hK hP hD hS (4) rfl (by omega) (by decide) dX2_insert_140 (by rw [show upd (fun j => bI ((up2 (up2 (up2 (up2 S 8 a (S 8 a + 1)) 1 (S 0 0) a) 2 (S 0 0) v) 3 (S 0 0) (S 8 a + 1)) 4 j)) (S 0 0) (bI (parL S O a k)) = fun j => bI ((up2 (up2 (up2 (up2 (up2 S 8 a (S 8 a + 1)) 1 (S 0 0) a) 2 (S 0 0) v) 3 (S 0 0) (S 8 a + 1)) 4 (S 0 0) (parL S O a k)) 4 j) from upd_b (up2 (up2 (up2 (up2 S 8 a (S 8 a + 1)) 1 (S 0 0) a) 2 (S 0 0) v) 3 (S 0 0) (S 8 a + 1)) 4 _ _]; rfl) (fun H locs hP hD hS => ?_)
                refine lv_aload_n hx hb dX2_insert_141 rfl (lv_at hl 0 rfl) ?_
                refine va_get (D := D) (ci := 2) (v := .ref (B 5)) (C := RX2) (T := TX2) (N := 19) hx hb hts hiX2 hown hK hP (0) rfl rfl 5 (by decide) (hts (.fieldLink RX2 22 "CoauthorTextModel" "knows" "[Z") (by decide +kernel)) (fun _ h9 => h9) rfl dX2_insert_142 ?_
                refine lv_iload_n hx hb dX2_insert_145 rfl (lv_at hl 1 rfl) ?_
                refine lv_aload_n hx hb dX2_insert_146 rfl (lv_at hl 0 rfl) ?_
                refine va_get (D := D) (ci := 2) (v := .int (nI (S 0 0))) (C := RX2) (T := TX2) (N := 19) hx hb hts hiX2 hown hK hP (0) rfl rfl 0 (by decide) (hts (.fieldLink RX2 59 "CoauthorTextModel" "signs" "I") (by decide +kernel)) (fun _ h9 => h9) rfl dX2_insert_147 ?_
                refine K_i (va_runS (As := [.int (nI a), .int (nI (S 0 0))]) (rest := [.ref (B 5)]) ⟨hx, hb, hml, hown, hts⟩ (c_X2_at l a (S 0 0) _) (va_cwS 2 hts gX2_insert_X2_at rfl rfl rfl (by decide +kernel) ⟨Nat.le_of_ble_eq_true rfl, Nat.le_of_ble_eq_true rfl⟩) (pS hP hK hD hS hA hX) rfl rfl hl.1 rfl (lv_room (Nat.le_of_ble_eq_true rfl)) dX2_insert_150 ⟨Nat.le_of_ble_eq_true rfl, Nat.le_of_ble_eq_true rfl⟩) hD hS hA (fun r w'  H locs hp hP hD hS => ?_)
                obtain ⟨rfl, hw9⟩ := hp
                rw [hw9] at hP hD
                refine lv_iconst (v := nI 1) hx hb dX2_insert_153 (by decide) ?_
                refine r_zast (w' := MW cy B (up2 (up2 (up2 (up2 (up2 (up2 S 8 a (S 8 a + 1)) 1 (S 0 0) a) 2 (S 0 0) v) 3 (S 0 0) (S 8 a + 1)) 4 (S 0 0) (parL S O a k)) 5 (60 * a + S 0 0) 1) (up2 T2 0 2 0) Y) hx hb hK hP hD hS (5) rfl (by omega) (by decide) dX2_insert_154 rfl (by rw [show upd (fun j => nI ((up2 (up2 (up2 (up2 (up2 S 8 a (S 8 a + 1)) 1 (S 0 0) a) 2 (S 0 0) v) 3 (S 0 0) (S 8 a + 1)) 4 (S 0 0) (parL S O a k)) 5 j)) (60 * a + S 0 0) (nI 1) = fun j => nI ((up2 (up2 (up2 (up2 (up2 (up2 S 8 a (S 8 a + 1)) 1 (S 0 0) a) 2 (S 0 0) v) 3 (S 0 0) (S 8 a + 1)) 4 (S 0 0) (parL S O a k)) 5 (60 * a + S 0 0) 1) 5 j) from upd_n (up2 (up2 (up2 (up2 (up2 S 8 a (S 8 a + 1)) 1 (S 0 0) a) 2 (S 0 0) v) 3 (S 0 0) (S 8 a + 1)) 4 (S 0 0) (parL S O a k)) 5 _ _]; rfl) (fun H locs hP hD hS => ?_)
                refine lv_aload_n hx hb dX2_insert_155 rfl (lv_at hl 0 rfl) ?_
                refine lv_dup hx hb dX2_insert_156 rfl ?_
                refine va_get (D := D) (ci := 2) (v := .int (nI (S 0 0))) (C := RX2) (T := TX2) (N := 19) hx hb hts hiX2 hown hK hP (0) rfl rfl 0 (by decide) (hts (.fieldLink RX2 59 "CoauthorTextModel" "signs" "I") (by decide +kernel)) (fun _ h9 => h9) rfl dX2_insert_157 ?_
                refine lv_iconst (v := nI 1) hx hb dX2_insert_160 (by decide) ?_
                refine r_iadd hx hb dX2_insert_161 ?_
                refine r_put (w' := MW cy B (insS S a (parL S O a k) v) (up2 T2 0 2 0) Y) (own := RX2) (C := RX2) (T := TX2) (N := 19) (ci := 2) (q0 := 0) (k := 0) (index := 59) (ty := .int) hx hb hts hiX2 tyX2_ok nmX2 hown hK hP hD hS rfl rfl (by decide) (by decide +kernel) rfl (by decide +kernel) rfl rfl (Nat.le_of_ble_eq_true rfl) dX2_insert_162 rfl (fun H locs hP hD hS => ?_)
                refine lv_aload_n hx hb dX2_insert_165 rfl (lv_at hl 0 rfl) ?_
                refine va_get (D := D) (ci := 2) (v := .int (nI (S 0 0 + 1))) (C := RX2) (T := TX2) (N := 19) hx hb hts hiX2 hown hK hP (0) rfl rfl 0 (by decide) (hts (.fieldLink RX2 59 "CoauthorTextModel" "signs" "I") (by decide +kernel)) (fun _ h9 => h9) rfl dX2_insert_166 ?_
                refine lv_iconst (v := nI 1) hx hb dX2_insert_169 (by decide) ?_
                refine r_isub hx hb dX2_insert_170 (by omega) ?_
                exact C_iret hx hb hr hlocks hS hP hK hD (Nat.le_of_ble_eq_true rfl) (Nat.le_of_ble_eq_true rfl) dX2_insert_171 (by rw [show spInsert S O (nI a) (nI k) (nI v) = (0, nI (S 0 0), insS S a (parL S O a k) v) from by simp [spInsert, hU, hV, hW, ea, ek, ev, cD]]; exact ⟨_, up2_s _ _ _ _, rfl, fun _ => by rw [Nat.add_sub_cancel]⟩)
              refine r_if_ne (tgt := 132) hx hb dX2_insert_125 (by decide) (by omega) (fun cE => ?_) (fun cE => ?_)
              · refine lv_aload_n hx hb dX2_insert_132 rfl (lv_at hl 0 rfl) ?_
                refine va_get (D := D) (ci := 2) (v := .ref (B 12)) (C := RX2) (T := TX2) (N := 19) hx hb hts hiX2 hown hK hP (0) rfl rfl 14 (by decide) (hts (.fieldLink RX2 45 "CoauthorTextModel" "text" "[I") (by decide +kernel)) (fun _ h9 => h9) rfl dX2_insert_133 ?_
                refine lv_iload_n hx hb dX2_insert_136 rfl (lv_at hl 2 rfl) ?_
                refine lv_iconst (v := nI 1) hx hb dX2_insert_137 (by decide) ?_
                refine r_isub hx hb dX2_insert_138 (by omega) ?_
                refine r_iald hx hb hK hP (12) rfl (by omega) (by decide) dX2_insert_139 ?_
                refine lv_topi (fun y9 ey9 => ?_)
                obtain rfl : y9 = bI (parL S O a k) := ey9.trans (by show nI (T2 1 (k - 1)) = _; rw [txt_at ht (show k - 1 < (txL S O a).length by omega), parL, if_neg (by omega), bI_s])
                exact join
              · subst cE
                refine lv_iconst (v := bI 0) hx hb dX2_insert_128 (by decide) ?_
                refine lv_goto (tgt := 140) hx hb dX2_insert_129 (by decide) ?_
                exact join
            · omega
          · refine lv_iconst (v := nI 3) hx hb dX2_insert_62 (by decide) ?_
            refine lv_goto (tgt := 67) hx hb dX2_insert_63 (by decide) ?_
            refine K_i (va_runV (As := [.int (nI 3)]) (rest := []) ⟨hx, hb, hml, hown, hts⟩ (c_X2_goes l (k := 3) (by decide) _) (cwV 1 hts gX2_insert_X2_goes rfl rfl rfl (by decide +kernel) ⟨Nat.le_of_ble_eq_true rfl, Nat.le_of_ble_eq_true rfl⟩) (pV hP hK hD hS hA hX (va_recv hK hP (ci := 2) (q0 := 0) rfl rfl)) rfl rfl hl.1 rfl (lv_room (Nat.le_of_ble_eq_true rfl)) dX2_insert_67 ⟨Nat.le_of_ble_eq_true rfl, Nat.le_of_ble_eq_true rfl⟩) hD hS hA (fun r w'  H locs hp hP hD hS => ?_)
            obtain ⟨hr9, rfl⟩ := hp
            obtain rfl : r = nI 0 := hr9
            refine r_if_ne (tgt := 75) hx hb dX2_insert_70 (by decide) (by decide) (fun c5 => ?_) (fun c5 => ?_)
            · omega
            · refine lv_iconst (v := nI 0) hx hb dX2_insert_73 (by decide) ?_
              exact C_iret hx hb hr hlocks hS hP hK hD (Nat.le_of_ble_eq_true rfl) (Nat.le_of_ble_eq_true rfl) dX2_insert_74 (by rw [show spInsert S O (nI a) p1 (nI v) = (3, 0, S) from by simp [spInsert, hU, hV, hW, ea, cD]]; exact ⟨_, up2_s _ _ _ _, rfl, fun h => absurd (show (3 : Nat) = 0 from h) (by decide)⟩)
        · have hW : inB p1 0 (nI (txL S O a).length) = false := by rw [← ht.1]; exact bN_0.mp cC
          refine lv_iconst (v := nI 2) hx hb dX2_insert_49 (by decide) ?_
          refine lv_goto (tgt := 67) hx hb dX2_insert_50 (by decide) ?_
          refine K_i (va_runV (As := [.int (nI 2)]) (rest := []) ⟨hx, hb, hml, hown, hts⟩ (c_X2_goes l (k := 2) (by decide) _) (cwV 1 hts gX2_insert_X2_goes rfl rfl rfl (by decide +kernel) ⟨Nat.le_of_ble_eq_true rfl, Nat.le_of_ble_eq_true rfl⟩) (pV hP hK hD hS hA hX (va_recv hK hP (ci := 2) (q0 := 0) rfl rfl)) rfl rfl hl.1 rfl (lv_room (Nat.le_of_ble_eq_true rfl)) dX2_insert_67 ⟨Nat.le_of_ble_eq_true rfl, Nat.le_of_ble_eq_true rfl⟩) hD hS hA (fun r w'  H locs hp hP hD hS => ?_)
          obtain ⟨hr9, rfl⟩ := hp
          obtain rfl : r = nI 0 := hr9
          refine r_if_ne (tgt := 75) hx hb dX2_insert_70 (by decide) (by decide) (fun c6 => ?_) (fun c6 => ?_)
          · omega
          · refine lv_iconst (v := nI 0) hx hb dX2_insert_73 (by decide) ?_
            exact C_iret hx hb hr hlocks hS hP hK hD (Nat.le_of_ble_eq_true rfl) (Nat.le_of_ble_eq_true rfl) dX2_insert_74 (by rw [show spInsert S O (nI a) p1 (nI v) = (2, 0, S) from by simp [spInsert, hU, hV, hW, ea]]; exact ⟨_, up2_s _ _ _ _, rfl, fun h => absurd (show (2 : Nat) = 0 from h) (by decide)⟩)
      · omega

set_option maxHeartbeats 4000000 in
set_option maxRecDepth 100000 in
theorem c_X2_remove (l : Launch) {D : va_G} {cy : Nat → ClassId} {B : Nat → Nat} {S T : Nat → Nat → Nat} {Y : va_W} {O : List Nat} (hI : Inv S O) (p0 p1 : Int32) : CI l yX2_remove wsX2_remove ({ frames := 4, cells := 0, slots := 0, locals := 82 } : Room) D cy [.ref (B 0), .int p0, .int p1] (MW cy B S T Y) (fun r w' => ∃ T' : Nat → Nat → Nat, T' 0 2 = (spRemove S O p0 p1).1 ∧ w' = MW cy B (spRemove S O p0 p1).2.2 T' Y ∧ ((spRemove S O p0 p1).1 = 0 → r = (spRemove S O p0 p1).2.1)) 0 0 := by
  refine CI.of (cc := cX2_remove) (maxL := 4) (ret := (some .int)) (by decide) rfl (Nat.le_of_ble_eq_true rfl) ?_
  intro p e s m below meth c A ls E0 hl
  obtain ⟨hx, hb, hml, hown, hts, hr, hlocks, hA, hS, hP, hK, hD, hX⟩ := E0
  have hiX2 : ∀ w ∈ u_ws RX2 TX2 19, w ∈ wsX2_remove := by decide +kernel
  have hl : lv_has ls 4 [(0, .ref (B 0)), (1, .int p0), (2, .int p1)] := hl
  refine lv_aload_n hx hb dX2_remove_0 rfl (lv_at hl 0 rfl) ?_
  refine lv_iload_n hx hb dX2_remove_1 rfl (lv_at hl 1 rfl) ?_
  refine K_i (va_runS (As := [.int p0]) (rest := [.ref (B 0)]) ⟨hx, hb, hml, hown, hts⟩ (c_X2_isAuthor l p0 _) (va_cwS 1 hts gX2_remove_X2_isAuthor rfl rfl rfl (by decide +kernel) ⟨Nat.le_of_ble_eq_true rfl, Nat.le_of_ble_eq_true rfl⟩) (pS hP hK hD hS hA hX) rfl rfl hl.1 rfl (lv_room (Nat.le_of_ble_eq_true rfl)) dX2_remove_2 ⟨Nat.le_of_ble_eq_true rfl, Nat.le_of_ble_eq_true rfl⟩) hD hS hA (fun r w'  H locs hp hP hD hS => ?_)
  obtain ⟨rfl, hw9⟩ := hp
  rw [hw9] at hP hD
  refine r_if_eq (tgt := 12) hx hb dX2_remove_5 (by decide) (Nat.lt_trans (bN_lt _) (by decide)) (fun cA => ?_) (fun cA => ?_)
  · have hU := bN_0.mp cA
    refine lv_iconst (v := nI 1) hx hb dX2_remove_12 (by decide) ?_
    refine K_i (va_runV (As := [.int (nI 1)]) (rest := []) ⟨hx, hb, hml, hown, hts⟩ (c_X2_goes l (k := 1) (by decide) _) (cwV 1 hts gX2_remove_X2_goes rfl rfl rfl (by decide +kernel) ⟨Nat.le_of_ble_eq_true rfl, Nat.le_of_ble_eq_true rfl⟩) (pV hP hK hD hS hA hX (va_recv hK hP (ci := 2) (q0 := 0) rfl rfl)) rfl rfl hl.1 rfl (lv_room (Nat.le_of_ble_eq_true rfl)) dX2_remove_13 ⟨Nat.le_of_ble_eq_true rfl, Nat.le_of_ble_eq_true rfl⟩) hD hS hA (fun r w'  H locs hp hP hD hS => ?_)
    obtain ⟨hr9, rfl⟩ := hp
    obtain rfl : r = nI 0 := hr9
    refine r_if_ne (tgt := 21) hx hb dX2_remove_16 (by decide) (by decide) (fun c1 => ?_) (fun c1 => ?_)
    · omega
    · refine lv_iconst (v := nI 0) hx hb dX2_remove_19 (by decide) ?_
      exact C_iret hx hb hr hlocks hS hP hK hD (Nat.le_of_ble_eq_true rfl) (Nat.le_of_ble_eq_true rfl) dX2_remove_20 (by rw [show spRemove S O p0 p1 = (1, 0, S) from by simp [spRemove, hU]]; exact ⟨_, up2_s _ _ _ _, rfl, fun h => absurd (show (1 : Nat) = 0 from h) (by decide)⟩)
  · have hU := bN_1.mp cA
    refine lv_iconst (v := nI 0) hx hb dX2_remove_8 (by decide) ?_
    refine lv_goto (tgt := 13) hx hb dX2_remove_9 (by decide) ?_
    refine K_i (va_runV (As := [.int (nI 0)]) (rest := []) ⟨hx, hb, hml, hown, hts⟩ (c_X2_goes l (k := 0) (by decide) _) (cwV 1 hts gX2_remove_X2_goes rfl rfl rfl (by decide +kernel) ⟨Nat.le_of_ble_eq_true rfl, Nat.le_of_ble_eq_true rfl⟩) (pV hP hK hD hS hA hX (va_recv hK hP (ci := 2) (q0 := 0) rfl rfl)) rfl rfl hl.1 rfl (lv_room (Nat.le_of_ble_eq_true rfl)) dX2_remove_13 ⟨Nat.le_of_ble_eq_true rfl, Nat.le_of_ble_eq_true rfl⟩) hD hS hA (fun r w'  H locs hp hP hD hS => ?_)
    obtain ⟨hr9, rfl⟩ := hp
    obtain rfl : r = nI 1 := hr9
    refine r_if_ne (tgt := 21) hx hb dX2_remove_16 (by decide) (by decide) (fun c2 => ?_) (fun c2 => ?_)
    · obtain ⟨a, ha, rfl⟩ := isA_n hU
      have hn60 := hI.R.1
      have hl60 := hI.len a
      have ea := aN_n (show a < 2 ^ 31 by omega)
      refine lv_aload_n hx hb dX2_remove_21 rfl (lv_at hl 0 rfl) ?_
      refine lv_iload_n hx hb dX2_remove_22 rfl (lv_at hl 1 rfl) ?_
      refine K_v (va_runV (As := [.int (nI a)]) (rest := []) ⟨hx, hb, hml, hown, hts⟩ (c_X2_laysText l hI.R hI.g (a := a) ha (hI.lay ha) _) (cwV 1 hts gX2_remove_X2_laysText rfl rfl rfl (by decide +kernel) ⟨Nat.le_of_ble_eq_true rfl, Nat.le_of_ble_eq_true rfl⟩) (pV hP hK hD hS hA hX (va_recv hK hP (ci := 2) (q0 := 0) rfl rfl)) rfl rfl hl.1 rfl (lv_room (Nat.le_of_ble_eq_true rfl)) dX2_remove_23 ⟨Nat.le_of_ble_eq_true rfl, Nat.le_of_ble_eq_true rfl⟩) hD hS hA (fun w'  H locs hp hP hD hS => ?_)
      obtain ⟨T2, rfl, h2, ht⟩ := hp
      rw [lay_txt] at ht
      refine lv_aload_n hx hb dX2_remove_26 rfl (lv_at hl 0 rfl) ?_
      refine lv_iload_n hx hb dX2_remove_27 rfl (lv_at hl 2 rfl) ?_
      refine lv_iconst (v := nI 0) hx hb dX2_remove_28 (by decide) ?_
      refine lv_aload_n hx hb dX2_remove_29 rfl (lv_at hl 0 rfl) ?_
      refine va_get (D := D) (ci := 2) (v := .int (nI (T2 0 0))) (C := RX2) (T := TX2) (N := 19) hx hb hts hiX2 hown hK hP (0) rfl rfl 16 (by decide) (hts (.fieldLink RX2 76 "CoauthorTextModel" "length" "I") (by decide +kernel)) (fun _ h9 => h9) rfl dX2_remove_30 ?_
      refine lv_iconst (v := nI 1) hx hb dX2_remove_33 (by decide) ?_
      refine lv_isub hx hb dX2_remove_34 ?_
      refine K_i (va_runS (As := [.int p1, .int (nI 0), .int (bI (T2 0 0))]) (rest := [.ref (B 0)]) ⟨hx, hb, hml, hown, hts⟩ (c_X2_isIn l p1 (nI 0) (bI (T2 0 0)) _) (va_cwS 3 hts gX2_remove_X2_isIn rfl rfl rfl (by decide +kernel) ⟨Nat.le_of_ble_eq_true rfl, Nat.le_of_ble_eq_true rfl⟩) (pS hP hK hD hS hA hX) rfl rfl hl.1 rfl (lv_room (Nat.le_of_ble_eq_true rfl)) dX2_remove_35 ⟨Nat.le_of_ble_eq_true rfl, Nat.le_of_ble_eq_true rfl⟩) hD hS hA (fun r w'  H locs hp hP hD hS => ?_)
      obtain ⟨rfl, hw9⟩ := hp
      rw [hw9] at hP hD
      refine r_if_eq (tgt := 45) hx hb dX2_remove_38 (by decide) (Nat.lt_trans (bN_lt _) (by decide)) (fun cB => ?_) (fun cB => ?_)
      · have hV : inS p1 (txL S O a).length = false := by rw [← ht.1]; exact bN_0.mp cB
        refine lv_iconst (v := nI 2) hx hb dX2_remove_45 (by decide) ?_
        refine K_i (va_runV (As := [.int (nI 2)]) (rest := []) ⟨hx, hb, hml, hown, hts⟩ (c_X2_goes l (k := 2) (by decide) _) (cwV 1 hts gX2_remove_X2_goes rfl rfl rfl (by decide +kernel) ⟨Nat.le_of_ble_eq_true rfl, Nat.le_of_ble_eq_true rfl⟩) (pV hP hK hD hS hA hX (va_recv hK hP (ci := 2) (q0 := 0) rfl rfl)) rfl rfl hl.1 rfl (lv_room (Nat.le_of_ble_eq_true rfl)) dX2_remove_46 ⟨Nat.le_of_ble_eq_true rfl, Nat.le_of_ble_eq_true rfl⟩) hD hS hA (fun r w'  H locs hp hP hD hS => ?_)
        obtain ⟨hr9, rfl⟩ := hp
        obtain rfl : r = nI 0 := hr9
        refine r_if_ne (tgt := 54) hx hb dX2_remove_49 (by decide) (by decide) (fun c3 => ?_) (fun c3 => ?_)
        · omega
        · refine lv_iconst (v := nI 0) hx hb dX2_remove_52 (by decide) ?_
          exact C_iret hx hb hr hlocks hS hP hK hD (Nat.le_of_ble_eq_true rfl) (Nat.le_of_ble_eq_true rfl) dX2_remove_53 (by rw [show spRemove S O (nI a) p1 = (2, 0, S) from by simp [spRemove, hU, hV, ea]]; exact ⟨_, up2_s _ _ _ _, rfl, fun h => absurd (show (2 : Nat) = 0 from h) (by decide)⟩)
      · have hV : inS p1 (txL S O a).length = true := by rw [← ht.1]; exact bN_1.mp cB
        refine lv_iconst (v := nI 0) hx hb dX2_remove_41 (by decide) ?_
        refine lv_goto (tgt := 46) hx hb dX2_remove_42 (by decide) ?_
        refine K_i (va_runV (As := [.int (nI 0)]) (rest := []) ⟨hx, hb, hml, hown, hts⟩ (c_X2_goes l (k := 0) (by decide) _) (cwV 1 hts gX2_remove_X2_goes rfl rfl rfl (by decide +kernel) ⟨Nat.le_of_ble_eq_true rfl, Nat.le_of_ble_eq_true rfl⟩) (pV hP hK hD hS hA hX (va_recv hK hP (ci := 2) (q0 := 0) rfl rfl)) rfl rfl hl.1 rfl (lv_room (Nat.le_of_ble_eq_true rfl)) dX2_remove_46 ⟨Nat.le_of_ble_eq_true rfl, Nat.le_of_ble_eq_true rfl⟩) hD hS hA (fun r w'  H locs hp hP hD hS => ?_)
        obtain ⟨hr9, rfl⟩ := hp
        obtain rfl : r = nI 1 := hr9
        refine r_if_ne (tgt := 54) hx hb dX2_remove_49 (by decide) (by decide) (fun c4 => ?_) (fun c4 => ?_)
        · obtain ⟨k, hk, rfl⟩ := inS_n (by omega) hV
          have ek := aN_n (show k < 2 ^ 31 by omega)
          obtain ⟨i, ei⟩ : ∃ i, (txL S O a).getD k 0 = i := ⟨_, rfl⟩
          have hm := txL_mem hI (getD_mem hk)
          rw [ei] at hm
          refine lv_aload_n hx hb dX2_remove_54 rfl (lv_at hl 0 rfl) ?_
          refine va_get (D := D) (ci := 2) (v := .ref (B 12)) (C := RX2) (T := TX2) (N := 19) hx hb hts hiX2 hown hK hP (0) rfl rfl 14 (by decide) (hts (.fieldLink RX2 45 "CoauthorTextModel" "text" "[I") (by decide +kernel)) (fun _ h9 => h9) rfl dX2_remove_55 ?_
          refine lv_iload_n hx hb dX2_remove_58 rfl (lv_at hl 2 rfl) ?_
          refine r_iald hx hb hK hP (12) rfl (by omega) (by decide) dX2_remove_59 ?_
          refine lv_topi (fun y9 ey9 => ?_)
          obtain rfl : y9 = nI i := ey9.trans (by show nI (T2 1 k) = _; rw [txt_at ht hk, ei])
          refine lv_istore_n (lv' := [(3, .int (nI i)), (0, .ref (B 0)), (1, .int (nI a)), (2, .int (nI k))]) hx hb dX2_remove_60 rfl hl (by decide) rfl (fun ls hl => ?_)
          refine lv_aload_n hx hb dX2_remove_61 rfl (lv_at hl 1 rfl) ?_
          refine va_get (D := D) (ci := 2) (v := .ref (B 6)) (C := RX2) (T := TX2) (N := 19) hx hb hts hiX2 hown hK hP (0) rfl rfl 6 (by decide) (hts (.fieldLink RX2 26 "CoauthorTextModel" "isRemoved" "[Z") (by decide +kernel)) (fun _ h9 => h9) rfl dX2_remove_62 ?_
          refine lv_iload_n hx hb dX2_remove_65 rfl (lv_at hl 2 rfl) ?_
          refine lv_iload_n hx hb dX2_remove_66 rfl (lv_at hl 0 rfl) ?_
          refine K_i (va_runS (As := [.int (nI a), .int (nI i)]) (rest := [.ref (B 6)]) ⟨hx, hb, hml, hown, hts⟩ (c_X2_at l a i _) (va_cwS 2 hts gX2_remove_X2_at rfl rfl rfl (by decide +kernel) ⟨Nat.le_of_ble_eq_true rfl, Nat.le_of_ble_eq_true rfl⟩) (pS hP hK hD hS hA hX) rfl rfl hl.1 rfl (lv_room (Nat.le_of_ble_eq_true rfl)) dX2_remove_67 ⟨Nat.le_of_ble_eq_true rfl, Nat.le_of_ble_eq_true rfl⟩) hD hS hA (fun r w'  H locs hp hP hD hS => ?_)
          obtain ⟨rfl, hw9⟩ := hp
          rw [hw9] at hP hD
          refine lv_iconst (v := nI 1) hx hb dX2_remove_70 (by decide) ?_
          refine r_zast (w' := MW cy B (up2 S 6 (60 * a + i) 1) (up2 T2 0 2 0) Y) hx hb hK hP hD hS (6) rfl (by omega) (by decide) dX2_remove_71 rfl (by rw [show upd (fun j => nI (S 6 j)) (60 * a + i) (nI 1) = fun j => nI ((up2 S 6 (60 * a + i) 1) 6 j) from upd_n S 6 _ _]; rfl) (fun H locs hP hD hS => ?_)
          refine lv_aload_n hx hb dX2_remove_72 rfl (lv_at hl 1 rfl) ?_
          refine va_get (D := D) (ci := 2) (v := .ref (B 7)) (C := RX2) (T := TX2) (N := 19) hx hb hts hiX2 hown hK hP (0) rfl rfl 7 (by decide) (hts (.fieldLink RX2 29 "CoauthorTextModel" "stamps" "[I") (by decide +kernel)) (fun _ h9 => h9) rfl dX2_remove_73 ?_
          refine lv_iload_n hx hb dX2_remove_76 rfl (lv_at hl 2 rfl) ?_
          refine lv_iload_n hx hb dX2_remove_77 rfl (lv_at hl 0 rfl) ?_
          refine K_i (va_runS (As := [.int (nI a), .int (nI i)]) (rest := [.ref (B 7)]) ⟨hx, hb, hml, hown, hts⟩ (c_X2_at l a i _) (va_cwS 2 hts gX2_remove_X2_at rfl rfl rfl (by decide +kernel) ⟨Nat.le_of_ble_eq_true rfl, Nat.le_of_ble_eq_true rfl⟩) (pS hP hK hD hS hA hX) rfl rfl hl.1 rfl (lv_room (Nat.le_of_ble_eq_true rfl)) dX2_remove_78 ⟨Nat.le_of_ble_eq_true rfl, Nat.le_of_ble_eq_true rfl⟩) hD hS hA (fun r w'  H locs hp hP hD hS => ?_)
          obtain ⟨rfl, hw9⟩ := hp
          rw [hw9] at hP hD
          refine lv_aload_n hx hb dX2_remove_81 rfl (lv_at hl 1 rfl) ?_
          refine lv_iload_n hx hb dX2_remove_82 rfl (lv_at hl 2 rfl) ?_
          refine K_i (va_runV (As := [.int (nI a)]) (rest := [.int (nI (60 * a + i)), .ref (B 7)]) ⟨hx, hb, hml, hown, hts⟩ (c_X2_stamp l ha _) (cwV 1 hts gX2_remove_X2_stamp rfl rfl rfl (by decide +kernel) ⟨Nat.le_of_ble_eq_true rfl, Nat.le_of_ble_eq_true rfl⟩) (pV hP hK hD hS hA hX (va_recv hK hP (ci := 2) (q0 := 0) rfl rfl)) rfl rfl hl.1 rfl (lv_room (Nat.le_of_ble_eq_true rfl)) dX2_remove_83 ⟨Nat.le_of_ble_eq_true rfl, Nat.le_of_ble_eq_true rfl⟩) hD hS hA (fun r w'  H locs hp hP hD hS => ?_)
          obtain ⟨hr9, hw9⟩ := hp
          obtain rfl : r = nI (4 * (S 8 a + 1) + a) := hr9
          obtain rfl : w' = MW cy B (up2 (up2 S 6 (60 * a + i) 1) 8 a (S 8 a + 1)) (up2 T2 0 2 0) Y := hw9
          refine r_iast (w' := MW cy B (up2 (up2 (up2 S 6 (60 * a + i) 1) 8 a (S 8 a + 1)) 7 (60 * a + i) (4 * (S 8 a + 1) + a)) (up2 T2 0 2 0) Y) hx hb hK hP hD hS (7) rfl (by omega) (by decide) dX2_remove_86 (by rw [show upd (fun j => nI ((up2 (up2 S 6 (60 * a + i) 1) 8 a (S 8 a + 1)) 7 j)) (60 * a + i) (nI (4 * (S 8 a + 1) + a)) = fun j => nI ((up2 (up2 (up2 S 6 (60 * a + i) 1) 8 a (S 8 a + 1)) 7 (60 * a + i) (4 * (S 8 a + 1) + a)) 7 j) from upd_n (up2 (up2 S 6 (60 * a + i) 1) 8 a (S 8 a + 1)) 7 _ _]; rfl) (fun H locs hP hD hS => ?_)
          refine lv_iload_n hx hb dX2_remove_87 rfl (lv_at hl 0 rfl) ?_
          exact C_iret hx hb hr hlocks hS hP hK hD (Nat.le_of_ble_eq_true rfl) (Nat.le_of_ble_eq_true rfl) dX2_remove_88 (by rw [show spRemove S O (nI a) (nI k) = (0, nI i, setS S a i 1) from by simp only [spRemove, hU, hV, ea, ek, ei, Bool.true_eq_false, if_false]]; exact ⟨_, up2_s _ _ _ _, rfl, fun _ => rfl⟩)
        · omega
    · omega

set_option maxHeartbeats 4000000 in
set_option maxRecDepth 100000 in
theorem c_X2_placeOf (l : Launch) {D : va_G} {cy : Nat → ClassId} {B : Nat → Nat} {S T : Nat → Nat → Nat} {Y : va_W} {L : List Nat} {i : Nat} (ht : txtP T L) (hn : L.Nodup) (hi : i ∈ L) (hlen : L.length ≤ 60) (hb60 : ∀ x, x ∈ L → x < 60) : CI l yX2_placeOf wsX2_placeOf ({ frames := 1, cells := 0, slots := 0, locals := 12 } : Room) D cy [.ref (B 0), .int (nI i)] (MW cy B S T Y) (fun r w' => r = nI (posL L i) ∧ w' = MW cy B S T Y) 0 0 := by
  refine CI.of (cc := cX2_placeOf) (maxL := 4) (ret := (some .int)) (by decide) rfl (Nat.le_of_ble_eq_true rfl) ?_
  intro p e s m below meth c A ls E0 hl
  obtain ⟨hx, hb, hml, hown, hts, hr, hlocks, hA, hS, hP, hK, hD, hX⟩ := E0
  have hiX2 : ∀ w ∈ u_ws RX2 TX2 19, w ∈ wsX2_placeOf := by decide +kernel
  have hl : lv_has ls 4 [(0, .ref (B 0)), (1, .int (nI i))] := hl
  refine lv_iconst (v := bI 0) hx hb dX2_placeOf_0 (by decide) ?_
  refine lv_istore_n (lv' := [(2, .int (bI 0)), (0, .ref (B 0)), (1, .int (nI i))]) hx hb dX2_placeOf_1 rfl hl (by decide) rfl (fun ls hl => ?_)
  refine lv_iconst (v := nI 0) hx hb dX2_placeOf_2 (by decide) ?_
  refine lv_istore_n (lv' := [(3, .int (nI 0)), (2, .int (bI 0)), (0, .ref (B 0)), (1, .int (nI i))]) hx hb dX2_placeOf_3 rfl hl (by decide) rfl (fun ls hl => ?_)
  have hpos := posL_at hi
  have hi60 := hb60 i hi
  have loop : ∀ (q j f : Nat) (ls : Array Slot), j + q = L.length + 1 → j ≤ L.length → ((j ≤ posL L i ∧ f = 0) ∨ (posL L i < j ∧ f = posL L i + 1)) → lv_has ls 4 [(3, .int (nI j)), (2, .int (bI f)), (0, .ref (B 0)), (1, .int (nI i))] → W p l e ({ frames := 1, cells := 0, slots := 0, locals := 12 } : Room) s m ([.ref (B 0), .int (nI i)] : List Value).toArray below meth c s.heap [] 0 0 (MQ below (va_Qi (fun r w' => r = nI (posL L i) ∧ w' = MW cy B S T Y) (fun w' t => wB D cy A w' t) A) ([.ref (B 0), .int (nI i)] : List Value).toArray s 0 0 A) (F0 m 4 ls []) := by
    intro q
    induction q with
    | zero => intro j f ls hq; omega
    | succ q ih =>
      intro j f ls hq hj hf hl
      have htl := ht.1
      refine lv_iload_n hx hb dX2_placeOf_4 rfl (lv_at hl 0 rfl) ?_
      refine lv_aload_n hx hb dX2_placeOf_5 rfl (lv_at hl 2 rfl) ?_
      refine va_get (D := D) (ci := 2) (v := .int (nI (T 0 0))) (C := RX2) (T := TX2) (N := 19) hx hb hts hiX2 hown hK hP (0) rfl rfl 16 (by decide) (hts (.fieldLink RX2 76 "CoauthorTextModel" "length" "I") (by decide +kernel)) (fun _ h9 => h9) rfl dX2_placeOf_6 ?_
      refine r_icmp_ge (tgt := 34) hx hb dX2_placeOf_9 (by decide) (by omega) (by rw [htl]; omega) (fun c1 => ?_) (fun c1 => ?_)
      · refine lv_iload_n hx hb dX2_placeOf_34 rfl (lv_at hl 1 rfl) ?_
        have ef : f = posL L i + 1 := by omega
        exact C_iret hx hb hr hlocks hS hP hK hD (Nat.le_of_ble_eq_true rfl) (Nat.le_of_ble_eq_true rfl) dX2_placeOf_35 ⟨by rw [ef, bI_s], rfl⟩
      · have hjl : j < L.length := by omega
        have ej := txt_at ht hjl
        have hj60 := hb60 _ (getD_mem hjl)
        refine lv_aload_n hx hb dX2_placeOf_12 rfl (lv_at hl 2 rfl) ?_
        refine va_get (D := D) (ci := 2) (v := .ref (B 12)) (C := RX2) (T := TX2) (N := 19) hx hb hts hiX2 hown hK hP (0) rfl rfl 14 (by decide) (hts (.fieldLink RX2 45 "CoauthorTextModel" "text" "[I") (by decide +kernel)) (fun _ h9 => h9) rfl dX2_placeOf_13 ?_
        refine lv_iload_n hx hb dX2_placeOf_16 rfl (lv_at hl 0 rfl) ?_
        refine r_iald hx hb hK hP (12) rfl (by omega) (by decide) dX2_placeOf_17 ?_
        refine lv_iload_n hx hb dX2_placeOf_18 rfl (lv_at hl 3 rfl) ?_
        refine r_icmp_ne (tgt := 26) hx hb dX2_placeOf_19 (by decide) (by rw [ej]; omega) (by omega) (fun cE => ?_) (fun cE => ?_)
        · refine lv_iload_n hx hb dX2_placeOf_26 rfl (lv_at hl 1 rfl) ?_
          refine lv_istore_n (lv' := [(2, .int (bI f)), (3, .int (nI j)), (0, .ref (B 0)), (1, .int (nI i))]) hx hb dX2_placeOf_27 rfl hl (by decide) rfl (fun ls hl => ?_)
          refine lv_iinc (v := nI (j + 1)) (lv' := [(3, .int (nI (j + 1))), (2, .int (bI f)), (0, .ref (B 0)), (1, .int (nI i))]) hx hb dX2_placeOf_28 hl (k := 1) rfl (nI_inc _) (by decide) rfl (fun ls hl => ?_)
          refine lv_goto (tgt := 4) hx hb dX2_placeOf_31 (by decide) ?_
          have hne : j ≠ posL L i := fun e => cE (by rw [ej, getD_lt hjl]; have h9 := hpos.2; rw [← e, List.getElem?_eq_getElem hjl] at h9; exact Option.some.inj h9)
          have hf2 : (j + 1 ≤ posL L i ∧ f = 0) ∨ (posL L i < j + 1 ∧ f = posL L i + 1) := by omega
          exact ih (j + 1) f ls (by omega) (by omega) hf2 (lv_sub hl [0, 1, 2, 3] rfl)
        · have epos : j = posL L i := posL_eq hn (by rw [List.getElem?_eq_getElem hjl, ← getD_lt hjl, ← ej, cE])
          refine lv_iload_n hx hb dX2_placeOf_22 rfl (lv_at hl 0 rfl) ?_
          refine lv_goto (tgt := 27) hx hb dX2_placeOf_23 (by decide) ?_
          refine lv_istore_n (lv' := [(2, .int (nI j)), (3, .int (nI j)), (0, .ref (B 0)), (1, .int (nI i))]) hx hb dX2_placeOf_27 rfl hl (by decide) rfl (fun ls hl => ?_)
          refine lv_iinc (v := nI (j + 1)) (lv' := [(3, .int (nI (j + 1))), (2, .int (nI j)), (0, .ref (B 0)), (1, .int (nI i))]) hx hb dX2_placeOf_28 hl (k := 1) rfl (nI_inc _) (by decide) rfl (fun ls hl => ?_)
          refine lv_goto (tgt := 4) hx hb dX2_placeOf_31 (by decide) ?_
          rw [← bI_s j] at hl
          exact ih (j + 1) (j + 1) ls (by omega) (by omega) (Or.inr ⟨by omega, by omega⟩) (lv_sub hl [0, 1, 2, 3] rfl)
  exact loop (L.length + 1) 0 0 ls (by omega) (Nat.zero_le _) (Or.inl ⟨Nat.zero_le _, rfl⟩) (lv_sub hl [0, 1, 2, 3] rfl)

set_option maxHeartbeats 4000000 in
set_option maxRecDepth 100000 in
theorem c_X2_restore (l : Launch) {D : va_G} {cy : Nat → ClassId} {B : Nat → Nat} {S T : Nat → Nat → Nat} {Y : va_W} {O : List Nat} (hI : Inv S O) (hF : Few S) (p0 p1 : Int32) : CI l yX2_restore wsX2_restore ({ frames := 4, cells := 0, slots := 0, locals := 82 } : Room) D cy [.ref (B 0), .int p0, .int p1] (MW cy B S T Y) (fun r w' => ∃ T' : Nat → Nat → Nat, T' 0 2 = (spRestore S O p0 p1).1 ∧ w' = MW cy B (spRestore S O p0 p1).2.2 T' Y ∧ ((spRestore S O p0 p1).1 = 0 → r = (spRestore S O p0 p1).2.1)) 0 0 := by
  refine CI.of (cc := cX2_restore) (maxL := 3) (ret := (some .int)) (by decide) rfl (Nat.le_of_ble_eq_true rfl) ?_
  intro p e s m below meth c A ls E0 hl
  obtain ⟨hx, hb, hml, hown, hts, hr, hlocks, hA, hS, hP, hK, hD, hX⟩ := E0
  have hiX2 : ∀ w ∈ u_ws RX2 TX2 19, w ∈ wsX2_restore := by decide +kernel
  have hl : lv_has ls 3 [(0, .ref (B 0)), (1, .int p0), (2, .int p1)] := hl
  refine lv_aload_n hx hb dX2_restore_0 rfl (lv_at hl 0 rfl) ?_
  refine lv_aload_n hx hb dX2_restore_1 rfl (lv_at hl 0 rfl) ?_
  refine lv_iload_n hx hb dX2_restore_2 rfl (lv_at hl 2 rfl) ?_
  refine K_i (va_runV (As := [.int p1]) (rest := [.ref (B 0)]) ⟨hx, hb, hml, hown, hts⟩ (c_X2_isSign l p1 _) (cwV 1 hts gX2_restore_X2_isSign rfl rfl rfl (by decide +kernel) ⟨Nat.le_of_ble_eq_true rfl, Nat.le_of_ble_eq_true rfl⟩) (pV hP hK hD hS hA hX (va_recv hK hP (ci := 2) (q0 := 0) rfl rfl)) rfl rfl hl.1 rfl (lv_room (Nat.le_of_ble_eq_true rfl)) dX2_restore_3 ⟨Nat.le_of_ble_eq_true rfl, Nat.le_of_ble_eq_true rfl⟩) hD hS hA (fun r w'  H locs hp hP hD hS => ?_)
  obtain ⟨rfl, rfl⟩ := hp
  refine r_if_ne (tgt := 13) hx hb dX2_restore_6 (by decide) (Nat.lt_trans (bN_lt _) (by decide)) (fun cA => ?_) (fun cA => ?_)
  · have hV := bN_1.mp cA
    refine lv_iload_n hx hb dX2_restore_13 rfl (lv_at hl 1 rfl) ?_
    refine K_i (va_runS (As := [.int p0]) (rest := [.ref (B 0)]) ⟨hx, hb, hml, hown, hts⟩ (c_X2_isAuthor l p0 _) (va_cwS 1 hts gX2_restore_X2_isAuthor rfl rfl rfl (by decide +kernel) ⟨Nat.le_of_ble_eq_true rfl, Nat.le_of_ble_eq_true rfl⟩) (pS hP hK hD hS hA hX) rfl rfl hl.1 rfl (lv_room (Nat.le_of_ble_eq_true rfl)) dX2_restore_14 ⟨Nat.le_of_ble_eq_true rfl, Nat.le_of_ble_eq_true rfl⟩) hD hS hA (fun r w'  H locs hp hP hD hS => ?_)
    obtain ⟨rfl, hw9⟩ := hp
    rw [hw9] at hP hD
    refine r_if_ne (tgt := 24) hx hb dX2_restore_17 (by decide) (Nat.lt_trans (bN_lt _) (by decide)) (fun cB => ?_) (fun cB => ?_)
    · have hU := bN_1.mp cB
      have hn60 := hI.R.1
      obtain ⟨i, hi, rfl⟩ := inS_n (by omega) hV
      obtain ⟨a, ha, rfl⟩ := isA_n hU
      have ea := aN_n (show a < 2 ^ 31 by omega)
      have ei := aN_n (show i < 2 ^ 31 by omega)
      have h5 := hI.R.2.2.2.2.2.2.2.1 (60 * a + i)
      have h6 := hI.R.2.2.2.2.2.2.2.2.1 (60 * a + i)
      refine lv_aload_n hx hb dX2_restore_24 rfl (lv_at hl 0 rfl) ?_
      refine va_get (D := D) (ci := 2) (v := .ref (B 5)) (C := RX2) (T := TX2) (N := 19) hx hb hts hiX2 hown hK hP (0) rfl rfl 5 (by decide) (hts (.fieldLink RX2 22 "CoauthorTextModel" "knows" "[Z") (by decide +kernel)) (fun _ h9 => h9) rfl dX2_restore_25 ?_
      refine lv_iload_n hx hb dX2_restore_28 rfl (lv_at hl 1 rfl) ?_
      refine lv_iload_n hx hb dX2_restore_29 rfl (lv_at hl 2 rfl) ?_
      refine K_i (va_runS (As := [.int (nI a), .int (nI i)]) (rest := [.ref (B 5), .ref (B 0)]) ⟨hx, hb, hml, hown, hts⟩ (c_X2_at l a i _) (va_cwS 2 hts gX2_restore_X2_at rfl rfl rfl (by decide +kernel) ⟨Nat.le_of_ble_eq_true rfl, Nat.le_of_ble_eq_true rfl⟩) (pS hP hK hD hS hA hX) rfl rfl hl.1 rfl (lv_room (Nat.le_of_ble_eq_true rfl)) dX2_restore_30 ⟨Nat.le_of_ble_eq_true rfl, Nat.le_of_ble_eq_true rfl⟩) hD hS hA (fun r w'  H locs hp hP hD hS => ?_)
      obtain ⟨rfl, hw9⟩ := hp
      rw [hw9] at hP hD
      refine r_zald hx hb hK hP (5) rfl (by omega) (by decide) dX2_restore_33 ?_
      refine r_if_eq (tgt := 54) hx hb dX2_restore_34 (by decide) (by omega) (fun cC => ?_) (fun cC => ?_)
      · refine lv_iconst (v := nI 3) hx hb dX2_restore_54 (by decide) ?_
        refine K_i (va_runV (As := [.int (nI 3)]) (rest := []) ⟨hx, hb, hml, hown, hts⟩ (c_X2_goes l (k := 3) (by decide) _) (cwV 1 hts gX2_restore_X2_goes rfl rfl rfl (by decide +kernel) ⟨Nat.le_of_ble_eq_true rfl, Nat.le_of_ble_eq_true rfl⟩) (pV hP hK hD hS hA hX (va_recv hK hP (ci := 2) (q0 := 0) rfl rfl)) rfl rfl hl.1 rfl (lv_room (Nat.le_of_ble_eq_true rfl)) dX2_restore_55 ⟨Nat.le_of_ble_eq_true rfl, Nat.le_of_ble_eq_true rfl⟩) hD hS hA (fun r w'  H locs hp hP hD hS => ?_)
        obtain ⟨hr9, rfl⟩ := hp
        obtain rfl : r = nI 0 := hr9
        refine r_if_ne (tgt := 63) hx hb dX2_restore_58 (by decide) (by decide) (fun c1 => ?_) (fun c1 => ?_)
        · omega
        · refine lv_iconst (v := nI 0) hx hb dX2_restore_61 (by decide) ?_
          exact C_iret hx hb hr hlocks hS hP hK hD (Nat.le_of_ble_eq_true rfl) (Nat.le_of_ble_eq_true rfl) dX2_restore_62 (by rw [show spRestore S O (nI a) (nI i) = (3, 0, S) from by simp [spRestore, hU, hV, ea, ei, cC]]; exact ⟨_, up2_s _ _ _ _, rfl, fun h => absurd (show (3 : Nat) = 0 from h) (by decide)⟩)
      · have k5 : S 5 (60 * a + i) = 1 := by omega
        refine lv_aload_n hx hb dX2_restore_37 rfl (lv_at hl 0 rfl) ?_
        refine va_get (D := D) (ci := 2) (v := .ref (B 6)) (C := RX2) (T := TX2) (N := 19) hx hb hts hiX2 hown hK hP (0) rfl rfl 6 (by decide) (hts (.fieldLink RX2 26 "CoauthorTextModel" "isRemoved" "[Z") (by decide +kernel)) (fun _ h9 => h9) rfl dX2_restore_38 ?_
        refine lv_iload_n hx hb dX2_restore_41 rfl (lv_at hl 1 rfl) ?_
        refine lv_iload_n hx hb dX2_restore_42 rfl (lv_at hl 2 rfl) ?_
        refine K_i (va_runS (As := [.int (nI a), .int (nI i)]) (rest := [.ref (B 6), .ref (B 0)]) ⟨hx, hb, hml, hown, hts⟩ (c_X2_at l a i _) (va_cwS 2 hts gX2_restore_X2_at rfl rfl rfl (by decide +kernel) ⟨Nat.le_of_ble_eq_true rfl, Nat.le_of_ble_eq_true rfl⟩) (pS hP hK hD hS hA hX) rfl rfl hl.1 rfl (lv_room (Nat.le_of_ble_eq_true rfl)) dX2_restore_43 ⟨Nat.le_of_ble_eq_true rfl, Nat.le_of_ble_eq_true rfl⟩) hD hS hA (fun r w'  H locs hp hP hD hS => ?_)
        obtain ⟨rfl, hw9⟩ := hp
        rw [hw9] at hP hD
        refine r_zald hx hb hK hP (6) rfl (by omega) (by decide) dX2_restore_46 ?_
        refine r_if_eq (tgt := 54) hx hb dX2_restore_47 (by decide) (by omega) (fun cD => ?_) (fun cD => ?_)
        · refine lv_iconst (v := nI 3) hx hb dX2_restore_54 (by decide) ?_
          refine K_i (va_runV (As := [.int (nI 3)]) (rest := []) ⟨hx, hb, hml, hown, hts⟩ (c_X2_goes l (k := 3) (by decide) _) (cwV 1 hts gX2_restore_X2_goes rfl rfl rfl (by decide +kernel) ⟨Nat.le_of_ble_eq_true rfl, Nat.le_of_ble_eq_true rfl⟩) (pV hP hK hD hS hA hX (va_recv hK hP (ci := 2) (q0 := 0) rfl rfl)) rfl rfl hl.1 rfl (lv_room (Nat.le_of_ble_eq_true rfl)) dX2_restore_55 ⟨Nat.le_of_ble_eq_true rfl, Nat.le_of_ble_eq_true rfl⟩) hD hS hA (fun r w'  H locs hp hP hD hS => ?_)
          obtain ⟨hr9, rfl⟩ := hp
          obtain rfl : r = nI 0 := hr9
          refine r_if_ne (tgt := 63) hx hb dX2_restore_58 (by decide) (by decide) (fun c2 => ?_) (fun c2 => ?_)
          · omega
          · refine lv_iconst (v := nI 0) hx hb dX2_restore_61 (by decide) ?_
            exact C_iret hx hb hr hlocks hS hP hK hD (Nat.le_of_ble_eq_true rfl) (Nat.le_of_ble_eq_true rfl) dX2_restore_62 (by rw [show spRestore S O (nI a) (nI i) = (3, 0, S) from by simp [spRestore, hU, hV, ea, ei, k5, cD]]; exact ⟨_, up2_s _ _ _ _, rfl, fun h => absurd (show (3 : Nat) = 0 from h) (by decide)⟩)
        · have k6 : S 6 (60 * a + i) = 1 := by omega
          refine lv_iconst (v := nI 0) hx hb dX2_restore_50 (by decide) ?_
          refine lv_goto (tgt := 55) hx hb dX2_restore_51 (by decide) ?_
          refine K_i (va_runV (As := [.int (nI 0)]) (rest := []) ⟨hx, hb, hml, hown, hts⟩ (c_X2_goes l (k := 0) (by decide) _) (cwV 1 hts gX2_restore_X2_goes rfl rfl rfl (by decide +kernel) ⟨Nat.le_of_ble_eq_true rfl, Nat.le_of_ble_eq_true rfl⟩) (pV hP hK hD hS hA hX (va_recv hK hP (ci := 2) (q0 := 0) rfl rfl)) rfl rfl hl.1 rfl (lv_room (Nat.le_of_ble_eq_true rfl)) dX2_restore_55 ⟨Nat.le_of_ble_eq_true rfl, Nat.le_of_ble_eq_true rfl⟩) hD hS hA (fun r w'  H locs hp hP hD hS => ?_)
          obtain ⟨hr9, rfl⟩ := hp
          obtain rfl : r = nI 1 := hr9
          refine r_if_ne (tgt := 63) hx hb dX2_restore_58 (by decide) (by decide) (fun c3 => ?_) (fun c3 => ?_)
          · refine lv_aload_n hx hb dX2_restore_63 rfl (lv_at hl 0 rfl) ?_
            refine va_get (D := D) (ci := 2) (v := .ref (B 6)) (C := RX2) (T := TX2) (N := 19) hx hb hts hiX2 hown hK hP (0) rfl rfl 6 (by decide) (hts (.fieldLink RX2 26 "CoauthorTextModel" "isRemoved" "[Z") (by decide +kernel)) (fun _ h9 => h9) rfl dX2_restore_64 ?_
            refine lv_iload_n hx hb dX2_restore_67 rfl (lv_at hl 1 rfl) ?_
            refine lv_iload_n hx hb dX2_restore_68 rfl (lv_at hl 2 rfl) ?_
            refine K_i (va_runS (As := [.int (nI a), .int (nI i)]) (rest := [.ref (B 6)]) ⟨hx, hb, hml, hown, hts⟩ (c_X2_at l a i _) (va_cwS 2 hts gX2_restore_X2_at rfl rfl rfl (by decide +kernel) ⟨Nat.le_of_ble_eq_true rfl, Nat.le_of_ble_eq_true rfl⟩) (pS hP hK hD hS hA hX) rfl rfl hl.1 rfl (lv_room (Nat.le_of_ble_eq_true rfl)) dX2_restore_69 ⟨Nat.le_of_ble_eq_true rfl, Nat.le_of_ble_eq_true rfl⟩) hD hS hA (fun r w'  H locs hp hP hD hS => ?_)
            obtain ⟨rfl, hw9⟩ := hp
            rw [hw9] at hP hD
            refine lv_iconst (v := nI 0) hx hb dX2_restore_72 (by decide) ?_
            refine r_zast (w' := MW cy B (up2 S 6 (60 * a + i) 0) (up2 T 0 2 0) Y) hx hb hK hP hD hS (6) rfl (by omega) (by decide) dX2_restore_73 rfl (by rw [show upd (fun j => nI (S 6 j)) (60 * a + i) (nI 0) = fun j => nI ((up2 S 6 (60 * a + i) 0) 6 j) from upd_n S 6 _ _]; rfl) (fun H locs hP hD hS => ?_)
            refine lv_aload_n hx hb dX2_restore_74 rfl (lv_at hl 0 rfl) ?_
            refine va_get (D := D) (ci := 2) (v := .ref (B 7)) (C := RX2) (T := TX2) (N := 19) hx hb hts hiX2 hown hK hP (0) rfl rfl 7 (by decide) (hts (.fieldLink RX2 29 "CoauthorTextModel" "stamps" "[I") (by decide +kernel)) (fun _ h9 => h9) rfl dX2_restore_75 ?_
            refine lv_iload_n hx hb dX2_restore_78 rfl (lv_at hl 1 rfl) ?_
            refine lv_iload_n hx hb dX2_restore_79 rfl (lv_at hl 2 rfl) ?_
            refine K_i (va_runS (As := [.int (nI a), .int (nI i)]) (rest := [.ref (B 7)]) ⟨hx, hb, hml, hown, hts⟩ (c_X2_at l a i _) (va_cwS 2 hts gX2_restore_X2_at rfl rfl rfl (by decide +kernel) ⟨Nat.le_of_ble_eq_true rfl, Nat.le_of_ble_eq_true rfl⟩) (pS hP hK hD hS hA hX) rfl rfl hl.1 rfl (lv_room (Nat.le_of_ble_eq_true rfl)) dX2_restore_80 ⟨Nat.le_of_ble_eq_true rfl, Nat.le_of_ble_eq_true rfl⟩) hD hS hA (fun r w'  H locs hp hP hD hS => ?_)
            obtain ⟨rfl, hw9⟩ := hp
            rw [hw9] at hP hD
            refine lv_aload_n hx hb dX2_restore_83 rfl (lv_at hl 0 rfl) ?_
            refine lv_iload_n hx hb dX2_restore_84 rfl (lv_at hl 1 rfl) ?_
            refine K_i (va_runV (As := [.int (nI a)]) (rest := [.int (nI (60 * a + i)), .ref (B 7)]) ⟨hx, hb, hml, hown, hts⟩ (c_X2_stamp l ha _) (cwV 1 hts gX2_restore_X2_stamp rfl rfl rfl (by decide +kernel) ⟨Nat.le_of_ble_eq_true rfl, Nat.le_of_ble_eq_true rfl⟩) (pV hP hK hD hS hA hX (va_recv hK hP (ci := 2) (q0 := 0) rfl rfl)) rfl rfl hl.1 rfl (lv_room (Nat.le_of_ble_eq_true rfl)) dX2_restore_85 ⟨Nat.le_of_ble_eq_true rfl, Nat.le_of_ble_eq_true rfl⟩) hD hS hA (fun r w'  H locs hp hP hD hS => ?_)
            obtain ⟨hr9, hw9⟩ := hp
            obtain rfl : r = nI (4 * (S 8 a + 1) + a) := hr9
            obtain rfl : w' = MW cy B (up2 (up2 S 6 (60 * a + i) 0) 8 a (S 8 a + 1)) (up2 T 0 2 0) Y := hw9
            refine r_iast (w' := MW cy B (up2 (up2 (up2 S 6 (60 * a + i) 0) 8 a (S 8 a + 1)) 7 (60 * a + i) (4 * (S 8 a + 1) + a)) (up2 T 0 2 0) Y) hx hb hK hP hD hS (7) rfl (by omega) (by decide) dX2_restore_88 (by rw [show upd (fun j => nI ((up2 (up2 S 6 (60 * a + i) 0) 8 a (S 8 a + 1)) 7 j)) (60 * a + i) (nI (4 * (S 8 a + 1) + a)) = fun j => nI ((up2 (up2 (up2 S 6 (60 * a + i) 0) 8 a (S 8 a + 1)) 7 (60 * a + i) (4 * (S 8 a + 1) + a)) 7 j) from upd_n (up2 (up2 S 6 (60 * a + i) 0) 8 a (S 8 a + 1)) 7 _ _]; rfl) (fun H locs hP hD hS => ?_)
            obtain ⟨S9, hS9⟩ : ∃ S9, setS S a i 0 = S9 := ⟨_, rfl⟩
            have hP : va_P D vwCl (MW cy B S9 (up2 T 0 2 0) Y) H := by rw [← hS9]; exact hP
            have hD : va_D A (MW cy B S9 (up2 T 0 2 0) Y) := by rw [← hS9]; exact hD
            have hR9 : Rng S9 := by rw [← hS9]; exact hI.R.set hF ha (by decide)
            have hg9 : growP S9 := by rw [← hS9]; exact grow_set hI.g a i 0
            have hl9 : layP S9 a (layL S O a) := by rw [← hS9]; exact lay_set (hI.lay ha) a i 0
            refine lv_aload_n hx hb dX2_restore_89 rfl (lv_at hl 0 rfl) ?_
            refine lv_iload_n hx hb dX2_restore_90 rfl (lv_at hl 1 rfl) ?_
            refine K_v (va_runV (As := [.int (nI a)]) (rest := []) ⟨hx, hb, hml, hown, hts⟩ (c_X2_laysText l hR9 hg9 ha hl9 _) (cwV 1 hts gX2_restore_X2_laysText rfl rfl rfl (by decide +kernel) ⟨Nat.le_of_ble_eq_true rfl, Nat.le_of_ble_eq_true rfl⟩) (pV hP hK hD hS hA hX (va_recv hK hP (ci := 2) (q0 := 0) rfl rfl)) rfl rfl hl.1 rfl (lv_room (Nat.le_of_ble_eq_true rfl)) dX2_restore_91 ⟨Nat.le_of_ble_eq_true rfl, Nat.le_of_ble_eq_true rfl⟩) hD hS hA (fun w'  H locs hp hP hD hS => ?_)
            obtain ⟨T2, rfl, h2, ht⟩ := hp
            have etx : (layL S O a).filter (visB S9 a) = txL S9 O a := by rw [← lay_txt]; congr 1; rw [← hS9]; rfl
            rw [etx] at ht
            have hmem : ∀ x, x ∈ txL S9 O a → x < 60 := fun x hx => by have := (hI.2.2.2.2.1 x).mp (List.mem_filter.mp hx).1; omega
            have hin : i ∈ txL S9 O a := by rw [← hS9, txL, List.mem_filter]; exact ⟨(hI.2.2.2.2.1 i).mpr hi, by simp [vsb, setS, up2, k5]⟩
            refine lv_aload_n hx hb dX2_restore_94 rfl (lv_at hl 0 rfl) ?_
            refine lv_iload_n hx hb dX2_restore_95 rfl (lv_at hl 2 rfl) ?_
            refine K_i (va_runV (As := [.int (nI i)]) (rest := []) ⟨hx, hb, hml, hown, hts⟩ (c_X2_placeOf l ht (hI.2.2.2.1.filter _) hin (nd_len 60 _ (hI.2.2.2.1.filter _) hmem) hmem _) (cwV 1 hts gX2_restore_X2_placeOf rfl rfl rfl (by decide +kernel) ⟨Nat.le_of_ble_eq_true rfl, Nat.le_of_ble_eq_true rfl⟩) (pV hP hK hD hS hA hX (va_recv hK hP (ci := 2) (q0 := 0) rfl rfl)) rfl rfl hl.1 rfl (lv_room (Nat.le_of_ble_eq_true rfl)) dX2_restore_96 ⟨Nat.le_of_ble_eq_true rfl, Nat.le_of_ble_eq_true rfl⟩) hD hS hA (fun r w'  H locs hp hP hD hS => ?_)
            obtain ⟨rfl, rfl⟩ := hp
            exact C_iret hx hb hr hlocks hS hP hK hD (Nat.le_of_ble_eq_true rfl) (Nat.le_of_ble_eq_true rfl) dX2_restore_99 (by rw [show spRestore S O (nI a) (nI i) = (0, nI (posL (txL S9 O a) i), S9) from by simp only [spRestore, hU, hV, ea, ei, k5, k6, hS9, Bool.true_eq_false, if_false, and_self, if_true]]; exact ⟨T2, by rw [h2]; exact up2_s _ _ _ _, rfl, fun _ => rfl⟩)
          · omega
    · have hU := bN_0.mp cB
      refine lv_iconst (v := nI 2) hx hb dX2_restore_20 (by decide) ?_
      refine lv_goto (tgt := 55) hx hb dX2_restore_21 (by decide) ?_
      refine K_i (va_runV (As := [.int (nI 2)]) (rest := []) ⟨hx, hb, hml, hown, hts⟩ (c_X2_goes l (k := 2) (by decide) _) (cwV 1 hts gX2_restore_X2_goes rfl rfl rfl (by decide +kernel) ⟨Nat.le_of_ble_eq_true rfl, Nat.le_of_ble_eq_true rfl⟩) (pV hP hK hD hS hA hX (va_recv hK hP (ci := 2) (q0 := 0) rfl rfl)) rfl rfl hl.1 rfl (lv_room (Nat.le_of_ble_eq_true rfl)) dX2_restore_55 ⟨Nat.le_of_ble_eq_true rfl, Nat.le_of_ble_eq_true rfl⟩) hD hS hA (fun r w'  H locs hp hP hD hS => ?_)
      obtain ⟨hr9, rfl⟩ := hp
      obtain rfl : r = nI 0 := hr9
      refine r_if_ne (tgt := 63) hx hb dX2_restore_58 (by decide) (by decide) (fun c4 => ?_) (fun c4 => ?_)
      · omega
      · refine lv_iconst (v := nI 0) hx hb dX2_restore_61 (by decide) ?_
        exact C_iret hx hb hr hlocks hS hP hK hD (Nat.le_of_ble_eq_true rfl) (Nat.le_of_ble_eq_true rfl) dX2_restore_62 (by rw [show spRestore S O p0 p1 = (2, 0, S) from by simp [spRestore, hU, hV]]; exact ⟨_, up2_s _ _ _ _, rfl, fun h => absurd (show (2 : Nat) = 0 from h) (by decide)⟩)
  · have hV := bN_0.mp cA
    refine lv_iconst (v := nI 1) hx hb dX2_restore_9 (by decide) ?_
    refine lv_goto (tgt := 55) hx hb dX2_restore_10 (by decide) ?_
    refine K_i (va_runV (As := [.int (nI 1)]) (rest := []) ⟨hx, hb, hml, hown, hts⟩ (c_X2_goes l (k := 1) (by decide) _) (cwV 1 hts gX2_restore_X2_goes rfl rfl rfl (by decide +kernel) ⟨Nat.le_of_ble_eq_true rfl, Nat.le_of_ble_eq_true rfl⟩) (pV hP hK hD hS hA hX (va_recv hK hP (ci := 2) (q0 := 0) rfl rfl)) rfl rfl hl.1 rfl (lv_room (Nat.le_of_ble_eq_true rfl)) dX2_restore_55 ⟨Nat.le_of_ble_eq_true rfl, Nat.le_of_ble_eq_true rfl⟩) hD hS hA (fun r w'  H locs hp hP hD hS => ?_)
    obtain ⟨hr9, rfl⟩ := hp
    obtain rfl : r = nI 0 := hr9
    refine r_if_ne (tgt := 63) hx hb dX2_restore_58 (by decide) (by decide) (fun c5 => ?_) (fun c5 => ?_)
    · omega
    · refine lv_iconst (v := nI 0) hx hb dX2_restore_61 (by decide) ?_
      exact C_iret hx hb hr hlocks hS hP hK hD (Nat.le_of_ble_eq_true rfl) (Nat.le_of_ble_eq_true rfl) dX2_restore_62 (by rw [show spRestore S O p0 p1 = (1, 0, S) from by simp [spRestore, hV]]; exact ⟨_, up2_s _ _ _ _, rfl, fun h => absurd (show (1 : Nat) = 0 from h) (by decide)⟩)
end
section
/-! ===== the reference: areAlike, learn ===== -/
theorem alB_s (S : Nat → Nat → Nat) (a b j : Nat) : alB S a b (j + 1) = (alB S a b j && (vsb S a j == vsb S b j)) := by
  simp [alB, List.range_succ]
theorem vsb_0 {S : Nat → Nat → Nat} {a j : Nat} (h : S 5 (60 * a + j) = 0) : vsb S a j = false := by simp [vsb, h]
theorem vsb_r {S : Nat → Nat → Nat} {a j : Nat} (h : 0 < S 6 (60 * a + j)) : vsb S a j = false := by
  have : ¬ S 6 (60 * a + j) = 0 := by omega
  simp [vsb, this]
theorem vsb_1 {S : Nat → Nat → Nat} {a j : Nat} (h : 0 < S 5 (60 * a + j)) (h2 : S 5 (60 * a + j) < 2) (h6 : S 6 (60 * a + j) = 0) : vsb S a j = true := by
  have : S 5 (60 * a + j) = 1 := by omega
  simp [vsb, this, h6]
theorem nar_b {x : Nat} (h : x < 2) : vp_nar .boolean (nI x) = nI x := by
  rcases (show x = 0 ∨ x = 1 by omega) with rfl | rfl <;> rfl
theorem bN_eq {x y : Bool} : bN x = bN y ↔ x = y := by cases x <;> cases y <;> decide

set_option maxHeartbeats 4000000 in
set_option maxRecDepth 100000 in
theorem c_X2_areAlike (l : Launch) {D : va_G} {cy : Nat → ClassId} {B : Nat → Nat} {S T : Nat → Nat → Nat} {Y : va_W} {O : List Nat} (hI : Inv S O) (p0 p1 : Int32) : CI l yX2_areAlike wsX2_areAlike ({ frames := 3, cells := 0, slots := 0, locals := 54 } : Room) D cy [.ref (B 0), .int p0, .int p1] (MW cy B S T Y) (fun r w' => ∃ T' : Nat → Nat → Nat, T' 0 2 = (spAreAlike S p0 p1).1 ∧ w' = MW cy B (spAreAlike S p0 p1).2.2 T' Y ∧ ((spAreAlike S p0 p1).1 = 0 → r = (spAreAlike S p0 p1).2.1)) 0 0 := by
  refine CI.of (cc := cX2_areAlike) (maxL := 7) (ret := (some .boolean)) (by decide) rfl (Nat.le_of_ble_eq_true rfl) ?_
  intro p e s m below meth c A ls E0 hl
  obtain ⟨hx, hb, hml, hown, hts, hr, hlocks, hA, hS, hP, hK, hD, hX⟩ := E0
  have hiX2 : ∀ w ∈ u_ws RX2 TX2 19, w ∈ wsX2_areAlike := by decide +kernel
  have hl : lv_has ls 7 [(0, .ref (B 0)), (1, .int p0), (2, .int p1)] := hl
  refine lv_aload_n hx hb dX2_areAlike_0 rfl (lv_at hl 0 rfl) ?_
  refine lv_iload_n hx hb dX2_areAlike_1 rfl (lv_at hl 1 rfl) ?_
  refine K_i (va_runS (As := [.int p0]) (rest := [.ref (B 0)]) ⟨hx, hb, hml, hown, hts⟩ (c_X2_isAuthor l p0 _) (va_cwS 1 hts gX2_areAlike_X2_isAuthor rfl rfl rfl (by decide +kernel) ⟨Nat.le_of_ble_eq_true rfl, Nat.le_of_ble_eq_true rfl⟩) (pS hP hK hD hS hA hX) rfl rfl hl.1 rfl (lv_room (Nat.le_of_ble_eq_true rfl)) dX2_areAlike_2 ⟨Nat.le_of_ble_eq_true rfl, Nat.le_of_ble_eq_true rfl⟩) hD hS hA (fun r w'  H locs hp hP hD hS => ?_)
  obtain ⟨rfl, hw9⟩ := hp
  rw [hw9] at hP hD
  refine r_if_eq (tgt := 19) hx hb dX2_areAlike_5 (by decide) (Nat.lt_trans (bN_lt _) (by decide)) (fun cA => ?_) (fun cA => ?_)
  · have hU := bN_0.mp cA
    refine lv_iconst (v := nI 1) hx hb dX2_areAlike_19 (by decide) ?_
    refine K_i (va_runV (As := [.int (nI 1)]) (rest := []) ⟨hx, hb, hml, hown, hts⟩ (c_X2_goes l (k := 1) (by decide) _) (cwV 1 hts gX2_areAlike_X2_goes rfl rfl rfl (by decide +kernel) ⟨Nat.le_of_ble_eq_true rfl, Nat.le_of_ble_eq_true rfl⟩) (pV hP hK hD hS hA hX (va_recv hK hP (ci := 2) (q0 := 0) rfl rfl)) rfl rfl hl.1 rfl (lv_room (Nat.le_of_ble_eq_true rfl)) dX2_areAlike_20 ⟨Nat.le_of_ble_eq_true rfl, Nat.le_of_ble_eq_true rfl⟩) hD hS hA (fun r w'  H locs hp hP hD hS => ?_)
    obtain ⟨hr9, rfl⟩ := hp
    obtain rfl : r = nI 0 := hr9
    refine r_if_ne (tgt := 28) hx hb dX2_areAlike_23 (by decide) (by decide) (fun c1 => ?_) (fun c1 => ?_)
    · omega
    · refine lv_iconst (v := nI 0) hx hb dX2_areAlike_26 (by decide) ?_
      exact C_zret hx hb hr hlocks hS hP hK hD (Nat.le_of_ble_eq_true rfl) (Nat.le_of_ble_eq_true rfl) dX2_areAlike_27 rfl (by rw [show spAreAlike S p0 p1 = (1, 0, S) from by simp [spAreAlike, hU]]; exact ⟨_, up2_s _ _ _ _, rfl, fun h => absurd (show (1 : Nat) = 0 from h) (by decide)⟩)
  · have hU := bN_1.mp cA
    refine lv_iload_n hx hb dX2_areAlike_8 rfl (lv_at hl 2 rfl) ?_
    refine K_i (va_runS (As := [.int p1]) (rest := [.ref (B 0)]) ⟨hx, hb, hml, hown, hts⟩ (c_X2_isAuthor l p1 _) (va_cwS 1 hts gX2_areAlike_X2_isAuthor rfl rfl rfl (by decide +kernel) ⟨Nat.le_of_ble_eq_true rfl, Nat.le_of_ble_eq_true rfl⟩) (pS hP hK hD hS hA hX) rfl rfl hl.1 rfl (lv_room (Nat.le_of_ble_eq_true rfl)) dX2_areAlike_9 ⟨Nat.le_of_ble_eq_true rfl, Nat.le_of_ble_eq_true rfl⟩) hD hS hA (fun r w'  H locs hp hP hD hS => ?_)
    obtain ⟨rfl, hw9⟩ := hp
    rw [hw9] at hP hD
    refine r_if_eq (tgt := 19) hx hb dX2_areAlike_12 (by decide) (Nat.lt_trans (bN_lt _) (by decide)) (fun cB => ?_) (fun cB => ?_)
    · have hV := bN_0.mp cB
      refine lv_iconst (v := nI 1) hx hb dX2_areAlike_19 (by decide) ?_
      refine K_i (va_runV (As := [.int (nI 1)]) (rest := []) ⟨hx, hb, hml, hown, hts⟩ (c_X2_goes l (k := 1) (by decide) _) (cwV 1 hts gX2_areAlike_X2_goes rfl rfl rfl (by decide +kernel) ⟨Nat.le_of_ble_eq_true rfl, Nat.le_of_ble_eq_true rfl⟩) (pV hP hK hD hS hA hX (va_recv hK hP (ci := 2) (q0 := 0) rfl rfl)) rfl rfl hl.1 rfl (lv_room (Nat.le_of_ble_eq_true rfl)) dX2_areAlike_20 ⟨Nat.le_of_ble_eq_true rfl, Nat.le_of_ble_eq_true rfl⟩) hD hS hA (fun r w'  H locs hp hP hD hS => ?_)
      obtain ⟨hr9, rfl⟩ := hp
      obtain rfl : r = nI 0 := hr9
      refine r_if_ne (tgt := 28) hx hb dX2_areAlike_23 (by decide) (by decide) (fun c2 => ?_) (fun c2 => ?_)
      · omega
      · refine lv_iconst (v := nI 0) hx hb dX2_areAlike_26 (by decide) ?_
        exact C_zret hx hb hr hlocks hS hP hK hD (Nat.le_of_ble_eq_true rfl) (Nat.le_of_ble_eq_true rfl) dX2_areAlike_27 rfl (by rw [show spAreAlike S p0 p1 = (1, 0, S) from by simp [spAreAlike, hU, hV]]; exact ⟨_, up2_s _ _ _ _, rfl, fun h => absurd (show (1 : Nat) = 0 from h) (by decide)⟩)
    · have hV := bN_1.mp cB
      refine lv_iconst (v := nI 0) hx hb dX2_areAlike_15 (by decide) ?_
      refine lv_goto (tgt := 20) hx hb dX2_areAlike_16 (by decide) ?_
      refine K_i (va_runV (As := [.int (nI 0)]) (rest := []) ⟨hx, hb, hml, hown, hts⟩ (c_X2_goes l (k := 0) (by decide) _) (cwV 1 hts gX2_areAlike_X2_goes rfl rfl rfl (by decide +kernel) ⟨Nat.le_of_ble_eq_true rfl, Nat.le_of_ble_eq_true rfl⟩) (pV hP hK hD hS hA hX (va_recv hK hP (ci := 2) (q0 := 0) rfl rfl)) rfl rfl hl.1 rfl (lv_room (Nat.le_of_ble_eq_true rfl)) dX2_areAlike_20 ⟨Nat.le_of_ble_eq_true rfl, Nat.le_of_ble_eq_true rfl⟩) hD hS hA (fun r w'  H locs hp hP hD hS => ?_)
      obtain ⟨hr9, rfl⟩ := hp
      obtain rfl : r = nI 1 := hr9
      refine r_if_ne (tgt := 28) hx hb dX2_areAlike_23 (by decide) (by decide) (fun c3 => ?_) (fun c3 => ?_)
      · obtain ⟨a, ha, rfl⟩ := isA_n hU
        obtain ⟨f, hf, rfl⟩ := isA_n hV
        have hn60 := hI.R.1
        have ea := aN_n (show a < 2 ^ 31 by omega)
        have ef := aN_n (show f < 2 ^ 31 by omega)
        have h5 := hI.R.2.2.2.2.2.2.2.1
        have h6 := hI.R.2.2.2.2.2.2.2.2.1
        refine lv_iconst (v := nI 1) hx hb dX2_areAlike_28 (by decide) ?_
        refine lv_istore_n (lv' := [(3, .int (nI 1)), (0, .ref (B 0)), (1, .int (nI a)), (2, .int (nI f))]) hx hb dX2_areAlike_29 rfl hl (by decide) rfl (fun ls hl => ?_)
        refine lv_iconst (v := nI 0) hx hb dX2_areAlike_30 (by decide) ?_
        refine lv_istore (lv' := [(4, .int (nI 0)), (3, .int (nI 1)), (0, .ref (B 0)), (1, .int (nI a)), (2, .int (nI f))]) hx hb dX2_areAlike_31 hl (by decide) rfl (fun ls hl => ?_)
        have loop : ∀ (q j : Nat) (H : Heap) (locs : List Loc) (ls : Array Slot), j + q = S 0 0 + 1 → j ≤ S 0 0 → va_P D vwCl (MW cy B S (up2 T 0 2 0) Y) H → va_D A (MW cy B S (up2 T 0 2 0) Y) → va_S A s.heap H locs → lv_has ls 7 [(4, .int (nI j)), (3, .int (nI (bN (alB S a f j)))), (0, .ref (B 0)), (1, .int (nI a)), (2, .int (nI f))] → W p l e ({ frames := 3, cells := 0, slots := 0, locals := 54 } : Room) s m ([.ref (B 0), .int (nI a), .int (nI f)] : List Value).toArray below meth c H locs 0 0 (MQ below (va_Qi (fun r w' => ∃ T' : Nat → Nat → Nat, T' 0 2 = (spAreAlike S (nI a) (nI f)).1 ∧ w' = MW cy B (spAreAlike S (nI a) (nI f)).2.2 T' Y ∧ ((spAreAlike S (nI a) (nI f)).1 = 0 → r = (spAreAlike S (nI a) (nI f)).2.1)) (fun w' t => wB D cy A w' t) A) ([.ref (B 0), .int (nI a), .int (nI f)] : List Value).toArray s 0 0 A) (F0 m 33 ls []) := by
          intro q
          induction q with
          | zero => intro j H locs ls hq; omega
          | succ q ih =>
            intro j H locs ls hq hj hP hD hS hl
            refine lv_iload hx hb dX2_areAlike_33 (lv_at hl 0 rfl) ?_
            refine lv_aload_n hx hb dX2_areAlike_35 rfl (lv_at hl 2 rfl) ?_
            refine va_get (D := D) (ci := 2) (v := .int (nI (S 0 0))) (C := RX2) (T := TX2) (N := 19) hx hb hts hiX2 hown hK hP (0) rfl rfl 0 (by decide) (hts (.fieldLink RX2 59 "CoauthorTextModel" "signs" "I") (by decide +kernel)) (fun _ h9 => h9) rfl dX2_areAlike_36 ?_
            refine r_icmp_ge (tgt := 135) hx hb dX2_areAlike_39 (by decide) (by omega) (by omega) (fun c4 => ?_) (fun c4 => ?_)
            · have ej : j = S 0 0 := by omega
              subst ej
              refine lv_iload_n hx hb dX2_areAlike_135 rfl (lv_at hl 1 rfl) ?_
              exact C_zret hx hb hr hlocks hS hP hK hD (Nat.le_of_ble_eq_true rfl) (Nat.le_of_ble_eq_true rfl) dX2_areAlike_136 (nw_b _) (by rw [show spAreAlike S (nI a) (nI f) = (0, nI (bN (alB S a f (S 0 0))), S) from by simp [spAreAlike, hU, hV, ea, ef]]; exact ⟨_, up2_s _ _ _ _, rfl, fun _ => rfl⟩)
            · have join75 : ∀ (H : Heap) (locs : List Loc) (ls : Array Slot), va_P D vwCl (MW cy B S (up2 T 0 2 0) Y) H → va_D A (MW cy B S (up2 T 0 2 0) Y) → va_S A s.heap H locs → lv_has ls 7 [(4, .int (nI j)), (3, .int (nI (bN (alB S a f j)))), (0, .ref (B 0)), (1, .int (nI a)), (2, .int (nI f))] → W p l e ({ frames := 3, cells := 0, slots := 0, locals := 54 } : Room) s m ([.ref (B 0), .int (nI a), .int (nI f)] : List Value).toArray below meth c H locs 0 0 (MQ below (va_Qi (fun r w' => ∃ T' : Nat → Nat → Nat, T' 0 2 = (spAreAlike S (nI a) (nI f)).1 ∧ w' = MW cy B (spAreAlike S (nI a) (nI f)).2.2 T' Y ∧ ((spAreAlike S (nI a) (nI f)).1 = 0 → r = (spAreAlike S (nI a) (nI f)).2.1)) (fun w' t => wB D cy A w' t) A) ([.ref (B 0), .int (nI a), .int (nI f)] : List Value).toArray s 0 0 A) (F0 m 75 ls [.int (nI (bN (vsb S a j)))]) := by
                intro H locs ls hP hD hS hl
                refine lv_istore (lv' := [(5, .int (nI (bN (vsb S a j)))), (4, .int (nI j)), (3, .int (nI (bN (alB S a f j)))), (0, .ref (B 0)), (1, .int (nI a)), (2, .int (nI f))]) hx hb dX2_areAlike_75 hl (by decide) rfl (fun ls hl => ?_)
                have join110 : ∀ (H : Heap) (locs : List Loc) (ls : Array Slot), va_P D vwCl (MW cy B S (up2 T 0 2 0) Y) H → va_D A (MW cy B S (up2 T 0 2 0) Y) → va_S A s.heap H locs → lv_has ls 7 [(5, .int (nI (bN (vsb S a j)))), (4, .int (nI j)), (3, .int (nI (bN (alB S a f j)))), (0, .ref (B 0)), (1, .int (nI a)), (2, .int (nI f))] → W p l e ({ frames := 3, cells := 0, slots := 0, locals := 54 } : Room) s m ([.ref (B 0), .int (nI a), .int (nI f)] : List Value).toArray below meth c H locs 0 0 (MQ below (va_Qi (fun r w' => ∃ T' : Nat → Nat → Nat, T' 0 2 = (spAreAlike S (nI a) (nI f)).1 ∧ w' = MW cy B (spAreAlike S (nI a) (nI f)).2.2 T' Y ∧ ((spAreAlike S (nI a) (nI f)).1 = 0 → r = (spAreAlike S (nI a) (nI f)).2.1)) (fun w' t => wB D cy A w' t) A) ([.ref (B 0), .int (nI a), .int (nI f)] : List Value).toArray s 0 0 A) (F0 m 110 ls [.int (nI (bN (vsb S f j)))]) := by
                  intro H locs ls hP hD hS hl
                  refine lv_istore (lv' := [(6, .int (nI (bN (vsb S f j)))), (5, .int (nI (bN (vsb S a j)))), (4, .int (nI j)), (3, .int (nI (bN (alB S a f j)))), (0, .ref (B 0)), (1, .int (nI a)), (2, .int (nI f))]) hx hb dX2_areAlike_110 hl (by decide) rfl (fun ls hl => ?_)
                  refine lv_iload_n hx hb dX2_areAlike_112 rfl (lv_at hl 3 rfl) ?_
                  refine r_if_eq (tgt := 127) hx hb dX2_areAlike_113 (by decide) (Nat.lt_trans (bN_lt _) (by decide)) (fun cL => ?_) (fun cL => ?_)
                  · refine lv_iconst (v := nI 0) hx hb dX2_areAlike_127 (by decide) ?_
                    refine lv_topi (fun y9 ey9 => ?_)
                    obtain rfl : y9 = nI (bN (alB S a f (j + 1))) := ey9.trans (by rw [alB_s, bN_0.mp cL]; rfl)
                    refine lv_istore_n (lv' := [(3, .int (nI (bN (alB S a f (j + 1))))), (6, .int (nI (bN (vsb S f j)))), (5, .int (nI (bN (vsb S a j)))), (4, .int (nI j)), (0, .ref (B 0)), (1, .int (nI a)), (2, .int (nI f))]) hx hb dX2_areAlike_128 rfl hl (by decide) rfl (fun ls hl => ?_)
                    refine lv_iinc (v := nI (j + 1)) (lv' := [(4, .int (nI (j + 1))), (3, .int (nI (bN (alB S a f (j + 1))))), (6, .int (nI (bN (vsb S f j)))), (5, .int (nI (bN (vsb S a j)))), (0, .ref (B 0)), (1, .int (nI a)), (2, .int (nI f))]) hx hb dX2_areAlike_129 hl (k := 3) rfl (nI_inc _) (by decide) rfl (fun ls hl => ?_)
                    refine lv_goto (tgt := 33) hx hb dX2_areAlike_132 (by decide) ?_
                    exact ih (j + 1) _ _ ls (by omega) (by omega) hP hD hS (lv_sub hl [0, 1, 4, 5, 6] rfl)
                  · refine lv_iload hx hb dX2_areAlike_116 (lv_at hl 1 rfl) ?_
                    refine lv_iload hx hb dX2_areAlike_118 (lv_at hl 0 rfl) ?_
                    refine r_icmp_ne (tgt := 127) hx hb dX2_areAlike_120 (by decide) (Nat.lt_trans (bN_lt _) (by decide)) (Nat.lt_trans (bN_lt _) (by decide)) (fun cM => ?_) (fun cM => ?_)
                    · refine lv_iconst (v := nI 0) hx hb dX2_areAlike_127 (by decide) ?_
                      refine lv_topi (fun y9 ey9 => ?_)
                      obtain rfl : y9 = nI (bN (alB S a f (j + 1))) := ey9.trans (by rw [alB_s, bN_1.mp cL, show (vsb S a j == vsb S f j) = false from beq_false_of_ne (fun h => cM (by rw [h]))]; rfl)
                      refine lv_istore_n (lv' := [(3, .int (nI (bN (alB S a f (j + 1))))), (6, .int (nI (bN (vsb S f j)))), (5, .int (nI (bN (vsb S a j)))), (4, .int (nI j)), (0, .ref (B 0)), (1, .int (nI a)), (2, .int (nI f))]) hx hb dX2_areAlike_128 rfl hl (by decide) rfl (fun ls hl => ?_)
                      refine lv_iinc (v := nI (j + 1)) (lv' := [(4, .int (nI (j + 1))), (3, .int (nI (bN (alB S a f (j + 1))))), (6, .int (nI (bN (vsb S f j)))), (5, .int (nI (bN (vsb S a j)))), (0, .ref (B 0)), (1, .int (nI a)), (2, .int (nI f))]) hx hb dX2_areAlike_129 hl (k := 3) rfl (nI_inc _) (by decide) rfl (fun ls hl => ?_)
                      refine lv_goto (tgt := 33) hx hb dX2_areAlike_132 (by decide) ?_
                      exact ih (j + 1) _ _ ls (by omega) (by omega) hP hD hS (lv_sub hl [0, 1, 4, 5, 6] rfl)
                    · refine lv_iconst (v := nI 1) hx hb dX2_areAlike_123 (by decide) ?_
                      refine lv_goto (tgt := 128) hx hb dX2_areAlike_124 (by decide) ?_
                      refine lv_topi (fun y9 ey9 => ?_)
                      obtain rfl : y9 = nI (bN (alB S a f (j + 1))) := ey9.trans (by rw [alB_s, bN_1.mp cL, show (vsb S a j == vsb S f j) = true from beq_iff_eq.mpr (bN_eq.mp cM)]; rfl)
                      refine lv_istore_n (lv' := [(3, .int (nI (bN (alB S a f (j + 1))))), (6, .int (nI (bN (vsb S f j)))), (5, .int (nI (bN (vsb S a j)))), (4, .int (nI j)), (0, .ref (B 0)), (1, .int (nI a)), (2, .int (nI f))]) hx hb dX2_areAlike_128 rfl hl (by decide) rfl (fun ls hl => ?_)
                      refine lv_iinc (v := nI (j + 1)) (lv' := [(4, .int (nI (j + 1))), (3, .int (nI (bN (alB S a f (j + 1))))), (6, .int (nI (bN (vsb S f j)))), (5, .int (nI (bN (vsb S a j)))), (0, .ref (B 0)), (1, .int (nI a)), (2, .int (nI f))]) hx hb dX2_areAlike_129 hl (k := 3) rfl (nI_inc _) (by decide) rfl (fun ls hl => ?_)
                      refine lv_goto (tgt := 33) hx hb dX2_areAlike_132 (by decide) ?_
                      exact ih (j + 1) _ _ ls (by omega) (by omega) hP hD hS (lv_sub hl [0, 1, 4, 5, 6] rfl)
                refine lv_aload_n hx hb dX2_areAlike_77 rfl (lv_at hl 3 rfl) ?_
                refine va_get (D := D) (ci := 2) (v := .ref (B 5)) (C := RX2) (T := TX2) (N := 19) hx hb hts hiX2 hown hK hP (0) rfl rfl 5 (by decide) (hts (.fieldLink RX2 22 "CoauthorTextModel" "knows" "[Z") (by decide +kernel)) (fun _ h9 => h9) rfl dX2_areAlike_78 ?_
                refine lv_iload_n hx hb dX2_areAlike_81 rfl (lv_at hl 5 rfl) ?_
                refine lv_iload hx hb dX2_areAlike_82 (lv_at hl 1 rfl) ?_
                refine K_i (va_runS (As := [.int (nI f), .int (nI j)]) (rest := [.ref (B 5)]) ⟨hx, hb, hml, hown, hts⟩ (c_X2_at l f j _) (va_cwS 2 hts gX2_areAlike_X2_at rfl rfl rfl (by decide +kernel) ⟨Nat.le_of_ble_eq_true rfl, Nat.le_of_ble_eq_true rfl⟩) (pS hP hK hD hS hA hX) rfl rfl hl.1 rfl (lv_room (Nat.le_of_ble_eq_true rfl)) dX2_areAlike_84 ⟨Nat.le_of_ble_eq_true rfl, Nat.le_of_ble_eq_true rfl⟩) hD hS hA (fun r w'  H locs hp hP hD hS => ?_)
                obtain ⟨rfl, hw9⟩ := hp
                rw [hw9] at hP hD
                refine r_zald hx hb hK hP (5) rfl (by omega) (by decide) dX2_areAlike_87 ?_
                refine r_if_eq (tgt := 109) hx hb dX2_areAlike_88 (by decide) (by have := h5 (60 * f + j); omega) (fun cK => ?_) (fun cK => ?_)
                · refine lv_iconst (v := nI 0) hx hb dX2_areAlike_109 (by decide) ?_
                  refine lv_topi (fun y9 ey9 => ?_)
                  obtain rfl : y9 = nI (bN (vsb S f j)) := ey9.trans (by rw [vsb_0 cK]; rfl)
                  exact join110 _ _ ls hP hD hS hl
                · refine lv_aload_n hx hb dX2_areAlike_91 rfl (lv_at hl 3 rfl) ?_
                  refine va_get (D := D) (ci := 2) (v := .ref (B 6)) (C := RX2) (T := TX2) (N := 19) hx hb hts hiX2 hown hK hP (0) rfl rfl 6 (by decide) (hts (.fieldLink RX2 26 "CoauthorTextModel" "isRemoved" "[Z") (by decide +kernel)) (fun _ h9 => h9) rfl dX2_areAlike_92 ?_
                  refine lv_iload_n hx hb dX2_areAlike_95 rfl (lv_at hl 5 rfl) ?_
                  refine lv_iload hx hb dX2_areAlike_96 (lv_at hl 1 rfl) ?_
                  refine K_i (va_runS (As := [.int (nI f), .int (nI j)]) (rest := [.ref (B 6)]) ⟨hx, hb, hml, hown, hts⟩ (c_X2_at l f j _) (va_cwS 2 hts gX2_areAlike_X2_at rfl rfl rfl (by decide +kernel) ⟨Nat.le_of_ble_eq_true rfl, Nat.le_of_ble_eq_true rfl⟩) (pS hP hK hD hS hA hX) rfl rfl hl.1 rfl (lv_room (Nat.le_of_ble_eq_true rfl)) dX2_areAlike_98 ⟨Nat.le_of_ble_eq_true rfl, Nat.le_of_ble_eq_true rfl⟩) hD hS hA (fun r w'  H locs hp hP hD hS => ?_)
                  obtain ⟨rfl, hw9⟩ := hp
                  rw [hw9] at hP hD
                  refine r_zald hx hb hK hP (6) rfl (by omega) (by decide) dX2_areAlike_101 ?_
                  refine r_if_ne (tgt := 109) hx hb dX2_areAlike_102 (by decide) (by have := h6 (60 * f + j); omega) (fun cR => ?_) (fun cR => ?_)
                  · refine lv_iconst (v := nI 0) hx hb dX2_areAlike_109 (by decide) ?_
                    refine lv_topi (fun y9 ey9 => ?_)
                    obtain rfl : y9 = nI (bN (vsb S f j)) := ey9.trans (by rw [vsb_r cR]; rfl)
                    exact join110 _ _ ls hP hD hS hl
                  · refine lv_iconst (v := nI 1) hx hb dX2_areAlike_105 (by decide) ?_
                    refine lv_goto (tgt := 110) hx hb dX2_areAlike_106 (by decide) ?_
                    refine lv_topi (fun y9 ey9 => ?_)
                    obtain rfl : y9 = nI (bN (vsb S f j)) := ey9.trans (by rw [vsb_1 cK (h5 _) cR]; rfl)
                    exact join110 _ _ ls hP hD hS hl
              refine lv_aload_n hx hb dX2_areAlike_42 rfl (lv_at hl 2 rfl) ?_
              refine va_get (D := D) (ci := 2) (v := .ref (B 5)) (C := RX2) (T := TX2) (N := 19) hx hb hts hiX2 hown hK hP (0) rfl rfl 5 (by decide) (hts (.fieldLink RX2 22 "CoauthorTextModel" "knows" "[Z") (by decide +kernel)) (fun _ h9 => h9) rfl dX2_areAlike_43 ?_
              refine lv_iload_n hx hb dX2_areAlike_46 rfl (lv_at hl 3 rfl) ?_
              refine lv_iload hx hb dX2_areAlike_47 (lv_at hl 0 rfl) ?_
              refine K_i (va_runS (As := [.int (nI a), .int (nI j)]) (rest := [.ref (B 5)]) ⟨hx, hb, hml, hown, hts⟩ (c_X2_at l a j _) (va_cwS 2 hts gX2_areAlike_X2_at rfl rfl rfl (by decide +kernel) ⟨Nat.le_of_ble_eq_true rfl, Nat.le_of_ble_eq_true rfl⟩) (pS hP hK hD hS hA hX) rfl rfl hl.1 rfl (lv_room (Nat.le_of_ble_eq_true rfl)) dX2_areAlike_49 ⟨Nat.le_of_ble_eq_true rfl, Nat.le_of_ble_eq_true rfl⟩) hD hS hA (fun r w'  H locs hp hP hD hS => ?_)
              obtain ⟨rfl, hw9⟩ := hp
              rw [hw9] at hP hD
              refine r_zald hx hb hK hP (5) rfl (by omega) (by decide) dX2_areAlike_52 ?_
              refine r_if_eq (tgt := 74) hx hb dX2_areAlike_53 (by decide) (by have := h5 (60 * a + j); omega) (fun cK => ?_) (fun cK => ?_)
              · refine lv_iconst (v := nI 0) hx hb dX2_areAlike_74 (by decide) ?_
                refine lv_topi (fun y9 ey9 => ?_)
                obtain rfl : y9 = nI (bN (vsb S a j)) := ey9.trans (by rw [vsb_0 cK]; rfl)
                exact join75 _ _ ls hP hD hS hl
              · refine lv_aload_n hx hb dX2_areAlike_56 rfl (lv_at hl 2 rfl) ?_
                refine va_get (D := D) (ci := 2) (v := .ref (B 6)) (C := RX2) (T := TX2) (N := 19) hx hb hts hiX2 hown hK hP (0) rfl rfl 6 (by decide) (hts (.fieldLink RX2 26 "CoauthorTextModel" "isRemoved" "[Z") (by decide +kernel)) (fun _ h9 => h9) rfl dX2_areAlike_57 ?_
                refine lv_iload_n hx hb dX2_areAlike_60 rfl (lv_at hl 3 rfl) ?_
                refine lv_iload hx hb dX2_areAlike_61 (lv_at hl 0 rfl) ?_
                refine K_i (va_runS (As := [.int (nI a), .int (nI j)]) (rest := [.ref (B 6)]) ⟨hx, hb, hml, hown, hts⟩ (c_X2_at l a j _) (va_cwS 2 hts gX2_areAlike_X2_at rfl rfl rfl (by decide +kernel) ⟨Nat.le_of_ble_eq_true rfl, Nat.le_of_ble_eq_true rfl⟩) (pS hP hK hD hS hA hX) rfl rfl hl.1 rfl (lv_room (Nat.le_of_ble_eq_true rfl)) dX2_areAlike_63 ⟨Nat.le_of_ble_eq_true rfl, Nat.le_of_ble_eq_true rfl⟩) hD hS hA (fun r w'  H locs hp hP hD hS => ?_)
                obtain ⟨rfl, hw9⟩ := hp
                rw [hw9] at hP hD
                refine r_zald hx hb hK hP (6) rfl (by omega) (by decide) dX2_areAlike_66 ?_
                refine r_if_ne (tgt := 74) hx hb dX2_areAlike_67 (by decide) (by have := h6 (60 * a + j); omega) (fun cR => ?_) (fun cR => ?_)
                · refine lv_iconst (v := nI 0) hx hb dX2_areAlike_74 (by decide) ?_
                  refine lv_topi (fun y9 ey9 => ?_)
                  obtain rfl : y9 = nI (bN (vsb S a j)) := ey9.trans (by rw [vsb_r cR]; rfl)
                  exact join75 _ _ ls hP hD hS hl
                · refine lv_iconst (v := nI 1) hx hb dX2_areAlike_70 (by decide) ?_
                  refine lv_goto (tgt := 75) hx hb dX2_areAlike_71 (by decide) ?_
                  refine lv_topi (fun y9 ey9 => ?_)
                  obtain rfl : y9 = nI (bN (vsb S a j)) := ey9.trans (by rw [vsb_1 cK (h5 _) cR]; rfl)
                  exact join75 _ _ ls hP hD hS hl
        exact loop (S 0 0 + 1) 0 _ _ ls (by omega) (Nat.zero_le _) hP hD hS (lv_sub hl [0, 1, 2, 3, 4] rfl)
      · omega

theorem lr_its {S : Nat → Nat → Nat} {a f j : Nat} {P : Nat → Bool} (hne : a ≠ f) (hj : j < 60) (k : Nat) : lrP S a f P k (60 * f + j) = S k (60 * f + j) := by
  have h : ¬ (60 * a ≤ 60 * f + j ∧ 60 * f + j < 60 * a + 60) := by omega
  unfold lrP
  by_cases h5 : k = 5
  · subst h5
    rw [if_pos rfl, if_neg (fun g => h ⟨g.1, g.2.1⟩)]
  · by_cases h6 : k = 6
    · subst h6
      rw [if_neg h5, if_pos rfl, if_neg (fun g => h ⟨g.1, g.2.1⟩)]
    · by_cases h7 : k = 7
      · subst h7
        rw [if_neg h5, if_neg h6, if_pos rfl, if_neg (fun g => h ⟨g.1, g.2.1⟩)]
      · rw [if_neg h5, if_neg h6, if_neg h7]
theorem lr_mine {S : Nat → Nat → Nat} {a f j : Nat} {P : Nat → Bool} (hP : P j = false) (k : Nat) : lrP S a f P k (60 * a + j) = S k (60 * a + j) := by
  have h : (P (60 * a + j - 60 * a) && lrB S a f (60 * a + j - 60 * a)) = false := by rw [Nat.add_sub_cancel_left, hP]; rfl
  unfold lrP
  simp only [h, Bool.false_eq_true, and_false, if_false]
  by_cases h5 : k = 5
  · subst h5; rfl
  · by_cases h6 : k = 6
    · subst h6; rfl
    · by_cases h7 : k = 7
      · subst h7; rfl
      · rw [if_neg h5, if_neg h6, if_neg h7]
/-- P with j added: nothing new if j has nothing to be learned -/
theorem lr_skip {S : Nat → Nat → Nat} {a f j : Nat} {P P' : Nat → Bool} (hPP : ∀ i, i ≠ j → P' i = P i) (hb : lrB S a f j = false) : lrP S a f P' = lrP S a f P := by
  have h : ∀ x, (P' x && lrB S a f x) = (P x && lrB S a f x) := fun x => by
    by_cases e : x = j
    · subst e; rw [hb, Bool.and_false, Bool.and_false]
    · rw [hPP x e]
  funext k i
  simp only [lrP, h]
theorem lr_add {S : Nat → Nat → Nat} {a f j : Nat} {P P' : Nat → Bool} (hj : j < 60) (hPP : ∀ i, i ≠ j → P' i = P i) (h1 : P' j = true) (hb : lrB S a f j = true) :
    up2 (up2 (up2 (lrP S a f P) 5 (60 * a + j) 1) 6 (60 * a + j) (S 6 (60 * f + j))) 7 (60 * a + j) (S 7 (60 * f + j)) = lrP S a f P' := by
  funext k i
  by_cases e : i = 60 * a + j
  · subst e
    have hr : 60 * a ≤ 60 * a + j ∧ 60 * a + j < 60 * a + 60 ∧ (P' (60 * a + j - 60 * a) && lrB S a f (60 * a + j - 60 * a)) = true := ⟨by omega, by omega, by rw [Nat.add_sub_cancel_left, h1, hb]; rfl⟩
    by_cases h7 : k = 7
    · subst h7; rw [up2_s]; unfold lrP; rw [if_neg (by decide), if_neg (by decide), if_pos rfl, if_pos hr, Nat.add_sub_cancel_left]
    · rw [up2_k _ h7]
      by_cases h6 : k = 6
      · subst h6; rw [up2_s]; unfold lrP; rw [if_neg (by decide), if_pos rfl, if_pos hr, Nat.add_sub_cancel_left]
      · rw [up2_k _ h6]
        by_cases h5 : k = 5
        · subst h5; rw [up2_s]; unfold lrP; rw [if_pos rfl, if_pos hr]
        · rw [up2_k _ h5]; unfold lrP; rw [if_neg h5, if_neg h6, if_neg h7, if_neg h5, if_neg h6, if_neg h7]
  · have hk : ∀ (F : Nat → Nat → Nat) (κ v : Nat), up2 F κ (60 * a + j) v k i = F k i := fun F κ v => by
      by_cases h : k = κ
      · subst h; exact up2_i _ e
      · exact up2_k _ h i
    rw [hk, hk, hk]
    have h : ∀ (hr : 60 * a ≤ i), (P' (i - 60 * a) && lrB S a f (i - 60 * a)) = (P (i - 60 * a) && lrB S a f (i - 60 * a)) := fun hr => by rw [hPP (i - 60 * a) (by omega)]
    by_cases hr : 60 * a ≤ i
    · simp only [lrP, h hr]
    · simp only [lrP, hr, false_and, if_false]
theorem lr_0 (S : Nat → Nat → Nat) (a f : Nat) : lrP S a f (fun i => decide (i < 0)) = S := by
  funext k j
  simp only [lrP, Nat.not_lt_zero, decide_false, Bool.false_and, Bool.false_eq_true, and_false, if_false]
  by_cases h5 : k = 5
  · subst h5; rfl
  · by_cases h6 : k = 6
    · subst h6; rfl
    · by_cases h7 : k = 7
      · subst h7; rfl
      · rw [if_neg h5, if_neg h6, if_neg h7]
theorem lt_dec {i j : Nat} (h : i ≠ j) : decide (i < j + 1) = decide (i < j) := by
  have : i < j + 1 ↔ i < j := by omega
  simp [this]
theorem cnt_s (p : Nat → Bool) (j : Nat) : (List.range (j + 1)).countP p = (List.range j).countP p + bN (p j) := by
  rw [List.range_succ, List.countP_append]
  cases h : p j <;> simp [h, bN]

set_option maxHeartbeats 4000000 in
set_option maxRecDepth 100000 in
theorem c_X2_learn (l : Launch) {D : va_G} {cy : Nat → ClassId} {B : Nat → Nat} {S T : Nat → Nat → Nat} {Y : va_W} {O : List Nat} (hI : Inv S O) (p0 p1 : Int32) : CI l yX2_learn wsX2_learn ({ frames := 3, cells := 0, slots := 0, locals := 54 } : Room) D cy [.ref (B 0), .int p0, .int p1] (MW cy B S T Y) (fun r w' => ∃ T' : Nat → Nat → Nat, T' 0 2 = (spLearn S p0 p1).1 ∧ w' = MW cy B (spLearn S p0 p1).2.2 T' Y ∧ ((spLearn S p0 p1).1 = 0 → r = (spLearn S p0 p1).2.1)) 0 0 := by
  refine CI.of (cc := cX2_learn) (maxL := 7) (ret := (some .int)) (by decide) rfl (Nat.le_of_ble_eq_true rfl) ?_
  intro p e s m below meth c A ls E0 hl
  obtain ⟨hx, hb, hml, hown, hts, hr, hlocks, hA, hS, hP, hK, hD, hX⟩ := E0
  have hiX2 : ∀ w ∈ u_ws RX2 TX2 19, w ∈ wsX2_learn := by decide +kernel
  have hl : lv_has ls 7 [(0, .ref (B 0)), (1, .int p0), (2, .int p1)] := hl
  refine lv_aload_n hx hb dX2_learn_0 rfl (lv_at hl 0 rfl) ?_
  refine lv_iload_n hx hb dX2_learn_1 rfl (lv_at hl 1 rfl) ?_
  refine K_i (va_runS (As := [.int p0]) (rest := [.ref (B 0)]) ⟨hx, hb, hml, hown, hts⟩ (c_X2_isAuthor l p0 _) (va_cwS 1 hts gX2_learn_X2_isAuthor rfl rfl rfl (by decide +kernel) ⟨Nat.le_of_ble_eq_true rfl, Nat.le_of_ble_eq_true rfl⟩) (pS hP hK hD hS hA hX) rfl rfl hl.1 rfl (lv_room (Nat.le_of_ble_eq_true rfl)) dX2_learn_2 ⟨Nat.le_of_ble_eq_true rfl, Nat.le_of_ble_eq_true rfl⟩) hD hS hA (fun r w'  H locs hp hP hD hS => ?_)
  obtain ⟨rfl, hw9⟩ := hp
  rw [hw9] at hP hD
  refine r_if_eq (tgt := 24) hx hb dX2_learn_5 (by decide) (Nat.lt_trans (bN_lt _) (by decide)) (fun cA => ?_) (fun cA => ?_)
  · have hU := bN_0.mp cA
    refine lv_iconst (v := nI 1) hx hb dX2_learn_24 (by decide) ?_
    refine K_i (va_runV (As := [.int (nI 1)]) (rest := []) ⟨hx, hb, hml, hown, hts⟩ (c_X2_goes l (k := 1) (by decide) _) (cwV 1 hts gX2_learn_X2_goes rfl rfl rfl (by decide +kernel) ⟨Nat.le_of_ble_eq_true rfl, Nat.le_of_ble_eq_true rfl⟩) (pV hP hK hD hS hA hX (va_recv hK hP (ci := 2) (q0 := 0) rfl rfl)) rfl rfl hl.1 rfl (lv_room (Nat.le_of_ble_eq_true rfl)) dX2_learn_25 ⟨Nat.le_of_ble_eq_true rfl, Nat.le_of_ble_eq_true rfl⟩) hD hS hA (fun r w'  H locs hp hP hD hS => ?_)
    obtain ⟨hr9, rfl⟩ := hp
    obtain rfl : r = nI 0 := hr9
    refine r_if_ne (tgt := 33) hx hb dX2_learn_28 (by decide) (by decide) (fun c1 => ?_) (fun c1 => ?_)
    · omega
    · refine lv_iconst (v := nI 0) hx hb dX2_learn_31 (by decide) ?_
      exact C_iret hx hb hr hlocks hS hP hK hD (Nat.le_of_ble_eq_true rfl) (Nat.le_of_ble_eq_true rfl) dX2_learn_32 (by rw [show spLearn S p0 p1 = (1, 0, S) from by simp [spLearn, hU]]; exact ⟨_, up2_s _ _ _ _, rfl, fun h => absurd (show (1 : Nat) = 0 from h) (by decide)⟩)
  · have hU := bN_1.mp cA
    refine lv_iload_n hx hb dX2_learn_8 rfl (lv_at hl 2 rfl) ?_
    refine K_i (va_runS (As := [.int p1]) (rest := [.ref (B 0)]) ⟨hx, hb, hml, hown, hts⟩ (c_X2_isAuthor l p1 _) (va_cwS 1 hts gX2_learn_X2_isAuthor rfl rfl rfl (by decide +kernel) ⟨Nat.le_of_ble_eq_true rfl, Nat.le_of_ble_eq_true rfl⟩) (pS hP hK hD hS hA hX) rfl rfl hl.1 rfl (lv_room (Nat.le_of_ble_eq_true rfl)) dX2_learn_9 ⟨Nat.le_of_ble_eq_true rfl, Nat.le_of_ble_eq_true rfl⟩) hD hS hA (fun r w'  H locs hp hP hD hS => ?_)
    obtain ⟨rfl, hw9⟩ := hp
    rw [hw9] at hP hD
    refine r_if_eq (tgt := 24) hx hb dX2_learn_12 (by decide) (Nat.lt_trans (bN_lt _) (by decide)) (fun cB => ?_) (fun cB => ?_)
    · have hV := bN_0.mp cB
      refine lv_iconst (v := nI 1) hx hb dX2_learn_24 (by decide) ?_
      refine K_i (va_runV (As := [.int (nI 1)]) (rest := []) ⟨hx, hb, hml, hown, hts⟩ (c_X2_goes l (k := 1) (by decide) _) (cwV 1 hts gX2_learn_X2_goes rfl rfl rfl (by decide +kernel) ⟨Nat.le_of_ble_eq_true rfl, Nat.le_of_ble_eq_true rfl⟩) (pV hP hK hD hS hA hX (va_recv hK hP (ci := 2) (q0 := 0) rfl rfl)) rfl rfl hl.1 rfl (lv_room (Nat.le_of_ble_eq_true rfl)) dX2_learn_25 ⟨Nat.le_of_ble_eq_true rfl, Nat.le_of_ble_eq_true rfl⟩) hD hS hA (fun r w'  H locs hp hP hD hS => ?_)
      obtain ⟨hr9, rfl⟩ := hp
      obtain rfl : r = nI 0 := hr9
      refine r_if_ne (tgt := 33) hx hb dX2_learn_28 (by decide) (by decide) (fun c2 => ?_) (fun c2 => ?_)
      · omega
      · refine lv_iconst (v := nI 0) hx hb dX2_learn_31 (by decide) ?_
        exact C_iret hx hb hr hlocks hS hP hK hD (Nat.le_of_ble_eq_true rfl) (Nat.le_of_ble_eq_true rfl) dX2_learn_32 (by rw [show spLearn S p0 p1 = (1, 0, S) from by simp [spLearn, hU, hV]]; exact ⟨_, up2_s _ _ _ _, rfl, fun h => absurd (show (1 : Nat) = 0 from h) (by decide)⟩)
    · have hV := bN_1.mp cB
      refine lv_iload_n hx hb dX2_learn_15 rfl (lv_at hl 1 rfl) ?_
      refine lv_iload_n hx hb dX2_learn_16 rfl (lv_at hl 2 rfl) ?_
      refine lv_icmp_eq (tgt := 24) hx hb dX2_learn_17 (by decide) (fun cC => ?_) (fun cC => ?_)
      · refine lv_iconst (v := nI 1) hx hb dX2_learn_24 (by decide) ?_
        refine K_i (va_runV (As := [.int (nI 1)]) (rest := []) ⟨hx, hb, hml, hown, hts⟩ (c_X2_goes l (k := 1) (by decide) _) (cwV 1 hts gX2_learn_X2_goes rfl rfl rfl (by decide +kernel) ⟨Nat.le_of_ble_eq_true rfl, Nat.le_of_ble_eq_true rfl⟩) (pV hP hK hD hS hA hX (va_recv hK hP (ci := 2) (q0 := 0) rfl rfl)) rfl rfl hl.1 rfl (lv_room (Nat.le_of_ble_eq_true rfl)) dX2_learn_25 ⟨Nat.le_of_ble_eq_true rfl, Nat.le_of_ble_eq_true rfl⟩) hD hS hA (fun r w'  H locs hp hP hD hS => ?_)
        obtain ⟨hr9, rfl⟩ := hp
        obtain rfl : r = nI 0 := hr9
        refine r_if_ne (tgt := 33) hx hb dX2_learn_28 (by decide) (by decide) (fun c3 => ?_) (fun c3 => ?_)
        · omega
        · refine lv_iconst (v := nI 0) hx hb dX2_learn_31 (by decide) ?_
          exact C_iret hx hb hr hlocks hS hP hK hD (Nat.le_of_ble_eq_true rfl) (Nat.le_of_ble_eq_true rfl) dX2_learn_32 (by rw [show spLearn S p0 p1 = (1, 0, S) from by simp [spLearn, hU, hV, cC]]; exact ⟨_, up2_s _ _ _ _, rfl, fun h => absurd (show (1 : Nat) = 0 from h) (by decide)⟩)
      · refine lv_iconst (v := nI 0) hx hb dX2_learn_20 (by decide) ?_
        refine lv_goto (tgt := 25) hx hb dX2_learn_21 (by decide) ?_
        refine K_i (va_runV (As := [.int (nI 0)]) (rest := []) ⟨hx, hb, hml, hown, hts⟩ (c_X2_goes l (k := 0) (by decide) _) (cwV 1 hts gX2_learn_X2_goes rfl rfl rfl (by decide +kernel) ⟨Nat.le_of_ble_eq_true rfl, Nat.le_of_ble_eq_true rfl⟩) (pV hP hK hD hS hA hX (va_recv hK hP (ci := 2) (q0 := 0) rfl rfl)) rfl rfl hl.1 rfl (lv_room (Nat.le_of_ble_eq_true rfl)) dX2_learn_25 ⟨Nat.le_of_ble_eq_true rfl, Nat.le_of_ble_eq_true rfl⟩) hD hS hA (fun r w'  H locs hp hP hD hS => ?_)
        obtain ⟨hr9, rfl⟩ := hp
        obtain rfl : r = nI 1 := hr9
        refine r_if_ne (tgt := 33) hx hb dX2_learn_28 (by decide) (by decide) (fun c4 => ?_) (fun c4 => ?_)
        · obtain ⟨a, ha, rfl⟩ := isA_n hU
          obtain ⟨f, hf, rfl⟩ := isA_n hV
          have hn60 := hI.R.1
          have ea := aN_n (show a < 2 ^ 31 by omega)
          have ef := aN_n (show f < 2 ^ 31 by omega)
          have haf : a ≠ f := fun e => cC (by rw [e])
          have h5 := hI.R.2.2.2.2.2.2.2.1
          have h6 := hI.R.2.2.2.2.2.2.2.2.1
          have h7 := hI.R.2.2.2.2.2.2.2.2.2.1
          have h8 := hI.R.2.2.2.2.2.2.2.2.2.2.1
          refine lv_iconst (v := nI 0) hx hb dX2_learn_33 (by decide) ?_
          refine lv_istore_n (lv' := [(3, .int (nI 0)), (0, .ref (B 0)), (1, .int (nI a)), (2, .int (nI f))]) hx hb dX2_learn_34 rfl hl (by decide) rfl (fun ls hl => ?_)
          refine lv_iconst (v := nI 0) hx hb dX2_learn_35 (by decide) ?_
          refine lv_istore (lv' := [(4, .int (nI 0)), (3, .int (nI 0)), (0, .ref (B 0)), (1, .int (nI a)), (2, .int (nI f))]) hx hb dX2_learn_36 hl (by decide) rfl (fun ls hl => ?_)
          have loop : ∀ (q j : Nat) (Sj : Nat → Nat → Nat) (H : Heap) (locs : List Loc) (ls : Array Slot), j + q = S 0 0 + 1 → j ≤ S 0 0 → Sj = lrP S a f (fun i => decide (i < j)) → va_P D vwCl (MW cy B Sj (up2 T 0 2 0) Y) H → va_D A (MW cy B Sj (up2 T 0 2 0) Y) → va_S A s.heap H locs → lv_has ls 7 [(4, .int (nI j)), (3, .int (nI ((List.range j).countP (nwB S a f)))), (0, .ref (B 0)), (1, .int (nI a)), (2, .int (nI f))] → W p l e ({ frames := 3, cells := 0, slots := 0, locals := 54 } : Room) s m ([.ref (B 0), .int (nI a), .int (nI f)] : List Value).toArray below meth c H locs 0 0 (MQ below (va_Qi (fun r w' => ∃ T' : Nat → Nat → Nat, T' 0 2 = (spLearn S (nI a) (nI f)).1 ∧ w' = MW cy B (spLearn S (nI a) (nI f)).2.2 T' Y ∧ ((spLearn S (nI a) (nI f)).1 = 0 → r = (spLearn S (nI a) (nI f)).2.1)) (fun w' t => wB D cy A w' t) A) ([.ref (B 0), .int (nI a), .int (nI f)] : List Value).toArray s 0 0 A) (F0 m 38 ls []) := by
            intro q
            induction q with
            | zero => intro j Sj H locs ls hq; omega
            | succ q ih =>
              intro j Sj H locs ls hq hj hSj hP hD hS hl
              have e0 : Sj 0 = S 0 := by rw [hSj]; rfl
              have e8 : Sj 8 = S 8 := by rw [hSj]; rfl
              refine lv_iload hx hb dX2_learn_38 (lv_at hl 0 rfl) ?_
              refine lv_aload_n hx hb dX2_learn_40 rfl (lv_at hl 2 rfl) ?_
              refine va_get (D := D) (ci := 2) (v := .int (nI (Sj 0 0))) (C := RX2) (T := TX2) (N := 19) hx hb hts hiX2 hown hK hP (0) rfl rfl 0 (by decide) (hts (.fieldLink RX2 59 "CoauthorTextModel" "signs" "I") (by decide +kernel)) (fun _ h9 => h9) rfl dX2_learn_41 ?_
              refine lv_topi (fun y9 ey9 => ?_)
              obtain rfl : y9 = nI (S 0 0) := ey9.trans (by rw [e0])
              refine r_icmp_ge (tgt := 170) hx hb dX2_learn_44 (by decide) (by omega) (by omega) (fun c5 => ?_) (fun c5 => ?_)
              · have ej : j = S 0 0 := by omega
                refine lv_aload_n hx hb dX2_learn_170 rfl (lv_at hl 2 rfl) ?_
                refine va_get (D := D) (ci := 2) (v := .ref (B 8)) (C := RX2) (T := TX2) (N := 19) hx hb hts hiX2 hown hK hP (0) rfl rfl 8 (by decide) (hts (.fieldLink RX2 32 "CoauthorTextModel" "clocks" "[I") (by decide +kernel)) (fun _ h9 => h9) rfl dX2_learn_171 ?_
                refine lv_iload_n hx hb dX2_learn_174 rfl (lv_at hl 3 rfl) ?_
                refine lv_aload_n hx hb dX2_learn_175 rfl (lv_at hl 2 rfl) ?_
                refine va_get (D := D) (ci := 2) (v := .ref (B 8)) (C := RX2) (T := TX2) (N := 19) hx hb hts hiX2 hown hK hP (0) rfl rfl 8 (by decide) (hts (.fieldLink RX2 32 "CoauthorTextModel" "clocks" "[I") (by decide +kernel)) (fun _ h9 => h9) rfl dX2_learn_176 ?_
                refine lv_iload_n hx hb dX2_learn_179 rfl (lv_at hl 4 rfl) ?_
                refine r_iald hx hb hK hP (8) rfl (by omega) (by decide) dX2_learn_180 ?_
                refine lv_aload_n hx hb dX2_learn_181 rfl (lv_at hl 2 rfl) ?_
                refine va_get (D := D) (ci := 2) (v := .ref (B 8)) (C := RX2) (T := TX2) (N := 19) hx hb hts hiX2 hown hK hP (0) rfl rfl 8 (by decide) (hts (.fieldLink RX2 32 "CoauthorTextModel" "clocks" "[I") (by decide +kernel)) (fun _ h9 => h9) rfl dX2_learn_182 ?_
                refine lv_iload_n hx hb dX2_learn_185 rfl (lv_at hl 3 rfl) ?_
                refine r_iald hx hb hK hP (8) rfl (by omega) (by decide) dX2_learn_186 ?_
                refine r_icmp_le (tgt := 199) hx hb dX2_learn_187 (by decide) (by rw [e8]; have := h8 f; omega) (by rw [e8]; have := h8 a; omega) (fun cM => ?_) (fun cM => ?_)
                · refine lv_aload_n hx hb dX2_learn_199 rfl (lv_at hl 2 rfl) ?_
                  refine va_get (D := D) (ci := 2) (v := .ref (B 8)) (C := RX2) (T := TX2) (N := 19) hx hb hts hiX2 hown hK hP (0) rfl rfl 8 (by decide) (hts (.fieldLink RX2 32 "CoauthorTextModel" "clocks" "[I") (by decide +kernel)) (fun _ h9 => h9) rfl dX2_learn_200 ?_
                  refine lv_iload_n hx hb dX2_learn_203 rfl (lv_at hl 3 rfl) ?_
                  refine r_iald hx hb hK hP (8) rfl (by omega) (by decide) dX2_learn_204 ?_
                  refine r_iast (w' := MW cy B (up2 Sj 8 a (Sj 8 a)) (up2 T 0 2 0) Y) hx hb hK hP hD hS (8) rfl (by omega) (by decide) dX2_learn_205 (by rw [show upd (fun x9 => nI (Sj 8 x9)) a (nI (Sj 8 a)) = fun x9 => nI ((up2 Sj 8 a (Sj 8 a)) 8 x9) from upd_n Sj 8 _ _]; rfl) (fun H locs hP hD hS => ?_)
                  refine lv_iload_n hx hb dX2_learn_206 rfl (lv_at hl 1 rfl) ?_
                  exact C_iret hx hb hr hlocks hS hP hK hD (Nat.le_of_ble_eq_true rfl) (Nat.le_of_ble_eq_true rfl) dX2_learn_207 (by rw [show spLearn S (nI a) (nI f) = (0, nI ((List.range (S 0 0)).countP (nwB S a f)), lrS S a f) from by simp [spLearn, hU, hV, ea, ef, cC]]; exact ⟨_, up2_s _ _ _ _, by rw [lrS, show max (S 8 a) (S 8 f) = Sj 8 a from by rw [e8] at *; omega, ← ej, ← hSj], fun _ => by rw [ej]⟩)
                · refine lv_aload_n hx hb dX2_learn_190 rfl (lv_at hl 2 rfl) ?_
                  refine va_get (D := D) (ci := 2) (v := .ref (B 8)) (C := RX2) (T := TX2) (N := 19) hx hb hts hiX2 hown hK hP (0) rfl rfl 8 (by decide) (hts (.fieldLink RX2 32 "CoauthorTextModel" "clocks" "[I") (by decide +kernel)) (fun _ h9 => h9) rfl dX2_learn_191 ?_
                  refine lv_iload_n hx hb dX2_learn_194 rfl (lv_at hl 4 rfl) ?_
                  refine r_iald hx hb hK hP (8) rfl (by omega) (by decide) dX2_learn_195 ?_
                  refine lv_goto (tgt := 205) hx hb dX2_learn_196 (by decide) ?_
                  refine r_iast (w' := MW cy B (up2 Sj 8 a (Sj 8 f)) (up2 T 0 2 0) Y) hx hb hK hP hD hS (8) rfl (by omega) (by decide) dX2_learn_205 (by rw [show upd (fun x9 => nI (Sj 8 x9)) a (nI (Sj 8 f)) = fun x9 => nI ((up2 Sj 8 a (Sj 8 f)) 8 x9) from upd_n Sj 8 _ _]; rfl) (fun H locs hP hD hS => ?_)
                  refine lv_iload_n hx hb dX2_learn_206 rfl (lv_at hl 1 rfl) ?_
                  exact C_iret hx hb hr hlocks hS hP hK hD (Nat.le_of_ble_eq_true rfl) (Nat.le_of_ble_eq_true rfl) dX2_learn_207 (by rw [show spLearn S (nI a) (nI f) = (0, nI ((List.range (S 0 0)).countP (nwB S a f)), lrS S a f) from by simp [spLearn, hU, hV, ea, ef, cC]]; exact ⟨_, up2_s _ _ _ _, by rw [lrS, show max (S 8 a) (S 8 f) = Sj 8 f from by rw [e8] at *; omega, ← ej, ← hSj], fun _ => by rw [ej]⟩)
              · have hj60 : j < 60 := by omega
                have i5 : Sj 5 (60 * f + j) = S 5 (60 * f + j) := by rw [hSj]; exact lr_its haf hj60 5
                have i6 : Sj 6 (60 * f + j) = S 6 (60 * f + j) := by rw [hSj]; exact lr_its haf hj60 6
                have i7 : Sj 7 (60 * f + j) = S 7 (60 * f + j) := by rw [hSj]; exact lr_its haf hj60 7
                have m5 : Sj 5 (60 * a + j) = S 5 (60 * a + j) := by rw [hSj]; exact lr_mine (by simp) 5
                have m7 : Sj 7 (60 * a + j) = S 7 (60 * a + j) := by rw [hSj]; exact lr_mine (by simp) 7
                have g5 := h5 (60 * f + j)
                have g5a := h5 (60 * a + j)
                have g7 := h7 (60 * f + j)
                have g7a := h7 (60 * a + j)
                refine lv_iload_n hx hb dX2_learn_47 rfl (lv_at hl 3 rfl) ?_
                refine lv_iload hx hb dX2_learn_48 (lv_at hl 0 rfl) ?_
                refine K_i (va_runS (As := [.int (nI a), .int (nI j)]) (rest := []) ⟨hx, hb, hml, hown, hts⟩ (c_X2_at l a j _) (va_cwS 2 hts gX2_learn_X2_at rfl rfl rfl (by decide +kernel) ⟨Nat.le_of_ble_eq_true rfl, Nat.le_of_ble_eq_true rfl⟩) (pS hP hK hD hS hA hX) rfl rfl hl.1 rfl (lv_room (Nat.le_of_ble_eq_true rfl)) dX2_learn_50 ⟨Nat.le_of_ble_eq_true rfl, Nat.le_of_ble_eq_true rfl⟩) hD hS hA (fun r w'  H locs hp hP hD hS => ?_)
                obtain ⟨rfl, hw9⟩ := hp
                rw [hw9] at hP hD
                refine lv_istore (lv' := [(5, .int (nI (60 * a + j))), (4, .int (nI j)), (3, .int (nI ((List.range j).countP (nwB S a f)))), (0, .ref (B 0)), (1, .int (nI a)), (2, .int (nI f))]) hx hb dX2_learn_53 hl (by decide) rfl (fun ls hl => ?_)
                refine lv_iload_n hx hb dX2_learn_55 rfl (lv_at hl 5 rfl) ?_
                refine lv_iload hx hb dX2_learn_56 (lv_at hl 1 rfl) ?_
                refine K_i (va_runS (As := [.int (nI f), .int (nI j)]) (rest := []) ⟨hx, hb, hml, hown, hts⟩ (c_X2_at l f j _) (va_cwS 2 hts gX2_learn_X2_at rfl rfl rfl (by decide +kernel) ⟨Nat.le_of_ble_eq_true rfl, Nat.le_of_ble_eq_true rfl⟩) (pS hP hK hD hS hA hX) rfl rfl hl.1 rfl (lv_room (Nat.le_of_ble_eq_true rfl)) dX2_learn_58 ⟨Nat.le_of_ble_eq_true rfl, Nat.le_of_ble_eq_true rfl⟩) hD hS hA (fun r w'  H locs hp hP hD hS => ?_)
                obtain ⟨rfl, hw9⟩ := hp
                rw [hw9] at hP hD
                refine lv_istore (lv' := [(6, .int (nI (60 * f + j))), (5, .int (nI (60 * a + j))), (4, .int (nI j)), (3, .int (nI ((List.range j).countP (nwB S a f)))), (0, .ref (B 0)), (1, .int (nI a)), (2, .int (nI f))]) hx hb dX2_learn_61 hl (by decide) rfl (fun ls hl => ?_)
                refine lv_iload_n hx hb dX2_learn_63 rfl (lv_at hl 3 rfl) ?_
                refine lv_aload_n hx hb dX2_learn_64 rfl (lv_at hl 4 rfl) ?_
                refine va_get (D := D) (ci := 2) (v := .ref (B 5)) (C := RX2) (T := TX2) (N := 19) hx hb hts hiX2 hown hK hP (0) rfl rfl 5 (by decide) (hts (.fieldLink RX2 22 "CoauthorTextModel" "knows" "[Z") (by decide +kernel)) (fun _ h9 => h9) rfl dX2_learn_65 ?_
                refine lv_iload hx hb dX2_learn_68 (lv_at hl 0 rfl) ?_
                refine r_zald hx hb hK hP (5) rfl (by omega) (by decide) dX2_learn_70 ?_
                have join : ∀ (H : Heap) (locs : List Loc) (ls : Array Slot), va_P D vwCl (MW cy B Sj (up2 T 0 2 0) Y) H → va_D A (MW cy B Sj (up2 T 0 2 0) Y) → va_S A s.heap H locs → lv_has ls 7 [(3, .int (nI ((List.range (j + 1)).countP (nwB S a f)))), (6, .int (nI (60 * f + j))), (5, .int (nI (60 * a + j))), (4, .int (nI j)), (0, .ref (B 0)), (1, .int (nI a)), (2, .int (nI f))] → W p l e ({ frames := 3, cells := 0, slots := 0, locals := 54 } : Room) s m ([.ref (B 0), .int (nI a), .int (nI f)] : List Value).toArray below meth c H locs 0 0 (MQ below (va_Qi (fun r w' => ∃ T' : Nat → Nat → Nat, T' 0 2 = (spLearn S (nI a) (nI f)).1 ∧ w' = MW cy B (spLearn S (nI a) (nI f)).2.2 T' Y ∧ ((spLearn S (nI a) (nI f)).1 = 0 → r = (spLearn S (nI a) (nI f)).2.1)) (fun w' t => wB D cy A w' t) A) ([.ref (B 0), .int (nI a), .int (nI f)] : List Value).toArray s 0 0 A) (F0 m 91 ls []) := by
                  intro H locs ls hP hD hS hl
                  refine lv_aload_n hx hb dX2_learn_91 rfl (lv_at hl 4 rfl) ?_
                  refine va_get (D := D) (ci := 2) (v := .ref (B 5)) (C := RX2) (T := TX2) (N := 19) hx hb hts hiX2 hown hK hP (0) rfl rfl 5 (by decide) (hts (.fieldLink RX2 22 "CoauthorTextModel" "knows" "[Z") (by decide +kernel)) (fun _ h9 => h9) rfl dX2_learn_92 ?_
                  refine lv_iload hx hb dX2_learn_95 (lv_at hl 1 rfl) ?_
                  refine r_zald hx hb hK hP (5) rfl (by omega) (by decide) dX2_learn_97 ?_
                  refine r_if_eq (tgt := 164) hx hb dX2_learn_98 (by decide) (by rw [i5]; omega) (fun cQ => ?_) (fun cQ => ?_)
                  · refine lv_iinc (v := nI (j + 1)) (lv' := [(4, .int (nI (j + 1))), (3, .int (nI ((List.range (j + 1)).countP (nwB S a f)))), (6, .int (nI (60 * f + j))), (5, .int (nI (60 * a + j))), (0, .ref (B 0)), (1, .int (nI a)), (2, .int (nI f))]) hx hb dX2_learn_164 hl (k := 3) rfl (nI_inc _) (by decide) rfl (fun ls hl => ?_)
                    refine lv_goto (tgt := 38) hx hb dX2_learn_167 (by decide) ?_
                    exact ih (j + 1) Sj _ _ ls (by omega) (by omega) (by rw [hSj]; exact (lr_skip (j := j) (fun i hi => lt_dec hi) (by simp only [lrB, Bool.and_eq_false_iff, decide_eq_false_iff_not]; omega)).symm) hP hD hS (lv_sub hl [0, 1, 4, 5, 6] rfl)
                  · refine lv_aload_n hx hb dX2_learn_101 rfl (lv_at hl 4 rfl) ?_
                    refine va_get (D := D) (ci := 2) (v := .ref (B 5)) (C := RX2) (T := TX2) (N := 19) hx hb hts hiX2 hown hK hP (0) rfl rfl 5 (by decide) (hts (.fieldLink RX2 22 "CoauthorTextModel" "knows" "[Z") (by decide +kernel)) (fun _ h9 => h9) rfl dX2_learn_102 ?_
                    refine lv_iload hx hb dX2_learn_105 (lv_at hl 2 rfl) ?_
                    refine r_zald hx hb hK hP (5) rfl (by omega) (by decide) dX2_learn_107 ?_
                    refine r_if_eq (tgt := 128) hx hb dX2_learn_108 (by decide) (by rw [m5]; omega) (fun cR => ?_) (fun cR => ?_)
                    · refine lv_aload_n hx hb dX2_learn_128 rfl (lv_at hl 4 rfl) ?_
                      refine va_get (D := D) (ci := 2) (v := .ref (B 5)) (C := RX2) (T := TX2) (N := 19) hx hb hts hiX2 hown hK hP (0) rfl rfl 5 (by decide) (hts (.fieldLink RX2 22 "CoauthorTextModel" "knows" "[Z") (by decide +kernel)) (fun _ h9 => h9) rfl dX2_learn_129 ?_
                      refine lv_iload hx hb dX2_learn_132 (lv_at hl 2 rfl) ?_
                      refine lv_iconst (v := nI 1) hx hb dX2_learn_134 (by decide) ?_
                      refine r_zast (w' := MW cy B (up2 Sj 5 (60 * a + j) 1) (up2 T 0 2 0) Y) hx hb hK hP hD hS (5) rfl (by omega) (by decide) dX2_learn_135 rfl (by rw [show upd (fun x9 => nI (Sj 5 x9)) (60 * a + j) (nI 1) = fun x9 => nI ((up2 Sj 5 (60 * a + j) 1) 5 x9) from upd_n Sj 5 _ _]; rfl) (fun H locs hP hD hS => ?_)
                      refine lv_aload_n hx hb dX2_learn_136 rfl (lv_at hl 4 rfl) ?_
                      refine va_get (D := D) (ci := 2) (v := .ref (B 6)) (C := RX2) (T := TX2) (N := 19) hx hb hts hiX2 hown hK hP (0) rfl rfl 6 (by decide) (hts (.fieldLink RX2 26 "CoauthorTextModel" "isRemoved" "[Z") (by decide +kernel)) (fun _ h9 => h9) rfl dX2_learn_137 ?_
                      refine lv_iload hx hb dX2_learn_140 (lv_at hl 2 rfl) ?_
                      refine lv_aload_n hx hb dX2_learn_142 rfl (lv_at hl 4 rfl) ?_
                      refine va_get (D := D) (ci := 2) (v := .ref (B 6)) (C := RX2) (T := TX2) (N := 19) hx hb hts hiX2 hown hK hP (0) rfl rfl 6 (by decide) (hts (.fieldLink RX2 26 "CoauthorTextModel" "isRemoved" "[Z") (by decide +kernel)) (fun _ h9 => h9) rfl dX2_learn_143 ?_
                      refine lv_iload hx hb dX2_learn_146 (lv_at hl 1 rfl) ?_
                      refine r_zald hx hb hK hP (6) rfl (by omega) (by decide) dX2_learn_148 ?_
                      refine lv_topi (fun y9 ey9 => ?_)
                      obtain rfl : y9 = nI (S 6 (60 * f + j)) := ey9.trans (by show nI (Sj 6 (60 * f + j)) = _; rw [i6])
                      refine r_zast (w' := MW cy B (up2 (up2 Sj 5 (60 * a + j) 1) 6 (60 * a + j) (S 6 (60 * f + j))) (up2 T 0 2 0) Y) hx hb hK hP hD hS (6) rfl (by omega) (by decide) dX2_learn_149 (nar_b (h6 (60 * f + j))) (by rw [show upd (fun x9 => nI ((up2 Sj 5 (60 * a + j) 1) 6 x9)) (60 * a + j) (nI (S 6 (60 * f + j))) = fun x9 => nI ((up2 (up2 Sj 5 (60 * a + j) 1) 6 (60 * a + j) (S 6 (60 * f + j))) 6 x9) from upd_n (up2 Sj 5 (60 * a + j) 1) 6 _ _]; rfl) (fun H locs hP hD hS => ?_)
                      refine lv_aload_n hx hb dX2_learn_150 rfl (lv_at hl 4 rfl) ?_
                      refine va_get (D := D) (ci := 2) (v := .ref (B 7)) (C := RX2) (T := TX2) (N := 19) hx hb hts hiX2 hown hK hP (0) rfl rfl 7 (by decide) (hts (.fieldLink RX2 29 "CoauthorTextModel" "stamps" "[I") (by decide +kernel)) (fun _ h9 => h9) rfl dX2_learn_151 ?_
                      refine lv_iload hx hb dX2_learn_154 (lv_at hl 2 rfl) ?_
                      refine lv_aload_n hx hb dX2_learn_156 rfl (lv_at hl 4 rfl) ?_
                      refine va_get (D := D) (ci := 2) (v := .ref (B 7)) (C := RX2) (T := TX2) (N := 19) hx hb hts hiX2 hown hK hP (0) rfl rfl 7 (by decide) (hts (.fieldLink RX2 29 "CoauthorTextModel" "stamps" "[I") (by decide +kernel)) (fun _ h9 => h9) rfl dX2_learn_157 ?_
                      refine lv_iload hx hb dX2_learn_160 (lv_at hl 1 rfl) ?_
                      refine r_iald hx hb hK hP (7) rfl (by omega) (by decide) dX2_learn_162 ?_
                      refine lv_topi (fun y9 ey9 => ?_)
                      obtain rfl : y9 = nI (S 7 (60 * f + j)) := ey9.trans (by show nI (Sj 7 (60 * f + j)) = _; rw [i7])
                      refine r_iast (w' := MW cy B (up2 (up2 (up2 Sj 5 (60 * a + j) 1) 6 (60 * a + j) (S 6 (60 * f + j))) 7 (60 * a + j) (S 7 (60 * f + j))) (up2 T 0 2 0) Y) hx hb hK hP hD hS (7) rfl (by omega) (by decide) dX2_learn_163 (by rw [show upd (fun x9 => nI ((up2 (up2 Sj 5 (60 * a + j) 1) 6 (60 * a + j) (S 6 (60 * f + j))) 7 x9)) (60 * a + j) (nI (S 7 (60 * f + j))) = fun x9 => nI ((up2 (up2 (up2 Sj 5 (60 * a + j) 1) 6 (60 * a + j) (S 6 (60 * f + j))) 7 (60 * a + j) (S 7 (60 * f + j))) 7 x9) from upd_n (up2 (up2 Sj 5 (60 * a + j) 1) 6 (60 * a + j) (S 6 (60 * f + j))) 7 _ _]; rfl) (fun H locs hP hD hS => ?_)
                      refine lv_iinc (v := nI (j + 1)) (lv' := [(4, .int (nI (j + 1))), (3, .int (nI ((List.range (j + 1)).countP (nwB S a f)))), (6, .int (nI (60 * f + j))), (5, .int (nI (60 * a + j))), (0, .ref (B 0)), (1, .int (nI a)), (2, .int (nI f))]) hx hb dX2_learn_164 hl (k := 3) rfl (nI_inc _) (by decide) rfl (fun ls hl => ?_)
                      refine lv_goto (tgt := 38) hx hb dX2_learn_167 (by decide) ?_
                      exact ih (j + 1) _ _ _ ls (by omega) (by omega) (by rw [hSj]; exact lr_add hj60 (fun i hi => lt_dec hi) (by simp) (by simp only [lrB, Bool.and_eq_true, Bool.or_eq_true, decide_eq_true_eq]; omega)) hP hD hS (lv_sub hl [0, 1, 4, 5, 6] rfl)
                    · refine lv_aload_n hx hb dX2_learn_111 rfl (lv_at hl 4 rfl) ?_
                      refine va_get (D := D) (ci := 2) (v := .ref (B 7)) (C := RX2) (T := TX2) (N := 19) hx hb hts hiX2 hown hK hP (0) rfl rfl 7 (by decide) (hts (.fieldLink RX2 29 "CoauthorTextModel" "stamps" "[I") (by decide +kernel)) (fun _ h9 => h9) rfl dX2_learn_112 ?_
                      refine lv_iload hx hb dX2_learn_115 (lv_at hl 1 rfl) ?_
                      refine r_iald hx hb hK hP (7) rfl (by omega) (by decide) dX2_learn_117 ?_
                      refine lv_aload_n hx hb dX2_learn_118 rfl (lv_at hl 4 rfl) ?_
                      refine va_get (D := D) (ci := 2) (v := .ref (B 7)) (C := RX2) (T := TX2) (N := 19) hx hb hts hiX2 hown hK hP (0) rfl rfl 7 (by decide) (hts (.fieldLink RX2 29 "CoauthorTextModel" "stamps" "[I") (by decide +kernel)) (fun _ h9 => h9) rfl dX2_learn_119 ?_
                      refine lv_iload hx hb dX2_learn_122 (lv_at hl 2 rfl) ?_
                      refine r_iald hx hb hK hP (7) rfl (by omega) (by decide) dX2_learn_124 ?_
                      refine r_icmp_le (tgt := 164) hx hb dX2_learn_125 (by decide) (by rw [i7]; omega) (by rw [m7]; omega) (fun cS => ?_) (fun cS => ?_)
                      · refine lv_iinc (v := nI (j + 1)) (lv' := [(4, .int (nI (j + 1))), (3, .int (nI ((List.range (j + 1)).countP (nwB S a f)))), (6, .int (nI (60 * f + j))), (5, .int (nI (60 * a + j))), (0, .ref (B 0)), (1, .int (nI a)), (2, .int (nI f))]) hx hb dX2_learn_164 hl (k := 3) rfl (nI_inc _) (by decide) rfl (fun ls hl => ?_)
                        refine lv_goto (tgt := 38) hx hb dX2_learn_167 (by decide) ?_
                        exact ih (j + 1) Sj _ _ ls (by omega) (by omega) (by rw [hSj]; exact (lr_skip (j := j) (fun i hi => lt_dec hi) (by simp only [lrB, Bool.and_eq_false_iff, Bool.or_eq_false_iff, decide_eq_false_iff_not]; omega)).symm) hP hD hS (lv_sub hl [0, 1, 4, 5, 6] rfl)
                      · refine lv_aload_n hx hb dX2_learn_128 rfl (lv_at hl 4 rfl) ?_
                        refine va_get (D := D) (ci := 2) (v := .ref (B 5)) (C := RX2) (T := TX2) (N := 19) hx hb hts hiX2 hown hK hP (0) rfl rfl 5 (by decide) (hts (.fieldLink RX2 22 "CoauthorTextModel" "knows" "[Z") (by decide +kernel)) (fun _ h9 => h9) rfl dX2_learn_129 ?_
                        refine lv_iload hx hb dX2_learn_132 (lv_at hl 2 rfl) ?_
                        refine lv_iconst (v := nI 1) hx hb dX2_learn_134 (by decide) ?_
                        refine r_zast (w' := MW cy B (up2 Sj 5 (60 * a + j) 1) (up2 T 0 2 0) Y) hx hb hK hP hD hS (5) rfl (by omega) (by decide) dX2_learn_135 rfl (by rw [show upd (fun x9 => nI (Sj 5 x9)) (60 * a + j) (nI 1) = fun x9 => nI ((up2 Sj 5 (60 * a + j) 1) 5 x9) from upd_n Sj 5 _ _]; rfl) (fun H locs hP hD hS => ?_)
                        refine lv_aload_n hx hb dX2_learn_136 rfl (lv_at hl 4 rfl) ?_
                        refine va_get (D := D) (ci := 2) (v := .ref (B 6)) (C := RX2) (T := TX2) (N := 19) hx hb hts hiX2 hown hK hP (0) rfl rfl 6 (by decide) (hts (.fieldLink RX2 26 "CoauthorTextModel" "isRemoved" "[Z") (by decide +kernel)) (fun _ h9 => h9) rfl dX2_learn_137 ?_
                        refine lv_iload hx hb dX2_learn_140 (lv_at hl 2 rfl) ?_
                        refine lv_aload_n hx hb dX2_learn_142 rfl (lv_at hl 4 rfl) ?_
                        refine va_get (D := D) (ci := 2) (v := .ref (B 6)) (C := RX2) (T := TX2) (N := 19) hx hb hts hiX2 hown hK hP (0) rfl rfl 6 (by decide) (hts (.fieldLink RX2 26 "CoauthorTextModel" "isRemoved" "[Z") (by decide +kernel)) (fun _ h9 => h9) rfl dX2_learn_143 ?_
                        refine lv_iload hx hb dX2_learn_146 (lv_at hl 1 rfl) ?_
                        refine r_zald hx hb hK hP (6) rfl (by omega) (by decide) dX2_learn_148 ?_
                        refine lv_topi (fun y9 ey9 => ?_)
                        obtain rfl : y9 = nI (S 6 (60 * f + j)) := ey9.trans (by show nI (Sj 6 (60 * f + j)) = _; rw [i6])
                        refine r_zast (w' := MW cy B (up2 (up2 Sj 5 (60 * a + j) 1) 6 (60 * a + j) (S 6 (60 * f + j))) (up2 T 0 2 0) Y) hx hb hK hP hD hS (6) rfl (by omega) (by decide) dX2_learn_149 (nar_b (h6 (60 * f + j))) (by rw [show upd (fun x9 => nI ((up2 Sj 5 (60 * a + j) 1) 6 x9)) (60 * a + j) (nI (S 6 (60 * f + j))) = fun x9 => nI ((up2 (up2 Sj 5 (60 * a + j) 1) 6 (60 * a + j) (S 6 (60 * f + j))) 6 x9) from upd_n (up2 Sj 5 (60 * a + j) 1) 6 _ _]; rfl) (fun H locs hP hD hS => ?_)
                        refine lv_aload_n hx hb dX2_learn_150 rfl (lv_at hl 4 rfl) ?_
                        refine va_get (D := D) (ci := 2) (v := .ref (B 7)) (C := RX2) (T := TX2) (N := 19) hx hb hts hiX2 hown hK hP (0) rfl rfl 7 (by decide) (hts (.fieldLink RX2 29 "CoauthorTextModel" "stamps" "[I") (by decide +kernel)) (fun _ h9 => h9) rfl dX2_learn_151 ?_
                        refine lv_iload hx hb dX2_learn_154 (lv_at hl 2 rfl) ?_
                        refine lv_aload_n hx hb dX2_learn_156 rfl (lv_at hl 4 rfl) ?_
                        refine va_get (D := D) (ci := 2) (v := .ref (B 7)) (C := RX2) (T := TX2) (N := 19) hx hb hts hiX2 hown hK hP (0) rfl rfl 7 (by decide) (hts (.fieldLink RX2 29 "CoauthorTextModel" "stamps" "[I") (by decide +kernel)) (fun _ h9 => h9) rfl dX2_learn_157 ?_
                        refine lv_iload hx hb dX2_learn_160 (lv_at hl 1 rfl) ?_
                        refine r_iald hx hb hK hP (7) rfl (by omega) (by decide) dX2_learn_162 ?_
                        refine lv_topi (fun y9 ey9 => ?_)
                        obtain rfl : y9 = nI (S 7 (60 * f + j)) := ey9.trans (by show nI (Sj 7 (60 * f + j)) = _; rw [i7])
                        refine r_iast (w' := MW cy B (up2 (up2 (up2 Sj 5 (60 * a + j) 1) 6 (60 * a + j) (S 6 (60 * f + j))) 7 (60 * a + j) (S 7 (60 * f + j))) (up2 T 0 2 0) Y) hx hb hK hP hD hS (7) rfl (by omega) (by decide) dX2_learn_163 (by rw [show upd (fun x9 => nI ((up2 (up2 Sj 5 (60 * a + j) 1) 6 (60 * a + j) (S 6 (60 * f + j))) 7 x9)) (60 * a + j) (nI (S 7 (60 * f + j))) = fun x9 => nI ((up2 (up2 (up2 Sj 5 (60 * a + j) 1) 6 (60 * a + j) (S 6 (60 * f + j))) 7 (60 * a + j) (S 7 (60 * f + j))) 7 x9) from upd_n (up2 (up2 Sj 5 (60 * a + j) 1) 6 (60 * a + j) (S 6 (60 * f + j))) 7 _ _]; rfl) (fun H locs hP hD hS => ?_)
                        refine lv_iinc (v := nI (j + 1)) (lv' := [(4, .int (nI (j + 1))), (3, .int (nI ((List.range (j + 1)).countP (nwB S a f)))), (6, .int (nI (60 * f + j))), (5, .int (nI (60 * a + j))), (0, .ref (B 0)), (1, .int (nI a)), (2, .int (nI f))]) hx hb dX2_learn_164 hl (k := 3) rfl (nI_inc _) (by decide) rfl (fun ls hl => ?_)
                        refine lv_goto (tgt := 38) hx hb dX2_learn_167 (by decide) ?_
                        exact ih (j + 1) _ _ _ ls (by omega) (by omega) (by rw [hSj]; exact lr_add hj60 (fun i hi => lt_dec hi) (by simp) (by simp only [lrB, Bool.and_eq_true, Bool.or_eq_true, decide_eq_true_eq]; omega)) hP hD hS (lv_sub hl [0, 1, 4, 5, 6] rfl)
                refine r_if_eq (tgt := 88) hx hb dX2_learn_71 (by decide) (by rw [i5]; omega) (fun cX => ?_) (fun cX => ?_)
                · refine lv_iconst (v := nI 0) hx hb dX2_learn_88 (by decide) ?_
                  refine r_iadd hx hb dX2_learn_89 ?_
                  refine lv_topi (fun y9 ey9 => ?_)
                  obtain rfl : y9 = nI ((List.range (j + 1)).countP (nwB S a f)) := ey9.trans (by rw [cnt_s, show nwB S a f j = false from by simp only [nwB, Bool.and_eq_false_iff, decide_eq_false_iff_not]; omega]; rfl)
                  refine lv_istore_n (lv' := [(3, .int (nI ((List.range (j + 1)).countP (nwB S a f)))), (6, .int (nI (60 * f + j))), (5, .int (nI (60 * a + j))), (4, .int (nI j)), (0, .ref (B 0)), (1, .int (nI a)), (2, .int (nI f))]) hx hb dX2_learn_90 rfl hl (by decide) rfl (fun ls hl => ?_)
                  exact join _ _ ls hP hD hS (lv_sub hl [0, 1, 2, 3, 4, 5, 6] rfl)
                · refine lv_aload_n hx hb dX2_learn_74 rfl (lv_at hl 4 rfl) ?_
                  refine va_get (D := D) (ci := 2) (v := .ref (B 5)) (C := RX2) (T := TX2) (N := 19) hx hb hts hiX2 hown hK hP (0) rfl rfl 5 (by decide) (hts (.fieldLink RX2 22 "CoauthorTextModel" "knows" "[Z") (by decide +kernel)) (fun _ h9 => h9) rfl dX2_learn_75 ?_
                  refine lv_iload hx hb dX2_learn_78 (lv_at hl 1 rfl) ?_
                  refine r_zald hx hb hK hP (5) rfl (by omega) (by decide) dX2_learn_80 ?_
                  refine r_if_ne (tgt := 88) hx hb dX2_learn_81 (by decide) (by rw [m5]; omega) (fun cY => ?_) (fun cY => ?_)
                  · refine lv_iconst (v := nI 0) hx hb dX2_learn_88 (by decide) ?_
                    refine r_iadd hx hb dX2_learn_89 ?_
                    refine lv_topi (fun y9 ey9 => ?_)
                    obtain rfl : y9 = nI ((List.range (j + 1)).countP (nwB S a f)) := ey9.trans (by rw [cnt_s, show nwB S a f j = false from by simp only [nwB, Bool.and_eq_false_iff, decide_eq_false_iff_not]; omega]; rfl)
                    refine lv_istore_n (lv' := [(3, .int (nI ((List.range (j + 1)).countP (nwB S a f)))), (6, .int (nI (60 * f + j))), (5, .int (nI (60 * a + j))), (4, .int (nI j)), (0, .ref (B 0)), (1, .int (nI a)), (2, .int (nI f))]) hx hb dX2_learn_90 rfl hl (by decide) rfl (fun ls hl => ?_)
                    exact join _ _ ls hP hD hS (lv_sub hl [0, 1, 2, 3, 4, 5, 6] rfl)
                  · refine lv_iconst (v := nI 1) hx hb dX2_learn_84 (by decide) ?_
                    refine lv_goto (tgt := 89) hx hb dX2_learn_85 (by decide) ?_
                    refine r_iadd hx hb dX2_learn_89 ?_
                    refine lv_topi (fun y9 ey9 => ?_)
                    obtain rfl : y9 = nI ((List.range (j + 1)).countP (nwB S a f)) := ey9.trans (by rw [cnt_s, show nwB S a f j = true from by simp only [nwB, Bool.and_eq_true, decide_eq_true_eq]; omega]; rfl)
                    refine lv_istore_n (lv' := [(3, .int (nI ((List.range (j + 1)).countP (nwB S a f)))), (6, .int (nI (60 * f + j))), (5, .int (nI (60 * a + j))), (4, .int (nI j)), (0, .ref (B 0)), (1, .int (nI a)), (2, .int (nI f))]) hx hb dX2_learn_90 rfl hl (by decide) rfl (fun ls hl => ?_)
                    exact join _ _ ls hP hD hS (lv_sub hl [0, 1, 2, 3, 4, 5, 6] rfl)
          exact loop (S 0 0 + 1) 0 S _ _ ls (by omega) (Nat.zero_le _) (lr_0 S a f).symm hP hD hS (lv_sub hl [0, 1, 2, 3, 4] rfl)
        · omega
end
section
/-! ===== the reference: print, sell ===== -/
section ROWSL
variable {p : Program} {l : Launch} {e : Env} {R : Room} {s : State} {m : MethodId} {args : Array Value} {below : List Frame} {meth : Method} {c : Code} {H : Heap} {locs : List Loc} {cells slots : Nat} {Q : State → Prop}
variable {cc : ByteArray} {pc : Nat} {ls : Array Slot} {rest : List Value} {D : va_G} {cy : Nat → ClassId} {A : Nat → Prop} {w w' : va_W} {a : Nat} {Ts : List Cond}
theorem r_ladd {x y : Nat} (hx : p.tables.exec = Jvm.exec) (hb : c.code = cc) (hdg : decode cc pc = .ok (.ladd, 1)) (k : W p l e R s m args below meth c H locs cells slots Q (F0 m (pc + 1) ls (.long (lN (x + y)) :: rest))) : W p l e R s m args below meth c H locs cells slots Q (F0 m pc ls (.long (lN y) :: .long (lN x) :: rest)) := lv_ladd hx hb hdg (by rw [lN_add]; exact k)
end ROWSL
theorem row_0 {S : Nat → Nat → Nat} {f : Nat → Nat} (h : ∀ a, a < 4 → S 9 (4 * S 0 1 + a) = f a) : rowS S f = S := by
  funext k j
  unfold rowS
  by_cases h9 : k = 9
  · subst h9
    rw [if_pos rfl]
    by_cases hr : 4 * S 0 1 ≤ j ∧ j < 4 * S 0 1 + 4
    · rw [if_pos hr, ← h (j - 4 * S 0 1) (by omega)]
      congr 1
      omega
    · rw [if_neg hr]
  · rw [if_neg h9]
theorem row_s {S : Nat → Nat → Nat} {f g : Nat → Nat} {a : Nat} (ha : a < 4) (hg : ∀ b, b ≠ a → g b = f b) (hga : g a = f a + 1) : up2 (rowS S f) 9 (4 * S 0 1 + a) (f a + 1) = rowS S g := by
  funext k j
  by_cases h9 : k = 9
  · subst h9
    by_cases e : j = 4 * S 0 1 + a
    · subst e
      rw [up2_s, rowS, if_pos rfl, if_pos ⟨by omega, by omega⟩, Nat.add_sub_cancel_left, hga]
    · rw [up2_i _ e]
      simp only [rowS, if_true]
      by_cases hr : 4 * S 0 1 ≤ j ∧ j < 4 * S 0 1 + 4
      · rw [if_pos hr, if_pos hr, hg (j - 4 * S 0 1) (by omega)]
      · rw [if_neg hr, if_neg hr]
  · rw [up2_k _ h9]
    simp only [rowS, if_neg h9]
theorem row_at {S : Nat → Nat → Nat} {f : Nat → Nat} {a : Nat} (ha : a < 4) : rowS S f 9 (4 * S 0 1 + a) = f a := by
  rw [rowS, if_pos rfl, if_pos ⟨by omega, by omega⟩, Nat.add_sub_cancel_left]
theorem cnt_take (S : Nat → Nat → Nat) (L : List Nat) (a : Nat) {j : Nat} (hj : j < L.length) : cntA S (L.take (j + 1)) a = cntA S (L.take j) a + if S 1 (L.getD j 0) = a then 1 else 0 := by
  rw [List.take_succ, List.getElem?_eq_getElem hj, cntA, cntA, List.countP_append, getD_lt hj]
  simp [List.countP_cons]
theorem cnt_le (S : Nat → Nat → Nat) (L : List Nat) (a : Nat) : cntA S L a ≤ L.length := List.countP_le_length

set_option maxHeartbeats 4000000 in
set_option maxRecDepth 100000 in
theorem c_X2_print (l : Launch) {D : va_G} {cy : Nat → ClassId} {B : Nat → Nat} {S T : Nat → Nat → Nat} {Y : va_W} {O : List Nat} (hI : Inv S O) (p0 : Int32) : CI l yX2_print wsX2_print ({ frames := 4, cells := 0, slots := 0, locals := 82 } : Room) D cy [.ref (B 0), .int p0] (MW cy B S T Y) (fun r w' => ∃ T' : Nat → Nat → Nat, T' 0 2 = (spPrint S O p0).1 ∧ w' = MW cy B (spPrint S O p0).2.2 T' Y ∧ ((spPrint S O p0).1 = 0 → r = (spPrint S O p0).2.1)) 0 0 := by
  refine CI.of (cc := cX2_print) (maxL := 3) (ret := (some .int)) (by decide) rfl (Nat.le_of_ble_eq_true rfl) ?_
  intro p e s m below meth c A ls E0 hl
  obtain ⟨hx, hb, hml, hown, hts, hr, hlocks, hA, hS, hP, hK, hD, hX⟩ := E0
  have hiX2 : ∀ w ∈ u_ws RX2 TX2 19, w ∈ wsX2_print := by decide +kernel
  have hl : lv_has ls 3 [(0, .ref (B 0)), (1, .int p0)] := hl
  refine lv_aload_n hx hb dX2_print_0 rfl (lv_at hl 0 rfl) ?_
  refine lv_iload_n hx hb dX2_print_1 rfl (lv_at hl 1 rfl) ?_
  refine K_i (va_runV (As := [.int p0]) (rest := []) ⟨hx, hb, hml, hown, hts⟩ (c_X2_asks l p0 _) (cwV 1 hts gX2_print_X2_asks rfl rfl rfl (by decide +kernel) ⟨Nat.le_of_ble_eq_true rfl, Nat.le_of_ble_eq_true rfl⟩) (pV hP hK hD hS hA hX (va_recv hK hP (ci := 2) (q0 := 0) rfl rfl)) rfl rfl hl.1 rfl (lv_room (Nat.le_of_ble_eq_true rfl)) dX2_print_2 ⟨Nat.le_of_ble_eq_true rfl, Nat.le_of_ble_eq_true rfl⟩) hD hS hA (fun r w'  H locs hp hP hD hS => ?_)
  obtain ⟨rfl, rfl⟩ := hp
  refine r_if_ne (tgt := 10) hx hb dX2_print_5 (by decide) (Nat.lt_trans (bN_lt _) (by decide)) (fun cA => ?_) (fun cA => ?_)
  · have hU := bN_1.mp cA
    obtain ⟨a, ha, rfl⟩ := isA_n hU
    have ea := aN_n (show a < 2 ^ 31 by omega)
    have he20 := hI.R.2.1
    have hl60 := hI.len a
    refine lv_aload_n hx hb dX2_print_10 rfl (lv_at hl 0 rfl) ?_
    refine lv_iload_n hx hb dX2_print_11 rfl (lv_at hl 1 rfl) ?_
    refine K_v (va_runV (As := [.int (nI a)]) (rest := []) ⟨hx, hb, hml, hown, hts⟩ (c_X2_laysText l hI.R hI.g (a := a) ha (hI.lay ha) _) (cwV 1 hts gX2_print_X2_laysText rfl rfl rfl (by decide +kernel) ⟨Nat.le_of_ble_eq_true rfl, Nat.le_of_ble_eq_true rfl⟩) (pV hP hK hD hS hA hX (va_recv hK hP (ci := 2) (q0 := 0) rfl rfl)) rfl rfl hl.1 rfl (lv_room (Nat.le_of_ble_eq_true rfl)) dX2_print_12 ⟨Nat.le_of_ble_eq_true rfl, Nat.le_of_ble_eq_true rfl⟩) hD hS hA (fun w'  H locs hp hP hD hS => ?_)
    obtain ⟨T2, rfl, h2, ht⟩ := hp
    rw [lay_txt] at ht
    have htl := ht.1
    refine lv_aload_n hx hb dX2_print_15 rfl (lv_at hl 0 rfl) ?_
    refine lv_aload_n hx hb dX2_print_16 rfl (lv_at hl 0 rfl) ?_
    refine va_get (D := D) (ci := 2) (v := .int (nI (T2 0 0))) (C := RX2) (T := TX2) (N := 19) hx hb hts hiX2 hown hK hP (0) rfl rfl 16 (by decide) (hts (.fieldLink RX2 76 "CoauthorTextModel" "length" "I") (by decide +kernel)) (fun _ h9 => h9) rfl dX2_print_17 ?_
    refine r_if_eq (tgt := 32) hx hb dX2_print_20 (by decide) (by omega) (fun cB => ?_) (fun cB => ?_)
    · have hz : (txL S O a).length = 0 := by rw [← htl]; exact cB
      refine lv_iconst (v := nI 2) hx hb dX2_print_32 (by decide) ?_
      refine lv_goto (tgt := 37) hx hb dX2_print_33 (by decide) ?_
      refine K_i (va_runV (As := [.int (nI 2)]) (rest := []) ⟨hx, hb, hml, hown, hts⟩ (c_X2_goes l (k := 2) (by decide) _) (cwV 1 hts gX2_print_X2_goes rfl rfl rfl (by decide +kernel) ⟨Nat.le_of_ble_eq_true rfl, Nat.le_of_ble_eq_true rfl⟩) (pV hP hK hD hS hA hX (va_recv hK hP (ci := 2) (q0 := 0) rfl rfl)) rfl rfl hl.1 rfl (lv_room (Nat.le_of_ble_eq_true rfl)) dX2_print_37 ⟨Nat.le_of_ble_eq_true rfl, Nat.le_of_ble_eq_true rfl⟩) hD hS hA (fun r w'  H locs hp hP hD hS => ?_)
      obtain ⟨hr9, rfl⟩ := hp
      obtain rfl : r = nI 0 := hr9
      refine r_if_ne (tgt := 45) hx hb dX2_print_40 (by decide) (by decide) (fun c1 => ?_) (fun c1 => ?_)
      · omega
      · refine lv_iconst (v := nI 0) hx hb dX2_print_43 (by decide) ?_
        exact C_iret hx hb hr hlocks hS hP hK hD (Nat.le_of_ble_eq_true rfl) (Nat.le_of_ble_eq_true rfl) dX2_print_44 (by rw [show spPrint S O (nI a) = (2, 0, S) from by simp [spPrint, hU, ea, hz]]; exact ⟨_, up2_s _ _ _ _, rfl, fun h => absurd (show (2 : Nat) = 0 from h) (by decide)⟩)
    · refine lv_aload_n hx hb dX2_print_23 rfl (lv_at hl 0 rfl) ?_
      refine va_get (D := D) (ci := 2) (v := .int (nI (S 0 1))) (C := RX2) (T := TX2) (N := 19) hx hb hts hiX2 hown hK hP (0) rfl rfl 9 (by decide) (hts (.fieldLink RX2 62 "CoauthorTextModel" "editions" "I") (by decide +kernel)) (fun _ h9 => h9) rfl dX2_print_24 ?_
      refine lv_bipush (v := nI 20) hx hb dX2_print_27 (by decide) ?_
      refine r_icmp_ne (tgt := 36) hx hb dX2_print_29 (by decide) (by omega) (by omega) (fun cC => ?_) (fun cC => ?_)
      · refine lv_iconst (v := nI 0) hx hb dX2_print_36 (by decide) ?_
        refine K_i (va_runV (As := [.int (nI 0)]) (rest := []) ⟨hx, hb, hml, hown, hts⟩ (c_X2_goes l (k := 0) (by decide) _) (cwV 1 hts gX2_print_X2_goes rfl rfl rfl (by decide +kernel) ⟨Nat.le_of_ble_eq_true rfl, Nat.le_of_ble_eq_true rfl⟩) (pV hP hK hD hS hA hX (va_recv hK hP (ci := 2) (q0 := 0) rfl rfl)) rfl rfl hl.1 rfl (lv_room (Nat.le_of_ble_eq_true rfl)) dX2_print_37 ⟨Nat.le_of_ble_eq_true rfl, Nat.le_of_ble_eq_true rfl⟩) hD hS hA (fun r w'  H locs hp hP hD hS => ?_)
        obtain ⟨hr9, rfl⟩ := hp
        obtain rfl : r = nI 1 := hr9
        refine r_if_ne (tgt := 45) hx hb dX2_print_40 (by decide) (by decide) (fun c2 => ?_) (fun c2 => ?_)
        · have hspec : spPrint S O (nI a) = (0, nI (S 0 1), prS S (txL S O a)) := by
            have hz : ¬ (txL S O a).length = 0 := by omega
            simp only [spPrint, hU, ea, hz, cC, Bool.true_eq_false, if_false, or_self]
          refine lv_iconst (v := nI 0) hx hb dX2_print_45 (by decide) ?_
          refine lv_istore_n (lv' := [(2, .int (nI 0)), (0, .ref (B 0)), (1, .int (nI a))]) hx hb dX2_print_46 rfl hl (by decide) rfl (fun ls hl => ?_)
          have loop : ∀ (q j : Nat) (Sj : Nat → Nat → Nat) (H : Heap) (locs : List Loc) (ls : Array Slot), j + q = (txL S O a).length + 1 → j ≤ (txL S O a).length → Sj = rowS S (cntA S ((txL S O a).take j)) → va_P D vwCl (MW cy B Sj (up2 T2 0 2 0) Y) H → va_D A (MW cy B Sj (up2 T2 0 2 0) Y) → va_S A s.heap H locs → lv_has ls 3 [(2, .int (nI j)), (0, .ref (B 0)), (1, .int (nI a))] → W p l e ({ frames := 4, cells := 0, slots := 0, locals := 82 } : Room) s m ([.ref (B 0), .int (nI a)] : List Value).toArray below meth c H locs 0 0 (MQ below (va_Qi (fun r w' => ∃ T' : Nat → Nat → Nat, T' 0 2 = (spPrint S O (nI a)).1 ∧ w' = MW cy B (spPrint S O (nI a)).2.2 T' Y ∧ ((spPrint S O (nI a)).1 = 0 → r = (spPrint S O (nI a)).2.1)) (fun w' t => wB D cy A w' t) A) ([.ref (B 0), .int (nI a)] : List Value).toArray s 0 0 A) (F0 m 47 ls []) := by
            intro q
            induction q with
            | zero => intro j Sj H locs ls hq; omega
            | succ q ih =>
              intro j Sj H locs ls hq hj hSj hP hD hS hl
              have e0 : Sj 0 = S 0 := by rw [hSj]; rfl
              have e1 : Sj 1 = S 1 := by rw [hSj]; rfl
              refine lv_iload_n hx hb dX2_print_47 rfl (lv_at hl 0 rfl) ?_
              refine lv_aload_n hx hb dX2_print_48 rfl (lv_at hl 1 rfl) ?_
              refine va_get (D := D) (ci := 2) (v := .int (nI (T2 0 0))) (C := RX2) (T := TX2) (N := 19) hx hb hts hiX2 hown hK hP (0) rfl rfl 16 (by decide) (hts (.fieldLink RX2 76 "CoauthorTextModel" "length" "I") (by decide +kernel)) (fun _ h9 => h9) rfl dX2_print_49 ?_
              refine r_icmp_ge (tgt := 88) hx hb dX2_print_52 (by decide) (by omega) (by omega) (fun c3 => ?_) (fun c3 => ?_)
              · have ej : j = (txL S O a).length := by omega
                rw [ej, List.take_length] at hSj
                refine lv_aload_n hx hb dX2_print_88 rfl (lv_at hl 1 rfl) ?_
                refine lv_dup hx hb dX2_print_89 rfl ?_
                refine va_get (D := D) (ci := 2) (v := .int (nI (Sj 0 1))) (C := RX2) (T := TX2) (N := 19) hx hb hts hiX2 hown hK hP (0) rfl rfl 9 (by decide) (hts (.fieldLink RX2 62 "CoauthorTextModel" "editions" "I") (by decide +kernel)) (fun _ h9 => h9) rfl dX2_print_90 ?_
                refine lv_topi (fun y9 ey9 => ?_)
                obtain rfl : y9 = nI (S 0 1) := ey9.trans (by rw [e0])
                refine lv_iconst (v := nI 1) hx hb dX2_print_93 (by decide) ?_
                refine r_iadd hx hb dX2_print_94 ?_
                refine r_put (w' := MW cy B (prS S (txL S O a)) (up2 T2 0 2 0) Y) (own := RX2) (C := RX2) (T := TX2) (N := 19) (ci := 2) (q0 := 0) (k := 9) (index := 62) (ty := .int) hx hb hts hiX2 tyX2_ok nmX2 hown hK hP hD hS rfl rfl (by decide) (by decide +kernel) rfl (by decide +kernel) rfl rfl (Nat.le_of_ble_eq_true rfl) dX2_print_95 (by rw [prS, ← hSj]; rfl) (fun H locs hP hD hS => ?_)
                refine lv_aload_n hx hb dX2_print_98 rfl (lv_at hl 1 rfl) ?_
                refine va_get (D := D) (ci := 2) (v := .int (nI (S 0 1 + 1))) (C := RX2) (T := TX2) (N := 19) hx hb hts hiX2 hown hK hP (0) rfl rfl 9 (by decide) (hts (.fieldLink RX2 62 "CoauthorTextModel" "editions" "I") (by decide +kernel)) (fun _ h9 => h9) rfl dX2_print_99 ?_
                refine lv_iconst (v := nI 1) hx hb dX2_print_102 (by decide) ?_
                refine r_isub hx hb dX2_print_103 (by omega) ?_
                exact C_iret hx hb hr hlocks hS hP hK hD (Nat.le_of_ble_eq_true rfl) (Nat.le_of_ble_eq_true rfl) dX2_print_104 (by rw [hspec]; exact ⟨_, up2_s _ _ _ _, rfl, fun _ => by rw [Nat.add_sub_cancel]⟩)
              · have hjl : j < (txL S O a).length := by omega
                obtain ⟨i, ei⟩ : ∃ i, (txL S O a).getD j 0 = i := ⟨_, rfl⟩
                have hm := txL_mem hI (getD_mem hjl)
                rw [ei] at hm
                have hn60 := hI.R.1
                have h1 := hI.R.2.2.2.1 i
                have hT1 : T2 1 j = i := by rw [txt_at ht hjl, ei]
                refine lv_aload_n hx hb dX2_print_55 rfl (lv_at hl 1 rfl) ?_
                refine va_get (D := D) (ci := 2) (v := .ref (B 9)) (C := RX2) (T := TX2) (N := 19) hx hb hts hiX2 hown hK hP (0) rfl rfl 10 (by decide) (hts (.fieldLink RX2 35 "CoauthorTextModel" "printed" "[I") (by decide +kernel)) (fun _ h9 => h9) rfl dX2_print_56 ?_
                refine lv_iconst (v := nI 4) hx hb dX2_print_59 (by decide) ?_
                refine lv_aload_n hx hb dX2_print_60 rfl (lv_at hl 1 rfl) ?_
                refine va_get (D := D) (ci := 2) (v := .int (nI (Sj 0 1))) (C := RX2) (T := TX2) (N := 19) hx hb hts hiX2 hown hK hP (0) rfl rfl 9 (by decide) (hts (.fieldLink RX2 62 "CoauthorTextModel" "editions" "I") (by decide +kernel)) (fun _ h9 => h9) rfl dX2_print_61 ?_
                refine lv_topi (fun y9 ey9 => ?_)
                obtain rfl : y9 = nI (S 0 1) := ey9.trans (by rw [e0])
                refine r_imul hx hb dX2_print_64 ?_
                refine lv_aload_n hx hb dX2_print_65 rfl (lv_at hl 1 rfl) ?_
                refine va_get (D := D) (ci := 2) (v := .ref (B 1)) (C := RX2) (T := TX2) (N := 19) hx hb hts hiX2 hown hK hP (0) rfl rfl 1 (by decide) (hts (.fieldLink RX2 7 "CoauthorTextModel" "authors" "[I") (by decide +kernel)) (fun _ h9 => h9) rfl dX2_print_66 ?_
                refine lv_aload_n hx hb dX2_print_69 rfl (lv_at hl 1 rfl) ?_
                refine va_get (D := D) (ci := 2) (v := .ref (B 12)) (C := RX2) (T := TX2) (N := 19) hx hb hts hiX2 hown hK hP (0) rfl rfl 14 (by decide) (hts (.fieldLink RX2 45 "CoauthorTextModel" "text" "[I") (by decide +kernel)) (fun _ h9 => h9) rfl dX2_print_70 ?_
                refine lv_iload_n hx hb dX2_print_73 rfl (lv_at hl 0 rfl) ?_
                refine r_iald hx hb hK hP (12) rfl (by omega) (by decide) dX2_print_74 ?_
                refine lv_topi (fun y9 ey9 => ?_)
                obtain rfl : y9 = nI i := ey9.trans (by show nI (T2 1 j) = _; rw [hT1])
                refine r_iald hx hb hK hP (1) rfl (by omega) (by decide) dX2_print_75 ?_
                refine lv_topi (fun y9 ey9 => ?_)
                obtain rfl : y9 = nI (S 1 i) := ey9.trans (by show nI (Sj 1 i) = _; rw [e1])
                have hrow : Sj 9 (4 * S 0 1 + S 1 i) = cntA S ((txL S O a).take j) (S 1 i) := by rw [hSj]; exact row_at h1
                refine r_iadd hx hb dX2_print_76 ?_
                refine lv_dup2_11 hx hb dX2_print_77 rfl rfl ?_
                refine r_iald hx hb hK hP (9) rfl (by omega) (by decide) dX2_print_78 ?_
                refine lv_topi (fun y9 ey9 => ?_)
                obtain rfl : y9 = nI (cntA S ((txL S O a).take j) (S 1 i)) := ey9.trans (by show nI (Sj 9 _) = _; rw [hrow])
                refine lv_iconst (v := nI 1) hx hb dX2_print_79 (by decide) ?_
                refine r_iadd hx hb dX2_print_80 ?_
                refine r_iast (w' := MW cy B (up2 Sj 9 ((4 * (S 0 1)) + (S 1 i)) ((cntA S ((txL S O a).take j) (S 1 i)) + 1)) (up2 T2 0 2 0) Y) hx hb hK hP hD hS (9) rfl (by omega) (by decide) dX2_print_81 (by rw [show upd (fun x9 => nI (Sj 9 x9)) ((4 * (S 0 1)) + (S 1 i)) (nI ((cntA S ((txL S O a).take j) (S 1 i)) + 1)) = fun x9 => nI ((up2 Sj 9 ((4 * (S 0 1)) + (S 1 i)) ((cntA S ((txL S O a).take j) (S 1 i)) + 1)) 9 x9) from upd_n Sj 9 _ _]; rfl) (fun H locs hP hD hS => ?_)
                refine lv_iinc (v := nI (j + 1)) (lv' := [(2, .int (nI (j + 1))), (0, .ref (B 0)), (1, .int (nI a))]) hx hb dX2_print_82 hl (k := 0) rfl (nI_inc _) (by decide) rfl (fun ls hl => ?_)
                refine lv_goto (tgt := 47) hx hb dX2_print_85 (by decide) ?_
                exact ih (j + 1) _ _ _ ls (by omega) (by omega) (by rw [hSj]; exact row_s h1 (fun b hb => by rw [cnt_take S _ b hjl, ei, if_neg (fun h => hb h.symm)]; rfl) (by rw [cnt_take S _ _ hjl, ei, if_pos rfl])) hP hD hS (lv_sub hl [0, 1, 2] rfl)
          exact loop ((txL S O a).length + 1) 0 S _ _ ls (by omega) (Nat.zero_le _) (row_0 (fun b hb => by rw [hI.2.2.2.2.2.2.2.2.1 _ b (Nat.le_refl _) hb]; rfl)).symm hP hD hS (lv_sub hl [0, 1, 2] rfl)
        · omega
      · refine lv_iconst (v := nI 2) hx hb dX2_print_32 (by decide) ?_
        refine lv_goto (tgt := 37) hx hb dX2_print_33 (by decide) ?_
        refine K_i (va_runV (As := [.int (nI 2)]) (rest := []) ⟨hx, hb, hml, hown, hts⟩ (c_X2_goes l (k := 2) (by decide) _) (cwV 1 hts gX2_print_X2_goes rfl rfl rfl (by decide +kernel) ⟨Nat.le_of_ble_eq_true rfl, Nat.le_of_ble_eq_true rfl⟩) (pV hP hK hD hS hA hX (va_recv hK hP (ci := 2) (q0 := 0) rfl rfl)) rfl rfl hl.1 rfl (lv_room (Nat.le_of_ble_eq_true rfl)) dX2_print_37 ⟨Nat.le_of_ble_eq_true rfl, Nat.le_of_ble_eq_true rfl⟩) hD hS hA (fun r w'  H locs hp hP hD hS => ?_)
        obtain ⟨hr9, rfl⟩ := hp
        obtain rfl : r = nI 0 := hr9
        refine r_if_ne (tgt := 45) hx hb dX2_print_40 (by decide) (by decide) (fun c4 => ?_) (fun c4 => ?_)
        · omega
        · refine lv_iconst (v := nI 0) hx hb dX2_print_43 (by decide) ?_
          exact C_iret hx hb hr hlocks hS hP hK hD (Nat.le_of_ble_eq_true rfl) (Nat.le_of_ble_eq_true rfl) dX2_print_44 (by rw [show spPrint S O (nI a) = (2, 0, S) from by simp [spPrint, hU, ea, cC]]; exact ⟨_, up2_s _ _ _ _, rfl, fun h => absurd (show (2 : Nat) = 0 from h) (by decide)⟩)
  · have hU := bN_0.mp cA
    refine lv_iconst (v := nI 0) hx hb dX2_print_8 (by decide) ?_
    exact C_iret hx hb hr hlocks hS hP hK hD (Nat.le_of_ble_eq_true rfl) (Nat.le_of_ble_eq_true rfl) dX2_print_9 (by rw [show spPrint S O p0 = (1, 0, S) from by simp [spPrint, hU]]; exact ⟨_, (by rw [hU]; rfl), rfl, fun h => absurd (show (1 : Nat) = 0 from h) (by decide)⟩)

theorem nI_dec (a : Nat) : nI a + Int32.ofInt (-1) = bI a := by
  rw [bI, Int32.sub_eq_add_neg]
  rfl
theorem s4_le {f g : Nat → Nat} (h : ∀ a, f a ≤ g a) : s4 f ≤ s4 g := by
  have h0 := h 0
  have h1 := h 1
  have h2 := h 2
  have h3 := h 3
  unfold s4
  omega
theorem slP_sum (S : Nat → Nat → Nat) (e m : Nat) (h : 0 < slA S e) : s4 (slP S e m) ≤ slL S e m := by
  have hd : ∀ a, slP S e m a * slA S e ≤ slL S e m * S 9 (4 * e + a) := fun a => Nat.div_mul_le_self _ _
  have e1 : s4 (slP S e m) * slA S e = slP S e m 0 * slA S e + slP S e m 1 * slA S e + slP S e m 2 * slA S e + slP S e m 3 * slA S e := by
    simp only [s4, Nat.add_mul]
  have e2 : slL S e m * slA S e = slL S e m * S 9 (4 * e + 0) + slL S e m * S 9 (4 * e + 1) + slL S e m * S 9 (4 * e + 2) + slL S e m * S 9 (4 * e + 3) := by
    rw [slA, s4]
    simp only [Nat.mul_add]
  have h0 := hd 0
  have h1 := hd 1
  have h2 := hd 2
  have h3 := hd 3
  refine Nat.le_of_mul_le_mul_right (?_ : s4 (slP S e m) * slA S e ≤ slL S e m * slA S e) h
  rw [e1, e2]
  omega
theorem slF_le {S : Nat → Nat → Nat} (hR : Rng S) (m : Nat) : 4 * slF S m ≤ m := by
  have h1 : m * S 0 2 ≤ m * 25 := Nat.mul_le_mul_left _ hR.2.2.1
  unfold slF
  omega
theorem slW_le (S : Nat → Nat → Nat) (e : Nat) : slW S e ≤ 4 := by
  have h : ∀ a, (if S 9 (4 * e + a) = 0 then 0 else 1) ≤ 1 := fun a => by split <;> omega
  have h0 := h 0
  have h1 := h 1
  have h2 := h 2
  have h3 := h 3
  have hw : slW S e = (if S 9 (4 * e + 0) = 0 then 0 else 1) + (if S 9 (4 * e + 1) = 0 then 0 else 1) + (if S 9 (4 * e + 2) = 0 then 0 else 1) + (if S 9 (4 * e + 3) = 0 then 0 else 1) := rfl
  omega
theorem sl_4 (S : Nat → Nat → Nat) (e m : Nat) : up2 (up2 (up2 (up2 (up2 (up2 (up2 (up2 S 10 0 (S 10 0 - slH S e m 0)) 11 0 (S 11 0 + (slG S e m 0 - slH S e m 0))) 10 1 (S 10 1 - slH S e m 1)) 11 1 (S 11 1 + (slG S e m 1 - slH S e m 1))) 10 2 (S 10 2 - slH S e m 2)) 11 2 (S 11 2 + (slG S e m 2 - slH S e m 2))) 10 3 (S 10 3 - slH S e m 3)) 11 3 (S 11 3 + (slG S e m 3 - slH S e m 3)) = slS S e m 4 := by
  funext k j
  simp only [up2, slS]
  by_cases h10 : k = 10
  · subst h10
    match j with
    | 0 => rfl
    | 1 => rfl
    | 2 => rfl
    | 3 => rfl
    | j + 4 => simp; intro h; omega
  · by_cases h11 : k = 11
    · subst h11
      match j with
      | 0 => rfl
      | 1 => rfl
      | 2 => rfl
      | 3 => rfl
      | j + 4 => simp; intro h; omega
    · simp [h10, h11]

set_option maxHeartbeats 4000000 in
set_option maxRecDepth 100000 in
theorem c_X2_sell (l : Launch) {D : va_G} {cy : Nat → ClassId} {B : Nat → Nat} {S T : Nat → Nat → Nat} {Y : va_W} {O : List Nat} (hI : Inv S O) (p0 p1 : Int32) : CI l yX2_sell wsX2_sell ({ frames := 3, cells := 0, slots := 0, locals := 55 } : Room) D cy [.ref (B 0), .int p0, .int p1] (MW cy B S T Y) (fun r w' => ∃ T' : Nat → Nat → Nat, T' 0 2 = (spSell S p0 p1).1 ∧ w' = MW cy B (spSell S p0 p1).2.2 T' Y ∧ ((spSell S p0 p1).1 = 0 → r = (spSell S p0 p1).2.1)) 0 0 := by
  refine CI.of (cc := cX2_sell) (maxL := 12) (ret := (some .int)) (by decide) rfl (Nat.le_of_ble_eq_true rfl) ?_
  intro p e s m below meth c A ls E0 hl
  obtain ⟨hx, hb, hml, hown, hts, hr, hlocks, hA, hS, hP, hK, hD, hX⟩ := E0
  have hiX2 : ∀ w ∈ u_ws RX2 TX2 19, w ∈ wsX2_sell := by decide +kernel
  have hl : lv_has ls 12 [(0, .ref (B 0)), (1, .int p0), (2, .int p1)] := hl
  refine lv_aload_n hx hb dX2_sell_0 rfl (lv_at hl 0 rfl) ?_
  refine lv_aload_n hx hb dX2_sell_1 rfl (lv_at hl 0 rfl) ?_
  refine lv_iload_n hx hb dX2_sell_2 rfl (lv_at hl 1 rfl) ?_
  refine K_i (va_runV (As := [.int p0]) (rest := [.ref (B 0)]) ⟨hx, hb, hml, hown, hts⟩ (c_X2_isEdition l p0 _) (cwV 1 hts gX2_sell_X2_isEdition rfl rfl rfl (by decide +kernel) ⟨Nat.le_of_ble_eq_true rfl, Nat.le_of_ble_eq_true rfl⟩) (pV hP hK hD hS hA hX (va_recv hK hP (ci := 2) (q0 := 0) rfl rfl)) rfl rfl hl.1 rfl (lv_room (Nat.le_of_ble_eq_true rfl)) dX2_sell_3 ⟨Nat.le_of_ble_eq_true rfl, Nat.le_of_ble_eq_true rfl⟩) hD hS hA (fun r w'  H locs hp hP hD hS => ?_)
  obtain ⟨rfl, rfl⟩ := hp
  refine r_if_ne (tgt := 13) hx hb dX2_sell_6 (by decide) (Nat.lt_trans (bN_lt _) (by decide)) (fun cA => ?_) (fun cA => ?_)
  · have hV := bN_1.mp cA
    refine lv_iload_n hx hb dX2_sell_13 rfl (lv_at hl 2 rfl) ?_
    refine lv_iconst (v := nI 1) hx hb dX2_sell_14 (by decide) ?_
    refine lv_ldc (v := nI 1000000) hx hb hown (hts (.constant RX2 117 (1000000)) (by decide +kernel)) dX2_sell_15 ?_
    refine K_i (va_runS (As := [.int p1, .int (nI 1), .int (nI 1000000)]) (rest := [.ref (B 0)]) ⟨hx, hb, hml, hown, hts⟩ (c_X2_isIn l p1 (nI 1) (nI 1000000) _) (va_cwS 3 hts gX2_sell_X2_isIn rfl rfl rfl (by decide +kernel) ⟨Nat.le_of_ble_eq_true rfl, Nat.le_of_ble_eq_true rfl⟩) (pS hP hK hD hS hA hX) rfl rfl hl.1 rfl (lv_room (Nat.le_of_ble_eq_true rfl)) dX2_sell_17 ⟨Nat.le_of_ble_eq_true rfl, Nat.le_of_ble_eq_true rfl⟩) hD hS hA (fun r w'  H locs hp hP hD hS => ?_)
    obtain ⟨rfl, hw9⟩ := hp
    rw [hw9] at hP hD
    refine r_if_eq (tgt := 27) hx hb dX2_sell_20 (by decide) (Nat.lt_trans (bN_lt _) (by decide)) (fun cB => ?_) (fun cB => ?_)
    · have hU : inB p1 1 1000000 = false := bN_0.mp cB
      refine lv_iconst (v := nI 2) hx hb dX2_sell_27 (by decide) ?_
      refine K_i (va_runV (As := [.int (nI 2)]) (rest := []) ⟨hx, hb, hml, hown, hts⟩ (c_X2_goes l (k := 2) (by decide) _) (cwV 1 hts gX2_sell_X2_goes rfl rfl rfl (by decide +kernel) ⟨Nat.le_of_ble_eq_true rfl, Nat.le_of_ble_eq_true rfl⟩) (pV hP hK hD hS hA hX (va_recv hK hP (ci := 2) (q0 := 0) rfl rfl)) rfl rfl hl.1 rfl (lv_room (Nat.le_of_ble_eq_true rfl)) dX2_sell_28 ⟨Nat.le_of_ble_eq_true rfl, Nat.le_of_ble_eq_true rfl⟩) hD hS hA (fun r w'  H locs hp hP hD hS => ?_)
      obtain ⟨hr9, rfl⟩ := hp
      obtain rfl : r = nI 0 := hr9
      refine r_if_ne (tgt := 36) hx hb dX2_sell_31 (by decide) (by decide) (fun c1 => ?_) (fun c1 => ?_)
      · omega
      · refine lv_iconst (v := nI 0) hx hb dX2_sell_34 (by decide) ?_
        exact C_iret hx hb hr hlocks hS hP hK hD (Nat.le_of_ble_eq_true rfl) (Nat.le_of_ble_eq_true rfl) dX2_sell_35 (by rw [show spSell S p0 p1 = (2, 0, S) from by simp [spSell, hU, hV]]; exact ⟨_, up2_s _ _ _ _, rfl, fun h => absurd (show (2 : Nat) = 0 from h) (by decide)⟩)
    · have hU : inB p1 1 1000000 = true := bN_1.mp cB
      refine lv_iconst (v := nI 0) hx hb dX2_sell_23 (by decide) ?_
      refine lv_goto (tgt := 28) hx hb dX2_sell_24 (by decide) ?_
      refine K_i (va_runV (As := [.int (nI 0)]) (rest := []) ⟨hx, hb, hml, hown, hts⟩ (c_X2_goes l (k := 0) (by decide) _) (cwV 1 hts gX2_sell_X2_goes rfl rfl rfl (by decide +kernel) ⟨Nat.le_of_ble_eq_true rfl, Nat.le_of_ble_eq_true rfl⟩) (pV hP hK hD hS hA hX (va_recv hK hP (ci := 2) (q0 := 0) rfl rfl)) rfl rfl hl.1 rfl (lv_room (Nat.le_of_ble_eq_true rfl)) dX2_sell_28 ⟨Nat.le_of_ble_eq_true rfl, Nat.le_of_ble_eq_true rfl⟩) hD hS hA (fun r w'  H locs hp hP hD hS => ?_)
      obtain ⟨hr9, rfl⟩ := hp
      obtain rfl : r = nI 1 := hr9
      refine r_if_ne (tgt := 36) hx hb dX2_sell_31 (by decide) (by decide) (fun c2 => ?_) (fun c2 => ?_)
      · have he20 := hI.R.2.1
        obtain ⟨e9, he9, rfl⟩ := inS_n (by omega) hV
        obtain ⟨am, ham, rfl⟩ := inB_1 (k := 1000000) (by decide) hU
        have ea := aN_n (show e9 < 2 ^ 31 by omega)
        have eb := aN_n (show am < 2 ^ 31 by omega)
        have h9 : ∀ i, S 9 i ≤ 60 := hI.R.2.2.2.2.2.2.2.2.2.2.2.1
        have hall := hI.2.2.2.2.2.2.2.2.2 e9 he9
        have hfl := slF_le hI.R am
        have hfm : am * S 0 2 ≤ 25000000 := Nat.le_trans (Nat.mul_le_mul ham.2 hI.R.2.2.1) (by decide)
        have h10 : ∀ i, S 10 i < 1073741824 := hI.R.2.2.2.2.2.2.2.2.2.2.2.2
        refine lv_iconst (v := nI 4) hx hb dX2_sell_36 (by decide) ?_
        refine lv_iload_n hx hb dX2_sell_37 rfl (lv_at hl 1 rfl) ?_
        refine r_imul hx hb dX2_sell_38 ?_
        refine lv_istore_n (lv' := [(3, .int (nI (4 * e9))), (0, .ref (B 0)), (1, .int (nI e9)), (2, .int (nI am))]) hx hb dX2_sell_39 rfl hl (by decide) rfl (fun ls hl => ?_)
        refine lv_iconst (v := nI 0) hx hb dX2_sell_40 (by decide) ?_
        refine lv_istore (lv' := [(4, .int (nI 0)), (3, .int (nI (4 * e9))), (0, .ref (B 0)), (1, .int (nI e9)), (2, .int (nI am))]) hx hb dX2_sell_41 hl (by decide) rfl (fun ls hl => ?_)
        refine lv_iload_n hx hb dX2_sell_43 rfl (lv_at hl 4 rfl) ?_
        refine lv_istore (lv' := [(5, .int (nI am)), (4, .int (nI 0)), (3, .int (nI (4 * e9))), (0, .ref (B 0)), (1, .int (nI e9)), (2, .int (nI am))]) hx hb dX2_sell_44 hl (by decide) rfl (fun ls hl => ?_)
        refine lv_iconst (v := bI 0) hx hb dX2_sell_46 (by decide) ?_
        refine lv_istore (lv' := [(6, .int (bI 0)), (5, .int (nI am)), (4, .int (nI 0)), (3, .int (nI (4 * e9))), (0, .ref (B 0)), (1, .int (nI e9)), (2, .int (nI am))]) hx hb dX2_sell_47 hl (by decide) rfl (fun ls hl => ?_)
        refine lv_iconst (v := nI 3) hx hb dX2_sell_49 (by decide) ?_
        refine lv_istore (lv' := [(7, .int (nI 3)), (6, .int (bI 0)), (5, .int (nI am)), (4, .int (nI 0)), (3, .int (nI (4 * e9))), (0, .ref (B 0)), (1, .int (nI e9)), (2, .int (nI am))]) hx hb dX2_sell_50 hl (by decide) rfl (fun ls hl => ?_)
        have iter1 : ∀ (a al lf fi : Nat) (v7 : Int32) (H : Heap) (locs : List Loc) (ls : Array Slot), a < 4 → v7 = nI a → slF S am ≤ lf → lf ≤ 1000000 → va_P D vwCl (MW cy B S (up2 T 0 2 0) Y) H → va_D A (MW cy B S (up2 T 0 2 0) Y) → va_S A s.heap H locs → lv_has ls 12 [(7, .int v7), (6, .int (bI fi)), (5, .int (nI lf)), (4, .int (nI al)), (0, .ref (B 0)), (1, .int (nI e9)), (2, .int (nI am)), (3, .int (nI (4 * e9)))] → (∀ (ls : Array Slot), lv_has ls 12 [(7, .int (bI a)), (6, .int (bI (if S 9 (4 * e9 + a) = 0 then fi else a + 1))), (5, .int (nI (lf - (if S 9 (4 * e9 + a) = 0 then 0 else slF S am)))), (4, .int (nI (al + S 9 (4 * e9 + a)))), (0, .ref (B 0)), (1, .int (nI e9)), (2, .int (nI am)), (3, .int (nI (4 * e9)))] → W p l e ({ frames := 3, cells := 0, slots := 0, locals := 55 } : Room) s m ([.ref (B 0), .int (nI e9), .int (nI am)] : List Value).toArray below meth c H locs 0 0 (MQ below (va_Qi (fun r w' => ∃ T' : Nat → Nat → Nat, T' 0 2 = (spSell S (nI e9) (nI am)).1 ∧ w' = MW cy B (spSell S (nI e9) (nI am)).2.2 T' Y ∧ ((spSell S (nI e9) (nI am)).1 = 0 → r = (spSell S (nI e9) (nI am)).2.1)) (fun w' t => wB D cy A w' t) A) ([.ref (B 0), .int (nI e9), .int (nI am)] : List Value).toArray s 0 0 A) (F0 m 52 ls [])) → W p l e ({ frames := 3, cells := 0, slots := 0, locals := 55 } : Room) s m ([.ref (B 0), .int (nI e9), .int (nI am)] : List Value).toArray below meth c H locs 0 0 (MQ below (va_Qi (fun r w' => ∃ T' : Nat → Nat → Nat, T' 0 2 = (spSell S (nI e9) (nI am)).1 ∧ w' = MW cy B (spSell S (nI e9) (nI am)).2.2 T' Y ∧ ((spSell S (nI e9) (nI am)).1 = 0 → r = (spSell S (nI e9) (nI am)).2.1)) (fun w' t => wB D cy A w' t) A) ([.ref (B 0), .int (nI e9), .int (nI am)] : List Value).toArray s 0 0 A) (F0 m 52 ls []) := by
          intro a al lf fi v7 H locs ls ha hv7 hlf hlf2 hP hD hS hl kont
          subst hv7
          have hl : lv_has ls 12 [(7, .int (nI a)), (6, .int (bI fi)), (5, .int (nI lf)), (4, .int (nI al)), (0, .ref (B 0)), (1, .int (nI e9)), (2, .int (nI am)), (3, .int (nI (4 * e9)))] := hl
          have h9a := h9 (4 * e9 + a)
          refine lv_iload hx hb dX2_sell_52 (lv_at hl 0 rfl) ?_
          refine lv_if_lt (tgt := 133) hx hb dX2_sell_54 (by decide) (fun cN => ?_) (fun cN => ?_)
          · exact absurd cN (nI_pos (by omega))
          · refine lv_aload_n hx hb dX2_sell_57 rfl (lv_at hl 4 rfl) ?_
            refine va_get (D := D) (ci := 2) (v := .ref (B 9)) (C := RX2) (T := TX2) (N := 19) hx hb hts hiX2 hown hK hP (0) rfl rfl 10 (by decide) (hts (.fieldLink RX2 35 "CoauthorTextModel" "printed" "[I") (by decide +kernel)) (fun _ h9 => h9) rfl dX2_sell_58 ?_
            refine lv_iload_n hx hb dX2_sell_61 rfl (lv_at hl 7 rfl) ?_
            refine lv_iload hx hb dX2_sell_62 (lv_at hl 0 rfl) ?_
            refine r_iadd hx hb dX2_sell_64 ?_
            refine r_iald hx hb hK hP (9) rfl (by omega) (by decide) dX2_sell_65 ?_
            refine r_if_le (tgt := 73) hx hb dX2_sell_66 (by decide) (by omega) (fun cH => ?_) (fun cH => ?_)
            · refine lv_iconst (v := nI 0) hx hb dX2_sell_73 (by decide) ?_
              refine lv_istore (lv' := [(8, .int (nI 0)), (7, .int (nI a)), (6, .int (bI fi)), (5, .int (nI lf)), (4, .int (nI al)), (0, .ref (B 0)), (1, .int (nI e9)), (2, .int (nI am)), (3, .int (nI (4 * e9)))]) hx hb dX2_sell_74 hl (by decide) rfl (fun ls hl => ?_)
              refine lv_iload hx hb dX2_sell_76 (lv_at hl 4 rfl) ?_
              refine lv_aload_n hx hb dX2_sell_78 rfl (lv_at hl 5 rfl) ?_
              refine va_get (D := D) (ci := 2) (v := .ref (B 9)) (C := RX2) (T := TX2) (N := 19) hx hb hts hiX2 hown hK hP (0) rfl rfl 10 (by decide) (hts (.fieldLink RX2 35 "CoauthorTextModel" "printed" "[I") (by decide +kernel)) (fun _ h9 => h9) rfl dX2_sell_79 ?_
              refine lv_iload_n hx hb dX2_sell_82 rfl (lv_at hl 8 rfl) ?_
              refine lv_iload hx hb dX2_sell_83 (lv_at hl 1 rfl) ?_
              refine r_iadd hx hb dX2_sell_85 ?_
              refine r_iald hx hb hK hP (9) rfl (by omega) (by decide) dX2_sell_86 ?_
              refine r_iadd hx hb dX2_sell_87 ?_
              refine lv_istore (lv' := [(4, .int (nI (al + (S 9 ((4 * e9) + a))))), (8, .int (nI 0)), (7, .int (nI a)), (6, .int (bI fi)), (5, .int (nI lf)), (0, .ref (B 0)), (1, .int (nI e9)), (2, .int (nI am)), (3, .int (nI (4 * e9)))]) hx hb dX2_sell_88 hl (by decide) rfl (fun ls hl => ?_)
              refine lv_iload hx hb dX2_sell_90 (lv_at hl 4 rfl) ?_
              refine lv_iload hx hb dX2_sell_92 (lv_at hl 1 rfl) ?_
              refine r_if_eq (tgt := 109) hx hb dX2_sell_94 (by decide) (by decide) (fun c3 => ?_) (fun c3 => ?_)
              · refine lv_iconst (v := nI 0) hx hb dX2_sell_109 (by decide) ?_
                refine r_isub hx hb dX2_sell_110 (by omega) ?_
                refine lv_istore (lv' := [(5, .int (nI (lf - 0))), (4, .int (nI (al + (S 9 ((4 * e9) + a))))), (8, .int (nI 0)), (7, .int (nI a)), (6, .int (bI fi)), (0, .ref (B 0)), (1, .int (nI e9)), (2, .int (nI am)), (3, .int (nI (4 * e9)))]) hx hb dX2_sell_111 hl (by decide) rfl (fun ls hl => ?_)
                refine lv_iload hx hb dX2_sell_113 (lv_at hl 2 rfl) ?_
                refine r_if_eq (tgt := 123) hx hb dX2_sell_115 (by decide) (by decide) (fun c4 => ?_) (fun c4 => ?_)
                · refine lv_iload hx hb dX2_sell_123 (lv_at hl 4 rfl) ?_
                  refine lv_istore (lv' := [(6, .int (bI fi)), (5, .int (nI (lf - 0))), (4, .int (nI (al + (S 9 ((4 * e9) + a))))), (8, .int (nI 0)), (7, .int (nI a)), (0, .ref (B 0)), (1, .int (nI e9)), (2, .int (nI am)), (3, .int (nI (4 * e9)))]) hx hb dX2_sell_125 hl (by decide) rfl (fun ls hl => ?_)
                  refine lv_iinc (v := bI a) (lv' := [(7, .int (bI a)), (6, .int (bI fi)), (5, .int (nI (lf - 0))), (4, .int (nI (al + (S 9 ((4 * e9) + a))))), (8, .int (nI 0)), (0, .ref (B 0)), (1, .int (nI e9)), (2, .int (nI am)), (3, .int (nI (4 * e9)))]) hx hb dX2_sell_127 hl (k := 4) rfl (nI_dec a) (by decide) rfl (fun ls hl => ?_)
                  refine lv_goto (tgt := 52) hx hb dX2_sell_130 (by decide) ?_
                  exact kont ls (by rw [if_pos cH, if_pos cH]; exact lv_sub hl [0, 1, 2, 3, 5, 6, 7, 8] rfl)
                · omega
              · omega
            · refine lv_iconst (v := nI 1) hx hb dX2_sell_69 (by decide) ?_
              refine lv_goto (tgt := 74) hx hb dX2_sell_70 (by decide) ?_
              refine lv_istore (lv' := [(8, .int (nI 1)), (7, .int (nI a)), (6, .int (bI fi)), (5, .int (nI lf)), (4, .int (nI al)), (0, .ref (B 0)), (1, .int (nI e9)), (2, .int (nI am)), (3, .int (nI (4 * e9)))]) hx hb dX2_sell_74 hl (by decide) rfl (fun ls hl => ?_)
              refine lv_iload hx hb dX2_sell_76 (lv_at hl 4 rfl) ?_
              refine lv_aload_n hx hb dX2_sell_78 rfl (lv_at hl 5 rfl) ?_
              refine va_get (D := D) (ci := 2) (v := .ref (B 9)) (C := RX2) (T := TX2) (N := 19) hx hb hts hiX2 hown hK hP (0) rfl rfl 10 (by decide) (hts (.fieldLink RX2 35 "CoauthorTextModel" "printed" "[I") (by decide +kernel)) (fun _ h9 => h9) rfl dX2_sell_79 ?_
              refine lv_iload_n hx hb dX2_sell_82 rfl (lv_at hl 8 rfl) ?_
              refine lv_iload hx hb dX2_sell_83 (lv_at hl 1 rfl) ?_
              refine r_iadd hx hb dX2_sell_85 ?_
              refine r_iald hx hb hK hP (9) rfl (by omega) (by decide) dX2_sell_86 ?_
              refine r_iadd hx hb dX2_sell_87 ?_
              refine lv_istore (lv' := [(4, .int (nI (al + (S 9 ((4 * e9) + a))))), (8, .int (nI 1)), (7, .int (nI a)), (6, .int (bI fi)), (5, .int (nI lf)), (0, .ref (B 0)), (1, .int (nI e9)), (2, .int (nI am)), (3, .int (nI (4 * e9)))]) hx hb dX2_sell_88 hl (by decide) rfl (fun ls hl => ?_)
              refine lv_iload hx hb dX2_sell_90 (lv_at hl 4 rfl) ?_
              refine lv_iload hx hb dX2_sell_92 (lv_at hl 1 rfl) ?_
              refine r_if_eq (tgt := 109) hx hb dX2_sell_94 (by decide) (by decide) (fun c5 => ?_) (fun c5 => ?_)
              · omega
              · refine lv_iload_n hx hb dX2_sell_97 rfl (lv_at hl 7 rfl) ?_
                refine lv_aload_n hx hb dX2_sell_98 rfl (lv_at hl 5 rfl) ?_
                refine va_get (D := D) (ci := 2) (v := .int (nI (S 0 2))) (C := RX2) (T := TX2) (N := 19) hx hb hts hiX2 hown hK hP (0) rfl rfl 11 (by decide) (hts (.fieldLink RX2 113 "CoauthorTextModel" "floor" "I") (by decide +kernel)) (fun _ h9 => h9) rfl dX2_sell_99 ?_
                refine r_imul hx hb dX2_sell_102 ?_
                refine lv_bipush (v := nI 100) hx hb dX2_sell_103 (by decide) ?_
                refine r_idiv hx hb dX2_sell_105 (by omega) (by decide) (by decide) ?_
                refine lv_goto (tgt := 110) hx hb dX2_sell_106 (by decide) ?_
                refine r_isub hx hb dX2_sell_110 (by have h77 := hlf; unfold slF at h77; omega) ?_
                refine lv_istore (lv' := [(5, .int (nI (lf - ((am * (S 0 2)) / 100)))), (4, .int (nI (al + (S 9 ((4 * e9) + a))))), (8, .int (nI 1)), (7, .int (nI a)), (6, .int (bI fi)), (0, .ref (B 0)), (1, .int (nI e9)), (2, .int (nI am)), (3, .int (nI (4 * e9)))]) hx hb dX2_sell_111 hl (by decide) rfl (fun ls hl => ?_)
                refine lv_iload hx hb dX2_sell_113 (lv_at hl 2 rfl) ?_
                refine r_if_eq (tgt := 123) hx hb dX2_sell_115 (by decide) (by decide) (fun c6 => ?_) (fun c6 => ?_)
                · omega
                · refine lv_iload hx hb dX2_sell_118 (lv_at hl 3 rfl) ?_
                  refine lv_goto (tgt := 125) hx hb dX2_sell_120 (by decide) ?_
                  refine lv_istore (lv' := [(6, .int (nI a)), (5, .int (nI (lf - ((am * (S 0 2)) / 100)))), (4, .int (nI (al + (S 9 ((4 * e9) + a))))), (8, .int (nI 1)), (7, .int (nI a)), (0, .ref (B 0)), (1, .int (nI e9)), (2, .int (nI am)), (3, .int (nI (4 * e9)))]) hx hb dX2_sell_125 hl (by decide) rfl (fun ls hl => ?_)
                  refine lv_iinc (v := bI a) (lv' := [(7, .int (bI a)), (6, .int (nI a)), (5, .int (nI (lf - ((am * (S 0 2)) / 100)))), (4, .int (nI (al + (S 9 ((4 * e9) + a))))), (8, .int (nI 1)), (0, .ref (B 0)), (1, .int (nI e9)), (2, .int (nI am)), (3, .int (nI (4 * e9)))]) hx hb dX2_sell_127 hl (k := 4) rfl (nI_dec a) (by decide) rfl (fun ls hl => ?_)
                  refine lv_goto (tgt := 52) hx hb dX2_sell_130 (by decide) ?_
                  rw [← bI_s a] at hl
                  exact kont ls (by rw [if_neg (show ¬ S 9 (4 * e9 + a) = 0 by omega), if_neg (show ¬ S 9 (4 * e9 + a) = 0 by omega)]; exact lv_sub hl [0, 1, 2, 3, 5, 6, 7, 8] rfl)
        have hi0 : (if S 9 (4 * e9 + 0) = 0 then 0 else slF S am) ≤ slF S am := by split <;> omega
        have hi1 : (if S 9 (4 * e9 + 1) = 0 then 0 else slF S am) ≤ slF S am := by split <;> omega
        have hi2 : (if S 9 (4 * e9 + 2) = 0 then 0 else slF S am) ≤ slF S am := by split <;> omega
        have hi3 : (if S 9 (4 * e9 + 3) = 0 then 0 else slF S am) ≤ slF S am := by split <;> omega
        refine iter1 3 (0) (am) (0) (nI 3) _ _ ls (by decide) (rfl) (by omega) (by omega) hP hD hS (lv_sub hl [0, 1, 2, 3, 5, 6, 7, 4] rfl) (fun ls hl => ?_)
        refine iter1 2 (0 + S 9 (4 * e9 + 3)) (am - (if S 9 (4 * e9 + 3) = 0 then 0 else slF S am)) (if S 9 (4 * e9 + 3) = 0 then 0 else 3 + 1) (bI 3) _ _ ls (by decide) (bI_s 2) (by omega) (by omega) hP hD hS hl (fun ls hl => ?_)
        refine iter1 1 ((0 + S 9 (4 * e9 + 3)) + S 9 (4 * e9 + 2)) ((am - (if S 9 (4 * e9 + 3) = 0 then 0 else slF S am)) - (if S 9 (4 * e9 + 2) = 0 then 0 else slF S am)) (if S 9 (4 * e9 + 2) = 0 then if S 9 (4 * e9 + 3) = 0 then 0 else 3 + 1 else 2 + 1) (bI 2) _ _ ls (by decide) (bI_s 1) (by omega) (by omega) hP hD hS hl (fun ls hl => ?_)
        refine iter1 0 (((0 + S 9 (4 * e9 + 3)) + S 9 (4 * e9 + 2)) + S 9 (4 * e9 + 1)) (((am - (if S 9 (4 * e9 + 3) = 0 then 0 else slF S am)) - (if S 9 (4 * e9 + 2) = 0 then 0 else slF S am)) - (if S 9 (4 * e9 + 1) = 0 then 0 else slF S am)) (if S 9 (4 * e9 + 1) = 0 then if S 9 (4 * e9 + 2) = 0 then if S 9 (4 * e9 + 3) = 0 then 0 else 3 + 1 else 2 + 1 else 1 + 1) (bI 1) _ _ ls (by decide) (bI_s 0) (by omega) (by omega) hP hD hS hl (fun ls hl => ?_)
        have eal : (((0 + S 9 (4 * e9 + 3)) + S 9 (4 * e9 + 2)) + S 9 (4 * e9 + 1)) + S 9 (4 * e9 + 0) = slA S e9 := by show _ = S 9 (4 * e9 + 0) + S 9 (4 * e9 + 1) + S 9 (4 * e9 + 2) + S 9 (4 * e9 + 3); omega
        have elf : (((am - (if S 9 (4 * e9 + 3) = 0 then 0 else slF S am)) - (if S 9 (4 * e9 + 2) = 0 then 0 else slF S am)) - (if S 9 (4 * e9 + 1) = 0 then 0 else slF S am)) - (if S 9 (4 * e9 + 0) = 0 then 0 else slF S am) = slL S e9 am := by
          have : slW S e9 * slF S am = (if S 9 (4 * e9 + 0) = 0 then 0 else slF S am) + (if S 9 (4 * e9 + 1) = 0 then 0 else slF S am) + (if S 9 (4 * e9 + 2) = 0 then 0 else slF S am) + (if S 9 (4 * e9 + 3) = 0 then 0 else slF S am) := by
            unfold slW s4
            simp only [Nat.add_mul]
            have hs : ∀ x : Nat, (if x = 0 then 0 else 1) * slF S am = if x = 0 then 0 else slF S am := fun x => by split <;> simp
            rw [hs, hs, hs, hs]
          unfold slL
          omega
        have efi : bI (if S 9 (4 * e9 + 0) = 0 then if S 9 (4 * e9 + 1) = 0 then if S 9 (4 * e9 + 2) = 0 then if S 9 (4 * e9 + 3) = 0 then 0 else 3 + 1 else 2 + 1 else 1 + 1 else 0 + 1) = nI (slI S e9) := by
          have hp := hall.1
          unfold slA s4 at hp
          unfold slI
          by_cases q0 : S 9 (4 * e9 + 0) = 0
          · by_cases q1 : S 9 (4 * e9 + 1) = 0
            · by_cases q2 : S 9 (4 * e9 + 2) = 0
              · have q3 : ¬ S 9 (4 * e9 + 3) = 0 := by omega
                rw [if_pos q0, if_pos q1, if_pos q2, if_neg q3, if_pos q0, if_pos q1, if_pos q2, bI_s]
              · rw [if_pos q0, if_pos q1, if_neg q2, if_pos q0, if_pos q1, if_neg q2, bI_s]
            · rw [if_pos q0, if_neg q1, if_pos q0, if_neg q1, bI_s]
          · rw [if_neg q0, if_neg q0, bI_s]
        rw [eal, elf, efi] at hl
        have hL6 : slL S e9 am ≤ 1000000 := by unfold slL; omega
        have hmul : ∀ a, slL S e9 am * S 9 (4 * e9 + a) ≤ 60000000 := fun a => Nat.le_trans (Nat.mul_le_mul hL6 (h9 _)) (by decide)
        have hsum := slP_sum S e9 am hall.1
        unfold s4 at hsum
        refine lv_iload hx hb dX2_sell_52 (lv_at hl 0 rfl) ?_
        refine lv_if_lt (tgt := 133) hx hb dX2_sell_54 (by decide) (fun cN => ?_) (fun cN => ?_)
        · refine lv_iload hx hb dX2_sell_133 (lv_at hl 2 rfl) ?_
          refine lv_istore (lv' := [(7, .int (nI (slL S e9 am))), (6, .int (nI (slI S e9))), (5, .int (nI (slL S e9 am))), (4, .int (nI (slA S e9))), (0, .ref (B 0)), (1, .int (nI e9)), (2, .int (nI am)), (3, .int (nI (4 * e9)))]) hx hb dX2_sell_135 hl (by decide) rfl (fun ls hl => ?_)
          refine lv_iconst (v := nI 0) hx hb dX2_sell_137 (by decide) ?_
          refine lv_istore (lv' := [(8, .int (nI 0)), (7, .int (nI (slL S e9 am))), (6, .int (nI (slI S e9))), (5, .int (nI (slL S e9 am))), (4, .int (nI (slA S e9))), (0, .ref (B 0)), (1, .int (nI e9)), (2, .int (nI am)), (3, .int (nI (4 * e9)))]) hx hb dX2_sell_138 hl (by decide) rfl (fun ls hl => ?_)
          have iter2 : ∀ (a rs : Nat) (v8 : Int32) (H : Heap) (locs : List Loc) (ls : Array Slot), a < 4 → v8 = nI a → slP S e9 am a ≤ rs → va_P D vwCl (MW cy B S (up2 T 0 2 0) Y) H → va_D A (MW cy B S (up2 T 0 2 0) Y) → va_S A s.heap H locs → lv_has ls 12 [(8, .int v8), (7, .int (nI rs)), (6, .int (nI (slI S e9))), (5, .int (nI (slL S e9 am))), (4, .int (nI (slA S e9))), (0, .ref (B 0)), (1, .int (nI e9)), (2, .int (nI am)), (3, .int (nI (4 * e9)))] → (∀ (ls : Array Slot), lv_has ls 12 [(8, .int (nI (a + 1))), (7, .int (nI (rs - slP S e9 am a))), (6, .int (nI (slI S e9))), (5, .int (nI (slL S e9 am))), (4, .int (nI (slA S e9))), (0, .ref (B 0)), (1, .int (nI e9)), (2, .int (nI am)), (3, .int (nI (4 * e9)))] → W p l e ({ frames := 3, cells := 0, slots := 0, locals := 55 } : Room) s m ([.ref (B 0), .int (nI e9), .int (nI am)] : List Value).toArray below meth c H locs 0 0 (MQ below (va_Qi (fun r w' => ∃ T' : Nat → Nat → Nat, T' 0 2 = (spSell S (nI e9) (nI am)).1 ∧ w' = MW cy B (spSell S (nI e9) (nI am)).2.2 T' Y ∧ ((spSell S (nI e9) (nI am)).1 = 0 → r = (spSell S (nI e9) (nI am)).2.1)) (fun w' t => wB D cy A w' t) A) ([.ref (B 0), .int (nI e9), .int (nI am)] : List Value).toArray s 0 0 A) (F0 m 140 ls [])) → W p l e ({ frames := 3, cells := 0, slots := 0, locals := 55 } : Room) s m ([.ref (B 0), .int (nI e9), .int (nI am)] : List Value).toArray below meth c H locs 0 0 (MQ below (va_Qi (fun r w' => ∃ T' : Nat → Nat → Nat, T' 0 2 = (spSell S (nI e9) (nI am)).1 ∧ w' = MW cy B (spSell S (nI e9) (nI am)).2.2 T' Y ∧ ((spSell S (nI e9) (nI am)).1 = 0 → r = (spSell S (nI e9) (nI am)).2.1)) (fun w' t => wB D cy A w' t) A) ([.ref (B 0), .int (nI e9), .int (nI am)] : List Value).toArray s 0 0 A) (F0 m 140 ls []) := by
            intro a rs v8 H locs ls ha hv8 hrs hP hD hS hl kont
            subst hv8
            have hl : lv_has ls 12 [(8, .int (nI a)), (7, .int (nI rs)), (6, .int (nI (slI S e9))), (5, .int (nI (slL S e9 am))), (4, .int (nI (slA S e9))), (0, .ref (B 0)), (1, .int (nI e9)), (2, .int (nI am)), (3, .int (nI (4 * e9)))] := hl
            have hma := hmul a
            refine lv_iload hx hb dX2_sell_140 (lv_at hl 0 rfl) ?_
            refine lv_iconst (v := nI 4) hx hb dX2_sell_142 (by decide) ?_
            refine r_icmp_ge (tgt := 172) hx hb dX2_sell_143 (by decide) (by omega) (by decide) (fun c7 => ?_) (fun c7 => ?_)
            · omega
            · refine lv_iload hx hb dX2_sell_146 (lv_at hl 1 rfl) ?_
              refine lv_iload hx hb dX2_sell_148 (lv_at hl 3 rfl) ?_
              refine lv_aload_n hx hb dX2_sell_150 rfl (lv_at hl 5 rfl) ?_
              refine va_get (D := D) (ci := 2) (v := .ref (B 9)) (C := RX2) (T := TX2) (N := 19) hx hb hts hiX2 hown hK hP (0) rfl rfl 10 (by decide) (hts (.fieldLink RX2 35 "CoauthorTextModel" "printed" "[I") (by decide +kernel)) (fun _ h9 => h9) rfl dX2_sell_151 ?_
              refine lv_iload_n hx hb dX2_sell_154 rfl (lv_at hl 8 rfl) ?_
              refine lv_iload hx hb dX2_sell_155 (lv_at hl 0 rfl) ?_
              refine r_iadd hx hb dX2_sell_157 ?_
              refine r_iald hx hb hK hP (9) rfl (by omega) (by decide) dX2_sell_158 ?_
              refine r_imul hx hb dX2_sell_159 ?_
              refine lv_iload hx hb dX2_sell_160 (lv_at hl 4 rfl) ?_
              refine r_idiv hx hb dX2_sell_162 (by omega) (by omega) (by omega) ?_
              refine r_isub hx hb dX2_sell_163 (by exact hrs) ?_
              refine lv_istore (lv' := [(7, .int (nI (rs - (slP S e9 am a)))), (8, .int (nI a)), (6, .int (nI (slI S e9))), (5, .int (nI (slL S e9 am))), (4, .int (nI (slA S e9))), (0, .ref (B 0)), (1, .int (nI e9)), (2, .int (nI am)), (3, .int (nI (4 * e9)))]) hx hb dX2_sell_164 hl (by decide) rfl (fun ls hl => ?_)
              refine lv_iinc (v := nI (a + 1)) (lv' := [(8, .int (nI (a + 1))), (7, .int (nI (rs - (slP S e9 am a)))), (6, .int (nI (slI S e9))), (5, .int (nI (slL S e9 am))), (4, .int (nI (slA S e9))), (0, .ref (B 0)), (1, .int (nI e9)), (2, .int (nI am)), (3, .int (nI (4 * e9)))]) hx hb dX2_sell_166 hl (k := 1) rfl (nI_inc _) (by decide) rfl (fun ls hl => ?_)
              refine lv_goto (tgt := 140) hx hb dX2_sell_169 (by decide) ?_
              exact kont ls (lv_sub hl [0, 1, 2, 3, 4, 5, 6, 7, 8] rfl)
          refine iter2 0 (slL S e9 am) (nI 0) _ _ ls (by decide) rfl (by omega) hP hD hS (lv_sub hl [0, 1, 2, 3, 4, 5, 6, 7, 8] rfl) (fun ls hl => ?_)
          refine iter2 1 ((slL S e9 am) - slP S e9 am 0) (nI 1) _ _ ls (by decide) rfl (by omega) hP hD hS hl (fun ls hl => ?_)
          refine iter2 2 (((slL S e9 am) - slP S e9 am 0) - slP S e9 am 1) (nI 2) _ _ ls (by decide) rfl (by omega) hP hD hS hl (fun ls hl => ?_)
          refine iter2 3 ((((slL S e9 am) - slP S e9 am 0) - slP S e9 am 1) - slP S e9 am 2) (nI 3) _ _ ls (by decide) rfl (by omega) hP hD hS hl (fun ls hl => ?_)
          have ers : ((((slL S e9 am) - slP S e9 am 0) - slP S e9 am 1) - slP S e9 am 2) - slP S e9 am 3 = slR S e9 am := by unfold slR s4; omega
          rw [ers] at hl
          refine lv_iload hx hb dX2_sell_140 (lv_at hl 0 rfl) ?_
          refine lv_iconst (v := nI 4) hx hb dX2_sell_142 (by decide) ?_
          refine r_icmp_ge (tgt := 172) hx hb dX2_sell_143 (by decide) (by decide) (by decide) (fun c8 => ?_) (fun c8 => ?_)
          · refine lv_iconst (v := nI 0) hx hb dX2_sell_172 (by decide) ?_
            refine lv_istore (lv' := [(8, .int (nI 0)), (7, .int (nI (slR S e9 am))), (6, .int (nI (slI S e9))), (5, .int (nI (slL S e9 am))), (4, .int (nI (slA S e9))), (0, .ref (B 0)), (1, .int (nI e9)), (2, .int (nI am)), (3, .int (nI (4 * e9)))]) hx hb dX2_sell_173 hl (by decide) rfl (fun ls hl => ?_)
            refine lv_iconst (v := nI 0) hx hb dX2_sell_175 (by decide) ?_
            refine lv_istore (lv' := [(9, .int (nI 0)), (8, .int (nI 0)), (7, .int (nI (slR S e9 am))), (6, .int (nI (slI S e9))), (5, .int (nI (slL S e9 am))), (4, .int (nI (slA S e9))), (0, .ref (B 0)), (1, .int (nI e9)), (2, .int (nI am)), (3, .int (nI (4 * e9)))]) hx hb dX2_sell_176 hl (by decide) rfl (fun ls hl => ?_)
            have iter3 : ∀ (a sm : Nat) (v9 : Int32) (Sj : Nat → Nat → Nat) (H : Heap) (locs : List Loc) (ls : Array Slot), a < 4 → v9 = nI a → Sj 9 = S 9 → Sj 0 = S 0 → Sj 10 a = S 10 a → Sj 11 a = S 11 a → va_P D vwCl (MW cy B Sj (up2 T 0 2 0) Y) H → va_D A (MW cy B Sj (up2 T 0 2 0) Y) → va_S A s.heap H locs → lv_has ls 12 [(9, .int v9), (8, .int (nI sm)), (7, .int (nI (slR S e9 am))), (6, .int (nI (slI S e9))), (5, .int (nI (slL S e9 am))), (4, .int (nI (slA S e9))), (0, .ref (B 0)), (1, .int (nI e9)), (2, .int (nI am)), (3, .int (nI (4 * e9)))] → (∀ (H : Heap) (locs : List Loc) (ls : Array Slot), va_P D vwCl (MW cy B (up2 (up2 Sj 10 a (S 10 a - slH S e9 am a)) 11 a (S 11 a + (slG S e9 am a - slH S e9 am a))) (up2 T 0 2 0) Y) H → va_D A (MW cy B (up2 (up2 Sj 10 a (S 10 a - slH S e9 am a)) 11 a (S 11 a + (slG S e9 am a - slH S e9 am a))) (up2 T 0 2 0) Y) → va_S A s.heap H locs → lv_has ls 12 [(9, .int (nI (a + 1))), (8, .int (nI (sm + (slG S e9 am a - slH S e9 am a)))), (7, .int (nI (slR S e9 am))), (6, .int (nI (slI S e9))), (5, .int (nI (slL S e9 am))), (4, .int (nI (slA S e9))), (0, .ref (B 0)), (1, .int (nI e9)), (2, .int (nI am)), (3, .int (nI (4 * e9)))] → W p l e ({ frames := 3, cells := 0, slots := 0, locals := 55 } : Room) s m ([.ref (B 0), .int (nI e9), .int (nI am)] : List Value).toArray below meth c H locs 0 0 (MQ below (va_Qi (fun r w' => ∃ T' : Nat → Nat → Nat, T' 0 2 = (spSell S (nI e9) (nI am)).1 ∧ w' = MW cy B (spSell S (nI e9) (nI am)).2.2 T' Y ∧ ((spSell S (nI e9) (nI am)).1 = 0 → r = (spSell S (nI e9) (nI am)).2.1)) (fun w' t => wB D cy A w' t) A) ([.ref (B 0), .int (nI e9), .int (nI am)] : List Value).toArray s 0 0 A) (F0 m 178 ls [])) → W p l e ({ frames := 3, cells := 0, slots := 0, locals := 55 } : Room) s m ([.ref (B 0), .int (nI e9), .int (nI am)] : List Value).toArray below meth c H locs 0 0 (MQ below (va_Qi (fun r w' => ∃ T' : Nat → Nat → Nat, T' 0 2 = (spSell S (nI e9) (nI am)).1 ∧ w' = MW cy B (spSell S (nI e9) (nI am)).2.2 T' Y ∧ ((spSell S (nI e9) (nI am)).1 = 0 → r = (spSell S (nI e9) (nI am)).2.1)) (fun w' t => wB D cy A w' t) A) ([.ref (B 0), .int (nI e9), .int (nI am)] : List Value).toArray s 0 0 A) (F0 m 178 ls []) := by
              intro a sm v9 Sj H locs ls ha hv9 e9s e0s e10 e11 hP hD hS hl kont
              subst hv9
              have hl : lv_has ls 12 [(9, .int (nI a)), (8, .int (nI sm)), (7, .int (nI (slR S e9 am))), (6, .int (nI (slI S e9))), (5, .int (nI (slL S e9 am))), (4, .int (nI (slA S e9))), (0, .ref (B 0)), (1, .int (nI e9)), (2, .int (nI am)), (3, .int (nI (4 * e9)))] := hl
              have hma := hmul a
              have h9a := h9 (4 * e9 + a)
              have h10a := h10 a
              have hPa : slP S e9 am a ≤ slL S e9 am := by
                have : a = 0 ∨ a = 1 ∨ a = 2 ∨ a = 3 := by omega
                rcases this with rfl | rfl | rfl | rfl <;> omega
              have hRl : slR S e9 am ≤ slL S e9 am := by unfold slR; exact Nat.sub_le _ _
              refine lv_iload hx hb dX2_sell_178 (lv_at hl 0 rfl) ?_
              refine lv_iconst (v := nI 4) hx hb dX2_sell_180 (by decide) ?_
              refine r_icmp_ge (tgt := 311) hx hb dX2_sell_181 (by decide) (by omega) (by decide) (fun c9 => ?_) (fun c9 => ?_)
              · omega
              · refine lv_iload hx hb dX2_sell_184 (lv_at hl 4 rfl) ?_
                refine lv_aload_n hx hb dX2_sell_186 rfl (lv_at hl 6 rfl) ?_
                refine va_get (D := D) (ci := 2) (v := .ref (B 9)) (C := RX2) (T := TX2) (N := 19) hx hb hts hiX2 hown hK hP (0) rfl rfl 10 (by decide) (hts (.fieldLink RX2 35 "CoauthorTextModel" "printed" "[I") (by decide +kernel)) (fun _ h9 => h9) rfl dX2_sell_187 ?_
                refine lv_iload_n hx hb dX2_sell_190 rfl (lv_at hl 9 rfl) ?_
                refine lv_iload hx hb dX2_sell_191 (lv_at hl 0 rfl) ?_
                refine r_iadd hx hb dX2_sell_193 ?_
                refine r_iald hx hb hK hP (9) rfl (by omega) (by decide) dX2_sell_194 ?_
                refine lv_topi (fun y9 ey9 => ?_)
                obtain rfl : y9 = nI (S 9 (4 * e9 + a)) := ey9.trans (by show nI (Sj 9 _) = _; rw [e9s])
                refine r_imul hx hb dX2_sell_195 ?_
                refine lv_iload hx hb dX2_sell_196 (lv_at hl 5 rfl) ?_
                refine r_idiv hx hb dX2_sell_198 (by omega) (by omega) (by omega) ?_
                refine lv_aload_n hx hb dX2_sell_199 rfl (lv_at hl 6 rfl) ?_
                refine va_get (D := D) (ci := 2) (v := .ref (B 9)) (C := RX2) (T := TX2) (N := 19) hx hb hts hiX2 hown hK hP (0) rfl rfl 10 (by decide) (hts (.fieldLink RX2 35 "CoauthorTextModel" "printed" "[I") (by decide +kernel)) (fun _ h9 => h9) rfl dX2_sell_200 ?_
                refine lv_iload_n hx hb dX2_sell_203 rfl (lv_at hl 9 rfl) ?_
                refine lv_iload hx hb dX2_sell_204 (lv_at hl 0 rfl) ?_
                refine r_iadd hx hb dX2_sell_206 ?_
                refine r_iald hx hb hK hP (9) rfl (by omega) (by decide) dX2_sell_207 ?_
                refine lv_topi (fun y9 ey9 => ?_)
                obtain rfl : y9 = nI (S 9 (4 * e9 + a)) := ey9.trans (by show nI (Sj 9 _) = _; rw [e9s])
                refine r_if_le (tgt := 223) hx hb dX2_sell_208 (by decide) (by omega) (fun cH => ?_) (fun cH => ?_)
                · refine lv_iconst (v := nI 0) hx hb dX2_sell_223 (by decide) ?_
                  refine r_iadd hx hb dX2_sell_224 ?_
                  refine lv_iload hx hb dX2_sell_225 (lv_at hl 0 rfl) ?_
                  refine lv_iload hx hb dX2_sell_227 (lv_at hl 3 rfl) ?_
                  refine r_icmp_ne (tgt := 237) hx hb dX2_sell_229 (by decide) (by omega) (by unfold slI; split <;> (try split) <;> (try split) <;> omega) (fun cF => ?_) (fun cF => ?_)
                  · refine lv_iconst (v := nI 0) hx hb dX2_sell_237 (by decide) ?_
                    refine r_iadd hx hb dX2_sell_238 ?_
                    refine lv_topi (fun y9 ey9 => ?_)
                    obtain rfl : y9 = nI (slG S e9 am a) := ey9.trans (by rw [slG, if_pos cH, if_neg cF]; rfl)
                    have hG : slG S e9 am a < 100000000 := by unfold slG; rw [if_pos cH, if_neg cF]; omega
                    refine lv_istore (lv' := [(10, .int (nI (slG S e9 am a))), (9, .int (nI a)), (8, .int (nI sm)), (7, .int (nI (slR S e9 am))), (6, .int (nI (slI S e9))), (5, .int (nI (slL S e9 am))), (4, .int (nI (slA S e9))), (0, .ref (B 0)), (1, .int (nI e9)), (2, .int (nI am)), (3, .int (nI (4 * e9)))]) hx hb dX2_sell_239 hl (by decide) rfl (fun ls hl => ?_)
                    refine lv_iload hx hb dX2_sell_241 (lv_at hl 0 rfl) ?_
                    refine lv_aload_n hx hb dX2_sell_243 rfl (lv_at hl 7 rfl) ?_
                    refine va_get (D := D) (ci := 2) (v := .ref (B 10)) (C := RX2) (T := TX2) (N := 19) hx hb hts hiX2 hown hK hP (0) rfl rfl 12 (by decide) (hts (.fieldLink RX2 38 "CoauthorTextModel" "advances" "[I") (by decide +kernel)) (fun _ h9 => h9) rfl dX2_sell_244 ?_
                    refine lv_iload hx hb dX2_sell_247 (lv_at hl 1 rfl) ?_
                    refine r_iald hx hb hK hP (10) rfl (by omega) (by decide) dX2_sell_249 ?_
                    refine lv_topi (fun y9 ey9 => ?_)
                    obtain rfl : y9 = nI (S 10 a) := ey9.trans (by show nI (Sj 10 a) = _; rw [e10])
                    refine r_icmp_ge (tgt := 258) hx hb dX2_sell_250 (by decide) (by omega) (by omega) (fun cW => ?_) (fun cW => ?_)
                    · refine lv_aload_n hx hb dX2_sell_258 rfl (lv_at hl 7 rfl) ?_
                      refine va_get (D := D) (ci := 2) (v := .ref (B 10)) (C := RX2) (T := TX2) (N := 19) hx hb hts hiX2 hown hK hP (0) rfl rfl 12 (by decide) (hts (.fieldLink RX2 38 "CoauthorTextModel" "advances" "[I") (by decide +kernel)) (fun _ h9 => h9) rfl dX2_sell_259 ?_
                      refine lv_iload hx hb dX2_sell_262 (lv_at hl 1 rfl) ?_
                      refine r_iald hx hb hK hP (10) rfl (by omega) (by decide) dX2_sell_264 ?_
                      refine lv_topi (fun y9 ey9 => ?_)
                      obtain rfl : y9 = nI (slH S e9 am a) := ey9.trans (by show nI (Sj 10 a) = _; rw [e10, slH, show min (slG S e9 am a) (S 10 a) = S 10 a from by omega])
                      have hH1 : slH S e9 am a ≤ slG S e9 am a := Nat.min_le_left _ _
                      have hH2 : slH S e9 am a ≤ S 10 a := Nat.min_le_right _ _
                      refine lv_istore (lv' := [(11, .int (nI (slH S e9 am a))), (10, .int (nI (slG S e9 am a))), (9, .int (nI a)), (8, .int (nI sm)), (7, .int (nI (slR S e9 am))), (6, .int (nI (slI S e9))), (5, .int (nI (slL S e9 am))), (4, .int (nI (slA S e9))), (0, .ref (B 0)), (1, .int (nI e9)), (2, .int (nI am)), (3, .int (nI (4 * e9)))]) hx hb dX2_sell_265 hl (by decide) rfl (fun ls hl => ?_)
                      refine lv_aload_n hx hb dX2_sell_267 rfl (lv_at hl 8 rfl) ?_
                      refine va_get (D := D) (ci := 2) (v := .ref (B 10)) (C := RX2) (T := TX2) (N := 19) hx hb hts hiX2 hown hK hP (0) rfl rfl 12 (by decide) (hts (.fieldLink RX2 38 "CoauthorTextModel" "advances" "[I") (by decide +kernel)) (fun _ h9 => h9) rfl dX2_sell_268 ?_
                      refine lv_iload hx hb dX2_sell_271 (lv_at hl 2 rfl) ?_
                      refine lv_dup2_11 hx hb dX2_sell_273 rfl rfl ?_
                      refine r_iald hx hb hK hP (10) rfl (by omega) (by decide) dX2_sell_274 ?_
                      refine lv_topi (fun y9 ey9 => ?_)
                      obtain rfl : y9 = nI (S 10 a) := ey9.trans (by show nI (Sj 10 a) = _; rw [e10])
                      refine lv_iload hx hb dX2_sell_275 (lv_at hl 0 rfl) ?_
                      refine r_isub hx hb dX2_sell_277 (by exact hH2) ?_
                      refine r_iast (w' := MW cy B (up2 Sj 10 a ((S 10 a) - (slH S e9 am a))) (up2 T 0 2 0) Y) hx hb hK hP hD hS (10) rfl (by omega) (by decide) dX2_sell_278 (by rw [show upd (fun x9 => nI (Sj 10 x9)) a (nI ((S 10 a) - (slH S e9 am a))) = fun x9 => nI ((up2 Sj 10 a ((S 10 a) - (slH S e9 am a))) 10 x9) from upd_n Sj 10 _ _]; rfl) (fun H locs hP hD hS => ?_)
                      refine lv_aload_n hx hb dX2_sell_279 rfl (lv_at hl 8 rfl) ?_
                      refine va_get (D := D) (ci := 2) (v := .ref (B 11)) (C := RX2) (T := TX2) (N := 19) hx hb hts hiX2 hown hK hP (0) rfl rfl 13 (by decide) (hts (.fieldLink RX2 41 "CoauthorTextModel" "paid" "[J") (by decide +kernel)) (fun _ h9 => h9) rfl dX2_sell_280 ?_
                      refine lv_iload hx hb dX2_sell_283 (lv_at hl 2 rfl) ?_
                      refine lv_dup2_11 hx hb dX2_sell_285 rfl rfl ?_
                      refine r_lald hx hb hK hP (11) rfl (by omega) (by decide) dX2_sell_286 ?_
                      refine lv_topl (fun y9 ey9 => ?_)
                      obtain rfl : y9 = lN (S 11 a) := ey9.trans (by show lN (Sj 11 a) = _; rw [e11])
                      refine lv_iload hx hb dX2_sell_287 (lv_at hl 1 rfl) ?_
                      refine lv_iload hx hb dX2_sell_289 (lv_at hl 0 rfl) ?_
                      refine r_isub hx hb dX2_sell_291 (by exact hH1) ?_
                      refine lv_i2l (v := lN ((slG S e9 am a) - (slH S e9 am a))) hx hb dX2_sell_292 (nI_l (by omega)) ?_
                      refine r_ladd hx hb dX2_sell_293 ?_
                      refine r_last (w' := MW cy B (up2 (up2 Sj 10 a ((S 10 a) - (slH S e9 am a))) 11 a (S 11 a + (slG S e9 am a - slH S e9 am a))) (up2 T 0 2 0) Y) hx hb hK hP hD hS (11) rfl (by omega) (by decide) dX2_sell_294 (by rw [show vp_updL (fun x9 => lN ((up2 Sj 10 a ((S 10 a) - (slH S e9 am a))) 11 x9)) a (lN (S 11 a + (slG S e9 am a - slH S e9 am a))) = fun x9 => lN ((up2 (up2 Sj 10 a ((S 10 a) - (slH S e9 am a))) 11 a (S 11 a + (slG S e9 am a - slH S e9 am a))) 11 x9) from upd_l (up2 Sj 10 a ((S 10 a) - (slH S e9 am a))) 11 _ _]; rfl) (fun H locs hP hD hS => ?_)
                      refine lv_iload hx hb dX2_sell_295 (lv_at hl 3 rfl) ?_
                      refine lv_iload hx hb dX2_sell_297 (lv_at hl 1 rfl) ?_
                      refine lv_iload hx hb dX2_sell_299 (lv_at hl 0 rfl) ?_
                      refine r_isub hx hb dX2_sell_301 (by exact hH1) ?_
                      refine r_iadd hx hb dX2_sell_302 ?_
                      refine lv_istore (lv' := [(8, .int (nI (sm + ((slG S e9 am a) - (slH S e9 am a))))), (11, .int (nI (slH S e9 am a))), (10, .int (nI (slG S e9 am a))), (9, .int (nI a)), (7, .int (nI (slR S e9 am))), (6, .int (nI (slI S e9))), (5, .int (nI (slL S e9 am))), (4, .int (nI (slA S e9))), (0, .ref (B 0)), (1, .int (nI e9)), (2, .int (nI am)), (3, .int (nI (4 * e9)))]) hx hb dX2_sell_303 hl (by decide) rfl (fun ls hl => ?_)
                      refine lv_iinc (v := nI (a + 1)) (lv' := [(9, .int (nI (a + 1))), (8, .int (nI (sm + ((slG S e9 am a) - (slH S e9 am a))))), (11, .int (nI (slH S e9 am a))), (10, .int (nI (slG S e9 am a))), (7, .int (nI (slR S e9 am))), (6, .int (nI (slI S e9))), (5, .int (nI (slL S e9 am))), (4, .int (nI (slA S e9))), (0, .ref (B 0)), (1, .int (nI e9)), (2, .int (nI am)), (3, .int (nI (4 * e9)))]) hx hb dX2_sell_305 hl (k := 3) rfl (nI_inc _) (by decide) rfl (fun ls hl => ?_)
                      refine lv_goto (tgt := 178) hx hb dX2_sell_308 (by decide) ?_
                      exact kont _ _ ls hP hD hS (lv_sub hl [0, 1, 4, 5, 6, 7, 8, 9, 10, 11] rfl)
                    · refine lv_iload hx hb dX2_sell_253 (lv_at hl 0 rfl) ?_
                      refine lv_goto (tgt := 265) hx hb dX2_sell_255 (by decide) ?_
                      refine lv_topi (fun y9 ey9 => ?_)
                      obtain rfl : y9 = nI (slH S e9 am a) := ey9.trans (by rw [slH, show min (slG S e9 am a) (S 10 a) = slG S e9 am a from by omega])
                      have hH1 : slH S e9 am a ≤ slG S e9 am a := Nat.min_le_left _ _
                      have hH2 : slH S e9 am a ≤ S 10 a := Nat.min_le_right _ _
                      refine lv_istore (lv' := [(11, .int (nI (slH S e9 am a))), (10, .int (nI (slG S e9 am a))), (9, .int (nI a)), (8, .int (nI sm)), (7, .int (nI (slR S e9 am))), (6, .int (nI (slI S e9))), (5, .int (nI (slL S e9 am))), (4, .int (nI (slA S e9))), (0, .ref (B 0)), (1, .int (nI e9)), (2, .int (nI am)), (3, .int (nI (4 * e9)))]) hx hb dX2_sell_265 hl (by decide) rfl (fun ls hl => ?_)
                      refine lv_aload_n hx hb dX2_sell_267 rfl (lv_at hl 8 rfl) ?_
                      refine va_get (D := D) (ci := 2) (v := .ref (B 10)) (C := RX2) (T := TX2) (N := 19) hx hb hts hiX2 hown hK hP (0) rfl rfl 12 (by decide) (hts (.fieldLink RX2 38 "CoauthorTextModel" "advances" "[I") (by decide +kernel)) (fun _ h9 => h9) rfl dX2_sell_268 ?_
                      refine lv_iload hx hb dX2_sell_271 (lv_at hl 2 rfl) ?_
                      refine lv_dup2_11 hx hb dX2_sell_273 rfl rfl ?_
                      refine r_iald hx hb hK hP (10) rfl (by omega) (by decide) dX2_sell_274 ?_
                      refine lv_topi (fun y9 ey9 => ?_)
                      obtain rfl : y9 = nI (S 10 a) := ey9.trans (by show nI (Sj 10 a) = _; rw [e10])
                      refine lv_iload hx hb dX2_sell_275 (lv_at hl 0 rfl) ?_
                      refine r_isub hx hb dX2_sell_277 (by exact hH2) ?_
                      refine r_iast (w' := MW cy B (up2 Sj 10 a ((S 10 a) - (slH S e9 am a))) (up2 T 0 2 0) Y) hx hb hK hP hD hS (10) rfl (by omega) (by decide) dX2_sell_278 (by rw [show upd (fun x9 => nI (Sj 10 x9)) a (nI ((S 10 a) - (slH S e9 am a))) = fun x9 => nI ((up2 Sj 10 a ((S 10 a) - (slH S e9 am a))) 10 x9) from upd_n Sj 10 _ _]; rfl) (fun H locs hP hD hS => ?_)
                      refine lv_aload_n hx hb dX2_sell_279 rfl (lv_at hl 8 rfl) ?_
                      refine va_get (D := D) (ci := 2) (v := .ref (B 11)) (C := RX2) (T := TX2) (N := 19) hx hb hts hiX2 hown hK hP (0) rfl rfl 13 (by decide) (hts (.fieldLink RX2 41 "CoauthorTextModel" "paid" "[J") (by decide +kernel)) (fun _ h9 => h9) rfl dX2_sell_280 ?_
                      refine lv_iload hx hb dX2_sell_283 (lv_at hl 2 rfl) ?_
                      refine lv_dup2_11 hx hb dX2_sell_285 rfl rfl ?_
                      refine r_lald hx hb hK hP (11) rfl (by omega) (by decide) dX2_sell_286 ?_
                      refine lv_topl (fun y9 ey9 => ?_)
                      obtain rfl : y9 = lN (S 11 a) := ey9.trans (by show lN (Sj 11 a) = _; rw [e11])
                      refine lv_iload hx hb dX2_sell_287 (lv_at hl 1 rfl) ?_
                      refine lv_iload hx hb dX2_sell_289 (lv_at hl 0 rfl) ?_
                      refine r_isub hx hb dX2_sell_291 (by exact hH1) ?_
                      refine lv_i2l (v := lN ((slG S e9 am a) - (slH S e9 am a))) hx hb dX2_sell_292 (nI_l (by omega)) ?_
                      refine r_ladd hx hb dX2_sell_293 ?_
                      refine r_last (w' := MW cy B (up2 (up2 Sj 10 a ((S 10 a) - (slH S e9 am a))) 11 a (S 11 a + (slG S e9 am a - slH S e9 am a))) (up2 T 0 2 0) Y) hx hb hK hP hD hS (11) rfl (by omega) (by decide) dX2_sell_294 (by rw [show vp_updL (fun x9 => lN ((up2 Sj 10 a ((S 10 a) - (slH S e9 am a))) 11 x9)) a (lN (S 11 a + (slG S e9 am a - slH S e9 am a))) = fun x9 => lN ((up2 (up2 Sj 10 a ((S 10 a) - (slH S e9 am a))) 11 a (S 11 a + (slG S e9 am a - slH S e9 am a))) 11 x9) from upd_l (up2 Sj 10 a ((S 10 a) - (slH S e9 am a))) 11 _ _]; rfl) (fun H locs hP hD hS => ?_)
                      refine lv_iload hx hb dX2_sell_295 (lv_at hl 3 rfl) ?_
                      refine lv_iload hx hb dX2_sell_297 (lv_at hl 1 rfl) ?_
                      refine lv_iload hx hb dX2_sell_299 (lv_at hl 0 rfl) ?_
                      refine r_isub hx hb dX2_sell_301 (by exact hH1) ?_
                      refine r_iadd hx hb dX2_sell_302 ?_
                      refine lv_istore (lv' := [(8, .int (nI (sm + ((slG S e9 am a) - (slH S e9 am a))))), (11, .int (nI (slH S e9 am a))), (10, .int (nI (slG S e9 am a))), (9, .int (nI a)), (7, .int (nI (slR S e9 am))), (6, .int (nI (slI S e9))), (5, .int (nI (slL S e9 am))), (4, .int (nI (slA S e9))), (0, .ref (B 0)), (1, .int (nI e9)), (2, .int (nI am)), (3, .int (nI (4 * e9)))]) hx hb dX2_sell_303 hl (by decide) rfl (fun ls hl => ?_)
                      refine lv_iinc (v := nI (a + 1)) (lv' := [(9, .int (nI (a + 1))), (8, .int (nI (sm + ((slG S e9 am a) - (slH S e9 am a))))), (11, .int (nI (slH S e9 am a))), (10, .int (nI (slG S e9 am a))), (7, .int (nI (slR S e9 am))), (6, .int (nI (slI S e9))), (5, .int (nI (slL S e9 am))), (4, .int (nI (slA S e9))), (0, .ref (B 0)), (1, .int (nI e9)), (2, .int (nI am)), (3, .int (nI (4 * e9)))]) hx hb dX2_sell_305 hl (k := 3) rfl (nI_inc _) (by decide) rfl (fun ls hl => ?_)
                      refine lv_goto (tgt := 178) hx hb dX2_sell_308 (by decide) ?_
                      exact kont _ _ ls hP hD hS (lv_sub hl [0, 1, 4, 5, 6, 7, 8, 9, 10, 11] rfl)
                  · refine lv_iload hx hb dX2_sell_232 (lv_at hl 2 rfl) ?_
                    refine lv_goto (tgt := 238) hx hb dX2_sell_234 (by decide) ?_
                    refine r_iadd hx hb dX2_sell_238 ?_
                    refine lv_topi (fun y9 ey9 => ?_)
                    obtain rfl : y9 = nI (slG S e9 am a) := ey9.trans (by rw [slG, if_pos cH, if_pos cF]; rfl)
                    have hG : slG S e9 am a < 100000000 := by unfold slG; rw [if_pos cH, if_pos cF]; omega
                    refine lv_istore (lv' := [(10, .int (nI (slG S e9 am a))), (9, .int (nI a)), (8, .int (nI sm)), (7, .int (nI (slR S e9 am))), (6, .int (nI (slI S e9))), (5, .int (nI (slL S e9 am))), (4, .int (nI (slA S e9))), (0, .ref (B 0)), (1, .int (nI e9)), (2, .int (nI am)), (3, .int (nI (4 * e9)))]) hx hb dX2_sell_239 hl (by decide) rfl (fun ls hl => ?_)
                    refine lv_iload hx hb dX2_sell_241 (lv_at hl 0 rfl) ?_
                    refine lv_aload_n hx hb dX2_sell_243 rfl (lv_at hl 7 rfl) ?_
                    refine va_get (D := D) (ci := 2) (v := .ref (B 10)) (C := RX2) (T := TX2) (N := 19) hx hb hts hiX2 hown hK hP (0) rfl rfl 12 (by decide) (hts (.fieldLink RX2 38 "CoauthorTextModel" "advances" "[I") (by decide +kernel)) (fun _ h9 => h9) rfl dX2_sell_244 ?_
                    refine lv_iload hx hb dX2_sell_247 (lv_at hl 1 rfl) ?_
                    refine r_iald hx hb hK hP (10) rfl (by omega) (by decide) dX2_sell_249 ?_
                    refine lv_topi (fun y9 ey9 => ?_)
                    obtain rfl : y9 = nI (S 10 a) := ey9.trans (by show nI (Sj 10 a) = _; rw [e10])
                    refine r_icmp_ge (tgt := 258) hx hb dX2_sell_250 (by decide) (by omega) (by omega) (fun cW => ?_) (fun cW => ?_)
                    · refine lv_aload_n hx hb dX2_sell_258 rfl (lv_at hl 7 rfl) ?_
                      refine va_get (D := D) (ci := 2) (v := .ref (B 10)) (C := RX2) (T := TX2) (N := 19) hx hb hts hiX2 hown hK hP (0) rfl rfl 12 (by decide) (hts (.fieldLink RX2 38 "CoauthorTextModel" "advances" "[I") (by decide +kernel)) (fun _ h9 => h9) rfl dX2_sell_259 ?_
                      refine lv_iload hx hb dX2_sell_262 (lv_at hl 1 rfl) ?_
                      refine r_iald hx hb hK hP (10) rfl (by omega) (by decide) dX2_sell_264 ?_
                      refine lv_topi (fun y9 ey9 => ?_)
                      obtain rfl : y9 = nI (slH S e9 am a) := ey9.trans (by show nI (Sj 10 a) = _; rw [e10, slH, show min (slG S e9 am a) (S 10 a) = S 10 a from by omega])
                      have hH1 : slH S e9 am a ≤ slG S e9 am a := Nat.min_le_left _ _
                      have hH2 : slH S e9 am a ≤ S 10 a := Nat.min_le_right _ _
                      refine lv_istore (lv' := [(11, .int (nI (slH S e9 am a))), (10, .int (nI (slG S e9 am a))), (9, .int (nI a)), (8, .int (nI sm)), (7, .int (nI (slR S e9 am))), (6, .int (nI (slI S e9))), (5, .int (nI (slL S e9 am))), (4, .int (nI (slA S e9))), (0, .ref (B 0)), (1, .int (nI e9)), (2, .int (nI am)), (3, .int (nI (4 * e9)))]) hx hb dX2_sell_265 hl (by decide) rfl (fun ls hl => ?_)
                      refine lv_aload_n hx hb dX2_sell_267 rfl (lv_at hl 8 rfl) ?_
                      refine va_get (D := D) (ci := 2) (v := .ref (B 10)) (C := RX2) (T := TX2) (N := 19) hx hb hts hiX2 hown hK hP (0) rfl rfl 12 (by decide) (hts (.fieldLink RX2 38 "CoauthorTextModel" "advances" "[I") (by decide +kernel)) (fun _ h9 => h9) rfl dX2_sell_268 ?_
                      refine lv_iload hx hb dX2_sell_271 (lv_at hl 2 rfl) ?_
                      refine lv_dup2_11 hx hb dX2_sell_273 rfl rfl ?_
                      refine r_iald hx hb hK hP (10) rfl (by omega) (by decide) dX2_sell_274 ?_
                      refine lv_topi (fun y9 ey9 => ?_)
                      obtain rfl : y9 = nI (S 10 a) := ey9.trans (by show nI (Sj 10 a) = _; rw [e10])
                      refine lv_iload hx hb dX2_sell_275 (lv_at hl 0 rfl) ?_
                      refine r_isub hx hb dX2_sell_277 (by exact hH2) ?_
                      refine r_iast (w' := MW cy B (up2 Sj 10 a ((S 10 a) - (slH S e9 am a))) (up2 T 0 2 0) Y) hx hb hK hP hD hS (10) rfl (by omega) (by decide) dX2_sell_278 (by rw [show upd (fun x9 => nI (Sj 10 x9)) a (nI ((S 10 a) - (slH S e9 am a))) = fun x9 => nI ((up2 Sj 10 a ((S 10 a) - (slH S e9 am a))) 10 x9) from upd_n Sj 10 _ _]; rfl) (fun H locs hP hD hS => ?_)
                      refine lv_aload_n hx hb dX2_sell_279 rfl (lv_at hl 8 rfl) ?_
                      refine va_get (D := D) (ci := 2) (v := .ref (B 11)) (C := RX2) (T := TX2) (N := 19) hx hb hts hiX2 hown hK hP (0) rfl rfl 13 (by decide) (hts (.fieldLink RX2 41 "CoauthorTextModel" "paid" "[J") (by decide +kernel)) (fun _ h9 => h9) rfl dX2_sell_280 ?_
                      refine lv_iload hx hb dX2_sell_283 (lv_at hl 2 rfl) ?_
                      refine lv_dup2_11 hx hb dX2_sell_285 rfl rfl ?_
                      refine r_lald hx hb hK hP (11) rfl (by omega) (by decide) dX2_sell_286 ?_
                      refine lv_topl (fun y9 ey9 => ?_)
                      obtain rfl : y9 = lN (S 11 a) := ey9.trans (by show lN (Sj 11 a) = _; rw [e11])
                      refine lv_iload hx hb dX2_sell_287 (lv_at hl 1 rfl) ?_
                      refine lv_iload hx hb dX2_sell_289 (lv_at hl 0 rfl) ?_
                      refine r_isub hx hb dX2_sell_291 (by exact hH1) ?_
                      refine lv_i2l (v := lN ((slG S e9 am a) - (slH S e9 am a))) hx hb dX2_sell_292 (nI_l (by omega)) ?_
                      refine r_ladd hx hb dX2_sell_293 ?_
                      refine r_last (w' := MW cy B (up2 (up2 Sj 10 a ((S 10 a) - (slH S e9 am a))) 11 a (S 11 a + (slG S e9 am a - slH S e9 am a))) (up2 T 0 2 0) Y) hx hb hK hP hD hS (11) rfl (by omega) (by decide) dX2_sell_294 (by rw [show vp_updL (fun x9 => lN ((up2 Sj 10 a ((S 10 a) - (slH S e9 am a))) 11 x9)) a (lN (S 11 a + (slG S e9 am a - slH S e9 am a))) = fun x9 => lN ((up2 (up2 Sj 10 a ((S 10 a) - (slH S e9 am a))) 11 a (S 11 a + (slG S e9 am a - slH S e9 am a))) 11 x9) from upd_l (up2 Sj 10 a ((S 10 a) - (slH S e9 am a))) 11 _ _]; rfl) (fun H locs hP hD hS => ?_)
                      refine lv_iload hx hb dX2_sell_295 (lv_at hl 3 rfl) ?_
                      refine lv_iload hx hb dX2_sell_297 (lv_at hl 1 rfl) ?_
                      refine lv_iload hx hb dX2_sell_299 (lv_at hl 0 rfl) ?_
                      refine r_isub hx hb dX2_sell_301 (by exact hH1) ?_
                      refine r_iadd hx hb dX2_sell_302 ?_
                      refine lv_istore (lv' := [(8, .int (nI (sm + ((slG S e9 am a) - (slH S e9 am a))))), (11, .int (nI (slH S e9 am a))), (10, .int (nI (slG S e9 am a))), (9, .int (nI a)), (7, .int (nI (slR S e9 am))), (6, .int (nI (slI S e9))), (5, .int (nI (slL S e9 am))), (4, .int (nI (slA S e9))), (0, .ref (B 0)), (1, .int (nI e9)), (2, .int (nI am)), (3, .int (nI (4 * e9)))]) hx hb dX2_sell_303 hl (by decide) rfl (fun ls hl => ?_)
                      refine lv_iinc (v := nI (a + 1)) (lv' := [(9, .int (nI (a + 1))), (8, .int (nI (sm + ((slG S e9 am a) - (slH S e9 am a))))), (11, .int (nI (slH S e9 am a))), (10, .int (nI (slG S e9 am a))), (7, .int (nI (slR S e9 am))), (6, .int (nI (slI S e9))), (5, .int (nI (slL S e9 am))), (4, .int (nI (slA S e9))), (0, .ref (B 0)), (1, .int (nI e9)), (2, .int (nI am)), (3, .int (nI (4 * e9)))]) hx hb dX2_sell_305 hl (k := 3) rfl (nI_inc _) (by decide) rfl (fun ls hl => ?_)
                      refine lv_goto (tgt := 178) hx hb dX2_sell_308 (by decide) ?_
                      exact kont _ _ ls hP hD hS (lv_sub hl [0, 1, 4, 5, 6, 7, 8, 9, 10, 11] rfl)
                    · refine lv_iload hx hb dX2_sell_253 (lv_at hl 0 rfl) ?_
                      refine lv_goto (tgt := 265) hx hb dX2_sell_255 (by decide) ?_
                      refine lv_topi (fun y9 ey9 => ?_)
                      obtain rfl : y9 = nI (slH S e9 am a) := ey9.trans (by rw [slH, show min (slG S e9 am a) (S 10 a) = slG S e9 am a from by omega])
                      have hH1 : slH S e9 am a ≤ slG S e9 am a := Nat.min_le_left _ _
                      have hH2 : slH S e9 am a ≤ S 10 a := Nat.min_le_right _ _
                      refine lv_istore (lv' := [(11, .int (nI (slH S e9 am a))), (10, .int (nI (slG S e9 am a))), (9, .int (nI a)), (8, .int (nI sm)), (7, .int (nI (slR S e9 am))), (6, .int (nI (slI S e9))), (5, .int (nI (slL S e9 am))), (4, .int (nI (slA S e9))), (0, .ref (B 0)), (1, .int (nI e9)), (2, .int (nI am)), (3, .int (nI (4 * e9)))]) hx hb dX2_sell_265 hl (by decide) rfl (fun ls hl => ?_)
                      refine lv_aload_n hx hb dX2_sell_267 rfl (lv_at hl 8 rfl) ?_
                      refine va_get (D := D) (ci := 2) (v := .ref (B 10)) (C := RX2) (T := TX2) (N := 19) hx hb hts hiX2 hown hK hP (0) rfl rfl 12 (by decide) (hts (.fieldLink RX2 38 "CoauthorTextModel" "advances" "[I") (by decide +kernel)) (fun _ h9 => h9) rfl dX2_sell_268 ?_
                      refine lv_iload hx hb dX2_sell_271 (lv_at hl 2 rfl) ?_
                      refine lv_dup2_11 hx hb dX2_sell_273 rfl rfl ?_
                      refine r_iald hx hb hK hP (10) rfl (by omega) (by decide) dX2_sell_274 ?_
                      refine lv_topi (fun y9 ey9 => ?_)
                      obtain rfl : y9 = nI (S 10 a) := ey9.trans (by show nI (Sj 10 a) = _; rw [e10])
                      refine lv_iload hx hb dX2_sell_275 (lv_at hl 0 rfl) ?_
                      refine r_isub hx hb dX2_sell_277 (by exact hH2) ?_
                      refine r_iast (w' := MW cy B (up2 Sj 10 a ((S 10 a) - (slH S e9 am a))) (up2 T 0 2 0) Y) hx hb hK hP hD hS (10) rfl (by omega) (by decide) dX2_sell_278 (by rw [show upd (fun x9 => nI (Sj 10 x9)) a (nI ((S 10 a) - (slH S e9 am a))) = fun x9 => nI ((up2 Sj 10 a ((S 10 a) - (slH S e9 am a))) 10 x9) from upd_n Sj 10 _ _]; rfl) (fun H locs hP hD hS => ?_)
                      refine lv_aload_n hx hb dX2_sell_279 rfl (lv_at hl 8 rfl) ?_
                      refine va_get (D := D) (ci := 2) (v := .ref (B 11)) (C := RX2) (T := TX2) (N := 19) hx hb hts hiX2 hown hK hP (0) rfl rfl 13 (by decide) (hts (.fieldLink RX2 41 "CoauthorTextModel" "paid" "[J") (by decide +kernel)) (fun _ h9 => h9) rfl dX2_sell_280 ?_
                      refine lv_iload hx hb dX2_sell_283 (lv_at hl 2 rfl) ?_
                      refine lv_dup2_11 hx hb dX2_sell_285 rfl rfl ?_
                      refine r_lald hx hb hK hP (11) rfl (by omega) (by decide) dX2_sell_286 ?_
                      refine lv_topl (fun y9 ey9 => ?_)
                      obtain rfl : y9 = lN (S 11 a) := ey9.trans (by show lN (Sj 11 a) = _; rw [e11])
                      refine lv_iload hx hb dX2_sell_287 (lv_at hl 1 rfl) ?_
                      refine lv_iload hx hb dX2_sell_289 (lv_at hl 0 rfl) ?_
                      refine r_isub hx hb dX2_sell_291 (by exact hH1) ?_
                      refine lv_i2l (v := lN ((slG S e9 am a) - (slH S e9 am a))) hx hb dX2_sell_292 (nI_l (by omega)) ?_
                      refine r_ladd hx hb dX2_sell_293 ?_
                      refine r_last (w' := MW cy B (up2 (up2 Sj 10 a ((S 10 a) - (slH S e9 am a))) 11 a (S 11 a + (slG S e9 am a - slH S e9 am a))) (up2 T 0 2 0) Y) hx hb hK hP hD hS (11) rfl (by omega) (by decide) dX2_sell_294 (by rw [show vp_updL (fun x9 => lN ((up2 Sj 10 a ((S 10 a) - (slH S e9 am a))) 11 x9)) a (lN (S 11 a + (slG S e9 am a - slH S e9 am a))) = fun x9 => lN ((up2 (up2 Sj 10 a ((S 10 a) - (slH S e9 am a))) 11 a (S 11 a + (slG S e9 am a - slH S e9 am a))) 11 x9) from upd_l (up2 Sj 10 a ((S 10 a) - (slH S e9 am a))) 11 _ _]; rfl) (fun H locs hP hD hS => ?_)
                      refine lv_iload hx hb dX2_sell_295 (lv_at hl 3 rfl) ?_
                      refine lv_iload hx hb dX2_sell_297 (lv_at hl 1 rfl) ?_
                      refine lv_iload hx hb dX2_sell_299 (lv_at hl 0 rfl) ?_
                      refine r_isub hx hb dX2_sell_301 (by exact hH1) ?_
                      refine r_iadd hx hb dX2_sell_302 ?_
                      refine lv_istore (lv' := [(8, .int (nI (sm + ((slG S e9 am a) - (slH S e9 am a))))), (11, .int (nI (slH S e9 am a))), (10, .int (nI (slG S e9 am a))), (9, .int (nI a)), (7, .int (nI (slR S e9 am))), (6, .int (nI (slI S e9))), (5, .int (nI (slL S e9 am))), (4, .int (nI (slA S e9))), (0, .ref (B 0)), (1, .int (nI e9)), (2, .int (nI am)), (3, .int (nI (4 * e9)))]) hx hb dX2_sell_303 hl (by decide) rfl (fun ls hl => ?_)
                      refine lv_iinc (v := nI (a + 1)) (lv' := [(9, .int (nI (a + 1))), (8, .int (nI (sm + ((slG S e9 am a) - (slH S e9 am a))))), (11, .int (nI (slH S e9 am a))), (10, .int (nI (slG S e9 am a))), (7, .int (nI (slR S e9 am))), (6, .int (nI (slI S e9))), (5, .int (nI (slL S e9 am))), (4, .int (nI (slA S e9))), (0, .ref (B 0)), (1, .int (nI e9)), (2, .int (nI am)), (3, .int (nI (4 * e9)))]) hx hb dX2_sell_305 hl (k := 3) rfl (nI_inc _) (by decide) rfl (fun ls hl => ?_)
                      refine lv_goto (tgt := 178) hx hb dX2_sell_308 (by decide) ?_
                      exact kont _ _ ls hP hD hS (lv_sub hl [0, 1, 4, 5, 6, 7, 8, 9, 10, 11] rfl)
                · refine lv_iload_n hx hb dX2_sell_211 rfl (lv_at hl 8 rfl) ?_
                  refine lv_aload_n hx hb dX2_sell_212 rfl (lv_at hl 6 rfl) ?_
                  refine va_get (D := D) (ci := 2) (v := .int (nI (Sj 0 2))) (C := RX2) (T := TX2) (N := 19) hx hb hts hiX2 hown hK hP (0) rfl rfl 11 (by decide) (hts (.fieldLink RX2 113 "CoauthorTextModel" "floor" "I") (by decide +kernel)) (fun _ h9 => h9) rfl dX2_sell_213 ?_
                  refine lv_topi (fun y9 ey9 => ?_)
                  obtain rfl : y9 = nI (S 0 2) := ey9.trans (by rw [e0s])
                  refine r_imul hx hb dX2_sell_216 ?_
                  refine lv_bipush (v := nI 100) hx hb dX2_sell_217 (by decide) ?_
                  refine r_idiv hx hb dX2_sell_219 (by omega) (by decide) (by decide) ?_
                  refine lv_goto (tgt := 224) hx hb dX2_sell_220 (by decide) ?_
                  refine r_iadd hx hb dX2_sell_224 ?_
                  refine lv_iload hx hb dX2_sell_225 (lv_at hl 0 rfl) ?_
                  refine lv_iload hx hb dX2_sell_227 (lv_at hl 3 rfl) ?_
                  refine r_icmp_ne (tgt := 237) hx hb dX2_sell_229 (by decide) (by omega) (by unfold slI; split <;> (try split) <;> (try split) <;> omega) (fun cF => ?_) (fun cF => ?_)
                  · refine lv_iconst (v := nI 0) hx hb dX2_sell_237 (by decide) ?_
                    refine r_iadd hx hb dX2_sell_238 ?_
                    refine lv_topi (fun y9 ey9 => ?_)
                    obtain rfl : y9 = nI (slG S e9 am a) := ey9.trans (by rw [slG, if_neg (show ¬ S 9 (4 * e9 + a) = 0 by omega), if_neg cF]; rfl)
                    have hG : slG S e9 am a < 100000000 := by unfold slG; rw [if_neg (show ¬ S 9 (4 * e9 + a) = 0 by omega), if_neg cF]; omega
                    refine lv_istore (lv' := [(10, .int (nI (slG S e9 am a))), (9, .int (nI a)), (8, .int (nI sm)), (7, .int (nI (slR S e9 am))), (6, .int (nI (slI S e9))), (5, .int (nI (slL S e9 am))), (4, .int (nI (slA S e9))), (0, .ref (B 0)), (1, .int (nI e9)), (2, .int (nI am)), (3, .int (nI (4 * e9)))]) hx hb dX2_sell_239 hl (by decide) rfl (fun ls hl => ?_)
                    refine lv_iload hx hb dX2_sell_241 (lv_at hl 0 rfl) ?_
                    refine lv_aload_n hx hb dX2_sell_243 rfl (lv_at hl 7 rfl) ?_
                    refine va_get (D := D) (ci := 2) (v := .ref (B 10)) (C := RX2) (T := TX2) (N := 19) hx hb hts hiX2 hown hK hP (0) rfl rfl 12 (by decide) (hts (.fieldLink RX2 38 "CoauthorTextModel" "advances" "[I") (by decide +kernel)) (fun _ h9 => h9) rfl dX2_sell_244 ?_
                    refine lv_iload hx hb dX2_sell_247 (lv_at hl 1 rfl) ?_
                    refine r_iald hx hb hK hP (10) rfl (by omega) (by decide) dX2_sell_249 ?_
                    refine lv_topi (fun y9 ey9 => ?_)
                    obtain rfl : y9 = nI (S 10 a) := ey9.trans (by show nI (Sj 10 a) = _; rw [e10])
                    refine r_icmp_ge (tgt := 258) hx hb dX2_sell_250 (by decide) (by omega) (by omega) (fun cW => ?_) (fun cW => ?_)
                    · refine lv_aload_n hx hb dX2_sell_258 rfl (lv_at hl 7 rfl) ?_
                      refine va_get (D := D) (ci := 2) (v := .ref (B 10)) (C := RX2) (T := TX2) (N := 19) hx hb hts hiX2 hown hK hP (0) rfl rfl 12 (by decide) (hts (.fieldLink RX2 38 "CoauthorTextModel" "advances" "[I") (by decide +kernel)) (fun _ h9 => h9) rfl dX2_sell_259 ?_
                      refine lv_iload hx hb dX2_sell_262 (lv_at hl 1 rfl) ?_
                      refine r_iald hx hb hK hP (10) rfl (by omega) (by decide) dX2_sell_264 ?_
                      refine lv_topi (fun y9 ey9 => ?_)
                      obtain rfl : y9 = nI (slH S e9 am a) := ey9.trans (by show nI (Sj 10 a) = _; rw [e10, slH, show min (slG S e9 am a) (S 10 a) = S 10 a from by omega])
                      have hH1 : slH S e9 am a ≤ slG S e9 am a := Nat.min_le_left _ _
                      have hH2 : slH S e9 am a ≤ S 10 a := Nat.min_le_right _ _
                      refine lv_istore (lv' := [(11, .int (nI (slH S e9 am a))), (10, .int (nI (slG S e9 am a))), (9, .int (nI a)), (8, .int (nI sm)), (7, .int (nI (slR S e9 am))), (6, .int (nI (slI S e9))), (5, .int (nI (slL S e9 am))), (4, .int (nI (slA S e9))), (0, .ref (B 0)), (1, .int (nI e9)), (2, .int (nI am)), (3, .int (nI (4 * e9)))]) hx hb dX2_sell_265 hl (by decide) rfl (fun ls hl => ?_)
                      refine lv_aload_n hx hb dX2_sell_267 rfl (lv_at hl 8 rfl) ?_
                      refine va_get (D := D) (ci := 2) (v := .ref (B 10)) (C := RX2) (T := TX2) (N := 19) hx hb hts hiX2 hown hK hP (0) rfl rfl 12 (by decide) (hts (.fieldLink RX2 38 "CoauthorTextModel" "advances" "[I") (by decide +kernel)) (fun _ h9 => h9) rfl dX2_sell_268 ?_
                      refine lv_iload hx hb dX2_sell_271 (lv_at hl 2 rfl) ?_
                      refine lv_dup2_11 hx hb dX2_sell_273 rfl rfl ?_
                      refine r_iald hx hb hK hP (10) rfl (by omega) (by decide) dX2_sell_274 ?_
                      refine lv_topi (fun y9 ey9 => ?_)
                      obtain rfl : y9 = nI (S 10 a) := ey9.trans (by show nI (Sj 10 a) = _; rw [e10])
                      refine lv_iload hx hb dX2_sell_275 (lv_at hl 0 rfl) ?_
                      refine r_isub hx hb dX2_sell_277 (by exact hH2) ?_
                      refine r_iast (w' := MW cy B (up2 Sj 10 a ((S 10 a) - (slH S e9 am a))) (up2 T 0 2 0) Y) hx hb hK hP hD hS (10) rfl (by omega) (by decide) dX2_sell_278 (by rw [show upd (fun x9 => nI (Sj 10 x9)) a (nI ((S 10 a) - (slH S e9 am a))) = fun x9 => nI ((up2 Sj 10 a ((S 10 a) - (slH S e9 am a))) 10 x9) from upd_n Sj 10 _ _]; rfl) (fun H locs hP hD hS => ?_)
                      refine lv_aload_n hx hb dX2_sell_279 rfl (lv_at hl 8 rfl) ?_
                      refine va_get (D := D) (ci := 2) (v := .ref (B 11)) (C := RX2) (T := TX2) (N := 19) hx hb hts hiX2 hown hK hP (0) rfl rfl 13 (by decide) (hts (.fieldLink RX2 41 "CoauthorTextModel" "paid" "[J") (by decide +kernel)) (fun _ h9 => h9) rfl dX2_sell_280 ?_
                      refine lv_iload hx hb dX2_sell_283 (lv_at hl 2 rfl) ?_
                      refine lv_dup2_11 hx hb dX2_sell_285 rfl rfl ?_
                      refine r_lald hx hb hK hP (11) rfl (by omega) (by decide) dX2_sell_286 ?_
                      refine lv_topl (fun y9 ey9 => ?_)
                      obtain rfl : y9 = lN (S 11 a) := ey9.trans (by show lN (Sj 11 a) = _; rw [e11])
                      refine lv_iload hx hb dX2_sell_287 (lv_at hl 1 rfl) ?_
                      refine lv_iload hx hb dX2_sell_289 (lv_at hl 0 rfl) ?_
                      refine r_isub hx hb dX2_sell_291 (by exact hH1) ?_
                      refine lv_i2l (v := lN ((slG S e9 am a) - (slH S e9 am a))) hx hb dX2_sell_292 (nI_l (by omega)) ?_
                      refine r_ladd hx hb dX2_sell_293 ?_
                      refine r_last (w' := MW cy B (up2 (up2 Sj 10 a ((S 10 a) - (slH S e9 am a))) 11 a (S 11 a + (slG S e9 am a - slH S e9 am a))) (up2 T 0 2 0) Y) hx hb hK hP hD hS (11) rfl (by omega) (by decide) dX2_sell_294 (by rw [show vp_updL (fun x9 => lN ((up2 Sj 10 a ((S 10 a) - (slH S e9 am a))) 11 x9)) a (lN (S 11 a + (slG S e9 am a - slH S e9 am a))) = fun x9 => lN ((up2 (up2 Sj 10 a ((S 10 a) - (slH S e9 am a))) 11 a (S 11 a + (slG S e9 am a - slH S e9 am a))) 11 x9) from upd_l (up2 Sj 10 a ((S 10 a) - (slH S e9 am a))) 11 _ _]; rfl) (fun H locs hP hD hS => ?_)
                      refine lv_iload hx hb dX2_sell_295 (lv_at hl 3 rfl) ?_
                      refine lv_iload hx hb dX2_sell_297 (lv_at hl 1 rfl) ?_
                      refine lv_iload hx hb dX2_sell_299 (lv_at hl 0 rfl) ?_
                      refine r_isub hx hb dX2_sell_301 (by exact hH1) ?_
                      refine r_iadd hx hb dX2_sell_302 ?_
                      refine lv_istore (lv' := [(8, .int (nI (sm + ((slG S e9 am a) - (slH S e9 am a))))), (11, .int (nI (slH S e9 am a))), (10, .int (nI (slG S e9 am a))), (9, .int (nI a)), (7, .int (nI (slR S e9 am))), (6, .int (nI (slI S e9))), (5, .int (nI (slL S e9 am))), (4, .int (nI (slA S e9))), (0, .ref (B 0)), (1, .int (nI e9)), (2, .int (nI am)), (3, .int (nI (4 * e9)))]) hx hb dX2_sell_303 hl (by decide) rfl (fun ls hl => ?_)
                      refine lv_iinc (v := nI (a + 1)) (lv' := [(9, .int (nI (a + 1))), (8, .int (nI (sm + ((slG S e9 am a) - (slH S e9 am a))))), (11, .int (nI (slH S e9 am a))), (10, .int (nI (slG S e9 am a))), (7, .int (nI (slR S e9 am))), (6, .int (nI (slI S e9))), (5, .int (nI (slL S e9 am))), (4, .int (nI (slA S e9))), (0, .ref (B 0)), (1, .int (nI e9)), (2, .int (nI am)), (3, .int (nI (4 * e9)))]) hx hb dX2_sell_305 hl (k := 3) rfl (nI_inc _) (by decide) rfl (fun ls hl => ?_)
                      refine lv_goto (tgt := 178) hx hb dX2_sell_308 (by decide) ?_
                      exact kont _ _ ls hP hD hS (lv_sub hl [0, 1, 4, 5, 6, 7, 8, 9, 10, 11] rfl)
                    · refine lv_iload hx hb dX2_sell_253 (lv_at hl 0 rfl) ?_
                      refine lv_goto (tgt := 265) hx hb dX2_sell_255 (by decide) ?_
                      refine lv_topi (fun y9 ey9 => ?_)
                      obtain rfl : y9 = nI (slH S e9 am a) := ey9.trans (by rw [slH, show min (slG S e9 am a) (S 10 a) = slG S e9 am a from by omega])
                      have hH1 : slH S e9 am a ≤ slG S e9 am a := Nat.min_le_left _ _
                      have hH2 : slH S e9 am a ≤ S 10 a := Nat.min_le_right _ _
                      refine lv_istore (lv' := [(11, .int (nI (slH S e9 am a))), (10, .int (nI (slG S e9 am a))), (9, .int (nI a)), (8, .int (nI sm)), (7, .int (nI (slR S e9 am))), (6, .int (nI (slI S e9))), (5, .int (nI (slL S e9 am))), (4, .int (nI (slA S e9))), (0, .ref (B 0)), (1, .int (nI e9)), (2, .int (nI am)), (3, .int (nI (4 * e9)))]) hx hb dX2_sell_265 hl (by decide) rfl (fun ls hl => ?_)
                      refine lv_aload_n hx hb dX2_sell_267 rfl (lv_at hl 8 rfl) ?_
                      refine va_get (D := D) (ci := 2) (v := .ref (B 10)) (C := RX2) (T := TX2) (N := 19) hx hb hts hiX2 hown hK hP (0) rfl rfl 12 (by decide) (hts (.fieldLink RX2 38 "CoauthorTextModel" "advances" "[I") (by decide +kernel)) (fun _ h9 => h9) rfl dX2_sell_268 ?_
                      refine lv_iload hx hb dX2_sell_271 (lv_at hl 2 rfl) ?_
                      refine lv_dup2_11 hx hb dX2_sell_273 rfl rfl ?_
                      refine r_iald hx hb hK hP (10) rfl (by omega) (by decide) dX2_sell_274 ?_
                      refine lv_topi (fun y9 ey9 => ?_)
                      obtain rfl : y9 = nI (S 10 a) := ey9.trans (by show nI (Sj 10 a) = _; rw [e10])
                      refine lv_iload hx hb dX2_sell_275 (lv_at hl 0 rfl) ?_
                      refine r_isub hx hb dX2_sell_277 (by exact hH2) ?_
                      refine r_iast (w' := MW cy B (up2 Sj 10 a ((S 10 a) - (slH S e9 am a))) (up2 T 0 2 0) Y) hx hb hK hP hD hS (10) rfl (by omega) (by decide) dX2_sell_278 (by rw [show upd (fun x9 => nI (Sj 10 x9)) a (nI ((S 10 a) - (slH S e9 am a))) = fun x9 => nI ((up2 Sj 10 a ((S 10 a) - (slH S e9 am a))) 10 x9) from upd_n Sj 10 _ _]; rfl) (fun H locs hP hD hS => ?_)
                      refine lv_aload_n hx hb dX2_sell_279 rfl (lv_at hl 8 rfl) ?_
                      refine va_get (D := D) (ci := 2) (v := .ref (B 11)) (C := RX2) (T := TX2) (N := 19) hx hb hts hiX2 hown hK hP (0) rfl rfl 13 (by decide) (hts (.fieldLink RX2 41 "CoauthorTextModel" "paid" "[J") (by decide +kernel)) (fun _ h9 => h9) rfl dX2_sell_280 ?_
                      refine lv_iload hx hb dX2_sell_283 (lv_at hl 2 rfl) ?_
                      refine lv_dup2_11 hx hb dX2_sell_285 rfl rfl ?_
                      refine r_lald hx hb hK hP (11) rfl (by omega) (by decide) dX2_sell_286 ?_
                      refine lv_topl (fun y9 ey9 => ?_)
                      obtain rfl : y9 = lN (S 11 a) := ey9.trans (by show lN (Sj 11 a) = _; rw [e11])
                      refine lv_iload hx hb dX2_sell_287 (lv_at hl 1 rfl) ?_
                      refine lv_iload hx hb dX2_sell_289 (lv_at hl 0 rfl) ?_
                      refine r_isub hx hb dX2_sell_291 (by exact hH1) ?_
                      refine lv_i2l (v := lN ((slG S e9 am a) - (slH S e9 am a))) hx hb dX2_sell_292 (nI_l (by omega)) ?_
                      refine r_ladd hx hb dX2_sell_293 ?_
                      refine r_last (w' := MW cy B (up2 (up2 Sj 10 a ((S 10 a) - (slH S e9 am a))) 11 a (S 11 a + (slG S e9 am a - slH S e9 am a))) (up2 T 0 2 0) Y) hx hb hK hP hD hS (11) rfl (by omega) (by decide) dX2_sell_294 (by rw [show vp_updL (fun x9 => lN ((up2 Sj 10 a ((S 10 a) - (slH S e9 am a))) 11 x9)) a (lN (S 11 a + (slG S e9 am a - slH S e9 am a))) = fun x9 => lN ((up2 (up2 Sj 10 a ((S 10 a) - (slH S e9 am a))) 11 a (S 11 a + (slG S e9 am a - slH S e9 am a))) 11 x9) from upd_l (up2 Sj 10 a ((S 10 a) - (slH S e9 am a))) 11 _ _]; rfl) (fun H locs hP hD hS => ?_)
                      refine lv_iload hx hb dX2_sell_295 (lv_at hl 3 rfl) ?_
                      refine lv_iload hx hb dX2_sell_297 (lv_at hl 1 rfl) ?_
                      refine lv_iload hx hb dX2_sell_299 (lv_at hl 0 rfl) ?_
                      refine r_isub hx hb dX2_sell_301 (by exact hH1) ?_
                      refine r_iadd hx hb dX2_sell_302 ?_
                      refine lv_istore (lv' := [(8, .int (nI (sm + ((slG S e9 am a) - (slH S e9 am a))))), (11, .int (nI (slH S e9 am a))), (10, .int (nI (slG S e9 am a))), (9, .int (nI a)), (7, .int (nI (slR S e9 am))), (6, .int (nI (slI S e9))), (5, .int (nI (slL S e9 am))), (4, .int (nI (slA S e9))), (0, .ref (B 0)), (1, .int (nI e9)), (2, .int (nI am)), (3, .int (nI (4 * e9)))]) hx hb dX2_sell_303 hl (by decide) rfl (fun ls hl => ?_)
                      refine lv_iinc (v := nI (a + 1)) (lv' := [(9, .int (nI (a + 1))), (8, .int (nI (sm + ((slG S e9 am a) - (slH S e9 am a))))), (11, .int (nI (slH S e9 am a))), (10, .int (nI (slG S e9 am a))), (7, .int (nI (slR S e9 am))), (6, .int (nI (slI S e9))), (5, .int (nI (slL S e9 am))), (4, .int (nI (slA S e9))), (0, .ref (B 0)), (1, .int (nI e9)), (2, .int (nI am)), (3, .int (nI (4 * e9)))]) hx hb dX2_sell_305 hl (k := 3) rfl (nI_inc _) (by decide) rfl (fun ls hl => ?_)
                      refine lv_goto (tgt := 178) hx hb dX2_sell_308 (by decide) ?_
                      exact kont _ _ ls hP hD hS (lv_sub hl [0, 1, 4, 5, 6, 7, 8, 9, 10, 11] rfl)
                  · refine lv_iload hx hb dX2_sell_232 (lv_at hl 2 rfl) ?_
                    refine lv_goto (tgt := 238) hx hb dX2_sell_234 (by decide) ?_
                    refine r_iadd hx hb dX2_sell_238 ?_
                    refine lv_topi (fun y9 ey9 => ?_)
                    obtain rfl : y9 = nI (slG S e9 am a) := ey9.trans (by rw [slG, if_neg (show ¬ S 9 (4 * e9 + a) = 0 by omega), if_pos cF]; rfl)
                    have hG : slG S e9 am a < 100000000 := by unfold slG; rw [if_neg (show ¬ S 9 (4 * e9 + a) = 0 by omega), if_pos cF]; omega
                    refine lv_istore (lv' := [(10, .int (nI (slG S e9 am a))), (9, .int (nI a)), (8, .int (nI sm)), (7, .int (nI (slR S e9 am))), (6, .int (nI (slI S e9))), (5, .int (nI (slL S e9 am))), (4, .int (nI (slA S e9))), (0, .ref (B 0)), (1, .int (nI e9)), (2, .int (nI am)), (3, .int (nI (4 * e9)))]) hx hb dX2_sell_239 hl (by decide) rfl (fun ls hl => ?_)
                    refine lv_iload hx hb dX2_sell_241 (lv_at hl 0 rfl) ?_
                    refine lv_aload_n hx hb dX2_sell_243 rfl (lv_at hl 7 rfl) ?_
                    refine va_get (D := D) (ci := 2) (v := .ref (B 10)) (C := RX2) (T := TX2) (N := 19) hx hb hts hiX2 hown hK hP (0) rfl rfl 12 (by decide) (hts (.fieldLink RX2 38 "CoauthorTextModel" "advances" "[I") (by decide +kernel)) (fun _ h9 => h9) rfl dX2_sell_244 ?_
                    refine lv_iload hx hb dX2_sell_247 (lv_at hl 1 rfl) ?_
                    refine r_iald hx hb hK hP (10) rfl (by omega) (by decide) dX2_sell_249 ?_
                    refine lv_topi (fun y9 ey9 => ?_)
                    obtain rfl : y9 = nI (S 10 a) := ey9.trans (by show nI (Sj 10 a) = _; rw [e10])
                    refine r_icmp_ge (tgt := 258) hx hb dX2_sell_250 (by decide) (by omega) (by omega) (fun cW => ?_) (fun cW => ?_)
                    · refine lv_aload_n hx hb dX2_sell_258 rfl (lv_at hl 7 rfl) ?_
                      refine va_get (D := D) (ci := 2) (v := .ref (B 10)) (C := RX2) (T := TX2) (N := 19) hx hb hts hiX2 hown hK hP (0) rfl rfl 12 (by decide) (hts (.fieldLink RX2 38 "CoauthorTextModel" "advances" "[I") (by decide +kernel)) (fun _ h9 => h9) rfl dX2_sell_259 ?_
                      refine lv_iload hx hb dX2_sell_262 (lv_at hl 1 rfl) ?_
                      refine r_iald hx hb hK hP (10) rfl (by omega) (by decide) dX2_sell_264 ?_
                      refine lv_topi (fun y9 ey9 => ?_)
                      obtain rfl : y9 = nI (slH S e9 am a) := ey9.trans (by show nI (Sj 10 a) = _; rw [e10, slH, show min (slG S e9 am a) (S 10 a) = S 10 a from by omega])
                      have hH1 : slH S e9 am a ≤ slG S e9 am a := Nat.min_le_left _ _
                      have hH2 : slH S e9 am a ≤ S 10 a := Nat.min_le_right _ _
                      refine lv_istore (lv' := [(11, .int (nI (slH S e9 am a))), (10, .int (nI (slG S e9 am a))), (9, .int (nI a)), (8, .int (nI sm)), (7, .int (nI (slR S e9 am))), (6, .int (nI (slI S e9))), (5, .int (nI (slL S e9 am))), (4, .int (nI (slA S e9))), (0, .ref (B 0)), (1, .int (nI e9)), (2, .int (nI am)), (3, .int (nI (4 * e9)))]) hx hb dX2_sell_265 hl (by decide) rfl (fun ls hl => ?_)
                      refine lv_aload_n hx hb dX2_sell_267 rfl (lv_at hl 8 rfl) ?_
                      refine va_get (D := D) (ci := 2) (v := .ref (B 10)) (C := RX2) (T := TX2) (N := 19) hx hb hts hiX2 hown hK hP (0) rfl rfl 12 (by decide) (hts (.fieldLink RX2 38 "CoauthorTextModel" "advances" "[I") (by decide +kernel)) (fun _ h9 => h9) rfl dX2_sell_268 ?_
                      refine lv_iload hx hb dX2_sell_271 (lv_at hl 2 rfl) ?_
                      refine lv_dup2_11 hx hb dX2_sell_273 rfl rfl ?_
                      refine r_iald hx hb hK hP (10) rfl (by omega) (by decide) dX2_sell_274 ?_
                      refine lv_topi (fun y9 ey9 => ?_)
                      obtain rfl : y9 = nI (S 10 a) := ey9.trans (by show nI (Sj 10 a) = _; rw [e10])
                      refine lv_iload hx hb dX2_sell_275 (lv_at hl 0 rfl) ?_
                      refine r_isub hx hb dX2_sell_277 (by exact hH2) ?_
                      refine r_iast (w' := MW cy B (up2 Sj 10 a ((S 10 a) - (slH S e9 am a))) (up2 T 0 2 0) Y) hx hb hK hP hD hS (10) rfl (by omega) (by decide) dX2_sell_278 (by rw [show upd (fun x9 => nI (Sj 10 x9)) a (nI ((S 10 a) - (slH S e9 am a))) = fun x9 => nI ((up2 Sj 10 a ((S 10 a) - (slH S e9 am a))) 10 x9) from upd_n Sj 10 _ _]; rfl) (fun H locs hP hD hS => ?_)
                      refine lv_aload_n hx hb dX2_sell_279 rfl (lv_at hl 8 rfl) ?_
                      refine va_get (D := D) (ci := 2) (v := .ref (B 11)) (C := RX2) (T := TX2) (N := 19) hx hb hts hiX2 hown hK hP (0) rfl rfl 13 (by decide) (hts (.fieldLink RX2 41 "CoauthorTextModel" "paid" "[J") (by decide +kernel)) (fun _ h9 => h9) rfl dX2_sell_280 ?_
                      refine lv_iload hx hb dX2_sell_283 (lv_at hl 2 rfl) ?_
                      refine lv_dup2_11 hx hb dX2_sell_285 rfl rfl ?_
                      refine r_lald hx hb hK hP (11) rfl (by omega) (by decide) dX2_sell_286 ?_
                      refine lv_topl (fun y9 ey9 => ?_)
                      obtain rfl : y9 = lN (S 11 a) := ey9.trans (by show lN (Sj 11 a) = _; rw [e11])
                      refine lv_iload hx hb dX2_sell_287 (lv_at hl 1 rfl) ?_
                      refine lv_iload hx hb dX2_sell_289 (lv_at hl 0 rfl) ?_
                      refine r_isub hx hb dX2_sell_291 (by exact hH1) ?_
                      refine lv_i2l (v := lN ((slG S e9 am a) - (slH S e9 am a))) hx hb dX2_sell_292 (nI_l (by omega)) ?_
                      refine r_ladd hx hb dX2_sell_293 ?_
                      refine r_last (w' := MW cy B (up2 (up2 Sj 10 a ((S 10 a) - (slH S e9 am a))) 11 a (S 11 a + (slG S e9 am a - slH S e9 am a))) (up2 T 0 2 0) Y) hx hb hK hP hD hS (11) rfl (by omega) (by decide) dX2_sell_294 (by rw [show vp_updL (fun x9 => lN ((up2 Sj 10 a ((S 10 a) - (slH S e9 am a))) 11 x9)) a (lN (S 11 a + (slG S e9 am a - slH S e9 am a))) = fun x9 => lN ((up2 (up2 Sj 10 a ((S 10 a) - (slH S e9 am a))) 11 a (S 11 a + (slG S e9 am a - slH S e9 am a))) 11 x9) from upd_l (up2 Sj 10 a ((S 10 a) - (slH S e9 am a))) 11 _ _]; rfl) (fun H locs hP hD hS => ?_)
                      refine lv_iload hx hb dX2_sell_295 (lv_at hl 3 rfl) ?_
                      refine lv_iload hx hb dX2_sell_297 (lv_at hl 1 rfl) ?_
                      refine lv_iload hx hb dX2_sell_299 (lv_at hl 0 rfl) ?_
                      refine r_isub hx hb dX2_sell_301 (by exact hH1) ?_
                      refine r_iadd hx hb dX2_sell_302 ?_
                      refine lv_istore (lv' := [(8, .int (nI (sm + ((slG S e9 am a) - (slH S e9 am a))))), (11, .int (nI (slH S e9 am a))), (10, .int (nI (slG S e9 am a))), (9, .int (nI a)), (7, .int (nI (slR S e9 am))), (6, .int (nI (slI S e9))), (5, .int (nI (slL S e9 am))), (4, .int (nI (slA S e9))), (0, .ref (B 0)), (1, .int (nI e9)), (2, .int (nI am)), (3, .int (nI (4 * e9)))]) hx hb dX2_sell_303 hl (by decide) rfl (fun ls hl => ?_)
                      refine lv_iinc (v := nI (a + 1)) (lv' := [(9, .int (nI (a + 1))), (8, .int (nI (sm + ((slG S e9 am a) - (slH S e9 am a))))), (11, .int (nI (slH S e9 am a))), (10, .int (nI (slG S e9 am a))), (7, .int (nI (slR S e9 am))), (6, .int (nI (slI S e9))), (5, .int (nI (slL S e9 am))), (4, .int (nI (slA S e9))), (0, .ref (B 0)), (1, .int (nI e9)), (2, .int (nI am)), (3, .int (nI (4 * e9)))]) hx hb dX2_sell_305 hl (k := 3) rfl (nI_inc _) (by decide) rfl (fun ls hl => ?_)
                      refine lv_goto (tgt := 178) hx hb dX2_sell_308 (by decide) ?_
                      exact kont _ _ ls hP hD hS (lv_sub hl [0, 1, 4, 5, 6, 7, 8, 9, 10, 11] rfl)
                    · refine lv_iload hx hb dX2_sell_253 (lv_at hl 0 rfl) ?_
                      refine lv_goto (tgt := 265) hx hb dX2_sell_255 (by decide) ?_
                      refine lv_topi (fun y9 ey9 => ?_)
                      obtain rfl : y9 = nI (slH S e9 am a) := ey9.trans (by rw [slH, show min (slG S e9 am a) (S 10 a) = slG S e9 am a from by omega])
                      have hH1 : slH S e9 am a ≤ slG S e9 am a := Nat.min_le_left _ _
                      have hH2 : slH S e9 am a ≤ S 10 a := Nat.min_le_right _ _
                      refine lv_istore (lv' := [(11, .int (nI (slH S e9 am a))), (10, .int (nI (slG S e9 am a))), (9, .int (nI a)), (8, .int (nI sm)), (7, .int (nI (slR S e9 am))), (6, .int (nI (slI S e9))), (5, .int (nI (slL S e9 am))), (4, .int (nI (slA S e9))), (0, .ref (B 0)), (1, .int (nI e9)), (2, .int (nI am)), (3, .int (nI (4 * e9)))]) hx hb dX2_sell_265 hl (by decide) rfl (fun ls hl => ?_)
                      refine lv_aload_n hx hb dX2_sell_267 rfl (lv_at hl 8 rfl) ?_
                      refine va_get (D := D) (ci := 2) (v := .ref (B 10)) (C := RX2) (T := TX2) (N := 19) hx hb hts hiX2 hown hK hP (0) rfl rfl 12 (by decide) (hts (.fieldLink RX2 38 "CoauthorTextModel" "advances" "[I") (by decide +kernel)) (fun _ h9 => h9) rfl dX2_sell_268 ?_
                      refine lv_iload hx hb dX2_sell_271 (lv_at hl 2 rfl) ?_
                      refine lv_dup2_11 hx hb dX2_sell_273 rfl rfl ?_
                      refine r_iald hx hb hK hP (10) rfl (by omega) (by decide) dX2_sell_274 ?_
                      refine lv_topi (fun y9 ey9 => ?_)
                      obtain rfl : y9 = nI (S 10 a) := ey9.trans (by show nI (Sj 10 a) = _; rw [e10])
                      refine lv_iload hx hb dX2_sell_275 (lv_at hl 0 rfl) ?_
                      refine r_isub hx hb dX2_sell_277 (by exact hH2) ?_
                      refine r_iast (w' := MW cy B (up2 Sj 10 a ((S 10 a) - (slH S e9 am a))) (up2 T 0 2 0) Y) hx hb hK hP hD hS (10) rfl (by omega) (by decide) dX2_sell_278 (by rw [show upd (fun x9 => nI (Sj 10 x9)) a (nI ((S 10 a) - (slH S e9 am a))) = fun x9 => nI ((up2 Sj 10 a ((S 10 a) - (slH S e9 am a))) 10 x9) from upd_n Sj 10 _ _]; rfl) (fun H locs hP hD hS => ?_)
                      refine lv_aload_n hx hb dX2_sell_279 rfl (lv_at hl 8 rfl) ?_
                      refine va_get (D := D) (ci := 2) (v := .ref (B 11)) (C := RX2) (T := TX2) (N := 19) hx hb hts hiX2 hown hK hP (0) rfl rfl 13 (by decide) (hts (.fieldLink RX2 41 "CoauthorTextModel" "paid" "[J") (by decide +kernel)) (fun _ h9 => h9) rfl dX2_sell_280 ?_
                      refine lv_iload hx hb dX2_sell_283 (lv_at hl 2 rfl) ?_
                      refine lv_dup2_11 hx hb dX2_sell_285 rfl rfl ?_
                      refine r_lald hx hb hK hP (11) rfl (by omega) (by decide) dX2_sell_286 ?_
                      refine lv_topl (fun y9 ey9 => ?_)
                      obtain rfl : y9 = lN (S 11 a) := ey9.trans (by show lN (Sj 11 a) = _; rw [e11])
                      refine lv_iload hx hb dX2_sell_287 (lv_at hl 1 rfl) ?_
                      refine lv_iload hx hb dX2_sell_289 (lv_at hl 0 rfl) ?_
                      refine r_isub hx hb dX2_sell_291 (by exact hH1) ?_
                      refine lv_i2l (v := lN ((slG S e9 am a) - (slH S e9 am a))) hx hb dX2_sell_292 (nI_l (by omega)) ?_
                      refine r_ladd hx hb dX2_sell_293 ?_
                      refine r_last (w' := MW cy B (up2 (up2 Sj 10 a ((S 10 a) - (slH S e9 am a))) 11 a (S 11 a + (slG S e9 am a - slH S e9 am a))) (up2 T 0 2 0) Y) hx hb hK hP hD hS (11) rfl (by omega) (by decide) dX2_sell_294 (by rw [show vp_updL (fun x9 => lN ((up2 Sj 10 a ((S 10 a) - (slH S e9 am a))) 11 x9)) a (lN (S 11 a + (slG S e9 am a - slH S e9 am a))) = fun x9 => lN ((up2 (up2 Sj 10 a ((S 10 a) - (slH S e9 am a))) 11 a (S 11 a + (slG S e9 am a - slH S e9 am a))) 11 x9) from upd_l (up2 Sj 10 a ((S 10 a) - (slH S e9 am a))) 11 _ _]; rfl) (fun H locs hP hD hS => ?_)
                      refine lv_iload hx hb dX2_sell_295 (lv_at hl 3 rfl) ?_
                      refine lv_iload hx hb dX2_sell_297 (lv_at hl 1 rfl) ?_
                      refine lv_iload hx hb dX2_sell_299 (lv_at hl 0 rfl) ?_
                      refine r_isub hx hb dX2_sell_301 (by exact hH1) ?_
                      refine r_iadd hx hb dX2_sell_302 ?_
                      refine lv_istore (lv' := [(8, .int (nI (sm + ((slG S e9 am a) - (slH S e9 am a))))), (11, .int (nI (slH S e9 am a))), (10, .int (nI (slG S e9 am a))), (9, .int (nI a)), (7, .int (nI (slR S e9 am))), (6, .int (nI (slI S e9))), (5, .int (nI (slL S e9 am))), (4, .int (nI (slA S e9))), (0, .ref (B 0)), (1, .int (nI e9)), (2, .int (nI am)), (3, .int (nI (4 * e9)))]) hx hb dX2_sell_303 hl (by decide) rfl (fun ls hl => ?_)
                      refine lv_iinc (v := nI (a + 1)) (lv' := [(9, .int (nI (a + 1))), (8, .int (nI (sm + ((slG S e9 am a) - (slH S e9 am a))))), (11, .int (nI (slH S e9 am a))), (10, .int (nI (slG S e9 am a))), (7, .int (nI (slR S e9 am))), (6, .int (nI (slI S e9))), (5, .int (nI (slL S e9 am))), (4, .int (nI (slA S e9))), (0, .ref (B 0)), (1, .int (nI e9)), (2, .int (nI am)), (3, .int (nI (4 * e9)))]) hx hb dX2_sell_305 hl (k := 3) rfl (nI_inc _) (by decide) rfl (fun ls hl => ?_)
                      refine lv_goto (tgt := 178) hx hb dX2_sell_308 (by decide) ?_
                      exact kont _ _ ls hP hD hS (lv_sub hl [0, 1, 4, 5, 6, 7, 8, 9, 10, 11] rfl)
            refine iter3 0 (0) (nI 0) (S) _ _ ls (by decide) rfl rfl rfl rfl rfl hP hD hS (lv_sub hl [0, 1, 2, 3, 4, 5, 6, 7, 8, 9] rfl) (fun H locs ls hP hD hS hl => ?_)
            refine iter3 1 (0 + (slG S e9 am 0 - slH S e9 am 0)) (nI 1) (up2 (up2 S 10 0 (S 10 0 - slH S e9 am 0)) 11 0 (S 11 0 + (slG S e9 am 0 - slH S e9 am 0))) _ _ ls (by decide) rfl rfl rfl rfl rfl hP hD hS hl (fun H locs ls hP hD hS hl => ?_)
            refine iter3 2 ((0 + (slG S e9 am 0 - slH S e9 am 0)) + (slG S e9 am 1 - slH S e9 am 1)) (nI 2) (up2 (up2 (up2 (up2 S 10 0 (S 10 0 - slH S e9 am 0)) 11 0 (S 11 0 + (slG S e9 am 0 - slH S e9 am 0))) 10 1 (S 10 1 - slH S e9 am 1)) 11 1 (S 11 1 + (slG S e9 am 1 - slH S e9 am 1))) _ _ ls (by decide) rfl rfl rfl rfl rfl hP hD hS hl (fun H locs ls hP hD hS hl => ?_)
            refine iter3 3 (((0 + (slG S e9 am 0 - slH S e9 am 0)) + (slG S e9 am 1 - slH S e9 am 1)) + (slG S e9 am 2 - slH S e9 am 2)) (nI 3) (up2 (up2 (up2 (up2 (up2 (up2 S 10 0 (S 10 0 - slH S e9 am 0)) 11 0 (S 11 0 + (slG S e9 am 0 - slH S e9 am 0))) 10 1 (S 10 1 - slH S e9 am 1)) 11 1 (S 11 1 + (slG S e9 am 1 - slH S e9 am 1))) 10 2 (S 10 2 - slH S e9 am 2)) 11 2 (S 11 2 + (slG S e9 am 2 - slH S e9 am 2))) _ _ ls (by decide) rfl rfl rfl rfl rfl hP hD hS hl (fun H locs ls hP hD hS hl => ?_)
            refine lv_iload hx hb dX2_sell_178 (lv_at hl 0 rfl) ?_
            refine lv_iconst (v := nI 4) hx hb dX2_sell_180 (by decide) ?_
            refine r_icmp_ge (tgt := 311) hx hb dX2_sell_181 (by decide) (by decide) (by decide) (fun c10 => ?_) (fun c10 => ?_)
            · refine lv_iload hx hb dX2_sell_311 (lv_at hl 1 rfl) ?_
              exact C_iret hx hb hr hlocks hS hP hK hD (Nat.le_of_ble_eq_true rfl) (Nat.le_of_ble_eq_true rfl) dX2_sell_313 (by rw [show spSell S (nI e9) (nI am) = (0, nI (s4 (fun a => slG S e9 am a - slH S e9 am a)), slS S e9 am 4) from by simp only [spSell, hU, hV, ea, eb, Bool.true_eq_false, if_false]]; exact ⟨_, up2_s _ _ _ _, by rw [sl_4], fun _ => by rw [s4, Nat.zero_add]⟩)
            · omega
          · omega
        · exact absurd (by decide) cN
      · omega
  · have hV := bN_0.mp cA
    refine lv_iconst (v := nI 1) hx hb dX2_sell_9 (by decide) ?_
    refine lv_goto (tgt := 28) hx hb dX2_sell_10 (by decide) ?_
    refine K_i (va_runV (As := [.int (nI 1)]) (rest := []) ⟨hx, hb, hml, hown, hts⟩ (c_X2_goes l (k := 1) (by decide) _) (cwV 1 hts gX2_sell_X2_goes rfl rfl rfl (by decide +kernel) ⟨Nat.le_of_ble_eq_true rfl, Nat.le_of_ble_eq_true rfl⟩) (pV hP hK hD hS hA hX (va_recv hK hP (ci := 2) (q0 := 0) rfl rfl)) rfl rfl hl.1 rfl (lv_room (Nat.le_of_ble_eq_true rfl)) dX2_sell_28 ⟨Nat.le_of_ble_eq_true rfl, Nat.le_of_ble_eq_true rfl⟩) hD hS hA (fun r w'  H locs hp hP hD hS => ?_)
    obtain ⟨hr9, rfl⟩ := hp
    obtain rfl : r = nI 0 := hr9
    refine r_if_ne (tgt := 36) hx hb dX2_sell_31 (by decide) (by decide) (fun c11 => ?_) (fun c11 => ?_)
    · omega
    · refine lv_iconst (v := nI 0) hx hb dX2_sell_34 (by decide) ?_
      exact C_iret hx hb hr hlocks hS hP hK hD (Nat.le_of_ble_eq_true rfl) (Nat.le_of_ble_eq_true rfl) dX2_sell_35 (by rw [show spSell S p0 p1 = (1, 0, S) from by simp [spSell, hV]]; exact ⟨_, up2_s _ _ _ _, rfl, fun h => absurd (show (1 : Nat) = 0 from h) (by decide)⟩)
end
section
/-! ===== the class's world: its stores ===== -/
theorem fam_congr {n : Nat} {g g' : Nat → Nat} {c c' : Nat → va_E} (hg : ∀ i, i < n → g i = g' i) (hc : ∀ i, i < n → c i = c' i) : fam n g c = fam n g' c' := by
  apply List.map_congr_left
  intro i hi
  have := List.mem_range.mp hi
  rw [hg i this, hc i this]
theorem fam_succ (n : Nat) (g : Nat → Nat) (c : Nat → va_E) : fam (n + 1) g c = fam n g c ++ [(g n, c n)] := by
  simp [fam, List.range_succ]
theorem up2_comm (f : Nat → Nat → Nat) {k k' : Nat} (h : k ≠ k') (i i' v v' : Nat) : up2 (up2 f k i v) k' i' v' = up2 (up2 f k' i' v') k i v := by
  funext x y
  by_cases h1 : x = k
  · subst h1
    rw [up2_k _ h]
    by_cases h2 : y = i
    · subst h2; rw [up2_s, up2_s]
    · rw [up2_i _ h2, up2_i _ h2, up2_k _ h]
  · rw [up2_k _ h1]
    by_cases h2 : x = k'
    · subst h2
      by_cases h3 : y = i'
      · subst h3; rw [up2_s, up2_s]
      · rw [up2_i _ h3, up2_i _ h3, up2_k _ h1]
    · rw [up2_k _ h2, up2_k _ h1, up2_k _ h2]
theorem up2_same (f : Nat → Nat → Nat) (k i : Nat) : up2 f k i (f k i) = f := by
  funext x y
  by_cases h : x = k
  · subst h
    by_cases h2 : y = i
    · subst h2; rw [up2_s]
    · rw [up2_i _ h2]
  · rw [up2_k _ h]
theorem CW_app (cy : Nat → ClassId) (G : Nat → Nat) (S : Nat → Nat → Nat) (hd : Option Nat) (nx : Nat → Option Nat) (Y : va_W) : CW cy G S hd nx Y = CW cy G S hd nx [] ++ Y := by
  simp [CW, sgW, List.append_assoc]
theorem MW_app (cy : Nat → ClassId) (B : Nat → Nat) (S T : Nat → Nat → Nat) (Y : va_W) : MW cy B S T Y = MW cy B S T [] ++ Y := rfl
theorem stV_ne {S : Nat → Nat → Nat} {i : Nat} {c x v w j : Nat} (h : ∀ a, 60 * a + j ≠ 60 * c + i) : stV (up2 (up2 S 5 (60 * c + i) v) 7 (60 * c + i) w) j x = stV S j x := by
  simp only [stV]
  rw [up2_i _ (h x), up2_k _ (by decide), up2_i _ (h x), up2_k _ (by decide)]
theorem set_skip6 (x0 x1 x2 x3 x4 x5 : Nat × va_E) (r : va_W) (k : Nat) (y : Nat × va_E) : (x0 :: x1 :: x2 :: x3 :: x4 :: x5 :: r).set (6 + k) y = x0 :: x1 :: x2 :: x3 :: x4 :: x5 :: r.set k y := by
  rw [show 6 + k = k + 1 + 1 + 1 + 1 + 1 + 1 by omega]
  rfl
/-- a removal is written -/
theorem CW_setRm {cy : Nat → ClassId} {G : Nat → Nat} {S : Nat → Nat → Nat} {hd : Option Nat} {nx : Nat → Option Nat} {Y : va_W} {i c v : Nat} (hi : i < S 0 0) (hn : S 0 0 ≤ 60) :
    (CW cy G S hd nx Y).set (6 + (20 + (S 0 0 + (S 0 0 + i)))) (G (102 + 3 * i), .inl (cy 2, 4, .inl (upd (fun a => nI (S 6 (60 * a + i))) c (nI v)))) = CW cy G (up2 S 6 (60 * c + i) v) hd nx Y := by
  have e : ∀ j, j < S 0 0 → va_up (rmC cy S) i (.inl (cy 2, 4, .inl (upd (fun a => nI (S 6 (60 * a + i))) c (nI v)))) j = rmC cy (up2 S 6 (60 * c + i) v) j := fun j hj => by
    by_cases h : j = i
    · subst h
      simp only [va_up, if_true, rmC]
      congr 4
      funext a
      by_cases ha : a = c
      · subst ha; simp [upd, up2]
      · rw [up2_i _ (by omega)]; simp [upd, ha]
    · simp only [va_up, if_neg h, rmC]
      congr 4
      funext a
      rw [up2_i _ (by omega)]
  unfold CW
  rw [set_skip6]
  simp only [sgW]
  rw [fam_setk, fam_setk, fam_setk, fam_set hi, fam_congr (fun _ _ => rfl) e]
  rfl
/-- a stamp is written: the copy knows the sign then -/
theorem CW_setSt {cy : Nat → ClassId} {G : Nat → Nat} {S : Nat → Nat → Nat} {hd : Option Nat} {nx : Nat → Option Nat} {Y : va_W} {i c v : Nat} (hi : i < S 0 0) (hn : S 0 0 ≤ 60) :
    (CW cy G S hd nx Y).set (6 + (20 + (S 0 0 + i))) (G (101 + 3 * i), .inl (cy 0, 4, .inl (upd (stV S i) c (nI v)))) = CW cy G (up2 (up2 S 5 (60 * c + i) 1) 7 (60 * c + i) v) hd nx Y := by
  have e : ∀ j, j < S 0 0 → va_up (stC cy S) i (.inl (cy 0, 4, .inl (upd (stV S i) c (nI v)))) j = stC cy (up2 (up2 S 5 (60 * c + i) 1) 7 (60 * c + i) v) j := fun j hj => by
    by_cases h : j = i
    · subst h
      simp only [va_up, if_true, stC]
      congr 4
      funext a
      by_cases ha : a = c
      · subst ha; simp [upd, stV, up2]
      · simp only [upd, if_neg ha, stV]
        rw [up2_i _ (by omega), up2_k _ (by decide), up2_i _ (by omega), up2_k _ (by decide)]
    · simp only [va_up, if_neg h, stC]
      congr 4
      funext a
      exact (stV_ne (fun b => by omega)).symm
  unfold CW
  rw [set_skip6]
  simp only [sgW]
  rw [fam_setk, fam_setk, fam_set hi, fam_congr (fun _ _ => rfl) e]
  rfl
/-- the successor of a sign is written -/
theorem CW_setNx {cy : Nat → ClassId} {G : Nat → Nat} {S : Nat → Nat → Nat} {hd : Option Nat} {nx : Nat → Option Nat} {Y : va_W} {i : Nat} {o : Option Nat} (hi : i < S 0 0) :
    (CW cy G S hd nx Y).set (6 + (20 + i)) (G (100 + 3 * i), .inr (0, [.int (nI i), .int (nI (S 1 i)), .int (nI (S 2 i)), .int (nI (4 * S 3 i + S 1 i)), va_rf (if S 4 i = 0 then none else some (G (100 + 3 * (S 4 i - 1)))), va_rf (o.map fun j => G (100 + 3 * j)), .ref (G (101 + 3 * i)), .ref (G (102 + 3 * i))])) = CW cy G S hd (va_up nx i o) Y := by
  have e : ∀ j, j < S 0 0 → va_up (sgC G S nx) i (.inr (0, [.int (nI i), .int (nI (S 1 i)), .int (nI (S 2 i)), .int (nI (4 * S 3 i + S 1 i)), va_rf (if S 4 i = 0 then none else some (G (100 + 3 * (S 4 i - 1)))), va_rf (o.map fun j => G (100 + 3 * j)), .ref (G (101 + 3 * i)), .ref (G (102 + 3 * i))])) j = sgC G S (va_up nx i o) j := fun j hj => by
    by_cases h : j = i
    · subst h; simp [va_up, sgC]
    · simp [va_up, sgC, h]
  unfold CW
  rw [set_skip6]
  simp only [sgW]
  rw [fam_setk, fam_set hi, fam_congr (fun _ _ => rfl) e]
/-- an edition's row is written -/
theorem CW_setRw {cy : Nat → ClassId} {G : Nat → Nat} {S : Nat → Nat → Nat} {hd : Option Nat} {nx : Nat → Option Nat} {Y : va_W} {i c v : Nat} (hi : i < 20) (hc : c < 4) {f : Nat → Int32} (hf : ∀ a, a < 4 → f a = nI (S 9 (4 * i + a))) :
    ∃ f' : Nat → Int32, (∀ a, a < 4 → f' a = nI (up2 S 9 (4 * i + c) v 9 (4 * i + a))) ∧ upd f c (nI v) = f' := by
  refine ⟨upd f c (nI v), fun a ha => ?_, rfl⟩
  by_cases h : a = c
  · subst h; simp [upd, up2]
  · rw [up2_i _ (by omega)]; simp [upd, h, hf a ha]
/-- worlds in another order -/
theorem P_iff {D : va_G} {ws : va_W} {H : Heap} : va_P D vwCl ws H ↔ ∀ q, q ∈ ws → va_at D vwCl q H := by
  refine ⟨fun h q hq => ?_, fun h k q hk => h q (List.mem_of_getElem? hk)⟩
  obtain ⟨k, hk⟩ := List.mem_iff_getElem?.mp hq
  exact h k q hk
theorem P_perm {D : va_G} {ws ws' : va_W} {H : Heap} (h : ws.Perm ws') (hP : va_P D vwCl ws H) : va_P D vwCl ws' H := P_iff.mpr (fun q hq => P_iff.mp hP q (h.mem_iff.mpr hq))
theorem D_iff {A : Nat → Prop} {ws : va_W} : va_D A ws ↔ (ws.map Prod.fst).Nodup ∧ ∀ q, q ∈ ws → A q.1 := by
  constructor
  · intro h
    refine ⟨?_, fun q hq => ?_⟩
    · rw [List.nodup_iff_pairwise_ne, List.pairwise_iff_getElem]
      intro i j hi hj hij he
      rw [List.length_map] at hi hj
      have := h.1 i j _ _ (List.getElem?_eq_getElem hi) (List.getElem?_eq_getElem hj) (by simpa using he)
      omega
    · obtain ⟨k, hk⟩ := List.mem_iff_getElem?.mp hq
      exact h.2 k q hk
  · intro h
    refine ⟨fun i j p q hp hq he => ?_, fun k q hk => h.2 q (List.mem_of_getElem? hk)⟩
    have hn := h.1
    rw [List.nodup_iff_pairwise_ne, List.pairwise_iff_getElem] at hn
    obtain ⟨hi, hp⟩ := List.getElem?_eq_some_iff.mp hp
    obtain ⟨hj, hq⟩ := List.getElem?_eq_some_iff.mp hq
    rcases Nat.lt_trichotomy i j with hlt | heq | hgt
    · exact (hn i j (by simpa using hi) (by simpa using hj) hlt (by simp [hp, hq, he])).elim
    · exact heq
    · exact (hn j i (by simpa using hj) (by simpa using hi) hgt (by simp [hp, hq, he])).elim
theorem D_perm {A : Nat → Prop} {ws ws' : va_W} (h : ws.Perm ws') (hD : va_D A ws) : va_D A ws' := by
  rw [D_iff] at hD ⊢
  exact ⟨(h.map _).nodup_iff.mp hD.1, fun q hq => hD.2 q (h.mem_iff.mpr hq)⟩
theorem G_inj {cy : Nat → ClassId} {G : Nat → Nat} {S : Nat → Nat → Nat} {hd : Option Nat} {nx : Nat → Option Nat} {Y : va_W} {A : Nat → Prop} {i j : Nat} (hD : va_D A (CW cy G S hd nx Y)) (hi : i < S 0 0) (hj : j < S 0 0) (h : G (100 + 3 * i) = G (100 + 3 * j)) : i = j := by
  have := hD.1 _ _ _ _ (CW_sg hi) (CW_sg hj) h
  omega
/-- the chain: hd the first, nx the successors, L the signs in order -/
def ChP (nx : Nat → Option Nat) : Option Nat → List Nat → Prop
  | o, [] => o = none
  | o, x :: r => o = some x ∧ ChP nx (nx x) r
theorem nI_m1 {x : Nat} (h : x < 2 ^ 31) : ¬ nI x = -1 := fun e => by
  have := congrArg Int32.toInt e
  rw [nI_toInt h] at this
  have h2 : (-1 : Int32).toInt = -1 := by decide
  omega
theorem m1_lt {x : Nat} (h : x < 2 ^ 31) : (-1 : Int32) < nI x := by
  rw [Int32.lt_iff_toInt_lt, nI_toInt h]
  have h2 : (-1 : Int32).toInt = -1 := by decide
  omega
end
section
/-! ===== the class: signs ===== -/
section ROWQ
variable {p : Program} {l : Launch} {e : Env} {R : Room} {s : State} {m : MethodId} {args : Array Value} {below : List Frame} {meth : Method} {c : Code} {H : Heap} {locs : List Loc} {cells slots : Nat} {Q : State → Prop}
variable {cc : ByteArray} {pc : Nat} {ls : Array Slot} {rest : List Value} {D : va_G} {cy : Nat → ClassId} {A : Nat → Prop} {w w' : va_W} {a : Nat} {Ts : List Cond}
theorem r_astoreq {x : Option Nat} {i nL : Nat} {lv lv' : List (Nat × Value)} (hx : p.tables.exec = Jvm.exec) (hb : c.code = cc) (hdg : decode cc pc = .ok (.astore i, 2)) (h : lv_has ls nL lv) (hn : i < nL) (hl : (i, va_rf x) :: lv.filter (fun q => !(q.1 == i) && !(q.1 + 1 == i && q.2.category == 2)) = lv')
    (kk : ∀ ls' : Array Slot, lv_has ls' nL lv' → W p l e R s m args below meth c H locs cells slots Q (F0 m (pc + 2) ls' rest)) : W p l e R s m args below meth c H locs cells slots Q (F0 m pc ls (va_rf x :: rest)) := by
  cases x with
  | none => exact lv_astoreN hx hb hdg h hn hl kk
  | some y => exact lv_astore hx hb hdg h hn hl kk
theorem r_astore_nq {x : Option Nat} {k : Fin 4} {i nL : Nat} {lv lv' : List (Nat × Value)} (hx : p.tables.exec = Jvm.exec) (hb : c.code = cc) (hdg : decode cc pc = .ok (.astore_n k, 1)) (hi : (k : Nat) = i) (h : lv_has ls nL lv) (hn : i < nL) (hl : (i, va_rf x) :: lv.filter (fun q => !(q.1 == i) && !(q.1 + 1 == i && q.2.category == 2)) = lv')
    (kk : ∀ ls' : Array Slot, lv_has ls' nL lv' → W p l e R s m args below meth c H locs cells slots Q (F0 m (pc + 1) ls' rest)) : W p l e R s m args below meth c H locs cells slots Q (F0 m pc ls (va_rf x :: rest)) := by
  cases x with
  | none => exact lv_astore_nN hx hb hdg hi h hn hl kk
  | some y => exact lv_astore_n hx hb hdg hi h hn hl kk
theorem r_aloadq {x : Option Nat} {i : Nat} (hx : p.tables.exec = Jvm.exec) (hb : c.code = cc) (hdg : decode cc pc = .ok (.aload i, 2)) (hl : ls[i]? = some (.val (va_rf x)))
    (k : W p l e R s m args below meth c H locs cells slots Q (F0 m (pc + 2) ls (va_rf x :: rest))) : W p l e R s m args below meth c H locs cells slots Q (F0 m pc ls rest) := by
  cases x with
  | none => exact lv_aloadN hx hb hdg hl k
  | some y => exact lv_aload hx hb hdg hl k
theorem r_aload_nq {x : Option Nat} {k : Fin 4} {i : Nat} (hx : p.tables.exec = Jvm.exec) (hb : c.code = cc) (hdg : decode cc pc = .ok (.aload_n k, 1)) (hi : (k : Nat) = i) (hl : ls[i]? = some (.val (va_rf x)))
    (k : W p l e R s m args below meth c H locs cells slots Q (F0 m (pc + 1) ls (va_rf x :: rest))) : W p l e R s m args below meth c H locs cells slots Q (F0 m pc ls rest) := by
  cases x with
  | none => exact lv_aload_nN hx hb hdg hi hl k
  | some y => exact lv_aload_n hx hb hdg hi hl k
theorem r_putN {own C host : String} {T : u_T} {N ci index q0 k : Nat} {ty0 : Nat → FieldType} {fs : List Value} {v : Value} (hx : p.tables.exec = Jvm.exec) (hb : c.code = cc) (hts : ∀ w ∈ Ts, w.before args s = true) (hin : ∀ w ∈ u_ws C T N, w ∈ Ts) (hty : ∀ k, k < N → parseFieldDescriptor (T k).2.2.1 = some (ty0 k)) (hnm : ∀ a, a < N → ∀ b, b < N → a ≠ b → (T a).2.1 ≠ (T b).2.1) (hown : s.vm.findClass own = some m.cls) (hK : va_K D vwCl (TYS cy) s) (hP : va_P D vwCl w H) (hD : va_D A w) (hS : va_S A s.heap H locs) (he : w[q0]? = some (a, .inr (ci, fs))) (hc : vwCl[ci]? = some (C, T, N)) (hk : k < N) (hlink : (Cond.fieldLinkNest own index (T k).1 (T k).2.1 (T k).2.2.1 host).before args s = true) (hfin : (T k).2.2.2 = false) {ty : FieldType} (hd : parseFieldDescriptor (T k).2.2.1 = some ty) (hn : narrow ty v = v) (hfit : fits ty v = true) (hl : k < fs.length) (hdg : decode cc pc = .ok (.putfield index, 3)) (hw : w.set q0 (a, .inr (ci, fs.set k v)) = w')
    (kk : ∀ (H1 : Heap) (locs1 : List Loc), va_P D vwCl w' H1 → va_D A w' → va_S A s.heap H1 locs1 → W p l e R s m args below meth c H1 locs1 cells slots Q (F0 m (pc + 3) ls rest)) : W p l e R s m args below meth c H locs cells slots Q (F0 m pc ls (v :: .ref a :: rest)) :=
  va_putN hx hb hts hin ty0 hty hnm hown hK hP hD hS q0 he hc k hk hlink (fun _ h => h) hfin hd hn hfit hl hdg (fun H1 l1 h1 h2 h3 => kk H1 l1 (hw ▸ h1) (hw ▸ h2) h3)
end ROWQ

set_option maxHeartbeats 4000000 in
set_option maxRecDepth 100000 in
theorem c_X0_isKnownIn (l : Launch) {D : va_G} {cy : Nat → ClassId} {G : Nat → Nat} {S : Nat → Nat → Nat} {hd : Option Nat} {nx : Nat → Option Nat} {Y : va_W} (hR : Rng S) {i c9 : Nat} (hi : i < S 0 0) (hc9 : c9 < 4) : CI l yX0_isKnownIn wsX0_isKnownIn ({ frames := 1, cells := 0, slots := 0, locals := 12 } : Room) D cy [.ref (G (100 + 3 * i)), .int (nI c9)] (CW cy G S hd nx Y) (fun r w' => r = nI (S 5 (60 * c9 + i)) ∧ w' = CW cy G S hd nx Y) 0 0 := by
  refine CI.of (cc := cX0_isKnownIn) (maxL := 2) (ret := (some .boolean)) (by decide) rfl (Nat.le_of_ble_eq_true rfl) ?_
  intro p e s m below meth c A ls E0 hl
  obtain ⟨hx, hb, hml, hown, hts, hr, hlocks, hA, hS, hP, hK, hD, hX⟩ := E0
  have hiX0 : ∀ w ∈ u_ws RX0 TX0 8, w ∈ wsX0_isKnownIn := by decide +kernel
  have hl : lv_has ls 2 [(0, .ref (G (100 + 3 * i))), (1, .int (nI c9))] := hl
  have h5 := hR.2.2.2.2.2.2.2.1 (60 * c9 + i)
  have h7 := hR.2.2.2.2.2.2.2.2.2.1 (60 * c9 + i)
  refine lv_aload_n hx hb dX0_isKnownIn_0 rfl (lv_at hl 0 rfl) ?_
  refine va_get (D := D) (ci := 0) (v := .ref (G (101 + 3 * i))) (C := RX0) (T := TX0) (N := 8) hx hb hts hiX0 hown hK hP (6 + (20 + i)) (CW_sg hi) rfl 6 (by decide) (hts (.fieldLink RX0 15 "CoauthorText$Sign" "stampsInCopies" "[I") (by decide +kernel)) (fun _ h9 => h9) rfl dX0_isKnownIn_1 ?_
  refine lv_iload_n hx hb dX0_isKnownIn_4 rfl (lv_at hl 1 rfl) ?_
  refine r_iald hx hb hK hP (6 + (20 + (S 0 0 + i))) (CW_st hi) (by omega) (by decide) dX0_isKnownIn_5 ?_
  refine lv_iconst (v := (-1)) hx hb dX0_isKnownIn_6 (by decide) ?_
  refine lv_icmp_eq (tgt := 14) hx hb dX0_isKnownIn_7 (by decide) (fun cE => ?_) (fun cE => ?_)
  · have e0 : S 5 (60 * c9 + i) = 0 := by
      false_or_by_contra
      rename_i h
      rw [stV, if_neg h] at cE
      exact nI_m1 (by omega) cE
    refine lv_iconst (v := nI 0) hx hb dX0_isKnownIn_14 (by decide) ?_
    exact C_zret hx hb hr hlocks hS hP hK hD (Nat.le_of_ble_eq_true rfl) (Nat.le_of_ble_eq_true rfl) dX0_isKnownIn_15 rfl ⟨by rw [e0], rfl⟩
  · have e1 : S 5 (60 * c9 + i) = 1 := by
      have : ¬ S 5 (60 * c9 + i) = 0 := fun h => cE (by rw [stV, if_pos h])
      omega
    refine lv_iconst (v := nI 1) hx hb dX0_isKnownIn_10 (by decide) ?_
    refine lv_goto (tgt := 15) hx hb dX0_isKnownIn_11 (by decide) ?_
    exact C_zret hx hb hr hlocks hS hP hK hD (Nat.le_of_ble_eq_true rfl) (Nat.le_of_ble_eq_true rfl) dX0_isKnownIn_15 rfl ⟨by rw [e1], rfl⟩

set_option maxHeartbeats 4000000 in
set_option maxRecDepth 100000 in
theorem c_X0_isRemovedIn (l : Launch) {D : va_G} {cy : Nat → ClassId} {G : Nat → Nat} {S : Nat → Nat → Nat} {hd : Option Nat} {nx : Nat → Option Nat} {Y : va_W} (hR : Rng S) {i c9 : Nat} (hi : i < S 0 0) (hc9 : c9 < 4) : CI l yX0_isRemovedIn wsX0_isRemovedIn ({ frames := 2, cells := 0, slots := 0, locals := 33 } : Room) D cy [.ref (G (100 + 3 * i)), .int (nI c9)] (CW cy G S hd nx Y) (fun r w' => r = nI (bN (decide (S 5 (60 * c9 + i) = 1) && decide (S 6 (60 * c9 + i) = 1))) ∧ w' = CW cy G S hd nx Y) 0 0 := by
  refine CI.of (cc := cX0_isRemovedIn) (maxL := 2) (ret := (some .boolean)) (by decide) rfl (Nat.le_of_ble_eq_true rfl) ?_
  intro p e s m below meth c A ls E0 hl
  obtain ⟨hx, hb, hml, hown, hts, hr, hlocks, hA, hS, hP, hK, hD, hX⟩ := E0
  have hiX0 : ∀ w ∈ u_ws RX0 TX0 8, w ∈ wsX0_isRemovedIn := by decide +kernel
  have hl : lv_has ls 2 [(0, .ref (G (100 + 3 * i))), (1, .int (nI c9))] := hl
  have h5 := hR.2.2.2.2.2.2.2.1 (60 * c9 + i)
  have h6 := hR.2.2.2.2.2.2.2.2.1 (60 * c9 + i)
  refine lv_aload_n hx hb dX0_isRemovedIn_0 rfl (lv_at hl 0 rfl) ?_
  refine lv_iload_n hx hb dX0_isRemovedIn_1 rfl (lv_at hl 1 rfl) ?_
  refine K_i (va_runV (As := [.int (nI c9)]) (rest := []) ⟨hx, hb, hml, hown, hts⟩ (c_X0_isKnownIn l hR hi hc9 _) (cwV 1 hts gX0_isRemovedIn_X0_isKnownIn rfl rfl rfl (by decide +kernel) ⟨Nat.le_of_ble_eq_true rfl, Nat.le_of_ble_eq_true rfl⟩) (pV hP hK hD hS hA hX (va_recv hK hP (ci := 0) (q0 := 6 + (20 + i)) rfl (CW_sg hi))) rfl rfl hl.1 rfl (lv_room (Nat.le_of_ble_eq_true rfl)) dX0_isRemovedIn_2 ⟨Nat.le_of_ble_eq_true rfl, Nat.le_of_ble_eq_true rfl⟩) hD hS hA (fun r w'  H locs hp hP hD hS => ?_)
  obtain ⟨rfl, rfl⟩ := hp
  refine r_if_eq (tgt := 21) hx hb dX0_isRemovedIn_5 (by decide) (by omega) (fun c1 => ?_) (fun c1 => ?_)
  · refine lv_iconst (v := nI 0) hx hb dX0_isRemovedIn_21 (by decide) ?_
    exact C_zret hx hb hr hlocks hS hP hK hD (Nat.le_of_ble_eq_true rfl) (Nat.le_of_ble_eq_true rfl) dX0_isRemovedIn_22 rfl ⟨by rw [show (decide (S 5 (60 * c9 + i) = 1) && decide (S 6 (60 * c9 + i) = 1)) = false from by simp; omega]; rfl, rfl⟩
  · refine lv_aload_n hx hb dX0_isRemovedIn_8 rfl (lv_at hl 0 rfl) ?_
    refine va_get (D := D) (ci := 0) (v := .ref (G (102 + 3 * i))) (C := RX0) (T := TX0) (N := 8) hx hb hts hiX0 hown hK hP (6 + (20 + i)) (CW_sg hi) rfl 7 (by decide) (hts (.fieldLink RX0 19 "CoauthorText$Sign" "removedInCopies" "[Z") (by decide +kernel)) (fun _ h9 => h9) rfl dX0_isRemovedIn_9 ?_
    refine lv_iload_n hx hb dX0_isRemovedIn_12 rfl (lv_at hl 1 rfl) ?_
    refine r_zald hx hb hK hP (6 + (20 + (S 0 0 + (S 0 0 + i)))) (CW_rm hi) (by omega) (by decide) dX0_isRemovedIn_13 ?_
    refine r_if_eq (tgt := 21) hx hb dX0_isRemovedIn_14 (by decide) (by omega) (fun c2 => ?_) (fun c2 => ?_)
    · refine lv_iconst (v := nI 0) hx hb dX0_isRemovedIn_21 (by decide) ?_
      exact C_zret hx hb hr hlocks hS hP hK hD (Nat.le_of_ble_eq_true rfl) (Nat.le_of_ble_eq_true rfl) dX0_isRemovedIn_22 rfl ⟨by rw [show (decide (S 5 (60 * c9 + i) = 1) && decide (S 6 (60 * c9 + i) = 1)) = false from by simp; omega]; rfl, rfl⟩
    · refine lv_iconst (v := nI 1) hx hb dX0_isRemovedIn_17 (by decide) ?_
      refine lv_goto (tgt := 22) hx hb dX0_isRemovedIn_18 (by decide) ?_
      exact C_zret hx hb hr hlocks hS hP hK hD (Nat.le_of_ble_eq_true rfl) (Nat.le_of_ble_eq_true rfl) dX0_isRemovedIn_22 rfl ⟨by rw [show (decide (S 5 (60 * c9 + i) = 1) && decide (S 6 (60 * c9 + i) = 1)) = true from by simp; omega]; rfl, rfl⟩

set_option maxHeartbeats 4000000 in
set_option maxRecDepth 100000 in
theorem c_X0_isInTextOf (l : Launch) {D : va_G} {cy : Nat → ClassId} {G : Nat → Nat} {S : Nat → Nat → Nat} {hd : Option Nat} {nx : Nat → Option Nat} {Y : va_W} (hR : Rng S) {i c9 : Nat} (hi : i < S 0 0) (hc9 : c9 < 4) : CI l yX0_isInTextOf wsX0_isInTextOf ({ frames := 2, cells := 0, slots := 0, locals := 33 } : Room) D cy [.ref (G (100 + 3 * i)), .int (nI c9)] (CW cy G S hd nx Y) (fun r w' => r = nI (bN (vsb S c9 i)) ∧ w' = CW cy G S hd nx Y) 0 0 := by
  refine CI.of (cc := cX0_isInTextOf) (maxL := 2) (ret := (some .boolean)) (by decide) rfl (Nat.le_of_ble_eq_true rfl) ?_
  intro p e s m below meth c A ls E0 hl
  obtain ⟨hx, hb, hml, hown, hts, hr, hlocks, hA, hS, hP, hK, hD, hX⟩ := E0
  have hiX0 : ∀ w ∈ u_ws RX0 TX0 8, w ∈ wsX0_isInTextOf := by decide +kernel
  have hl : lv_has ls 2 [(0, .ref (G (100 + 3 * i))), (1, .int (nI c9))] := hl
  have h5 := hR.2.2.2.2.2.2.2.1 (60 * c9 + i)
  have h6 := hR.2.2.2.2.2.2.2.2.1 (60 * c9 + i)
  refine lv_aload_n hx hb dX0_isInTextOf_0 rfl (lv_at hl 0 rfl) ?_
  refine lv_iload_n hx hb dX0_isInTextOf_1 rfl (lv_at hl 1 rfl) ?_
  refine K_i (va_runV (As := [.int (nI c9)]) (rest := []) ⟨hx, hb, hml, hown, hts⟩ (c_X0_isKnownIn l hR hi hc9 _) (cwV 1 hts gX0_isInTextOf_X0_isKnownIn rfl rfl rfl (by decide +kernel) ⟨Nat.le_of_ble_eq_true rfl, Nat.le_of_ble_eq_true rfl⟩) (pV hP hK hD hS hA hX (va_recv hK hP (ci := 0) (q0 := 6 + (20 + i)) rfl (CW_sg hi))) rfl rfl hl.1 rfl (lv_room (Nat.le_of_ble_eq_true rfl)) dX0_isInTextOf_2 ⟨Nat.le_of_ble_eq_true rfl, Nat.le_of_ble_eq_true rfl⟩) hD hS hA (fun r w'  H locs hp hP hD hS => ?_)
  obtain ⟨rfl, rfl⟩ := hp
  refine r_if_eq (tgt := 21) hx hb dX0_isInTextOf_5 (by decide) (by omega) (fun c1 => ?_) (fun c1 => ?_)
  · refine lv_iconst (v := nI 0) hx hb dX0_isInTextOf_21 (by decide) ?_
    exact C_zret hx hb hr hlocks hS hP hK hD (Nat.le_of_ble_eq_true rfl) (Nat.le_of_ble_eq_true rfl) dX0_isInTextOf_22 rfl ⟨by rw [show vsb S c9 i = false from by simp [vsb]; omega]; rfl, rfl⟩
  · refine lv_aload_n hx hb dX0_isInTextOf_8 rfl (lv_at hl 0 rfl) ?_
    refine va_get (D := D) (ci := 0) (v := .ref (G (102 + 3 * i))) (C := RX0) (T := TX0) (N := 8) hx hb hts hiX0 hown hK hP (6 + (20 + i)) (CW_sg hi) rfl 7 (by decide) (hts (.fieldLink RX0 19 "CoauthorText$Sign" "removedInCopies" "[Z") (by decide +kernel)) (fun _ h9 => h9) rfl dX0_isInTextOf_9 ?_
    refine lv_iload_n hx hb dX0_isInTextOf_12 rfl (lv_at hl 1 rfl) ?_
    refine r_zald hx hb hK hP (6 + (20 + (S 0 0 + (S 0 0 + i)))) (CW_rm hi) (by omega) (by decide) dX0_isInTextOf_13 ?_
    refine r_if_ne (tgt := 21) hx hb dX0_isInTextOf_14 (by decide) (by omega) (fun c2 => ?_) (fun c2 => ?_)
    · refine lv_iconst (v := nI 0) hx hb dX0_isInTextOf_21 (by decide) ?_
      exact C_zret hx hb hr hlocks hS hP hK hD (Nat.le_of_ble_eq_true rfl) (Nat.le_of_ble_eq_true rfl) dX0_isInTextOf_22 rfl ⟨by rw [show vsb S c9 i = false from by simp [vsb]; omega]; rfl, rfl⟩
    · refine lv_iconst (v := nI 1) hx hb dX0_isInTextOf_17 (by decide) ?_
      refine lv_goto (tgt := 22) hx hb dX0_isInTextOf_18 (by decide) ?_
      exact C_zret hx hb hr hlocks hS hP hK hD (Nat.le_of_ble_eq_true rfl) (Nat.le_of_ble_eq_true rfl) dX0_isInTextOf_22 rfl ⟨by rw [show vsb S c9 i = true from by simp [vsb]; omega]; rfl, rfl⟩

set_option maxHeartbeats 4000000 in
set_option maxRecDepth 100000 in
theorem c_X0_setRemoved (l : Launch) {D : va_G} {cy : Nat → ClassId} {G : Nat → Nat} {S : Nat → Nat → Nat} {hd : Option Nat} {nx : Nat → Option Nat} {Y : va_W} (hn60 : S 0 0 ≤ 60) {i c9 v t9 : Nat} (hi : i < S 0 0) (hc9 : c9 < 4) (hv : v < 2) : CV l yX0_setRemoved wsX0_setRemoved ({ frames := 1, cells := 0, slots := 0, locals := 12 } : Room) D cy [.ref (G (100 + 3 * i)), .int (nI c9), .int (nI v), .int (nI t9)] (CW cy G S hd nx Y) (fun w' => w' = CW cy G (up2 (up2 (up2 S 6 (60 * c9 + i) v) 5 (60 * c9 + i) 1) 7 (60 * c9 + i) t9) hd nx Y) 0 0 := by
  refine CV.of (cc := cX0_setRemoved) (maxL := 4) (ret := none) (by decide) rfl (Nat.le_of_ble_eq_true rfl) ?_
  intro p e s m below meth c A ls E0 hl
  obtain ⟨hx, hb, hml, hown, hts, hr, hlocks, hA, hS, hP, hK, hD, hX⟩ := E0
  have hiX0 : ∀ w ∈ u_ws RX0 TX0 8, w ∈ wsX0_setRemoved := by decide +kernel
  have hl : lv_has ls 4 [(0, .ref (G (100 + 3 * i))), (1, .int (nI c9)), (2, .int (nI v)), (3, .int (nI t9))] := hl
  refine lv_aload_n hx hb dX0_setRemoved_0 rfl (lv_at hl 0 rfl) ?_
  refine va_get (D := D) (ci := 0) (v := .ref (G (102 + 3 * i))) (C := RX0) (T := TX0) (N := 8) hx hb hts hiX0 hown hK hP (6 + (20 + i)) (CW_sg hi) rfl 7 (by decide) (hts (.fieldLink RX0 19 "CoauthorText$Sign" "removedInCopies" "[Z") (by decide +kernel)) (fun _ h9 => h9) rfl dX0_setRemoved_1 ?_
  refine lv_iload_n hx hb dX0_setRemoved_4 rfl (lv_at hl 1 rfl) ?_
  refine lv_iload_n hx hb dX0_setRemoved_5 rfl (lv_at hl 2 rfl) ?_
  refine r_zast (w' := CW cy G (up2 S 6 (60 * c9 + i) v) hd nx Y) hx hb hK hP hD hS (6 + (20 + (S 0 0 + (S 0 0 + i)))) (CW_rm hi) (by omega) (by decide) dX0_setRemoved_6 (nar_b hv) (CW_setRm hi hn60) (fun H locs hP hD hS => ?_)
  refine lv_aload_n hx hb dX0_setRemoved_7 rfl (lv_at hl 0 rfl) ?_
  refine va_get (D := D) (ci := 0) (v := .ref (G (101 + 3 * i))) (C := RX0) (T := TX0) (N := 8) hx hb hts hiX0 hown hK hP (6 + (20 + i)) (CW_sg hi) rfl 6 (by decide) (hts (.fieldLink RX0 15 "CoauthorText$Sign" "stampsInCopies" "[I") (by decide +kernel)) (fun _ h9 => h9) rfl dX0_setRemoved_8 ?_
  refine lv_iload_n hx hb dX0_setRemoved_11 rfl (lv_at hl 1 rfl) ?_
  refine lv_iload_n hx hb dX0_setRemoved_12 rfl (lv_at hl 3 rfl) ?_
  refine r_iast (w' := CW cy G (up2 (up2 (up2 S 6 (60 * c9 + i) v) 5 (60 * c9 + i) 1) 7 (60 * c9 + i) t9) hd nx Y) hx hb hK hP hD hS (6 + (20 + ((up2 S 6 (60 * c9 + i) v) 0 0 + i))) (CW_st hi) (by omega) (by decide) dX0_setRemoved_13 (CW_setSt (S := up2 S 6 (60 * c9 + i) v) hi hn60) (fun H locs hP hD hS => ?_)
  exact C_vret hx hb hr hlocks hS hP hK hD (Nat.le_of_ble_eq_true rfl) (Nat.le_of_ble_eq_true rfl) dX0_setRemoved_14 rfl

def brS (S : Nat → Nat → Nat) (a f i : Nat) : Nat → Nat → Nat := if lrB S a f i then up2 (up2 (up2 S 6 (60 * a + i) (S 6 (60 * f + i))) 5 (60 * a + i) 1) 7 (60 * a + i) (S 7 (60 * f + i)) else S
theorem stV_lt {S : Nat → Nat → Nat} (hR : Rng S) (a f i : Nat) : stV S i a < stV S i f ↔ lrB S a f i = true := by
  have h5 := hR.2.2.2.2.2.2.2.1 (60 * f + i)
  have h7 := hR.2.2.2.2.2.2.2.2.2.1
  have h7f := h7 (60 * f + i)
  have h7a := h7 (60 * a + i)
  simp only [stV, lrB, Bool.and_eq_true, Bool.or_eq_true, decide_eq_true_eq]
  by_cases hf : S 5 (60 * f + i) = 0
  · rw [if_pos hf]
    constructor
    · intro h
      by_cases ha : S 5 (60 * a + i) = 0
      · rw [if_pos ha] at h; exact absurd h (by decide)
      · rw [if_neg ha] at h
        exact (Int32.lt_irrefl (Int32.lt_trans h (m1_lt (by omega)))).elim
    · intro h; omega
  · rw [if_neg hf]
    by_cases ha : S 5 (60 * a + i) = 0
    · rw [if_pos ha]
      exact ⟨fun _ => ⟨by omega, Or.inl ha⟩, fun _ => m1_lt (by omega)⟩
    · rw [if_neg ha, nI_ltI (by omega) (by omega)]
      omega

set_option maxHeartbeats 4000000 in
set_option maxRecDepth 100000 in
theorem c_X0_bringNewer (l : Launch) {D : va_G} {cy : Nat → ClassId} {G : Nat → Nat} {S : Nat → Nat → Nat} {hd : Option Nat} {nx : Nat → Option Nat} {Y : va_W} (hR : Rng S) {i a f : Nat} (hi : i < S 0 0) (ha : a < 4) (hf : f < 4) : CV l yX0_bringNewer wsX0_bringNewer ({ frames := 2, cells := 0, slots := 0, locals := 35 } : Room) D cy [.ref (G (100 + 3 * i)), .int (nI a), .int (nI f)] (CW cy G S hd nx Y) (fun w' => w' = CW cy G (brS S a f i) hd nx Y) 0 0 := by
  refine CV.of (cc := cX0_bringNewer) (maxL := 3) (ret := none) (by decide) rfl (Nat.le_of_ble_eq_true rfl) ?_
  intro p e s m below meth c A ls E0 hl
  obtain ⟨hx, hb, hml, hown, hts, hr, hlocks, hA, hS, hP, hK, hD, hX⟩ := E0
  have hiX0 : ∀ w ∈ u_ws RX0 TX0 8, w ∈ wsX0_bringNewer := by decide +kernel
  have hl : lv_has ls 3 [(0, .ref (G (100 + 3 * i))), (1, .int (nI a)), (2, .int (nI f))] := hl
  have h6 := hR.2.2.2.2.2.2.2.2.1 (60 * f + i)
  refine lv_aload_n hx hb dX0_bringNewer_0 rfl (lv_at hl 0 rfl) ?_
  refine va_get (D := D) (ci := 0) (v := .ref (G (101 + 3 * i))) (C := RX0) (T := TX0) (N := 8) hx hb hts hiX0 hown hK hP (6 + (20 + i)) (CW_sg hi) rfl 6 (by decide) (hts (.fieldLink RX0 15 "CoauthorText$Sign" "stampsInCopies" "[I") (by decide +kernel)) (fun _ h9 => h9) rfl dX0_bringNewer_1 ?_
  refine lv_iload_n hx hb dX0_bringNewer_4 rfl (lv_at hl 2 rfl) ?_
  refine r_iald hx hb hK hP (6 + (20 + (S 0 0 + i))) (CW_st hi) (by omega) (by decide) dX0_bringNewer_5 ?_
  refine lv_aload_n hx hb dX0_bringNewer_6 rfl (lv_at hl 0 rfl) ?_
  refine va_get (D := D) (ci := 0) (v := .ref (G (101 + 3 * i))) (C := RX0) (T := TX0) (N := 8) hx hb hts hiX0 hown hK hP (6 + (20 + i)) (CW_sg hi) rfl 6 (by decide) (hts (.fieldLink RX0 15 "CoauthorText$Sign" "stampsInCopies" "[I") (by decide +kernel)) (fun _ h9 => h9) rfl dX0_bringNewer_7 ?_
  refine lv_iload_n hx hb dX0_bringNewer_10 rfl (lv_at hl 1 rfl) ?_
  refine r_iald hx hb hK hP (6 + (20 + (S 0 0 + i))) (CW_st hi) (by omega) (by decide) dX0_bringNewer_11 ?_
  refine lv_icmp_le (tgt := 32) hx hb dX0_bringNewer_12 (by decide) (fun cL => ?_) (fun cL => ?_)
  · exact C_vret hx hb hr hlocks hS hP hK hD (Nat.le_of_ble_eq_true rfl) (Nat.le_of_ble_eq_true rfl) dX0_bringNewer_32 (by rw [brS, if_neg (fun h => Int32.not_lt.mpr cL ((stV_lt hR a f i).mpr h))])
  · have hbr := (stV_lt hR a f i).mp (Int32.not_le.mp cL)
    refine lv_aload_n hx hb dX0_bringNewer_15 rfl (lv_at hl 0 rfl) ?_
    refine lv_iload_n hx hb dX0_bringNewer_16 rfl (lv_at hl 1 rfl) ?_
    refine lv_aload_n hx hb dX0_bringNewer_17 rfl (lv_at hl 0 rfl) ?_
    refine va_get (D := D) (ci := 0) (v := .ref (G (102 + 3 * i))) (C := RX0) (T := TX0) (N := 8) hx hb hts hiX0 hown hK hP (6 + (20 + i)) (CW_sg hi) rfl 7 (by decide) (hts (.fieldLink RX0 19 "CoauthorText$Sign" "removedInCopies" "[Z") (by decide +kernel)) (fun _ h9 => h9) rfl dX0_bringNewer_18 ?_
    refine lv_iload_n hx hb dX0_bringNewer_21 rfl (lv_at hl 2 rfl) ?_
    refine r_zald hx hb hK hP (6 + (20 + (S 0 0 + (S 0 0 + i)))) (CW_rm hi) (by omega) (by decide) dX0_bringNewer_22 ?_
    refine lv_aload_n hx hb dX0_bringNewer_23 rfl (lv_at hl 0 rfl) ?_
    refine va_get (D := D) (ci := 0) (v := .ref (G (101 + 3 * i))) (C := RX0) (T := TX0) (N := 8) hx hb hts hiX0 hown hK hP (6 + (20 + i)) (CW_sg hi) rfl 6 (by decide) (hts (.fieldLink RX0 15 "CoauthorText$Sign" "stampsInCopies" "[I") (by decide +kernel)) (fun _ h9 => h9) rfl dX0_bringNewer_24 ?_
    refine lv_iload_n hx hb dX0_bringNewer_27 rfl (lv_at hl 2 rfl) ?_
    refine r_iald hx hb hK hP (6 + (20 + (S 0 0 + i))) (CW_st hi) (by omega) (by decide) dX0_bringNewer_28 ?_
    have hkf : S 5 (60 * f + i) = 1 := by simp only [lrB, Bool.and_eq_true, decide_eq_true_eq] at hbr; exact hbr.1
    refine lv_topi (fun y9 ey9 => ?_)
    obtain rfl : y9 = nI (S 7 (60 * f + i)) := ey9.trans (by rw [stV, if_neg (by omega)])
    refine K_v (va_runV (As := [.int (nI a), .int (nI (S 6 (60 * f + i))), .int (nI (S 7 (60 * f + i)))]) (rest := []) ⟨hx, hb, hml, hown, hts⟩ (c_X0_setRemoved l hR.1 hi ha h6 _) (cwV 3 hts gX0_bringNewer_X0_setRemoved rfl rfl rfl (by decide +kernel) ⟨Nat.le_of_ble_eq_true rfl, Nat.le_of_ble_eq_true rfl⟩) (pV hP hK hD hS hA hX (va_recv hK hP (ci := 0) (q0 := 6 + (20 + i)) rfl (CW_sg hi))) rfl rfl hl.1 rfl (lv_room (Nat.le_of_ble_eq_true rfl)) dX0_bringNewer_29 ⟨Nat.le_of_ble_eq_true rfl, Nat.le_of_ble_eq_true rfl⟩) hD hS hA (fun w'  H locs hp hP hD hS => ?_)
    subst hp
    exact C_vret hx hb hr hlocks hS hP hK hD (Nat.le_of_ble_eq_true rfl) (Nat.le_of_ble_eq_true rfl) dX0_bringNewer_32 (by rw [brS, if_pos hbr])
end
section
/-! ===== the class: checks and walks ===== -/
section ROWT
variable {p : Program} {l : Launch} {e : Env} {R : Room} {s : State} {m : MethodId} {args : Array Value} {below : List Frame} {meth : Method} {c : Code} {H : Heap} {locs : List Loc} {cells slots : Nat} {Q : State → Prop} {pc : Nat} {ls : Array Slot} {rest : List Value}
theorem r_topr {x : Option Nat} {a9 : Nat} (h : x = some a9) (k : W p l e R s m args below meth c H locs cells slots Q (F0 m pc ls (.ref a9 :: rest))) : W p l e R s m args below meth c H locs cells slots Q (F0 m pc ls (va_rf x :: rest)) := by
  subst h; exact k
theorem r_topn {x : Option Nat} (h : x = none) (k : W p l e R s m args below meth c H locs cells slots Q (F0 m pc ls (.null :: rest))) : W p l e R s m args below meth c H locs cells slots Q (F0 m pc ls (va_rf x :: rest)) := by
  subst h; exact k
end ROWT
theorem inS_iff {v : Int32} {n : Nat} (hn : n < 2 ^ 31) : inS v n = true ↔ 0 ≤ v ∧ v < nI n := by
  simp only [inS, inB, Bool.and_eq_true, decide_eq_true_eq]
  have h : v ≤ bI n ↔ v < nI n := by
    rw [Int32.le_iff_toInt_le, Int32.lt_iff_toInt_lt, bI_toInt hn, nI_toInt hn]
    omega
  rw [h]
theorem inS_no {v : Int32} {n : Nat} (hn : n < 2 ^ 31) : inS v n = false ↔ ¬ (0 ≤ v ∧ v < nI n) := by
  rw [← inS_iff hn]
  cases inS v n <;> simp

set_option maxHeartbeats 4000000 in
set_option maxRecDepth 100000 in
theorem c_X1_checkRange (l : Launch) (hlf : l.stackTraces = false) {D : va_G} {cy : Nat → ClassId} {w : va_W} (v lo hi : Int32) : TV l yX1_checkRange wsX1_checkRange ({ frames := 6, cells := 1, slots := 6, locals := 90 } : Room) D cy [.int v, .int lo, .int hi] (w) (fun w' => inB v lo hi = true ∧ w' = w) (fun E => E = eIAE ∧ inB v lo hi = false) 1 6 := by
  refine TV.of (cc := cX1_checkRange) (maxL := 3) (ret := none) (by decide) rfl (Nat.le_of_ble_eq_true rfl) ?_
  intro p e s m below meth c A ls E0 hT0 hl
  obtain ⟨hx, hb, hml, hown, hts, hr, hlocks, hA, hS, hP, hK, hD, hX⟩ := E0
  have hl : lv_has ls 3 [(0, .int v), (1, .int lo), (2, .int hi)] := hl
  refine lv_iload_n hx hb dX1_checkRange_0 rfl (lv_at hl 0 rfl) ?_
  refine lv_iload_n hx hb dX1_checkRange_1 rfl (lv_at hl 1 rfl) ?_
  refine lv_icmp_lt (tgt := 10) hx hb dX1_checkRange_2 (by decide) (fun cA => ?_) (fun cA => ?_)
  · obtain ⟨tx, x0, x1, x2, x3, x4, x5, x6, x7, x8⟩ := hX.2.2.2.2.2.2.2.1
    exact Y_throw (own := RX1) (E := "java/lang/IllegalArgumentException") (ik := 101) (is := 153) (ic := 105) (ws := wsX1_checkRange) hT0 hx hb hlf hlocks hown hts hP hK hD hS hX hX.2.2.1 x3 (by rw [hml]; exact hl.1) (by decide +kernel) (by decide +kernel) (by decide +kernel) (by decide +kernel) (by decide +kernel) (by decide +kernel) dX1_checkRange_10 dX1_checkRange_13 dX1_checkRange_14 dX1_checkRange_16 dX1_checkRange_19 (Nat.le_of_ble_eq_true rfl) (Nat.le_of_ble_eq_true rfl) (Nat.le_of_ble_eq_true rfl) (Nat.le_of_ble_eq_true rfl) ⟨rfl, by simp only [inB, Bool.and_eq_false_iff, decide_eq_false_iff_not]; exact Or.inl (Int32.not_le.mpr cA)⟩ (Nat.le_of_ble_eq_true rfl) (Nat.le_of_ble_eq_true rfl)
  · refine lv_iload_n hx hb dX1_checkRange_5 rfl (lv_at hl 0 rfl) ?_
    refine lv_iload_n hx hb dX1_checkRange_6 rfl (lv_at hl 2 rfl) ?_
    refine lv_icmp_le (tgt := 20) hx hb dX1_checkRange_7 (by decide) (fun cB => ?_) (fun cB => ?_)
    · exact vx_ret (C_vret hx hb hr hlocks hS hP hK hD (Nat.le_of_ble_eq_true rfl) (Nat.le_of_ble_eq_true rfl) dX1_checkRange_20 ⟨by simp only [inB, Bool.and_eq_true, decide_eq_true_eq]; exact ⟨Int32.not_lt.mp cA, cB⟩, rfl⟩)
    · obtain ⟨tx, x0, x1, x2, x3, x4, x5, x6, x7, x8⟩ := hX.2.2.2.2.2.2.2.1
      exact Y_throw (own := RX1) (E := "java/lang/IllegalArgumentException") (ik := 101) (is := 153) (ic := 105) (ws := wsX1_checkRange) hT0 hx hb hlf hlocks hown hts hP hK hD hS hX hX.2.2.1 x3 (by rw [hml]; exact hl.1) (by decide +kernel) (by decide +kernel) (by decide +kernel) (by decide +kernel) (by decide +kernel) (by decide +kernel) dX1_checkRange_10 dX1_checkRange_13 dX1_checkRange_14 dX1_checkRange_16 dX1_checkRange_19 (Nat.le_of_ble_eq_true rfl) (Nat.le_of_ble_eq_true rfl) (Nat.le_of_ble_eq_true rfl) (Nat.le_of_ble_eq_true rfl) ⟨rfl, by simp only [inB, Bool.and_eq_false_iff, decide_eq_false_iff_not]; exact Or.inr cB⟩ (Nat.le_of_ble_eq_true rfl) (Nat.le_of_ble_eq_true rfl)

set_option maxHeartbeats 4000000 in
set_option maxRecDepth 100000 in
theorem c_X1_checkAuthor (l : Launch) (hlf : l.stackTraces = false) {D : va_G} {cy : Nat → ClassId} {w : va_W} (v : Int32) : TV l yX1_checkAuthor wsX1_checkAuthor ({ frames := 7, cells := 1, slots := 6, locals := 112 } : Room) D cy [.int v] (w) (fun w' => isA v = true ∧ w' = w) (fun E => E = eIAE ∧ isA v = false) 1 6 := by
  refine TV.of (cc := cX1_checkAuthor) (maxL := 1) (ret := none) (by decide) rfl (Nat.le_of_ble_eq_true rfl) ?_
  intro p e s m below meth c A ls E0 hT0 hl
  obtain ⟨hx, hb, hml, hown, hts, hr, hlocks, hA, hS, hP, hK, hD, hX⟩ := E0
  have hl : lv_has ls 1 [(0, .int v)] := hl
  refine lv_iload_n hx hb dX1_checkAuthor_0 rfl (lv_at hl 0 rfl) ?_
  refine lv_iconst (v := nI 0) hx hb dX1_checkAuthor_1 (by decide) ?_
  refine lv_iconst (v := nI 3) hx hb dX1_checkAuthor_2 (by decide) ?_
  refine Y_v (vx_runS (As := [.int v, .int (nI 0), .int (nI 3)]) (rest := []) ⟨hx, hb, hml, hown, hts⟩ (c_X1_checkRange l hlf v (nI 0) (nI 3) _) (va_cwS 3 hts gX1_checkAuthor_X1_checkRange rfl rfl rfl (by decide +kernel) ⟨Nat.le_of_ble_eq_true rfl, Nat.le_of_ble_eq_true rfl⟩) (pS hP hK hD hS hA hX) rfl rfl hl.1 rfl (lv_room (Nat.le_of_ble_eq_true rfl)) dX1_checkAuthor_3 ⟨Nat.le_of_ble_eq_true rfl, Nat.le_of_ble_eq_true rfl⟩) hD hS hA (fun E ce q9 H locs hE hP hS ht => ?_) (fun w'  H locs hp hP hD hS => ?_)
  · exact Y_out hT0 hlocks hP hK hD hS ht hE (Nat.le_of_ble_eq_true rfl) (Nat.le_of_ble_eq_true rfl)
  obtain ⟨hU, hw9⟩ := hp
  rw [hw9] at hP hD
  exact vx_ret (C_vret hx hb hr hlocks hS hP hK hD (Nat.le_of_ble_eq_true rfl) (Nat.le_of_ble_eq_true rfl) dX1_checkAuthor_6 ⟨hU, rfl⟩)

set_option maxHeartbeats 4000000 in
set_option maxRecDepth 100000 in
theorem c_X1_checkEdition (l : Launch) (hlf : l.stackTraces = false) {D : va_G} {cy : Nat → ClassId} {G : Nat → Nat} {S : Nat → Nat → Nat} {hd : Option Nat} {nx : Nat → Option Nat} {Y : va_W} (hR : Rng S) (v : Int32) : TV l yX1_checkEdition wsX1_checkEdition ({ frames := 6, cells := 1, slots := 6, locals := 90 } : Room) D cy [.ref (G 0), .int v] (CW cy G S hd nx Y) (fun w' => inS v (S 0 1) = true ∧ w' = CW cy G S hd nx Y) (fun E => E = eIOB ∧ inS v (S 0 1) = false) 1 6 := by
  refine TV.of (cc := cX1_checkEdition) (maxL := 2) (ret := none) (by decide) rfl (Nat.le_of_ble_eq_true rfl) ?_
  intro p e s m below meth c A ls E0 hT0 hl
  obtain ⟨hx, hb, hml, hown, hts, hr, hlocks, hA, hS, hP, hK, hD, hX⟩ := E0
  have hiX1 : ∀ w ∈ u_ws RX1 TX1 9, w ∈ wsX1_checkEdition := by decide +kernel
  have hl : lv_has ls 2 [(0, .ref (G 0)), (1, .int v)] := hl
  have he20 := hR.2.1
  refine lv_iload_n hx hb dX1_checkEdition_0 rfl (lv_at hl 1 rfl) ?_
  refine lv_if_lt (tgt := 12) hx hb dX1_checkEdition_1 (by decide) (fun cA => ?_) (fun cA => ?_)
  · obtain ⟨tx, x0, x1, x2, x3, x4, x5, x6, x7, x8⟩ := hX.2.2.2.2.2.2.2.1
    exact Y_throw (own := RX1) (E := "java/lang/IndexOutOfBoundsException") (ik := 53) (is := 155) (ic := 57) (ws := wsX1_checkEdition) hT0 hx hb hlf hlocks hown hts hP hK hD hS hX hX.2.2.2.2.1 x4 (by rw [hml]; exact hl.1) (by decide +kernel) (by decide +kernel) (by decide +kernel) (by decide +kernel) (by decide +kernel) (by decide +kernel) dX1_checkEdition_12 dX1_checkEdition_15 dX1_checkEdition_16 dX1_checkEdition_18 dX1_checkEdition_21 (Nat.le_of_ble_eq_true rfl) (Nat.le_of_ble_eq_true rfl) (Nat.le_of_ble_eq_true rfl) (Nat.le_of_ble_eq_true rfl) ⟨rfl, (inS_no (by omega)).mpr (fun h => Int32.not_le.mpr cA h.1)⟩ (Nat.le_of_ble_eq_true rfl) (Nat.le_of_ble_eq_true rfl)
  · refine lv_iload_n hx hb dX1_checkEdition_4 rfl (lv_at hl 1 rfl) ?_
    refine lv_aload_n hx hb dX1_checkEdition_5 rfl (lv_at hl 0 rfl) ?_
    refine va_get (D := D) (ci := 1) (v := .int (nI (S 0 1))) (C := RX1) (T := TX1) (N := 9) hx hb hts hiX1 hown hK hP (0) rfl rfl 5 (by decide) (hts (.fieldLink RX1 32 "CoauthorText" "editionCount" "I") (by decide +kernel)) (fun _ h9 => h9) rfl dX1_checkEdition_6 ?_
    refine lv_icmp_lt (tgt := 22) hx hb dX1_checkEdition_9 (by decide) (fun cB => ?_) (fun cB => ?_)
    · exact vx_ret (C_vret hx hb hr hlocks hS hP hK hD (Nat.le_of_ble_eq_true rfl) (Nat.le_of_ble_eq_true rfl) dX1_checkEdition_22 ⟨(inS_iff (by omega)).mpr ⟨Int32.not_lt.mp cA, cB⟩, rfl⟩)
    · obtain ⟨tx, x0, x1, x2, x3, x4, x5, x6, x7, x8⟩ := hX.2.2.2.2.2.2.2.1
      exact Y_throw (own := RX1) (E := "java/lang/IndexOutOfBoundsException") (ik := 53) (is := 155) (ic := 57) (ws := wsX1_checkEdition) hT0 hx hb hlf hlocks hown hts hP hK hD hS hX hX.2.2.2.2.1 x4 (by rw [hml]; exact hl.1) (by decide +kernel) (by decide +kernel) (by decide +kernel) (by decide +kernel) (by decide +kernel) (by decide +kernel) dX1_checkEdition_12 dX1_checkEdition_15 dX1_checkEdition_16 dX1_checkEdition_18 dX1_checkEdition_21 (Nat.le_of_ble_eq_true rfl) (Nat.le_of_ble_eq_true rfl) (Nat.le_of_ble_eq_true rfl) (Nat.le_of_ble_eq_true rfl) ⟨rfl, (inS_no (by omega)).mpr (fun h => cB h.2)⟩ (Nat.le_of_ble_eq_true rfl) (Nat.le_of_ble_eq_true rfl)

set_option maxHeartbeats 4000000 in
set_option maxRecDepth 100000 in
theorem c_X1_findByNumber (l : Launch) (hlf : l.stackTraces = false) {D : va_G} {cy : Nat → ClassId} {G : Nat → Nat} {S : Nat → Nat → Nat} {hd : Option Nat} {nx : Nat → Option Nat} {Y : va_W} (hR : Rng S) (v : Int32) : TQ l yX1_findByNumber wsX1_findByNumber ({ frames := 6, cells := 1, slots := 6, locals := 90 } : Room) D cy [.ref (G 0), .int v] (CW cy G S hd nx Y) (fun r w' => (∃ i : Nat, i < S 0 0 ∧ v = nI i ∧ r = some (G (100 + 3 * i))) ∧ inS v (S 0 0) = true ∧ w' = CW cy G S hd nx Y) (fun E => E = eIOB ∧ inS v (S 0 0) = false) 1 6 := by
  refine TQ.of (cc := cX1_findByNumber) (maxL := 3) (ret := (some (.object "CoauthorText$Sign"))) (by decide) rfl (Nat.le_of_ble_eq_true rfl) ?_
  intro p e s m below meth c A ls E0 hT0 hl
  obtain ⟨hx, hb, hml, hown, hts, hr, hlocks, hA, hS, hP, hK, hD, hX⟩ := E0
  have hiX1 : ∀ w ∈ u_ws RX1 TX1 9, w ∈ wsX1_findByNumber := by decide +kernel
  have hl : lv_has ls 3 [(0, .ref (G 0)), (1, .int v)] := hl
  have hn60 := hR.1
  refine lv_iload_n hx hb dX1_findByNumber_0 rfl (lv_at hl 1 rfl) ?_
  refine lv_if_lt (tgt := 21) hx hb dX1_findByNumber_1 (by decide) (fun cA => ?_) (fun cA => ?_)
  · refine lv_null hx hb dX1_findByNumber_21 ?_
    refine lv_astore_nN (lv' := [(2, .null), (0, .ref (G 0)), (1, .int v)]) hx hb dX1_findByNumber_22 rfl hl (by decide) rfl (fun ls hl => ?_)
    refine lv_aload_nN hx hb dX1_findByNumber_23 rfl (lv_at hl 0 rfl) ?_
    refine lv_ifnonnullN hx hb dX1_findByNumber_24 ?_
    obtain ⟨tx, x0, x1, x2, x3, x4, x5, x6, x7, x8⟩ := hX.2.2.2.2.2.2.2.1
    exact Y_throw (own := RX1) (E := "java/lang/IndexOutOfBoundsException") (ik := 53) (is := 157) (ic := 57) (ws := wsX1_findByNumber) hT0 hx hb hlf hlocks hown hts hP hK hD hS hX hX.2.2.2.2.1 x5 (by rw [hml]; exact hl.1) (by decide +kernel) (by decide +kernel) (by decide +kernel) (by decide +kernel) (by decide +kernel) (by decide +kernel) dX1_findByNumber_27 dX1_findByNumber_30 dX1_findByNumber_31 dX1_findByNumber_33 dX1_findByNumber_36 (Nat.le_of_ble_eq_true rfl) (Nat.le_of_ble_eq_true rfl) (Nat.le_of_ble_eq_true rfl) (Nat.le_of_ble_eq_true rfl) ⟨rfl, (inS_no (by omega)).mpr (fun h => Int32.not_le.mpr cA h.1)⟩ (Nat.le_of_ble_eq_true rfl) (Nat.le_of_ble_eq_true rfl)
  · refine lv_iload_n hx hb dX1_findByNumber_4 rfl (lv_at hl 1 rfl) ?_
    refine lv_aload_n hx hb dX1_findByNumber_5 rfl (lv_at hl 0 rfl) ?_
    refine va_get (D := D) (ci := 1) (v := .int (nI (S 0 0))) (C := RX1) (T := TX1) (N := 9) hx hb hts hiX1 hown hK hP (0) rfl rfl 1 (by decide) (hts (.fieldLink RX1 15 "CoauthorText" "signCount" "I") (by decide +kernel)) (fun _ h9 => h9) rfl dX1_findByNumber_6 ?_
    refine lv_icmp_ge (tgt := 21) hx hb dX1_findByNumber_9 (by decide) (fun cB => ?_) (fun cB => ?_)
    · refine lv_null hx hb dX1_findByNumber_21 ?_
      refine lv_astore_nN (lv' := [(2, .null), (0, .ref (G 0)), (1, .int v)]) hx hb dX1_findByNumber_22 rfl hl (by decide) rfl (fun ls hl => ?_)
      refine lv_aload_nN hx hb dX1_findByNumber_23 rfl (lv_at hl 0 rfl) ?_
      refine lv_ifnonnullN hx hb dX1_findByNumber_24 ?_
      obtain ⟨tx, x0, x1, x2, x3, x4, x5, x6, x7, x8⟩ := hX.2.2.2.2.2.2.2.1
      exact Y_throw (own := RX1) (E := "java/lang/IndexOutOfBoundsException") (ik := 53) (is := 157) (ic := 57) (ws := wsX1_findByNumber) hT0 hx hb hlf hlocks hown hts hP hK hD hS hX hX.2.2.2.2.1 x5 (by rw [hml]; exact hl.1) (by decide +kernel) (by decide +kernel) (by decide +kernel) (by decide +kernel) (by decide +kernel) (by decide +kernel) dX1_findByNumber_27 dX1_findByNumber_30 dX1_findByNumber_31 dX1_findByNumber_33 dX1_findByNumber_36 (Nat.le_of_ble_eq_true rfl) (Nat.le_of_ble_eq_true rfl) (Nat.le_of_ble_eq_true rfl) (Nat.le_of_ble_eq_true rfl) ⟨rfl, (inS_no (by omega)).mpr (fun h => Int32.not_le.mpr h.2 cB)⟩ (Nat.le_of_ble_eq_true rfl) (Nat.le_of_ble_eq_true rfl)
    · have hV := (inS_iff (v := v) (n := S 0 0) (by omega)).mpr ⟨Int32.not_lt.mp cA, Int32.not_le.mp cB⟩
      obtain ⟨i, hi, hvi⟩ := inS_n (by omega) hV
      have hl : lv_has ls 3 [(0, .ref (G 0)), (1, .int (nI i))] := by rw [hvi] at hl; exact hl
      refine lv_aload_n hx hb dX1_findByNumber_12 rfl (lv_at hl 0 rfl) ?_
      refine va_get (D := D) (ci := 1) (v := .ref (G 1)) (C := RX1) (T := TX1) (N := 9) hx hb hts hiX1 hown hK hP (0) rfl rfl 0 (by decide) (hts (.fieldLink RX1 11 "CoauthorText" "signsByNumber" "[LCoauthorText$Sign;") (by decide +kernel)) (fun _ h9 => h9) rfl dX1_findByNumber_13 ?_
      refine lv_iload_n hx hb dX1_findByNumber_16 rfl (lv_at hl 1 rfl) ?_
      refine r_aldS hx hb hK hP (1) rfl (by omega) (by decide) dX1_findByNumber_17 ?_
      refine r_topr (a9 := G (100 + 3 * i)) (if_pos hi) ?_
      refine lv_goto (tgt := 22) hx hb dX1_findByNumber_18 (by decide) ?_
      refine lv_astore_n (lv' := [(2, .ref (G (100 + 3 * i))), (0, .ref (G 0)), (1, .int (nI i))]) hx hb dX1_findByNumber_22 rfl hl (by decide) rfl (fun ls hl => ?_)
      refine lv_aload_n hx hb dX1_findByNumber_23 rfl (lv_at hl 0 rfl) ?_
      refine lv_ifnonnull (tgt := 37) hx hb dX1_findByNumber_24 (by decide) ?_
      refine lv_aload_n hx hb dX1_findByNumber_37 rfl (lv_at hl 0 rfl) ?_
      exact vx_ret (C_qret (v := some (G (100 + 3 * i))) hx hb hr (Or.inl ⟨_, rfl⟩) hlocks hS hP hK hD (Nat.le_of_ble_eq_true rfl) (Nat.le_of_ble_eq_true rfl) dX1_findByNumber_38 ⟨⟨i, hi, hvi, rfl⟩, hV, rfl⟩)

set_option maxHeartbeats 4000000 in
set_option maxRecDepth 100000 in
theorem c_X1_nextStamp (l : Launch) {D : va_G} {cy : Nat → ClassId} {G : Nat → Nat} {S : Nat → Nat → Nat} {hd : Option Nat} {nx : Nat → Option Nat} {Y : va_W} {a : Nat} (ha : a < 4) : CI l yX1_nextStamp wsX1_nextStamp ({ frames := 1, cells := 0, slots := 0, locals := 12 } : Room) D cy [.ref (G 0), .int (nI a)] (CW cy G S hd nx Y) (fun r w' => r = nI (4 * (S 8 a + 1) + a) ∧ w' = CW cy G (up2 S 8 a (S 8 a + 1)) hd nx Y) 0 0 := by
  refine CI.of (cc := cX1_nextStamp) (maxL := 2) (ret := (some .int)) (by decide) rfl (Nat.le_of_ble_eq_true rfl) ?_
  intro p e s m below meth c A ls E0 hl
  obtain ⟨hx, hb, hml, hown, hts, hr, hlocks, hA, hS, hP, hK, hD, hX⟩ := E0
  have hiX1 : ∀ w ∈ u_ws RX1 TX1 9, w ∈ wsX1_nextStamp := by decide +kernel
  have hl : lv_has ls 2 [(0, .ref (G 0)), (1, .int (nI a))] := hl
  refine lv_aload_n hx hb dX1_nextStamp_0 rfl (lv_at hl 0 rfl) ?_
  refine va_get (D := D) (ci := 1) (v := .ref (G 2)) (C := RX1) (T := TX1) (N := 9) hx hb hts hiX1 hown hK hP (0) rfl rfl 3 (by decide) (hts (.fieldLink RX1 23 "CoauthorText" "clocks" "[I") (by decide +kernel)) (fun _ h9 => h9) rfl dX1_nextStamp_1 ?_
  refine lv_iload_n hx hb dX1_nextStamp_4 rfl (lv_at hl 1 rfl) ?_
  refine lv_dup2_11 hx hb dX1_nextStamp_5 rfl rfl ?_
  refine r_iald hx hb hK hP (2) rfl (by omega) (by decide) dX1_nextStamp_6 ?_
  refine lv_iconst (v := nI 1) hx hb dX1_nextStamp_7 (by decide) ?_
  refine r_iadd hx hb dX1_nextStamp_8 ?_
  refine r_iast (w' := CW cy G (up2 S 8 a (S 8 a + 1)) hd nx Y) hx hb hK hP hD hS (2) rfl (by omega) (by decide) dX1_nextStamp_9 (by rw [show upd (fun x9 => nI (S 8 x9)) a (nI (S 8 a + 1)) = fun x9 => nI (up2 S 8 a (S 8 a + 1) 8 x9) from upd_n S 8 _ _]; rfl) (fun H locs hP hD hS => ?_)
  refine lv_aload_n hx hb dX1_nextStamp_10 rfl (lv_at hl 0 rfl) ?_
  refine va_get (D := D) (ci := 1) (v := .ref (G 2)) (C := RX1) (T := TX1) (N := 9) hx hb hts hiX1 hown hK hP (0) rfl rfl 3 (by decide) (hts (.fieldLink RX1 23 "CoauthorText" "clocks" "[I") (by decide +kernel)) (fun _ h9 => h9) rfl dX1_nextStamp_11 ?_
  refine lv_iload_n hx hb dX1_nextStamp_14 rfl (lv_at hl 1 rfl) ?_
  refine r_iald hx hb hK hP (2) rfl (by omega) (by decide) dX1_nextStamp_15 ?_
  refine lv_iconst (v := nI 4) hx hb dX1_nextStamp_16 (by decide) ?_
  refine r_imul hx hb dX1_nextStamp_17 ?_
  refine lv_iload_n hx hb dX1_nextStamp_18 rfl (lv_at hl 1 rfl) ?_
  refine r_iadd hx hb dX1_nextStamp_19 ?_
  exact C_iret hx hb hr hlocks hS hP hK hD (Nat.le_of_ble_eq_true rfl) (Nat.le_of_ble_eq_true rfl) dX1_nextStamp_20 ⟨by rw [up2_s, Nat.mul_comm], rfl⟩

set_option maxHeartbeats 4000000 in
set_option maxRecDepth 100000 in
theorem c_X1_findAtPlace (l : Launch) (hlf : l.stackTraces = false) {D : va_G} {cy : Nat → ClassId} {G : Nat → Nat} {S : Nat → Nat → Nat} {hd : Option Nat} {nx : Nat → Option Nat} {Y : va_W} {O : List Nat} (hR : Rng S) (hO : ChP nx hd O) (hOm : ∀ i, i ∈ O → i < S 0 0) (hO60 : O.length ≤ 60) {c9 : Nat} (hc9 : c9 < 4) (v : Int32) : TQ l yX1_findAtPlace wsX1_findAtPlace ({ frames := 6, cells := 1, slots := 6, locals := 90 } : Room) D cy [.ref (G 0), .int (nI c9), .int v] (CW cy G S hd nx Y) (fun r w' => inS v (txL S O c9).length = true ∧ r = some (G (100 + 3 * (txL S O c9).getD (aN v) 0)) ∧ w' = CW cy G S hd nx Y) (fun E => E = eIOB ∧ inS v (txL S O c9).length = false) 1 6 := by
  refine TQ.of (cc := cX1_findAtPlace) (maxL := 5) (ret := (some (.object "CoauthorText$Sign"))) (by decide) rfl (Nat.le_of_ble_eq_true rfl) ?_
  intro p e s m below meth c A ls E0 hT0 hl
  obtain ⟨hx, hb, hml, hown, hts, hr, hlocks, hA, hS, hP, hK, hD, hX⟩ := E0
  have hiX0 : ∀ w ∈ u_ws RX0 TX0 8, w ∈ wsX1_findAtPlace := by decide +kernel
  have hiX1 : ∀ w ∈ u_ws RX1 TX1 9, w ∈ wsX1_findAtPlace := by decide +kernel
  have hl : lv_has ls 5 [(0, .ref (G 0)), (1, .int (nI c9)), (2, .int v)] := hl
  have hl60 : (txL S O c9).length ≤ 60 := Nat.le_trans (List.length_filter_le _ _) hO60
  refine lv_iconst (v := nI 0) hx hb dX1_findAtPlace_0 (by decide) ?_
  refine lv_istore_n (lv' := [(3, .int (nI 0)), (0, .ref (G 0)), (1, .int (nI c9)), (2, .int v)]) hx hb dX1_findAtPlace_1 rfl hl (by decide) rfl (fun ls hl => ?_)
  refine lv_aload_n hx hb dX1_findAtPlace_2 rfl (lv_at hl 1 rfl) ?_
  refine va_get (D := D) (ci := 1) (v := va_rf (hd.map fun j => G (100 + 3 * j))) (C := RX1) (T := TX1) (N := 9) hx hb hts hiX1 hown hK hP (0) rfl rfl 2 (by decide) (hts (.fieldLink RX1 19 "CoauthorText" "firstInOrder" "LCoauthorText$Sign;") (by decide +kernel)) (fun _ h9 => h9) rfl dX1_findAtPlace_3 ?_
  refine r_astoreq (lv' := [(4, va_rf (hd.map fun j => G (100 + 3 * j))), (3, .int (nI 0)), (0, .ref (G 0)), (1, .int (nI c9)), (2, .int v)]) hx hb dX1_findAtPlace_6 hl (by decide) rfl (fun ls hl => ?_)
  have loop : ∀ (r : List Nat) (o : Option Nat) (dn : List Nat) (H : Heap) (locs : List Loc) (ls : Array Slot), ChP nx o r → (∀ i, i ∈ r → i < S 0 0) → txL S O c9 = dn ++ r.filter (vsb S c9) → (∀ j, j < dn.length → v ≠ nI j) → va_P D vwCl (CW cy G S hd nx Y) H → va_D A (CW cy G S hd nx Y) → va_S A s.heap H locs → lv_has ls 5 [(4, va_rf (o.map fun j => G (100 + 3 * j))), (3, .int (nI dn.length)), (0, .ref (G 0)), (1, .int (nI c9)), (2, .int v)] → W p l e ({ frames := 6, cells := 1, slots := 6, locals := 90 } : Room) s m ([.ref (G 0), .int (nI c9), .int v] : List Value).toArray below meth c H locs 0 0 (vx_MQ below (va_Qq (fun r w' => inS v (txL S O c9).length = true ∧ r = some (G (100 + 3 * (txL S O c9).getD (aN v) 0)) ∧ w' = CW cy G S hd nx Y) (fun w' t => wB D cy A w' t) A) (xQ D cy (fun E => E = eIOB ∧ inS v (txL S O c9).length = false) (CW cy G S hd nx Y) A) ([.ref (G 0), .int (nI c9), .int v] : List Value).toArray s 1 6 A) (F0 m 8 ls []) := by
    intro r
    induction r with
    | nil =>
      intro o dn H locs ls ho hm htx hne hP hD hS hl
      have ho : o = none := ho
      subst ho
      have hl : lv_has ls 5 [(4, .null), (3, .int (nI dn.length)), (0, .ref (G 0)), (1, .int (nI c9)), (2, .int v)] := hl
      refine lv_aloadN hx hb dX1_findAtPlace_8 (lv_at hl 0 rfl) ?_
      refine lv_ifnullN (tgt := 43) hx hb dX1_findAtPlace_10 (by decide) ?_
      obtain ⟨tx, x0, x1, x2, x3, x4, x5, x6, x7, x8⟩ := hX.2.2.2.2.2.2.2.1
      exact Y_throw (own := RX1) (E := "java/lang/IndexOutOfBoundsException") (ik := 53) (is := 55) (ic := 57) (ws := wsX1_findAtPlace) hT0 hx hb hlf hlocks hown hts hP hK hD hS hX hX.2.2.2.2.1 x6 (by rw [hml]; exact hl.1) (by decide +kernel) (by decide +kernel) (by decide +kernel) (by decide +kernel) (by decide +kernel) (by decide +kernel) dX1_findAtPlace_43 dX1_findAtPlace_46 dX1_findAtPlace_47 dX1_findAtPlace_49 dX1_findAtPlace_52 (Nat.le_of_ble_eq_true rfl) (Nat.le_of_ble_eq_true rfl) (Nat.le_of_ble_eq_true rfl) (Nat.le_of_ble_eq_true rfl) ⟨rfl, by
          rcases hV : inS v (txL S O c9).length with _ | _
          · rfl
          · obtain ⟨j, hj, hvj⟩ := inS_n (by omega) hV
            exact absurd hvj (hne j (by rw [htx] at hj; simpa using hj))⟩ (Nat.le_of_ble_eq_true rfl) (Nat.le_of_ble_eq_true rfl)
    | cons x r ih =>
      intro o dn H locs ls ho hm htx hne hP hD hS hl
      obtain ⟨ho, ho2⟩ := ho
      subst ho
      have hx9 := hm x List.mem_cons_self
      have hm2 : ∀ i, i ∈ r → i < S 0 0 := fun i hi => hm i (List.mem_cons_of_mem _ hi)
      have hdl : dn.length ≤ 60 := by rw [htx, List.length_append] at hl60; omega
      have hl : lv_has ls 5 [(4, .ref (G (100 + 3 * x))), (3, .int (nI dn.length)), (0, .ref (G 0)), (1, .int (nI c9)), (2, .int v)] := hl
      refine lv_aload hx hb dX1_findAtPlace_8 (lv_at hl 0 rfl) ?_
      refine lv_ifnull hx hb dX1_findAtPlace_10 ?_
      refine lv_aload hx hb dX1_findAtPlace_13 (lv_at hl 0 rfl) ?_
      refine lv_iload_n hx hb dX1_findAtPlace_15 rfl (lv_at hl 3 rfl) ?_
      refine K_i (va_runVN (As := [.int (nI c9)]) (rest := []) ⟨hx, hb, hml, hown, hts⟩ (c_X0_isInTextOf l hR hx9 hc9 _) ⟨va_cnB 1 hts gX1_findAtPlace_X0_isInTextOf_n125 rfl rfl rfl hX.2.2.2.2.2.2.1.1 (hts (.initialized RX0) (by decide +kernel)) (by decide +kernel) ⟨Nat.le_of_ble_eq_true rfl, Nat.le_of_ble_eq_true rfl⟩, hts (.instanceMethod yX0_isInTextOf) (by decide +kernel), hts (.selects RX0 yX0_isInTextOf yX0_isInTextOf) (by decide +kernel)⟩ (pV hP hK hD hS hA hX (va_recv hK hP (ci := 0) (q0 := 6 + (20 + x)) rfl (CW_sg hx9))) rfl rfl hl.1 rfl (lv_room (Nat.le_of_ble_eq_true rfl)) dX1_findAtPlace_16 ⟨Nat.le_of_ble_eq_true rfl, Nat.le_of_ble_eq_true rfl⟩) hD hS hA (fun r w'  H locs hp hP hD hS => ?_)
      obtain ⟨rfl, rfl⟩ := hp
      refine r_if_eq (tgt := 33) hx hb dX1_findAtPlace_19 (by decide) (Nat.lt_trans (bN_lt _) (by decide)) (fun cV => ?_) (fun cV => ?_)
      · have hv0 := bN_0.mp cV
        refine lv_aload hx hb dX1_findAtPlace_33 (lv_at hl 0 rfl) ?_
        refine va_getN (D := D) (ci := 0) (v := va_rf ((nx x).map fun j => G (100 + 3 * j))) (C := RX0) (T := TX0) (N := 8) (host := RX1) hx hb hts hiX0 hown hK hP (6 + (20 + x)) (CW_sg hx9) rfl 5 (by decide) (va_Nw.use rfl hX.2.2.2.2.2.1.1) (fun _ h9 => h9) rfl dX1_findAtPlace_35 ?_
        refine r_astoreq (lv' := [(4, va_rf ((nx x).map fun j => G (100 + 3 * j))), (3, .int (nI dn.length)), (0, .ref (G 0)), (1, .int (nI c9)), (2, .int v)]) hx hb dX1_findAtPlace_38 hl (by decide) rfl (fun ls hl => ?_)
        refine lv_goto (tgt := 8) hx hb dX1_findAtPlace_40 (by decide) ?_
        exact ih (nx x) dn _ _ ls ho2 hm2 (by rw [htx, List.filter_cons, if_neg (by rw [hv0]; decide)]) (hne) hP hD hS (lv_sub hl [0, 1, 2, 3, 4] rfl)
      · have hv1 := bN_1.mp cV
        refine lv_iload_n hx hb dX1_findAtPlace_22 rfl (lv_at hl 1 rfl) ?_
        refine lv_iload_n hx hb dX1_findAtPlace_23 rfl (lv_at hl 4 rfl) ?_
        refine lv_icmp_ne (tgt := 30) hx hb dX1_findAtPlace_24 (by decide) (fun cE => ?_) (fun cE => ?_)
        · refine lv_iinc (v := nI (dn.length + 1)) (lv' := [(3, .int (nI (dn.length + 1))), (4, .ref (G (100 + 3 * x))), (0, .ref (G 0)), (1, .int (nI c9)), (2, .int v)]) hx hb dX1_findAtPlace_30 hl (k := 1) rfl (nI_inc _) (by decide) rfl (fun ls hl => ?_)
          have e9 : dn.length + 1 = (dn ++ [x]).length := by simp
          rw [e9] at hl
          refine lv_aload hx hb dX1_findAtPlace_33 (lv_at hl 1 rfl) ?_
          refine va_getN (D := D) (ci := 0) (v := va_rf ((nx x).map fun j => G (100 + 3 * j))) (C := RX0) (T := TX0) (N := 8) (host := RX1) hx hb hts hiX0 hown hK hP (6 + (20 + x)) (CW_sg hx9) rfl 5 (by decide) (va_Nw.use rfl hX.2.2.2.2.2.1.1) (fun _ h9 => h9) rfl dX1_findAtPlace_35 ?_
          refine r_astoreq (lv' := [(4, va_rf ((nx x).map fun j => G (100 + 3 * j))), (3, .int (nI ((dn ++ [x]).length))), (0, .ref (G 0)), (1, .int (nI c9)), (2, .int v)]) hx hb dX1_findAtPlace_38 hl (by decide) rfl (fun ls hl => ?_)
          refine lv_goto (tgt := 8) hx hb dX1_findAtPlace_40 (by decide) ?_
          exact ih (nx x) (dn ++ [x]) _ _ ls ho2 hm2 (by rw [htx, List.filter_cons, if_pos hv1, List.append_assoc]; rfl) (fun j hj => by
              rw [List.length_append, List.length_singleton] at hj
              rcases Nat.lt_or_eq_of_le (Nat.lt_succ_iff.mp hj) with h | h
              · exact hne j h
              · subst h; exact fun e => cE e.symm) hP hD hS (lv_sub hl [0, 1, 2, 3, 4] rfl)
        · refine lv_aload hx hb dX1_findAtPlace_27 (lv_at hl 0 rfl) ?_
          have hlt : dn.length < (txL S O c9).length := by rw [htx, List.length_append, List.filter_cons, if_pos hv1, List.length_cons]; omega
          exact vx_ret (C_qret (v := some (G (100 + 3 * x))) hx hb hr (Or.inl ⟨_, rfl⟩) hlocks hS hP hK hD (Nat.le_of_ble_eq_true rfl) (Nat.le_of_ble_eq_true rfl) dX1_findAtPlace_29 ⟨by rw [← cE]; exact inS_of hlt (by omega), by rw [← cE, aN_n (by omega), getD_lt hlt]; simp only [htx, List.filter_cons, if_pos hv1]; simp, rfl⟩)
  exact loop O hd [] _ _ ls hO hOm rfl (fun j hj => absurd hj (Nat.not_lt_zero j)) hP hD hS (lv_sub hl [0, 1, 2, 3, 4] rfl)

def cntE (S : Nat → Nat → Nat) (c9 : Nat) : List Nat → Option Nat → Nat
  | [], _ => 0
  | x :: r, e => if e = some x then 0 else bN (vsb S c9 x) + cntE S c9 r e
theorem cntE_none (S : Nat → Nat → Nat) (c9 : Nat) : ∀ O : List Nat, cntE S c9 O none = (txL S O c9).length
  | [] => rfl
  | x :: r => by
    rw [cntE, if_neg (by simp), cntE_none S c9 r, txL, txL, List.filter_cons]
    cases h : vsb S c9 x <;> simp [bN] <;> omega
theorem cntE_le (S : Nat → Nat → Nat) (c9 : Nat) (e : Option Nat) : ∀ O : List Nat, cntE S c9 O e ≤ O.length
  | [] => Nat.le_refl _
  | x :: r => by
    rw [cntE, List.length_cons]
    have h1 := cntE_le S c9 e r
    have h2 := bN_lt (vsb S c9 x)
    split <;> omega
theorem cntE_some {S : Nat → Nat → Nat} {c9 z : Nat} : ∀ {O : List Nat}, O.Nodup → z ∈ txL S O c9 → cntE S c9 O (some z) = posL (txL S O c9) z
  | [], _, h => absurd h List.not_mem_nil
  | x :: r, hn, h => by
    have hn2 := List.nodup_cons.mp hn
    by_cases e : z = x
    · subst e
      have hv : vsb S c9 z = true := (List.mem_filter.mp h).2
      rw [cntE, if_pos rfl, txL, List.filter_cons, if_pos hv, posL, if_pos rfl]
    · have hz : z ∈ txL S r c9 := by
        obtain ⟨h1, h2⟩ := List.mem_filter.mp h
        rcases List.mem_cons.mp h1 with h3 | h3
        · exact absurd h3 e
        · exact List.mem_filter.mpr ⟨h3, h2⟩
      have ih := cntE_some hn2.2 hz
      rw [cntE, if_neg (fun h9 => e (Option.some.inj h9)), ih, txL, txL, List.filter_cons]
      cases hv : vsb S c9 x
      · simp [bN]
      · simp only [bN, if_true, posL]
        rw [if_neg (fun h9 => e h9.symm)]
        omega

set_option maxHeartbeats 4000000 in
set_option maxRecDepth 100000 in
theorem c_X1_countAheadOf_none (l : Launch) {D : va_G} {cy : Nat → ClassId} {G : Nat → Nat} {S : Nat → Nat → Nat} {hd : Option Nat} {nx : Nat → Option Nat} {Y : va_W} {O : List Nat} (hR : Rng S) (hO : ChP nx hd O) (hOm : ∀ i, i ∈ O → i < S 0 0) (hO60 : O.length ≤ 60) {c9 : Nat} (hc9 : c9 < 4) : CI l yX1_countAheadOf wsX1_countAheadOf ({ frames := 3, cells := 0, slots := 0, locals := 54 } : Room) D cy [.ref (G 0), .int (nI c9), .null] (CW cy G S hd nx Y) (fun r w' => r = nI (cntE S c9 O none) ∧ w' = CW cy G S hd nx Y) 0 0 := by
  refine CI.of (cc := cX1_countAheadOf) (maxL := 5) (ret := (some .int)) (by decide) rfl (Nat.le_of_ble_eq_true rfl) ?_
  intro p e s m below meth c A ls E0 hl
  obtain ⟨hx, hb, hml, hown, hts, hr, hlocks, hA, hS, hP, hK, hD, hX⟩ := E0
  have hiX0 : ∀ w ∈ u_ws RX0 TX0 8, w ∈ wsX1_countAheadOf := by decide +kernel
  have hiX1 : ∀ w ∈ u_ws RX1 TX1 9, w ∈ wsX1_countAheadOf := by decide +kernel
  have hl : lv_has ls 5 [(0, .ref (G 0)), (1, .int (nI c9)), (2, .null)] := hl
  refine lv_iconst (v := nI 0) hx hb dX1_countAheadOf_0 (by decide) ?_
  refine lv_istore_n (lv' := [(3, .int (nI 0)), (0, .ref (G 0)), (1, .int (nI c9)), (2, .null)]) hx hb dX1_countAheadOf_1 rfl hl (by decide) rfl (fun ls hl => ?_)
  refine lv_aload_n hx hb dX1_countAheadOf_2 rfl (lv_at hl 1 rfl) ?_
  refine va_get (D := D) (ci := 1) (v := va_rf (hd.map fun j => G (100 + 3 * j))) (C := RX1) (T := TX1) (N := 9) hx hb hts hiX1 hown hK hP (0) rfl rfl 2 (by decide) (hts (.fieldLink RX1 19 "CoauthorText" "firstInOrder" "LCoauthorText$Sign;") (by decide +kernel)) (fun _ h9 => h9) rfl dX1_countAheadOf_3 ?_
  refine r_astoreq (lv' := [(4, va_rf (hd.map fun j => G (100 + 3 * j))), (3, .int (nI 0)), (0, .ref (G 0)), (1, .int (nI c9)), (2, .null)]) hx hb dX1_countAheadOf_6 hl (by decide) rfl (fun ls hl => ?_)
  have loop : ∀ (r : List Nat) (o : Option Nat) (k : Nat) (H : Heap) (locs : List Loc) (ls : Array Slot), ChP nx o r → (∀ i, i ∈ r → i < S 0 0) → k + cntE S c9 r none = cntE S c9 O none → va_P D vwCl (CW cy G S hd nx Y) H → va_D A (CW cy G S hd nx Y) → va_S A s.heap H locs → lv_has ls 5 [(4, va_rf (o.map fun j => G (100 + 3 * j))), (3, .int (nI k)), (0, .ref (G 0)), (1, .int (nI c9)), (2, .null)] → W p l e ({ frames := 3, cells := 0, slots := 0, locals := 54 } : Room) s m ([.ref (G 0), .int (nI c9), .null] : List Value).toArray below meth c H locs 0 0 (MQ below (va_Qi (fun r w' => r = nI (cntE S c9 O none) ∧ w' = CW cy G S hd nx Y) (fun w' t => wB D cy A w' t) A) ([.ref (G 0), .int (nI c9), .null] : List Value).toArray s 0 0 A) (F0 m 8 ls []) := by
    intro r
    induction r with
    | nil =>
      intro o k H locs ls ho hm hk hP hD hS hl
      have ho : o = none := ho
      subst ho
      have hl : lv_has ls 5 [(4, .null), (3, .int (nI k)), (0, .ref (G 0)), (1, .int (nI c9)), (2, .null)] := hl
      refine lv_aloadN hx hb dX1_countAheadOf_8 (lv_at hl 0 rfl) ?_
      refine lv_ifnullN (tgt := 41) hx hb dX1_countAheadOf_10 (by decide) ?_
      refine lv_iload_n hx hb dX1_countAheadOf_41 rfl (lv_at hl 1 rfl) ?_
      exact C_iret hx hb hr hlocks hS hP hK hD (Nat.le_of_ble_eq_true rfl) (Nat.le_of_ble_eq_true rfl) dX1_countAheadOf_42 ⟨by rw [← hk]; rfl, rfl⟩
    | cons x r ih =>
      intro o k H locs ls ho hm hk hP hD hS hl
      obtain ⟨ho, ho2⟩ := ho
      subst ho
      have hx9 := hm x List.mem_cons_self
      have hm2 : ∀ i, i ∈ r → i < S 0 0 := fun i hi => hm i (List.mem_cons_of_mem _ hi)
      have hl : lv_has ls 5 [(4, .ref (G (100 + 3 * x))), (3, .int (nI k)), (0, .ref (G 0)), (1, .int (nI c9)), (2, .null)] := hl
      refine lv_aload hx hb dX1_countAheadOf_8 (lv_at hl 0 rfl) ?_
      refine lv_ifnull hx hb dX1_countAheadOf_10 ?_
      refine lv_aload hx hb dX1_countAheadOf_13 (lv_at hl 0 rfl) ?_
      refine lv_aload_nN hx hb dX1_countAheadOf_15 rfl (lv_at hl 4 rfl) ?_
      have hiff : (some (G (100 + 3 * x)) = none) ↔ none = some x := by
        simp
      refine lv_acmp_eq (rx := some (G (100 + 3 * x))) (ry := none) (tgt := 41) hx hb dX1_countAheadOf_16 (by decide) (fun cE => ?_) (fun cE => ?_)
      · refine lv_iload_n hx hb dX1_countAheadOf_41 rfl (lv_at hl 1 rfl) ?_
        exact C_iret hx hb hr hlocks hS hP hK hD (Nat.le_of_ble_eq_true rfl) (Nat.le_of_ble_eq_true rfl) dX1_countAheadOf_42 ⟨by rw [← hk, cntE, if_pos (hiff.mp cE)]; rfl, rfl⟩
      · rw [cntE, if_neg (fun h => cE (hiff.mpr h))] at hk
        refine lv_aload hx hb dX1_countAheadOf_19 (lv_at hl 0 rfl) ?_
        refine lv_iload_n hx hb dX1_countAheadOf_21 rfl (lv_at hl 3 rfl) ?_
        refine K_i (va_runVN (As := [.int (nI c9)]) (rest := []) ⟨hx, hb, hml, hown, hts⟩ (c_X0_isInTextOf l hR hx9 hc9 _) ⟨va_cnB 1 hts gX1_countAheadOf_X0_isInTextOf_n125 rfl rfl rfl hX.2.2.2.2.2.2.1.1 (hts (.initialized RX0) (by decide +kernel)) (by decide +kernel) ⟨Nat.le_of_ble_eq_true rfl, Nat.le_of_ble_eq_true rfl⟩, hts (.instanceMethod yX0_isInTextOf) (by decide +kernel), hts (.selects RX0 yX0_isInTextOf yX0_isInTextOf) (by decide +kernel)⟩ (pV hP hK hD hS hA hX (va_recv hK hP (ci := 0) (q0 := 6 + (20 + x)) rfl (CW_sg hx9))) rfl rfl hl.1 rfl (lv_room (Nat.le_of_ble_eq_true rfl)) dX1_countAheadOf_22 ⟨Nat.le_of_ble_eq_true rfl, Nat.le_of_ble_eq_true rfl⟩) hD hS hA (fun r w'  H locs hp hP hD hS => ?_)
        obtain ⟨rfl, rfl⟩ := hp
        refine r_if_eq (tgt := 31) hx hb dX1_countAheadOf_25 (by decide) (Nat.lt_trans (bN_lt _) (by decide)) (fun cV => ?_) (fun cV => ?_)
        · refine lv_aload hx hb dX1_countAheadOf_31 (lv_at hl 0 rfl) ?_
          refine va_getN (D := D) (ci := 0) (v := va_rf ((nx x).map fun j => G (100 + 3 * j))) (C := RX0) (T := TX0) (N := 8) (host := RX1) hx hb hts hiX0 hown hK hP (6 + (20 + x)) (CW_sg hx9) rfl 5 (by decide) (va_Nw.use rfl hX.2.2.2.2.2.1.1) (fun _ h9 => h9) rfl dX1_countAheadOf_33 ?_
          refine r_astoreq (lv' := [(4, va_rf ((nx x).map fun j => G (100 + 3 * j))), (3, .int (nI k)), (0, .ref (G 0)), (1, .int (nI c9)), (2, .null)]) hx hb dX1_countAheadOf_36 hl (by decide) rfl (fun ls hl => ?_)
          refine lv_goto (tgt := 8) hx hb dX1_countAheadOf_38 (by decide) ?_
          exact ih (nx x) k _ _ ls ho2 hm2 (by rw [cV] at hk; omega) hP hD hS (lv_sub hl [0, 1, 2, 3, 4] rfl)
        · refine lv_iinc (v := nI (k + 1)) (lv' := [(3, .int (nI (k + 1))), (4, .ref (G (100 + 3 * x))), (0, .ref (G 0)), (1, .int (nI c9)), (2, .null)]) hx hb dX1_countAheadOf_28 hl (k := 1) rfl (nI_inc _) (by decide) rfl (fun ls hl => ?_)
          refine lv_aload hx hb dX1_countAheadOf_31 (lv_at hl 1 rfl) ?_
          refine va_getN (D := D) (ci := 0) (v := va_rf ((nx x).map fun j => G (100 + 3 * j))) (C := RX0) (T := TX0) (N := 8) (host := RX1) hx hb hts hiX0 hown hK hP (6 + (20 + x)) (CW_sg hx9) rfl 5 (by decide) (va_Nw.use rfl hX.2.2.2.2.2.1.1) (fun _ h9 => h9) rfl dX1_countAheadOf_33 ?_
          refine r_astoreq (lv' := [(4, va_rf ((nx x).map fun j => G (100 + 3 * j))), (3, .int (nI (k + 1))), (0, .ref (G 0)), (1, .int (nI c9)), (2, .null)]) hx hb dX1_countAheadOf_36 hl (by decide) rfl (fun ls hl => ?_)
          refine lv_goto (tgt := 8) hx hb dX1_countAheadOf_38 (by decide) ?_
          exact ih (nx x) (k + 1) _ _ ls ho2 hm2 (by have := bN_lt (vsb S c9 x); omega) hP hD hS (lv_sub hl [0, 1, 2, 3, 4] rfl)
  exact loop O hd 0 _ _ ls hO hOm (Nat.zero_add _) hP hD hS (lv_sub hl [0, 1, 2, 3, 4] rfl)

set_option maxHeartbeats 4000000 in
set_option maxRecDepth 100000 in
theorem c_X1_countAheadOf_some (l : Launch) {D : va_G} {cy : Nat → ClassId} {G : Nat → Nat} {S : Nat → Nat → Nat} {hd : Option Nat} {nx : Nat → Option Nat} {Y : va_W} {O : List Nat} (hR : Rng S) (hO : ChP nx hd O) (hOm : ∀ i, i ∈ O → i < S 0 0) (hO60 : O.length ≤ 60) {c9 : Nat} (hc9 : c9 < 4) {z : Nat} (hz : z < S 0 0) : CI l yX1_countAheadOf wsX1_countAheadOf ({ frames := 3, cells := 0, slots := 0, locals := 54 } : Room) D cy [.ref (G 0), .int (nI c9), .ref (G (100 + 3 * z))] (CW cy G S hd nx Y) (fun r w' => r = nI (cntE S c9 O (some z)) ∧ w' = CW cy G S hd nx Y) 0 0 := by
  refine CI.of (cc := cX1_countAheadOf) (maxL := 5) (ret := (some .int)) (by decide) rfl (Nat.le_of_ble_eq_true rfl) ?_
  intro p e s m below meth c A ls E0 hl
  obtain ⟨hx, hb, hml, hown, hts, hr, hlocks, hA, hS, hP, hK, hD, hX⟩ := E0
  have hiX0 : ∀ w ∈ u_ws RX0 TX0 8, w ∈ wsX1_countAheadOf := by decide +kernel
  have hiX1 : ∀ w ∈ u_ws RX1 TX1 9, w ∈ wsX1_countAheadOf := by decide +kernel
  have hl : lv_has ls 5 [(0, .ref (G 0)), (1, .int (nI c9)), (2, .ref (G (100 + 3 * z)))] := hl
  refine lv_iconst (v := nI 0) hx hb dX1_countAheadOf_0 (by decide) ?_
  refine lv_istore_n (lv' := [(3, .int (nI 0)), (0, .ref (G 0)), (1, .int (nI c9)), (2, .ref (G (100 + 3 * z)))]) hx hb dX1_countAheadOf_1 rfl hl (by decide) rfl (fun ls hl => ?_)
  refine lv_aload_n hx hb dX1_countAheadOf_2 rfl (lv_at hl 1 rfl) ?_
  refine va_get (D := D) (ci := 1) (v := va_rf (hd.map fun j => G (100 + 3 * j))) (C := RX1) (T := TX1) (N := 9) hx hb hts hiX1 hown hK hP (0) rfl rfl 2 (by decide) (hts (.fieldLink RX1 19 "CoauthorText" "firstInOrder" "LCoauthorText$Sign;") (by decide +kernel)) (fun _ h9 => h9) rfl dX1_countAheadOf_3 ?_
  refine r_astoreq (lv' := [(4, va_rf (hd.map fun j => G (100 + 3 * j))), (3, .int (nI 0)), (0, .ref (G 0)), (1, .int (nI c9)), (2, .ref (G (100 + 3 * z)))]) hx hb dX1_countAheadOf_6 hl (by decide) rfl (fun ls hl => ?_)
  have loop : ∀ (r : List Nat) (o : Option Nat) (k : Nat) (H : Heap) (locs : List Loc) (ls : Array Slot), ChP nx o r → (∀ i, i ∈ r → i < S 0 0) → k + cntE S c9 r (some z) = cntE S c9 O (some z) → va_P D vwCl (CW cy G S hd nx Y) H → va_D A (CW cy G S hd nx Y) → va_S A s.heap H locs → lv_has ls 5 [(4, va_rf (o.map fun j => G (100 + 3 * j))), (3, .int (nI k)), (0, .ref (G 0)), (1, .int (nI c9)), (2, .ref (G (100 + 3 * z)))] → W p l e ({ frames := 3, cells := 0, slots := 0, locals := 54 } : Room) s m ([.ref (G 0), .int (nI c9), .ref (G (100 + 3 * z))] : List Value).toArray below meth c H locs 0 0 (MQ below (va_Qi (fun r w' => r = nI (cntE S c9 O (some z)) ∧ w' = CW cy G S hd nx Y) (fun w' t => wB D cy A w' t) A) ([.ref (G 0), .int (nI c9), .ref (G (100 + 3 * z))] : List Value).toArray s 0 0 A) (F0 m 8 ls []) := by
    intro r
    induction r with
    | nil =>
      intro o k H locs ls ho hm hk hP hD hS hl
      have ho : o = none := ho
      subst ho
      have hl : lv_has ls 5 [(4, .null), (3, .int (nI k)), (0, .ref (G 0)), (1, .int (nI c9)), (2, .ref (G (100 + 3 * z)))] := hl
      refine lv_aloadN hx hb dX1_countAheadOf_8 (lv_at hl 0 rfl) ?_
      refine lv_ifnullN (tgt := 41) hx hb dX1_countAheadOf_10 (by decide) ?_
      refine lv_iload_n hx hb dX1_countAheadOf_41 rfl (lv_at hl 1 rfl) ?_
      exact C_iret hx hb hr hlocks hS hP hK hD (Nat.le_of_ble_eq_true rfl) (Nat.le_of_ble_eq_true rfl) dX1_countAheadOf_42 ⟨by rw [← hk]; rfl, rfl⟩
    | cons x r ih =>
      intro o k H locs ls ho hm hk hP hD hS hl
      obtain ⟨ho, ho2⟩ := ho
      subst ho
      have hx9 := hm x List.mem_cons_self
      have hm2 : ∀ i, i ∈ r → i < S 0 0 := fun i hi => hm i (List.mem_cons_of_mem _ hi)
      have hl : lv_has ls 5 [(4, .ref (G (100 + 3 * x))), (3, .int (nI k)), (0, .ref (G 0)), (1, .int (nI c9)), (2, .ref (G (100 + 3 * z)))] := hl
      refine lv_aload hx hb dX1_countAheadOf_8 (lv_at hl 0 rfl) ?_
      refine lv_ifnull hx hb dX1_countAheadOf_10 ?_
      refine lv_aload hx hb dX1_countAheadOf_13 (lv_at hl 0 rfl) ?_
      refine lv_aload_n hx hb dX1_countAheadOf_15 rfl (lv_at hl 4 rfl) ?_
      have hiff : (some (G (100 + 3 * x)) = some (G (100 + 3 * z))) ↔ (some z) = some x := by
        simp only [Option.some.injEq]
        exact ⟨fun h => (G_inj hD hx9 hz h).symm, fun h => by rw [h]⟩
      refine lv_acmp_eq (rx := some (G (100 + 3 * x))) (ry := some (G (100 + 3 * z))) (tgt := 41) hx hb dX1_countAheadOf_16 (by decide) (fun cE => ?_) (fun cE => ?_)
      · refine lv_iload_n hx hb dX1_countAheadOf_41 rfl (lv_at hl 1 rfl) ?_
        exact C_iret hx hb hr hlocks hS hP hK hD (Nat.le_of_ble_eq_true rfl) (Nat.le_of_ble_eq_true rfl) dX1_countAheadOf_42 ⟨by rw [← hk, cntE, if_pos (hiff.mp cE)]; rfl, rfl⟩
      · rw [cntE, if_neg (fun h => cE (hiff.mpr h))] at hk
        refine lv_aload hx hb dX1_countAheadOf_19 (lv_at hl 0 rfl) ?_
        refine lv_iload_n hx hb dX1_countAheadOf_21 rfl (lv_at hl 3 rfl) ?_
        refine K_i (va_runVN (As := [.int (nI c9)]) (rest := []) ⟨hx, hb, hml, hown, hts⟩ (c_X0_isInTextOf l hR hx9 hc9 _) ⟨va_cnB 1 hts gX1_countAheadOf_X0_isInTextOf_n125 rfl rfl rfl hX.2.2.2.2.2.2.1.1 (hts (.initialized RX0) (by decide +kernel)) (by decide +kernel) ⟨Nat.le_of_ble_eq_true rfl, Nat.le_of_ble_eq_true rfl⟩, hts (.instanceMethod yX0_isInTextOf) (by decide +kernel), hts (.selects RX0 yX0_isInTextOf yX0_isInTextOf) (by decide +kernel)⟩ (pV hP hK hD hS hA hX (va_recv hK hP (ci := 0) (q0 := 6 + (20 + x)) rfl (CW_sg hx9))) rfl rfl hl.1 rfl (lv_room (Nat.le_of_ble_eq_true rfl)) dX1_countAheadOf_22 ⟨Nat.le_of_ble_eq_true rfl, Nat.le_of_ble_eq_true rfl⟩) hD hS hA (fun r w'  H locs hp hP hD hS => ?_)
        obtain ⟨rfl, rfl⟩ := hp
        refine r_if_eq (tgt := 31) hx hb dX1_countAheadOf_25 (by decide) (Nat.lt_trans (bN_lt _) (by decide)) (fun cV => ?_) (fun cV => ?_)
        · refine lv_aload hx hb dX1_countAheadOf_31 (lv_at hl 0 rfl) ?_
          refine va_getN (D := D) (ci := 0) (v := va_rf ((nx x).map fun j => G (100 + 3 * j))) (C := RX0) (T := TX0) (N := 8) (host := RX1) hx hb hts hiX0 hown hK hP (6 + (20 + x)) (CW_sg hx9) rfl 5 (by decide) (va_Nw.use rfl hX.2.2.2.2.2.1.1) (fun _ h9 => h9) rfl dX1_countAheadOf_33 ?_
          refine r_astoreq (lv' := [(4, va_rf ((nx x).map fun j => G (100 + 3 * j))), (3, .int (nI k)), (0, .ref (G 0)), (1, .int (nI c9)), (2, .ref (G (100 + 3 * z)))]) hx hb dX1_countAheadOf_36 hl (by decide) rfl (fun ls hl => ?_)
          refine lv_goto (tgt := 8) hx hb dX1_countAheadOf_38 (by decide) ?_
          exact ih (nx x) k _ _ ls ho2 hm2 (by rw [cV] at hk; omega) hP hD hS (lv_sub hl [0, 1, 2, 3, 4] rfl)
        · refine lv_iinc (v := nI (k + 1)) (lv' := [(3, .int (nI (k + 1))), (4, .ref (G (100 + 3 * x))), (0, .ref (G 0)), (1, .int (nI c9)), (2, .ref (G (100 + 3 * z)))]) hx hb dX1_countAheadOf_28 hl (k := 1) rfl (nI_inc _) (by decide) rfl (fun ls hl => ?_)
          refine lv_aload hx hb dX1_countAheadOf_31 (lv_at hl 1 rfl) ?_
          refine va_getN (D := D) (ci := 0) (v := va_rf ((nx x).map fun j => G (100 + 3 * j))) (C := RX0) (T := TX0) (N := 8) (host := RX1) hx hb hts hiX0 hown hK hP (6 + (20 + x)) (CW_sg hx9) rfl 5 (by decide) (va_Nw.use rfl hX.2.2.2.2.2.1.1) (fun _ h9 => h9) rfl dX1_countAheadOf_33 ?_
          refine r_astoreq (lv' := [(4, va_rf ((nx x).map fun j => G (100 + 3 * j))), (3, .int (nI (k + 1))), (0, .ref (G 0)), (1, .int (nI c9)), (2, .ref (G (100 + 3 * z)))]) hx hb dX1_countAheadOf_36 hl (by decide) rfl (fun ls hl => ?_)
          refine lv_goto (tgt := 8) hx hb dX1_countAheadOf_38 (by decide) ?_
          exact ih (nx x) (k + 1) _ _ ls ho2 hm2 (by have := bN_lt (vsb S c9 x); omega) hP hD hS (lv_sub hl [0, 1, 2, 3, 4] rfl)
  exact loop O hd 0 _ _ ls hO hOm (Nat.zero_add _) hP hD hS (lv_sub hl [0, 1, 2, 3, 4] rfl)

set_option maxHeartbeats 4000000 in
set_option maxRecDepth 100000 in
theorem c_X1_countWrittenBy (l : Launch) {D : va_G} {cy : Nat → ClassId} {G : Nat → Nat} {S : Nat → Nat → Nat} {hd : Option Nat} {nx : Nat → Option Nat} {Y : va_W} {O : List Nat} (hR : Rng S) (hO : ChP nx hd O) (hOm : ∀ i, i ∈ O → i < S 0 0) (hO60 : O.length ≤ 60) {c9 : Nat} (hc9 : c9 < 4) {w9 : Nat} (hw9 : w9 < 4) : CI l yX1_countWrittenBy wsX1_countWrittenBy ({ frames := 3, cells := 0, slots := 0, locals := 54 } : Room) D cy [.ref (G 0), .int (nI w9), .int (nI c9)] (CW cy G S hd nx Y) (fun r w' => r = nI (cntA S (txL S O c9) w9) ∧ w' = CW cy G S hd nx Y) 0 0 := by
  refine CI.of (cc := cX1_countWrittenBy) (maxL := 5) (ret := (some .int)) (by decide) rfl (Nat.le_of_ble_eq_true rfl) ?_
  intro p e s m below meth c A ls E0 hl
  obtain ⟨hx, hb, hml, hown, hts, hr, hlocks, hA, hS, hP, hK, hD, hX⟩ := E0
  have hiX0 : ∀ w ∈ u_ws RX0 TX0 8, w ∈ wsX1_countWrittenBy := by decide +kernel
  have hiX1 : ∀ w ∈ u_ws RX1 TX1 9, w ∈ wsX1_countWrittenBy := by decide +kernel
  have hl : lv_has ls 5 [(0, .ref (G 0)), (1, .int (nI w9)), (2, .int (nI c9))] := hl
  refine lv_iconst (v := nI 0) hx hb dX1_countWrittenBy_0 (by decide) ?_
  refine lv_istore_n (lv' := [(3, .int (nI 0)), (0, .ref (G 0)), (1, .int (nI w9)), (2, .int (nI c9))]) hx hb dX1_countWrittenBy_1 rfl hl (by decide) rfl (fun ls hl => ?_)
  refine lv_aload_n hx hb dX1_countWrittenBy_2 rfl (lv_at hl 1 rfl) ?_
  refine va_get (D := D) (ci := 1) (v := va_rf (hd.map fun j => G (100 + 3 * j))) (C := RX1) (T := TX1) (N := 9) hx hb hts hiX1 hown hK hP (0) rfl rfl 2 (by decide) (hts (.fieldLink RX1 19 "CoauthorText" "firstInOrder" "LCoauthorText$Sign;") (by decide +kernel)) (fun _ h9 => h9) rfl dX1_countWrittenBy_3 ?_
  refine r_astoreq (lv' := [(4, va_rf (hd.map fun j => G (100 + 3 * j))), (3, .int (nI 0)), (0, .ref (G 0)), (1, .int (nI w9)), (2, .int (nI c9))]) hx hb dX1_countWrittenBy_6 hl (by decide) rfl (fun ls hl => ?_)
  have loop : ∀ (r : List Nat) (o : Option Nat) (k : Nat) (H : Heap) (locs : List Loc) (ls : Array Slot), ChP nx o r → (∀ i, i ∈ r → i < S 0 0) → k + cntA S (r.filter (vsb S c9)) w9 = cntA S (txL S O c9) w9 → va_P D vwCl (CW cy G S hd nx Y) H → va_D A (CW cy G S hd nx Y) → va_S A s.heap H locs → lv_has ls 5 [(4, va_rf (o.map fun j => G (100 + 3 * j))), (3, .int (nI k)), (0, .ref (G 0)), (1, .int (nI w9)), (2, .int (nI c9))] → W p l e ({ frames := 3, cells := 0, slots := 0, locals := 54 } : Room) s m ([.ref (G 0), .int (nI w9), .int (nI c9)] : List Value).toArray below meth c H locs 0 0 (MQ below (va_Qi (fun r w' => r = nI (cntA S (txL S O c9) w9) ∧ w' = CW cy G S hd nx Y) (fun w' t => wB D cy A w' t) A) ([.ref (G 0), .int (nI w9), .int (nI c9)] : List Value).toArray s 0 0 A) (F0 m 8 ls []) := by
    intro r
    induction r with
    | nil =>
      intro o k H locs ls ho hm hk hP hD hS hl
      have ho : o = none := ho
      subst ho
      have hl : lv_has ls 5 [(4, .null), (3, .int (nI k)), (0, .ref (G 0)), (1, .int (nI w9)), (2, .int (nI c9))] := hl
      refine lv_aloadN hx hb dX1_countWrittenBy_8 (lv_at hl 0 rfl) ?_
      refine lv_ifnullN (tgt := 44) hx hb dX1_countWrittenBy_10 (by decide) ?_
      refine lv_iload_n hx hb dX1_countWrittenBy_44 rfl (lv_at hl 1 rfl) ?_
      exact C_iret hx hb hr hlocks hS hP hK hD (Nat.le_of_ble_eq_true rfl) (Nat.le_of_ble_eq_true rfl) dX1_countWrittenBy_45 ⟨by rw [← hk]; rfl, rfl⟩
    | cons x r ih =>
      intro o k H locs ls ho hm hk hP hD hS hl
      obtain ⟨ho, ho2⟩ := ho
      subst ho
      have hx9 := hm x List.mem_cons_self
      have hm2 : ∀ i, i ∈ r → i < S 0 0 := fun i hi => hm i (List.mem_cons_of_mem _ hi)
      have h1 := hR.2.2.2.1 x
      have hl : lv_has ls 5 [(4, .ref (G (100 + 3 * x))), (3, .int (nI k)), (0, .ref (G 0)), (1, .int (nI w9)), (2, .int (nI c9))] := hl
      refine lv_aload hx hb dX1_countWrittenBy_8 (lv_at hl 0 rfl) ?_
      refine lv_ifnull hx hb dX1_countWrittenBy_10 ?_
      refine lv_aload hx hb dX1_countWrittenBy_13 (lv_at hl 0 rfl) ?_
      refine va_getN (D := D) (ci := 0) (v := .int (nI (S 1 x))) (C := RX0) (T := TX0) (N := 8) (host := RX1) hx hb hts hiX0 hown hK hP (6 + (20 + x)) (CW_sg hx9) rfl 1 (by decide) (va_Nw.use rfl hX.2.2.2.2.2.1.2.2.1) (fun _ h9 => h9) rfl dX1_countWrittenBy_15 ?_
      refine lv_iload_n hx hb dX1_countWrittenBy_18 rfl (lv_at hl 3 rfl) ?_
      refine r_icmp_ne (tgt := 34) hx hb dX1_countWrittenBy_19 (by decide) (by omega) (by omega) (fun cE => ?_) (fun cE => ?_)
      · refine lv_aload hx hb dX1_countWrittenBy_34 (lv_at hl 0 rfl) ?_
        refine va_getN (D := D) (ci := 0) (v := va_rf ((nx x).map fun j => G (100 + 3 * j))) (C := RX0) (T := TX0) (N := 8) (host := RX1) hx hb hts hiX0 hown hK hP (6 + (20 + x)) (CW_sg hx9) rfl 5 (by decide) (va_Nw.use rfl hX.2.2.2.2.2.1.1) (fun _ h9 => h9) rfl dX1_countWrittenBy_36 ?_
        refine r_astoreq (lv' := [(4, va_rf ((nx x).map fun j => G (100 + 3 * j))), (3, .int (nI k)), (0, .ref (G 0)), (1, .int (nI w9)), (2, .int (nI c9))]) hx hb dX1_countWrittenBy_39 hl (by decide) rfl (fun ls hl => ?_)
        refine lv_goto (tgt := 8) hx hb dX1_countWrittenBy_41 (by decide) ?_
        exact ih (nx x) k _ _ ls ho2 hm2 (by rw [← hk, List.filter_cons]; split <;> simp [cntA, List.countP_cons, cE]) hP hD hS (lv_sub hl [0, 1, 2, 3, 4] rfl)
      · refine lv_aload hx hb dX1_countWrittenBy_22 (lv_at hl 0 rfl) ?_
        refine lv_iload_n hx hb dX1_countWrittenBy_24 rfl (lv_at hl 4 rfl) ?_
        refine K_i (va_runVN (As := [.int (nI c9)]) (rest := []) ⟨hx, hb, hml, hown, hts⟩ (c_X0_isInTextOf l hR hx9 hc9 _) ⟨va_cnB 1 hts gX1_countWrittenBy_X0_isInTextOf_n125 rfl rfl rfl hX.2.2.2.2.2.2.1.1 (hts (.initialized RX0) (by decide +kernel)) (by decide +kernel) ⟨Nat.le_of_ble_eq_true rfl, Nat.le_of_ble_eq_true rfl⟩, hts (.instanceMethod yX0_isInTextOf) (by decide +kernel), hts (.selects RX0 yX0_isInTextOf yX0_isInTextOf) (by decide +kernel)⟩ (pV hP hK hD hS hA hX (va_recv hK hP (ci := 0) (q0 := 6 + (20 + x)) rfl (CW_sg hx9))) rfl rfl hl.1 rfl (lv_room (Nat.le_of_ble_eq_true rfl)) dX1_countWrittenBy_25 ⟨Nat.le_of_ble_eq_true rfl, Nat.le_of_ble_eq_true rfl⟩) hD hS hA (fun r w'  H locs hp hP hD hS => ?_)
        obtain ⟨rfl, rfl⟩ := hp
        refine r_if_eq (tgt := 34) hx hb dX1_countWrittenBy_28 (by decide) (Nat.lt_trans (bN_lt _) (by decide)) (fun cV => ?_) (fun cV => ?_)
        · refine lv_aload hx hb dX1_countWrittenBy_34 (lv_at hl 0 rfl) ?_
          refine va_getN (D := D) (ci := 0) (v := va_rf ((nx x).map fun j => G (100 + 3 * j))) (C := RX0) (T := TX0) (N := 8) (host := RX1) hx hb hts hiX0 hown hK hP (6 + (20 + x)) (CW_sg hx9) rfl 5 (by decide) (va_Nw.use rfl hX.2.2.2.2.2.1.1) (fun _ h9 => h9) rfl dX1_countWrittenBy_36 ?_
          refine r_astoreq (lv' := [(4, va_rf ((nx x).map fun j => G (100 + 3 * j))), (3, .int (nI k)), (0, .ref (G 0)), (1, .int (nI w9)), (2, .int (nI c9))]) hx hb dX1_countWrittenBy_39 hl (by decide) rfl (fun ls hl => ?_)
          refine lv_goto (tgt := 8) hx hb dX1_countWrittenBy_41 (by decide) ?_
          exact ih (nx x) k _ _ ls ho2 hm2 (by rw [← hk, List.filter_cons, if_neg (by rw [bN_0.mp cV]; decide)]) hP hD hS (lv_sub hl [0, 1, 2, 3, 4] rfl)
        · refine lv_iinc (v := nI (k + 1)) (lv' := [(3, .int (nI (k + 1))), (4, .ref (G (100 + 3 * x))), (0, .ref (G 0)), (1, .int (nI w9)), (2, .int (nI c9))]) hx hb dX1_countWrittenBy_31 hl (k := 1) rfl (nI_inc _) (by decide) rfl (fun ls hl => ?_)
          refine lv_aload hx hb dX1_countWrittenBy_34 (lv_at hl 1 rfl) ?_
          refine va_getN (D := D) (ci := 0) (v := va_rf ((nx x).map fun j => G (100 + 3 * j))) (C := RX0) (T := TX0) (N := 8) (host := RX1) hx hb hts hiX0 hown hK hP (6 + (20 + x)) (CW_sg hx9) rfl 5 (by decide) (va_Nw.use rfl hX.2.2.2.2.2.1.1) (fun _ h9 => h9) rfl dX1_countWrittenBy_36 ?_
          refine r_astoreq (lv' := [(4, va_rf ((nx x).map fun j => G (100 + 3 * j))), (3, .int (nI (k + 1))), (0, .ref (G 0)), (1, .int (nI w9)), (2, .int (nI c9))]) hx hb dX1_countWrittenBy_39 hl (by decide) rfl (fun ls hl => ?_)
          refine lv_goto (tgt := 8) hx hb dX1_countWrittenBy_41 (by decide) ?_
          exact ih (nx x) (k + 1) _ _ ls ho2 hm2 (by rw [← hk, List.filter_cons, if_pos (bN_1.mp cV)]; simp [cntA, List.countP_cons, cE]; omega) hP hD hS (lv_sub hl [0, 1, 2, 3, 4] rfl)
  exact loop O hd 0 _ _ ls hO hOm (Nat.zero_add _) hP hD hS (lv_sub hl [0, 1, 2, 3, 4] rfl)
end
