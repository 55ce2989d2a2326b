/-! ===== the law: its wrappers ===== -/
section COREW
variable {l : Launch} {y : MethodName} {ws ws' : List Cond} {rm : Room} {D : va_G} {cy : Nat → ClassId} {av : List Value} {w : va_W} {mc ms maxL : Nat} {cc : ByteArray} {ret : Option FieldType} {hh : List (Nat × Nat × Nat × Nat)}
/-- a method with handlers -/
theorem CIW.of {post : Int32 → va_W → Prop} (hy : plainName y.cls = true) (hw : ws = Cond.codeWith y cc maxL ret hh :: ws') (hn : (lg_sl av).length ≤ maxL)
    (body : ∀ (p : Program) (e : Env) (s : State) (m : MethodId) (below : List Frame) (meth : Method) (c : Code) (A : Nat → Prop) (ls : Array Slot), Ent p y.cls ws cc maxL ret D cy s m av.toArray meth c w A → c.exceptionTable.toList = tableOf hh → lv_has ls maxL (lv_args 0 av) →
      W p l e rm s m av.toArray below meth c s.heap [] 0 0 (MQ below (va_Qi post (fun w' t => wB D cy A w' t) A) av.toArray s mc ms A) (F0 m 0 ls [])) : CI l y ws rm D cy av w post mc ms := fun sz => by
  refine va_MetW (cc := cc) (maxL := maxL) (ret := ret) (hh := hh) hy hw ?_
  intro p e s m args below meth c s₁ B hml hv
  have htab := vx_table (x := y) B (atoms_spec (ws := ws) B.pre _ (by rw [hw]; exact List.mem_cons_self))
  obtain ⟨rfl, hsz, E⟩ := Ent.of B hml hv
  have hl := lv_entry av (n := maxL) hn
  rw [lg_entry_eq]
  exact body p e s m below meth c _ _ E htab hl
end COREW
/-- after a call through the law's wrapper: its code, and the out cell -/
def WQ (cy : Nat → ClassId) (G : Nat → Nat) (Y : va_W) (u9 : Nat) (code : Nat) (val : Int64) (S2 : Nat → Nat → Nat) (O2 : List Nat) : Int32 → va_W → Prop := fun r w' => r = nI code ∧ ∃ (G' : Nat → Nat) (hd' : Option Nat) (nx' : Nat → Option Nat) (f' : Nat → Int64), G' 0 = G 0 ∧ w' = CW cy G' S2 hd' nx' ((u9, .inl (cy 1, 1, .inr (.inl f'))) :: Y) ∧ ChP nx' hd' O2 ∧ (code = 0 → f' 0 = val)
theorem alike_01 (S : Nat → Nat → Nat) (p0 p1 : Int32) : (spAreAlike S p0 p1).2.1 = 0 ∨ (spAreAlike S p0 p1).2.1 = nI 1 := by
  unfold spAreAlike
  split
  · exact Or.inl rfl
  · cases alB S (aN p0) (aN p1) (S 0 0)
    · exact Or.inl rfl
    · exact Or.inr rfl

theorem spInsert_keep {S : Nat → Nat → Nat} {O : List Nat} {p0 p1 p2 : Int32} (h : (spInsert S O p0 p1 p2).1 ≠ 0) : (spInsert S O p0 p1 p2).2.2 = S := by
  revert h
  unfold spInsert
  split <;> (try split) <;> (try split) <;> simp
theorem spRemove_keep {S : Nat → Nat → Nat} {O : List Nat} {p0 p1 : Int32} (h : (spRemove S O p0 p1).1 ≠ 0) : (spRemove S O p0 p1).2.2 = S := by
  revert h
  unfold spRemove
  split <;> (try split) <;> (try split) <;> simp
theorem spRestore_keep {S : Nat → Nat → Nat} {O : List Nat} {p0 p1 : Int32} (h : (spRestore S O p0 p1).1 ≠ 0) : (spRestore S O p0 p1).2.2 = S := by
  revert h
  unfold spRestore
  split <;> (try split) <;> (try split) <;> simp
theorem spLearn_keep {S : Nat → Nat → Nat} {p0 p1 : Int32} (h : (spLearn S p0 p1).1 ≠ 0) : (spLearn S p0 p1).2.2 = S := by
  revert h
  unfold spLearn
  split <;> (try split) <;> (try split) <;> simp
theorem spLength_keep {S : Nat → Nat → Nat} {O : List Nat} {p0 : Int32} (h : (spLength S O p0).1 ≠ 0) : (spLength S O p0).2.2 = S := by
  revert h
  unfold spLength
  split <;> (try split) <;> (try split) <;> simp
theorem spSignAt_keep {S : Nat → Nat → Nat} {O : List Nat} {p0 p1 : Int32} (h : (spSignAt S O p0 p1).1 ≠ 0) : (spSignAt S O p0 p1).2.2 = S := by
  revert h
  unfold spSignAt
  split <;> (try split) <;> (try split) <;> simp
theorem spLetterAt_keep {S : Nat → Nat → Nat} {O : List Nat} {p0 p1 : Int32} (h : (spLetterAt S O p0 p1).1 ≠ 0) : (spLetterAt S O p0 p1).2.2 = S := by
  revert h
  unfold spLetterAt
  split <;> (try split) <;> (try split) <;> simp
theorem spAreAlike_keep {S : Nat → Nat → Nat} {p0 p1 : Int32} (h : (spAreAlike S p0 p1).1 ≠ 0) : (spAreAlike S p0 p1).2.2 = S := by
  revert h
  unfold spAreAlike
  split <;> (try split) <;> (try split) <;> simp
theorem spAuthorOf_keep {S : Nat → Nat → Nat} {p0 : Int32} (h : (spAuthorOf S p0).1 ≠ 0) : (spAuthorOf S p0).2.2 = S := by
  revert h
  unfold spAuthorOf
  split <;> (try split) <;> (try split) <;> simp
theorem spBehind_keep {S : Nat → Nat → Nat} {p0 : Int32} (h : (spBehind S p0).1 ≠ 0) : (spBehind S p0).2.2 = S := by
  revert h
  unfold spBehind
  split <;> (try split) <;> (try split) <;> simp
theorem spClock_keep {S : Nat → Nat → Nat} {p0 : Int32} (h : (spClock S p0).1 ≠ 0) : (spClock S p0).2.2 = S := by
  revert h
  unfold spClock
  split <;> (try split) <;> (try split) <;> simp
theorem spPrint_keep {S : Nat → Nat → Nat} {O : List Nat} {p0 : Int32} (h : (spPrint S O p0).1 ≠ 0) : (spPrint S O p0).2.2 = S := by
  revert h
  unfold spPrint
  split <;> (try split) <;> (try split) <;> simp
theorem spPrinted_keep {S : Nat → Nat → Nat} {p0 p1 : Int32} (h : (spPrinted S p0 p1).1 ≠ 0) : (spPrinted S p0 p1).2.2 = S := by
  revert h
  unfold spPrinted
  split <;> (try split) <;> (try split) <;> simp
theorem spSetFloor_keep {S : Nat → Nat → Nat} {p0 : Int32} (h : (spSetFloor S p0).1 ≠ 0) : (spSetFloor S p0).2.2 = S := by
  revert h
  unfold spSetFloor
  split <;> (try split) <;> (try split) <;> simp
theorem spAdvance_keep {S : Nat → Nat → Nat} {p0 p1 : Int32} (h : (spAdvance S p0 p1).1 ≠ 0) : (spAdvance S p0 p1).2.2 = S := by
  revert h
  unfold spAdvance
  split <;> (try split) <;> (try split) <;> simp
theorem spSell_keep {S : Nat → Nat → Nat} {p0 p1 : Int32} (h : (spSell S p0 p1).1 ≠ 0) : (spSell S p0 p1).2.2 = S := by
  revert h
  unfold spSell
  split <;> (try split) <;> (try split) <;> simp
theorem spLeft_keep {S : Nat → Nat → Nat} {p0 : Int32} (h : (spLeft S p0).1 ≠ 0) : (spLeft S p0).2.2 = S := by
  revert h
  unfold spLeft
  split <;> (try split) <;> (try split) <;> simp
set_option maxHeartbeats 4000000 in
set_option maxRecDepth 100000 in
theorem c_L_insert (l : Launch) (hlf : l.stackTraces = false) {D : va_G} {cy : Nat → ClassId} {G : Nat → Nat} {S : Nat → Nat → Nat} {hd : Option Nat} {nx : Nat → Option Nat} {Y : va_W} {O : List Nat} (hI : Inv S O) (hO : ChP nx hd O) (hF : Few S) {u9 : Nat} {f0 : Nat → Int64} (p0 p1 p2 : Int32) : CI l yL_insert wsL_insert ({ frames := 9, cells := 10, slots := 60, locals := 157 } : Room) D cy [.ref (G 0), .int p0, .int p1, .int p2, .ref u9] (CW cy G S hd nx ((u9, .inl (cy 1, 1, .inr (.inl f0))) :: Y)) (WQ cy G Y u9 (spInsert S O p0 p1 p2).1 ((spInsert S O p0 p1 p2).2.1).toInt64 (spInsert S O p0 p1 p2).2.2 (if (spInsert S O p0 p1 p2).1 = 0 then ordI (spInsert S O p0 p1 p2).2.2 (S 0 0) O else O)) 10 60 := by
  refine CIW.of (hh := [(0, 12, 15, 13), (0, 12, 19, 15), (0, 12, 23, 17)]) (cc := cL_insert) (maxL := 6) (ret := (some .int)) (by decide) rfl (Nat.le_of_ble_eq_true rfl) ?_
  intro p e s m below meth c A ls E0 htab hl
  obtain ⟨hx, hb, hml, hown, hts, hr, hlocks, hA, hS, hP, hK, hD, hX⟩ := E0
  have hiX0 : ∀ w ∈ u_ws RX0 TX0 8, w ∈ wsL_insert := by decide +kernel
  have hiX1 : ∀ w ∈ u_ws RX1 TX1 9, w ∈ wsL_insert := by decide +kernel
  have hl : lv_has ls 6 [(0, .ref (G 0)), (1, .int p0), (2, .int p1), (3, .int p2), (4, .ref u9)] := hl
  refine lv_aload hx hb dL_insert_0 (lv_at hl 4 rfl) ?_
  refine lv_iconst (v := nI 0) hx hb dL_insert_2 (by decide) ?_
  refine lv_aload_n hx hb dL_insert_3 rfl (lv_at hl 0 rfl) ?_
  refine lv_iload_n hx hb dL_insert_4 rfl (lv_at hl 1 rfl) ?_
  refine lv_iload_n hx hb dL_insert_5 rfl (lv_at hl 2 rfl) ?_
  refine lv_iload_n hx hb dL_insert_6 rfl (lv_at hl 3 rfl) ?_
  refine Y_i (vx_runV (As := [.int p0, .int p1, .int p2]) (rest := [.int (nI 0), .ref u9]) ⟨hx, hb, hml, hown, hts⟩ (c_X1_insert l hlf hI hO hF p0 p1 p2 _) (cwV 3 hts gL_insert_X1_insert rfl rfl rfl (by decide +kernel) ⟨Nat.le_of_ble_eq_true rfl, Nat.le_of_ble_eq_true rfl⟩) (pV hP hK hD hS hA hX (va_recv hK hP (ci := 1) (q0 := 0) rfl rfl)) rfl rfl hl.1 rfl (lv_room (Nat.le_of_ble_eq_true rfl)) dL_insert_7 ⟨Nat.le_of_ble_eq_true rfl, Nat.le_of_ble_eq_true rfl⟩) hD hS hA (fun E ce q9 H locs hE hP hS ht => ?_) (fun r w'  H locs hp hP hD hS => ?_)
  · rcases hE with ⟨rfl, hE⟩ | ⟨rfl, hE⟩ | ⟨rfl, hE⟩
    · refine vx_catch (own := RL) (name := "java/lang/IllegalArgumentException") hown [] ⟨0, 12, 15, 13⟩ [⟨0, 12, 19, 15⟩, ⟨0, 12, 23, 17⟩] (by rw [htab]; rfl) (fun z hz => absurd hz List.not_mem_nil) (by decide) (by decide) (hts (.classLink RL 13 "java/lang/IllegalArgumentException") (by decide +kernel)) (va_Nw.use rfl hX.2.2.1.1) ht.1 ht.2.1 ht.2.2 ?_
      refine lv_astore (lv' := [(5, .ref q9), (0, .ref (G 0)), (1, .int p0), (2, .int p1), (3, .int p2), (4, .ref u9)]) hx hb dL_insert_15 hl (by decide) rfl (fun ls hl => ?_)
      refine lv_iconst (v := nI 1) hx hb dL_insert_17 (by decide) ?_
      exact C_iret hx hb hr hlocks hS hP hK hD (Nat.le_of_ble_eq_true rfl) (Nat.le_of_ble_eq_true rfl) dL_insert_18 ⟨by rw [hE], G, hd, nx, f0, rfl, by rw [spInsert_keep (by rw [hE]; decide)], by rw [if_neg (by rw [hE]; decide)]; exact hO, fun h => by rw [hE] at h; cases h⟩
    · refine vx_catch (own := RL) (name := "java/lang/IndexOutOfBoundsException") hown [⟨0, 12, 15, 13⟩] ⟨0, 12, 19, 15⟩ [⟨0, 12, 23, 17⟩] (by rw [htab]; rfl) (fun z hz => by obtain rfl := List.mem_singleton.mp hz; exact Or.inr ⟨by decide, "java/lang/IllegalArgumentException", hts (.classLink RL 13 "java/lang/IllegalArgumentException") (by decide +kernel), hX.2.2.2.2.2.2.2.2.1.2.2.2.2.1⟩) (by decide) (by decide) (hts (.classLink RL 15 "java/lang/IndexOutOfBoundsException") (by decide +kernel)) (va_Nw.use rfl hX.2.2.2.2.1.1) ht.1 ht.2.1 ht.2.2 ?_
      refine lv_astore (lv' := [(5, .ref q9), (0, .ref (G 0)), (1, .int p0), (2, .int p1), (3, .int p2), (4, .ref u9)]) hx hb dL_insert_19 hl (by decide) rfl (fun ls hl => ?_)
      refine lv_iconst (v := nI 2) hx hb dL_insert_21 (by decide) ?_
      exact C_iret hx hb hr hlocks hS hP hK hD (Nat.le_of_ble_eq_true rfl) (Nat.le_of_ble_eq_true rfl) dL_insert_22 ⟨by rw [hE], G, hd, nx, f0, rfl, by rw [spInsert_keep (by rw [hE]; decide)], by rw [if_neg (by rw [hE]; decide)]; exact hO, fun h => by rw [hE] at h; cases h⟩
    · refine vx_catch (own := RL) (name := "java/lang/IllegalStateException") hown [⟨0, 12, 15, 13⟩, ⟨0, 12, 19, 15⟩] ⟨0, 12, 23, 17⟩ [] (by rw [htab]; rfl) (fun z hz => by
        rcases List.mem_cons.mp hz with e9 | hz
        · rw [e9]; exact Or.inr ⟨(by decide : (13 : Nat) ≠ 0), "java/lang/IllegalArgumentException", hts (.classLink RL 13 "java/lang/IllegalArgumentException") (by decide +kernel), hX.2.2.2.2.2.2.2.2.1.2.2.1⟩
        · obtain rfl := List.mem_singleton.mp hz; exact Or.inr ⟨by decide, "java/lang/IndexOutOfBoundsException", hts (.classLink RL 15 "java/lang/IndexOutOfBoundsException") (by decide +kernel), hX.2.2.2.2.2.2.2.2.1.2.2.2.1⟩) (by decide) (by decide) (hts (.classLink RL 17 "java/lang/IllegalStateException") (by decide +kernel)) (va_Nw.use rfl hX.2.2.2.1.1) ht.1 ht.2.1 ht.2.2 ?_
      refine lv_astore (lv' := [(5, .ref q9), (0, .ref (G 0)), (1, .int p0), (2, .int p1), (3, .int p2), (4, .ref u9)]) hx hb dL_insert_23 hl (by decide) rfl (fun ls hl => ?_)
      refine lv_iconst (v := nI 3) hx hb dL_insert_25 (by decide) ?_
      exact C_iret hx hb hr hlocks hS hP hK hD (Nat.le_of_ble_eq_true rfl) (Nat.le_of_ble_eq_true rfl) dL_insert_26 ⟨by rw [hE], G, hd, nx, f0, rfl, by rw [spInsert_keep (by rw [hE]; decide)], by rw [if_neg (by rw [hE]; decide)]; exact hO, fun h => by rw [hE] at h; cases h⟩
  obtain ⟨h0, rfl, G', hd', nx', eG, rfl, hO'⟩ := hp
  refine lv_i2l (v := ((spInsert S O p0 p1 p2).2.1).toInt64) hx hb dL_insert_10 rfl ?_
  replace hP := P_perm (CW_front _).symm hP
  replace hD := D_perm (CW_front _).symm hD
  refine r_last (w' := (u9, .inl (cy 1, 1, .inr (.inl (vp_updL f0 0 (((spInsert S O p0 p1 p2).2.1).toInt64))))) :: CW cy G' ((spInsert S O p0 p1 p2).2.2) hd' nx' Y) hx hb hK hP hD hS 0 rfl (show 0 < 1 by decide) (by decide) dL_insert_11 rfl (fun H locs hP hD hS => ?_)
  replace hP := P_perm (CW_front _) hP
  replace hD := D_perm (CW_front _) hD
  refine lv_goto (tgt := 27) hx hb dL_insert_12 (by decide) ?_
  refine lv_iconst (v := nI 0) hx hb dL_insert_27 (by decide) ?_
  exact C_iret hx hb hr hlocks hS hP hK hD (Nat.le_of_ble_eq_true rfl) (Nat.le_of_ble_eq_true rfl) dL_insert_28 ⟨by rw [h0], G', hd', nx', _, eG, rfl, by rw [if_pos h0]; exact hO', fun _ => rfl⟩

set_option maxHeartbeats 4000000 in
set_option maxRecDepth 100000 in
theorem c_L_remove (l : Launch) (hlf : l.stackTraces = false) {D : va_G} {cy : Nat → ClassId} {G : Nat → Nat} {S : Nat → Nat → Nat} {hd : Option Nat} {nx : Nat → Option Nat} {Y : va_W} {O : List Nat} (hI : Inv S O) (hO : ChP nx hd O) {u9 : Nat} {f0 : Nat → Int64} (p0 p1 : Int32) : CI l yL_remove wsL_remove ({ frames := 9, cells := 10, slots := 60, locals := 155 } : Room) D cy [.ref (G 0), .int p0, .int p1, .ref u9] (CW cy G S hd nx ((u9, .inl (cy 1, 1, .inr (.inl f0))) :: Y)) (WQ cy G Y u9 (spRemove S O p0 p1).1 ((spRemove S O p0 p1).2.1).toInt64 (spRemove S O p0 p1).2.2 O) 10 60 := by
  refine CIW.of (hh := [(0, 10, 13, 13), (0, 10, 17, 15)]) (cc := cL_remove) (maxL := 5) (ret := (some .int)) (by decide) rfl (Nat.le_of_ble_eq_true rfl) ?_
  intro p e s m below meth c A ls E0 htab hl
  obtain ⟨hx, hb, hml, hown, hts, hr, hlocks, hA, hS, hP, hK, hD, hX⟩ := E0
  have hiX0 : ∀ w ∈ u_ws RX0 TX0 8, w ∈ wsL_remove := by decide +kernel
  have hiX1 : ∀ w ∈ u_ws RX1 TX1 9, w ∈ wsL_remove := by decide +kernel
  have hl : lv_has ls 5 [(0, .ref (G 0)), (1, .int p0), (2, .int p1), (3, .ref u9)] := hl
  refine lv_aload_n hx hb dL_remove_0 rfl (lv_at hl 3 rfl) ?_
  refine lv_iconst (v := nI 0) hx hb dL_remove_1 (by decide) ?_
  refine lv_aload_n hx hb dL_remove_2 rfl (lv_at hl 0 rfl) ?_
  refine lv_iload_n hx hb dL_remove_3 rfl (lv_at hl 1 rfl) ?_
  refine lv_iload_n hx hb dL_remove_4 rfl (lv_at hl 2 rfl) ?_
  refine Y_i (vx_runV (As := [.int p0, .int p1]) (rest := [.int (nI 0), .ref u9]) ⟨hx, hb, hml, hown, hts⟩ (c_X1_remove l hlf hI hO p0 p1 _) (cwV 2 hts gL_remove_X1_remove rfl rfl rfl (by decide +kernel) ⟨Nat.le_of_ble_eq_true rfl, Nat.le_of_ble_eq_true rfl⟩) (pV hP hK hD hS hA hX (va_recv hK hP (ci := 1) (q0 := 0) rfl rfl)) rfl rfl hl.1 rfl (lv_room (Nat.le_of_ble_eq_true rfl)) dL_remove_5 ⟨Nat.le_of_ble_eq_true rfl, Nat.le_of_ble_eq_true rfl⟩) hD hS hA (fun E ce q9 H locs hE hP hS ht => ?_) (fun r w'  H locs hp hP hD hS => ?_)
  · rcases hE with ⟨rfl, hE⟩ | ⟨rfl, hE⟩
    · refine vx_catch (own := RL) (name := "java/lang/IllegalArgumentException") hown [] ⟨0, 10, 13, 13⟩ [⟨0, 10, 17, 15⟩] (by rw [htab]; rfl) (fun z hz => absurd hz List.not_mem_nil) (by decide) (by decide) (hts (.classLink RL 13 "java/lang/IllegalArgumentException") (by decide +kernel)) (va_Nw.use rfl hX.2.2.1.1) ht.1 ht.2.1 ht.2.2 ?_
      refine lv_astore (lv' := [(4, .ref q9), (0, .ref (G 0)), (1, .int p0), (2, .int p1), (3, .ref u9)]) hx hb dL_remove_13 hl (by decide) rfl (fun ls hl => ?_)
      refine lv_iconst (v := nI 1) hx hb dL_remove_15 (by decide) ?_
      exact C_iret hx hb hr hlocks hS hP hK hD (Nat.le_of_ble_eq_true rfl) (Nat.le_of_ble_eq_true rfl) dL_remove_16 ⟨by rw [hE], G, hd, nx, f0, rfl, by rw [spRemove_keep (by rw [hE]; decide)], hO, fun h => by rw [hE] at h; cases h⟩
    · refine vx_catch (own := RL) (name := "java/lang/IndexOutOfBoundsException") hown [⟨0, 10, 13, 13⟩] ⟨0, 10, 17, 15⟩ [] (by rw [htab]; rfl) (fun z hz => by obtain rfl := List.mem_singleton.mp hz; exact Or.inr ⟨by decide, "java/lang/IllegalArgumentException", hts (.classLink RL 13 "java/lang/IllegalArgumentException") (by decide +kernel), hX.2.2.2.2.2.2.2.2.1.2.2.2.2.1⟩) (by decide) (by decide) (hts (.classLink RL 15 "java/lang/IndexOutOfBoundsException") (by decide +kernel)) (va_Nw.use rfl hX.2.2.2.2.1.1) ht.1 ht.2.1 ht.2.2 ?_
      refine lv_astore (lv' := [(4, .ref q9), (0, .ref (G 0)), (1, .int p0), (2, .int p1), (3, .ref u9)]) hx hb dL_remove_17 hl (by decide) rfl (fun ls hl => ?_)
      refine lv_iconst (v := nI 2) hx hb dL_remove_19 (by decide) ?_
      exact C_iret hx hb hr hlocks hS hP hK hD (Nat.le_of_ble_eq_true rfl) (Nat.le_of_ble_eq_true rfl) dL_remove_20 ⟨by rw [hE], G, hd, nx, f0, rfl, by rw [spRemove_keep (by rw [hE]; decide)], hO, fun h => by rw [hE] at h; cases h⟩
  obtain ⟨h0, rfl, rfl⟩ := hp
  refine lv_i2l (v := ((spRemove S O p0 p1).2.1).toInt64) hx hb dL_remove_8 rfl ?_
  replace hP := P_perm (CW_front _).symm hP
  replace hD := D_perm (CW_front _).symm hD
  refine r_last (w' := (u9, .inl (cy 1, 1, .inr (.inl (vp_updL f0 0 (((spRemove S O p0 p1).2.1).toInt64))))) :: CW cy G ((spRemove S O p0 p1).2.2) hd nx Y) hx hb hK hP hD hS 0 rfl (show 0 < 1 by decide) (by decide) dL_remove_9 rfl (fun H locs hP hD hS => ?_)
  replace hP := P_perm (CW_front _) hP
  replace hD := D_perm (CW_front _) hD
  refine lv_goto (tgt := 21) hx hb dL_remove_10 (by decide) ?_
  refine lv_iconst (v := nI 0) hx hb dL_remove_21 (by decide) ?_
  exact C_iret hx hb hr hlocks hS hP hK hD (Nat.le_of_ble_eq_true rfl) (Nat.le_of_ble_eq_true rfl) dL_remove_22 ⟨by rw [h0], G, hd, nx, _, rfl, rfl, hO, fun _ => rfl⟩

set_option maxHeartbeats 4000000 in
set_option maxRecDepth 100000 in
theorem c_L_restore (l : Launch) (hlf : l.stackTraces = false) {D : va_G} {cy : Nat → ClassId} {G : Nat → Nat} {S : Nat → Nat → Nat} {hd : Option Nat} {nx : Nat → Option Nat} {Y : va_W} {O : List Nat} (hI : Inv S O) (hO : ChP nx hd O) (hF : Few S) {u9 : Nat} {f0 : Nat → Int64} (p0 p1 : Int32) : CI l yL_restore wsL_restore ({ frames := 9, cells := 10, slots := 60, locals := 155 } : Room) D cy [.ref (G 0), .int p0, .int p1, .ref u9] (CW cy G S hd nx ((u9, .inl (cy 1, 1, .inr (.inl f0))) :: Y)) (WQ cy G Y u9 (spRestore S O p0 p1).1 ((spRestore S O p0 p1).2.1).toInt64 (spRestore S O p0 p1).2.2 O) 10 60 := by
  refine CIW.of (hh := [(0, 10, 13, 15), (0, 10, 17, 13), (0, 10, 21, 17)]) (cc := cL_restore) (maxL := 5) (ret := (some .int)) (by decide) rfl (Nat.le_of_ble_eq_true rfl) ?_
  intro p e s m below meth c A ls E0 htab hl
  obtain ⟨hx, hb, hml, hown, hts, hr, hlocks, hA, hS, hP, hK, hD, hX⟩ := E0
  have hiX0 : ∀ w ∈ u_ws RX0 TX0 8, w ∈ wsL_restore := by decide +kernel
  have hiX1 : ∀ w ∈ u_ws RX1 TX1 9, w ∈ wsL_restore := by decide +kernel
  have hl : lv_has ls 5 [(0, .ref (G 0)), (1, .int p0), (2, .int p1), (3, .ref u9)] := hl
  refine lv_aload_n hx hb dL_restore_0 rfl (lv_at hl 3 rfl) ?_
  refine lv_iconst (v := nI 0) hx hb dL_restore_1 (by decide) ?_
  refine lv_aload_n hx hb dL_restore_2 rfl (lv_at hl 0 rfl) ?_
  refine lv_iload_n hx hb dL_restore_3 rfl (lv_at hl 1 rfl) ?_
  refine lv_iload_n hx hb dL_restore_4 rfl (lv_at hl 2 rfl) ?_
  refine Y_i (vx_runV (As := [.int p0, .int p1]) (rest := [.int (nI 0), .ref u9]) ⟨hx, hb, hml, hown, hts⟩ (c_X1_restore l hlf hI hO hF p0 p1 _) (cwV 2 hts gL_restore_X1_restore rfl rfl rfl (by decide +kernel) ⟨Nat.le_of_ble_eq_true rfl, Nat.le_of_ble_eq_true rfl⟩) (pV hP hK hD hS hA hX (va_recv hK hP (ci := 1) (q0 := 0) rfl rfl)) rfl rfl hl.1 rfl (lv_room (Nat.le_of_ble_eq_true rfl)) dL_restore_5 ⟨Nat.le_of_ble_eq_true rfl, Nat.le_of_ble_eq_true rfl⟩) hD hS hA (fun E ce q9 H locs hE hP hS ht => ?_) (fun r w'  H locs hp hP hD hS => ?_)
  · rcases hE with ⟨rfl, hE⟩ | ⟨rfl, hE⟩ | ⟨rfl, hE⟩
    · refine vx_catch (own := RL) (name := "java/lang/IndexOutOfBoundsException") hown [] ⟨0, 10, 13, 15⟩ [⟨0, 10, 17, 13⟩, ⟨0, 10, 21, 17⟩] (by rw [htab]; rfl) (fun z hz => absurd hz List.not_mem_nil) (by decide) (by decide) (hts (.classLink RL 15 "java/lang/IndexOutOfBoundsException") (by decide +kernel)) (va_Nw.use rfl hX.2.2.2.2.1.1) ht.1 ht.2.1 ht.2.2 ?_
      refine lv_astore (lv' := [(4, .ref q9), (0, .ref (G 0)), (1, .int p0), (2, .int p1), (3, .ref u9)]) hx hb dL_restore_13 hl (by decide) rfl (fun ls hl => ?_)
      refine lv_iconst (v := nI 1) hx hb dL_restore_15 (by decide) ?_
      exact C_iret hx hb hr hlocks hS hP hK hD (Nat.le_of_ble_eq_true rfl) (Nat.le_of_ble_eq_true rfl) dL_restore_16 ⟨by rw [hE], G, hd, nx, f0, rfl, by rw [spRestore_keep (by rw [hE]; decide)], hO, fun h => by rw [hE] at h; cases h⟩
    · refine vx_catch (own := RL) (name := "java/lang/IllegalArgumentException") hown [⟨0, 10, 13, 15⟩] ⟨0, 10, 17, 13⟩ [⟨0, 10, 21, 17⟩] (by rw [htab]; rfl) (fun z hz => by obtain rfl := List.mem_singleton.mp hz; exact Or.inr ⟨by decide, "java/lang/IndexOutOfBoundsException", hts (.classLink RL 15 "java/lang/IndexOutOfBoundsException") (by decide +kernel), hX.2.2.2.2.2.2.2.2.1.2.1⟩) (by decide) (by decide) (hts (.classLink RL 13 "java/lang/IllegalArgumentException") (by decide +kernel)) (va_Nw.use rfl hX.2.2.1.1) ht.1 ht.2.1 ht.2.2 ?_
      refine lv_astore (lv' := [(4, .ref q9), (0, .ref (G 0)), (1, .int p0), (2, .int p1), (3, .ref u9)]) hx hb dL_restore_17 hl (by decide) rfl (fun ls hl => ?_)
      refine lv_iconst (v := nI 2) hx hb dL_restore_19 (by decide) ?_
      exact C_iret hx hb hr hlocks hS hP hK hD (Nat.le_of_ble_eq_true rfl) (Nat.le_of_ble_eq_true rfl) dL_restore_20 ⟨by rw [hE], G, hd, nx, f0, rfl, by rw [spRestore_keep (by rw [hE]; decide)], hO, fun h => by rw [hE] at h; cases h⟩
    · refine vx_catch (own := RL) (name := "java/lang/IllegalStateException") hown [⟨0, 10, 13, 15⟩, ⟨0, 10, 17, 13⟩] ⟨0, 10, 21, 17⟩ [] (by rw [htab]; rfl) (fun z hz => by
        rcases List.mem_cons.mp hz with e9 | hz
        · rw [e9]; exact Or.inr ⟨(by decide : (15 : Nat) ≠ 0), "java/lang/IndexOutOfBoundsException", hts (.classLink RL 15 "java/lang/IndexOutOfBoundsException") (by decide +kernel), hX.2.2.2.2.2.2.2.2.1.2.2.2.1⟩
        · obtain rfl := List.mem_singleton.mp hz; exact Or.inr ⟨by decide, "java/lang/IllegalArgumentException", hts (.classLink RL 13 "java/lang/IllegalArgumentException") (by decide +kernel), hX.2.2.2.2.2.2.2.2.1.2.2.1⟩) (by decide) (by decide) (hts (.classLink RL 17 "java/lang/IllegalStateException") (by decide +kernel)) (va_Nw.use rfl hX.2.2.2.1.1) ht.1 ht.2.1 ht.2.2 ?_
      refine lv_astore (lv' := [(4, .ref q9), (0, .ref (G 0)), (1, .int p0), (2, .int p1), (3, .ref u9)]) hx hb dL_restore_21 hl (by decide) rfl (fun ls hl => ?_)
      refine lv_iconst (v := nI 3) hx hb dL_restore_23 (by decide) ?_
      exact C_iret hx hb hr hlocks hS hP hK hD (Nat.le_of_ble_eq_true rfl) (Nat.le_of_ble_eq_true rfl) dL_restore_24 ⟨by rw [hE], G, hd, nx, f0, rfl, by rw [spRestore_keep (by rw [hE]; decide)], hO, fun h => by rw [hE] at h; cases h⟩
  obtain ⟨h0, rfl, rfl⟩ := hp
  refine lv_i2l (v := ((spRestore S O p0 p1).2.1).toInt64) hx hb dL_restore_8 rfl ?_
  replace hP := P_perm (CW_front _).symm hP
  replace hD := D_perm (CW_front _).symm hD
  refine r_last (w' := (u9, .inl (cy 1, 1, .inr (.inl (vp_updL f0 0 (((spRestore S O p0 p1).2.1).toInt64))))) :: CW cy G ((spRestore S O p0 p1).2.2) hd nx Y) hx hb hK hP hD hS 0 rfl (show 0 < 1 by decide) (by decide) dL_restore_9 rfl (fun H locs hP hD hS => ?_)
  replace hP := P_perm (CW_front _) hP
  replace hD := D_perm (CW_front _) hD
  refine lv_goto (tgt := 25) hx hb dL_restore_10 (by decide) ?_
  refine lv_iconst (v := nI 0) hx hb dL_restore_25 (by decide) ?_
  exact C_iret hx hb hr hlocks hS hP hK hD (Nat.le_of_ble_eq_true rfl) (Nat.le_of_ble_eq_true rfl) dL_restore_26 ⟨by rw [h0], G, hd, nx, _, rfl, rfl, hO, fun _ => rfl⟩

set_option maxHeartbeats 4000000 in
set_option maxRecDepth 100000 in
theorem c_L_learn (l : Launch) (hlf : l.stackTraces = false) {D : va_G} {cy : Nat → ClassId} {G : Nat → Nat} {S : Nat → Nat → Nat} {hd : Option Nat} {nx : Nat → Option Nat} {Y : va_W} {O : List Nat} (hI : Inv S O) (hO : ChP nx hd O) {u9 : Nat} {f0 : Nat → Int64} (p0 p1 : Int32) : CI l yL_learn wsL_learn ({ frames := 9, cells := 10, slots := 60, locals := 156 } : Room) D cy [.ref (G 0), .int p0, .int p1, .ref u9] (CW cy G S hd nx ((u9, .inl (cy 1, 1, .inr (.inl f0))) :: Y)) (WQ cy G Y u9 (spLearn S p0 p1).1 ((spLearn S p0 p1).2.1).toInt64 (spLearn S p0 p1).2.2 O) 10 60 := by
  refine CIW.of (hh := [(0, 10, 13, 13)]) (cc := cL_learn) (maxL := 5) (ret := (some .int)) (by decide) rfl (Nat.le_of_ble_eq_true rfl) ?_
  intro p e s m below meth c A ls E0 htab hl
  obtain ⟨hx, hb, hml, hown, hts, hr, hlocks, hA, hS, hP, hK, hD, hX⟩ := E0
  have hiX0 : ∀ w ∈ u_ws RX0 TX0 8, w ∈ wsL_learn := by decide +kernel
  have hiX1 : ∀ w ∈ u_ws RX1 TX1 9, w ∈ wsL_learn := by decide +kernel
  have hl : lv_has ls 5 [(0, .ref (G 0)), (1, .int p0), (2, .int p1), (3, .ref u9)] := hl
  refine lv_aload_n hx hb dL_learn_0 rfl (lv_at hl 3 rfl) ?_
  refine lv_iconst (v := nI 0) hx hb dL_learn_1 (by decide) ?_
  refine lv_aload_n hx hb dL_learn_2 rfl (lv_at hl 0 rfl) ?_
  refine lv_iload_n hx hb dL_learn_3 rfl (lv_at hl 1 rfl) ?_
  refine lv_iload_n hx hb dL_learn_4 rfl (lv_at hl 2 rfl) ?_
  refine Y_i (vx_runV (As := [.int p0, .int p1]) (rest := [.int (nI 0), .ref u9]) ⟨hx, hb, hml, hown, hts⟩ (c_X1_learn l hlf hI hO p0 p1 _) (cwV 2 hts gL_learn_X1_learn rfl rfl rfl (by decide +kernel) ⟨Nat.le_of_ble_eq_true rfl, Nat.le_of_ble_eq_true rfl⟩) (pV hP hK hD hS hA hX (va_recv hK hP (ci := 1) (q0 := 0) rfl rfl)) rfl rfl hl.1 rfl (lv_room (Nat.le_of_ble_eq_true rfl)) dL_learn_5 ⟨Nat.le_of_ble_eq_true rfl, Nat.le_of_ble_eq_true rfl⟩) hD hS hA (fun E ce q9 H locs hE hP hS ht => ?_) (fun r w'  H locs hp hP hD hS => ?_)
  · rcases hE with ⟨rfl, hE⟩
    refine vx_catch (own := RL) (name := "java/lang/IllegalArgumentException") hown [] ⟨0, 10, 13, 13⟩ [] (by rw [htab]; rfl) (fun z hz => absurd hz List.not_mem_nil) (by decide) (by decide) (hts (.classLink RL 13 "java/lang/IllegalArgumentException") (by decide +kernel)) (va_Nw.use rfl hX.2.2.1.1) ht.1 ht.2.1 ht.2.2 ?_
    refine lv_astore (lv' := [(4, .ref q9), (0, .ref (G 0)), (1, .int p0), (2, .int p1), (3, .ref u9)]) hx hb dL_learn_13 hl (by decide) rfl (fun ls hl => ?_)
    refine lv_iconst (v := nI 1) hx hb dL_learn_15 (by decide) ?_
    exact C_iret hx hb hr hlocks hS hP hK hD (Nat.le_of_ble_eq_true rfl) (Nat.le_of_ble_eq_true rfl) dL_learn_16 ⟨by rw [hE], G, hd, nx, f0, rfl, by rw [spLearn_keep (by rw [hE]; decide)], hO, fun h => by rw [hE] at h; cases h⟩
  obtain ⟨h0, rfl, rfl⟩ := hp
  refine lv_i2l (v := ((spLearn S p0 p1).2.1).toInt64) hx hb dL_learn_8 rfl ?_
  replace hP := P_perm (CW_front _).symm hP
  replace hD := D_perm (CW_front _).symm hD
  refine r_last (w' := (u9, .inl (cy 1, 1, .inr (.inl (vp_updL f0 0 (((spLearn S p0 p1).2.1).toInt64))))) :: CW cy G ((spLearn S p0 p1).2.2) hd nx Y) hx hb hK hP hD hS 0 rfl (show 0 < 1 by decide) (by decide) dL_learn_9 rfl (fun H locs hP hD hS => ?_)
  replace hP := P_perm (CW_front _) hP
  replace hD := D_perm (CW_front _) hD
  refine lv_goto (tgt := 17) hx hb dL_learn_10 (by decide) ?_
  refine lv_iconst (v := nI 0) hx hb dL_learn_17 (by decide) ?_
  exact C_iret hx hb hr hlocks hS hP hK hD (Nat.le_of_ble_eq_true rfl) (Nat.le_of_ble_eq_true rfl) dL_learn_18 ⟨by rw [h0], G, hd, nx, _, rfl, rfl, hO, fun _ => rfl⟩

set_option maxHeartbeats 4000000 in
set_option maxRecDepth 100000 in
theorem c_L_length (l : Launch) (hlf : l.stackTraces = false) {D : va_G} {cy : Nat → ClassId} {G : Nat → Nat} {S : Nat → Nat → Nat} {hd : Option Nat} {nx : Nat → Option Nat} {Y : va_W} {O : List Nat} (hI : Inv S O) (hO : ChP nx hd O) {u9 : Nat} {f0 : Nat → Int64} (p0 : Int32) : CI l yL_length wsL_length ({ frames := 9, cells := 10, slots := 60, locals := 153 } : Room) D cy [.ref (G 0), .int p0, .ref u9] (CW cy G S hd nx ((u9, .inl (cy 1, 1, .inr (.inl f0))) :: Y)) (WQ cy G Y u9 (spLength S O p0).1 ((spLength S O p0).2.1).toInt64 (spLength S O p0).2.2 O) 10 60 := by
  refine CIW.of (hh := [(0, 9, 12, 13)]) (cc := cL_length) (maxL := 4) (ret := (some .int)) (by decide) rfl (Nat.le_of_ble_eq_true rfl) ?_
  intro p e s m below meth c A ls E0 htab hl
  obtain ⟨hx, hb, hml, hown, hts, hr, hlocks, hA, hS, hP, hK, hD, hX⟩ := E0
  have hiX0 : ∀ w ∈ u_ws RX0 TX0 8, w ∈ wsL_length := by decide +kernel
  have hiX1 : ∀ w ∈ u_ws RX1 TX1 9, w ∈ wsL_length := by decide +kernel
  have hl : lv_has ls 4 [(0, .ref (G 0)), (1, .int p0), (2, .ref u9)] := hl
  refine lv_aload_n hx hb dL_length_0 rfl (lv_at hl 2 rfl) ?_
  refine lv_iconst (v := nI 0) hx hb dL_length_1 (by decide) ?_
  refine lv_aload_n hx hb dL_length_2 rfl (lv_at hl 0 rfl) ?_
  refine lv_iload_n hx hb dL_length_3 rfl (lv_at hl 1 rfl) ?_
  refine Y_i (vx_runV (As := [.int p0]) (rest := [.int (nI 0), .ref u9]) ⟨hx, hb, hml, hown, hts⟩ (c_X1_length l hlf hI hO p0 _) (cwV 1 hts gL_length_X1_length rfl rfl rfl (by decide +kernel) ⟨Nat.le_of_ble_eq_true rfl, Nat.le_of_ble_eq_true rfl⟩) (pV hP hK hD hS hA hX (va_recv hK hP (ci := 1) (q0 := 0) rfl rfl)) rfl rfl hl.1 rfl (lv_room (Nat.le_of_ble_eq_true rfl)) dL_length_4 ⟨Nat.le_of_ble_eq_true rfl, Nat.le_of_ble_eq_true rfl⟩) hD hS hA (fun E ce q9 H locs hE hP hS ht => ?_) (fun r w'  H locs hp hP hD hS => ?_)
  · rcases hE with ⟨rfl, hE⟩
    refine vx_catch (own := RL) (name := "java/lang/IllegalArgumentException") hown [] ⟨0, 9, 12, 13⟩ [] (by rw [htab]; rfl) (fun z hz => absurd hz List.not_mem_nil) (by decide) (by decide) (hts (.classLink RL 13 "java/lang/IllegalArgumentException") (by decide +kernel)) (va_Nw.use rfl hX.2.2.1.1) ht.1 ht.2.1 ht.2.2 ?_
    refine lv_astore_n (lv' := [(3, .ref q9), (0, .ref (G 0)), (1, .int p0), (2, .ref u9)]) hx hb dL_length_12 rfl hl (by decide) rfl (fun ls hl => ?_)
    refine lv_iconst (v := nI 1) hx hb dL_length_13 (by decide) ?_
    exact C_iret hx hb hr hlocks hS hP hK hD (Nat.le_of_ble_eq_true rfl) (Nat.le_of_ble_eq_true rfl) dL_length_14 ⟨by rw [hE], G, hd, nx, f0, rfl, by rw [spLength_keep (by rw [hE]; decide)], hO, fun h => by rw [hE] at h; cases h⟩
  obtain ⟨h0, rfl, rfl⟩ := hp
  refine lv_i2l (v := ((spLength S O p0).2.1).toInt64) hx hb dL_length_7 rfl ?_
  replace hP := P_perm (CW_front _).symm hP
  replace hD := D_perm (CW_front _).symm hD
  refine r_last (w' := (u9, .inl (cy 1, 1, .inr (.inl (vp_updL f0 0 (((spLength S O p0).2.1).toInt64))))) :: CW cy G ((spLength S O p0).2.2) hd nx Y) hx hb hK hP hD hS 0 rfl (show 0 < 1 by decide) (by decide) dL_length_8 rfl (fun H locs hP hD hS => ?_)
  replace hP := P_perm (CW_front _) hP
  replace hD := D_perm (CW_front _) hD
  refine lv_goto (tgt := 15) hx hb dL_length_9 (by decide) ?_
  refine lv_iconst (v := nI 0) hx hb dL_length_15 (by decide) ?_
  exact C_iret hx hb hr hlocks hS hP hK hD (Nat.le_of_ble_eq_true rfl) (Nat.le_of_ble_eq_true rfl) dL_length_16 ⟨by rw [h0], G, hd, nx, _, rfl, rfl, hO, fun _ => rfl⟩

set_option maxHeartbeats 4000000 in
set_option maxRecDepth 100000 in
theorem c_L_signAt (l : Launch) (hlf : l.stackTraces = false) {D : va_G} {cy : Nat → ClassId} {G : Nat → Nat} {S : Nat → Nat → Nat} {hd : Option Nat} {nx : Nat → Option Nat} {Y : va_W} {O : List Nat} (hI : Inv S O) (hO : ChP nx hd O) {u9 : Nat} {f0 : Nat → Int64} (p0 p1 : Int32) : CI l yL_signAt wsL_signAt ({ frames := 9, cells := 10, slots := 60, locals := 154 } : Room) D cy [.ref (G 0), .int p0, .int p1, .ref u9] (CW cy G S hd nx ((u9, .inl (cy 1, 1, .inr (.inl f0))) :: Y)) (WQ cy G Y u9 (spSignAt S O p0 p1).1 ((spSignAt S O p0 p1).2.1).toInt64 (spSignAt S O p0 p1).2.2 O) 10 60 := by
  refine CIW.of (hh := [(0, 10, 13, 13), (0, 10, 17, 15)]) (cc := cL_signAt) (maxL := 5) (ret := (some .int)) (by decide) rfl (Nat.le_of_ble_eq_true rfl) ?_
  intro p e s m below meth c A ls E0 htab hl
  obtain ⟨hx, hb, hml, hown, hts, hr, hlocks, hA, hS, hP, hK, hD, hX⟩ := E0
  have hiX0 : ∀ w ∈ u_ws RX0 TX0 8, w ∈ wsL_signAt := by decide +kernel
  have hiX1 : ∀ w ∈ u_ws RX1 TX1 9, w ∈ wsL_signAt := by decide +kernel
  have hl : lv_has ls 5 [(0, .ref (G 0)), (1, .int p0), (2, .int p1), (3, .ref u9)] := hl
  refine lv_aload_n hx hb dL_signAt_0 rfl (lv_at hl 3 rfl) ?_
  refine lv_iconst (v := nI 0) hx hb dL_signAt_1 (by decide) ?_
  refine lv_aload_n hx hb dL_signAt_2 rfl (lv_at hl 0 rfl) ?_
  refine lv_iload_n hx hb dL_signAt_3 rfl (lv_at hl 1 rfl) ?_
  refine lv_iload_n hx hb dL_signAt_4 rfl (lv_at hl 2 rfl) ?_
  refine Y_i (vx_runV (As := [.int p0, .int p1]) (rest := [.int (nI 0), .ref u9]) ⟨hx, hb, hml, hown, hts⟩ (c_X1_signAt l hlf hI hO p0 p1 _) (cwV 2 hts gL_signAt_X1_signAt rfl rfl rfl (by decide +kernel) ⟨Nat.le_of_ble_eq_true rfl, Nat.le_of_ble_eq_true rfl⟩) (pV hP hK hD hS hA hX (va_recv hK hP (ci := 1) (q0 := 0) rfl rfl)) rfl rfl hl.1 rfl (lv_room (Nat.le_of_ble_eq_true rfl)) dL_signAt_5 ⟨Nat.le_of_ble_eq_true rfl, Nat.le_of_ble_eq_true rfl⟩) hD hS hA (fun E ce q9 H locs hE hP hS ht => ?_) (fun r w'  H locs hp hP hD hS => ?_)
  · rcases hE with ⟨rfl, hE⟩ | ⟨rfl, hE⟩
    · refine vx_catch (own := RL) (name := "java/lang/IllegalArgumentException") hown [] ⟨0, 10, 13, 13⟩ [⟨0, 10, 17, 15⟩] (by rw [htab]; rfl) (fun z hz => absurd hz List.not_mem_nil) (by decide) (by decide) (hts (.classLink RL 13 "java/lang/IllegalArgumentException") (by decide +kernel)) (va_Nw.use rfl hX.2.2.1.1) ht.1 ht.2.1 ht.2.2 ?_
      refine lv_astore (lv' := [(4, .ref q9), (0, .ref (G 0)), (1, .int p0), (2, .int p1), (3, .ref u9)]) hx hb dL_signAt_13 hl (by decide) rfl (fun ls hl => ?_)
      refine lv_iconst (v := nI 1) hx hb dL_signAt_15 (by decide) ?_
      exact C_iret hx hb hr hlocks hS hP hK hD (Nat.le_of_ble_eq_true rfl) (Nat.le_of_ble_eq_true rfl) dL_signAt_16 ⟨by rw [hE], G, hd, nx, f0, rfl, by rw [spSignAt_keep (by rw [hE]; decide)], hO, fun h => by rw [hE] at h; cases h⟩
    · refine vx_catch (own := RL) (name := "java/lang/IndexOutOfBoundsException") hown [⟨0, 10, 13, 13⟩] ⟨0, 10, 17, 15⟩ [] (by rw [htab]; rfl) (fun z hz => by obtain rfl := List.mem_singleton.mp hz; exact Or.inr ⟨by decide, "java/lang/IllegalArgumentException", hts (.classLink RL 13 "java/lang/IllegalArgumentException") (by decide +kernel), hX.2.2.2.2.2.2.2.2.1.2.2.2.2.1⟩) (by decide) (by decide) (hts (.classLink RL 15 "java/lang/IndexOutOfBoundsException") (by decide +kernel)) (va_Nw.use rfl hX.2.2.2.2.1.1) ht.1 ht.2.1 ht.2.2 ?_
      refine lv_astore (lv' := [(4, .ref q9), (0, .ref (G 0)), (1, .int p0), (2, .int p1), (3, .ref u9)]) hx hb dL_signAt_17 hl (by decide) rfl (fun ls hl => ?_)
      refine lv_iconst (v := nI 2) hx hb dL_signAt_19 (by decide) ?_
      exact C_iret hx hb hr hlocks hS hP hK hD (Nat.le_of_ble_eq_true rfl) (Nat.le_of_ble_eq_true rfl) dL_signAt_20 ⟨by rw [hE], G, hd, nx, f0, rfl, by rw [spSignAt_keep (by rw [hE]; decide)], hO, fun h => by rw [hE] at h; cases h⟩
  obtain ⟨h0, rfl, rfl⟩ := hp
  refine lv_i2l (v := ((spSignAt S O p0 p1).2.1).toInt64) hx hb dL_signAt_8 rfl ?_
  replace hP := P_perm (CW_front _).symm hP
  replace hD := D_perm (CW_front _).symm hD
  refine r_last (w' := (u9, .inl (cy 1, 1, .inr (.inl (vp_updL f0 0 (((spSignAt S O p0 p1).2.1).toInt64))))) :: CW cy G ((spSignAt S O p0 p1).2.2) hd nx Y) hx hb hK hP hD hS 0 rfl (show 0 < 1 by decide) (by decide) dL_signAt_9 rfl (fun H locs hP hD hS => ?_)
  replace hP := P_perm (CW_front _) hP
  replace hD := D_perm (CW_front _) hD
  refine lv_goto (tgt := 21) hx hb dL_signAt_10 (by decide) ?_
  refine lv_iconst (v := nI 0) hx hb dL_signAt_21 (by decide) ?_
  exact C_iret hx hb hr hlocks hS hP hK hD (Nat.le_of_ble_eq_true rfl) (Nat.le_of_ble_eq_true rfl) dL_signAt_22 ⟨by rw [h0], G, hd, nx, _, rfl, rfl, hO, fun _ => rfl⟩

set_option maxHeartbeats 4000000 in
set_option maxRecDepth 100000 in
theorem c_L_letterAt (l : Launch) (hlf : l.stackTraces = false) {D : va_G} {cy : Nat → ClassId} {G : Nat → Nat} {S : Nat → Nat → Nat} {hd : Option Nat} {nx : Nat → Option Nat} {Y : va_W} {O : List Nat} (hI : Inv S O) (hO : ChP nx hd O) {u9 : Nat} {f0 : Nat → Int64} (p0 p1 : Int32) : CI l yL_letterAt wsL_letterAt ({ frames := 9, cells := 10, slots := 60, locals := 154 } : Room) D cy [.ref (G 0), .int p0, .int p1, .ref u9] (CW cy G S hd nx ((u9, .inl (cy 1, 1, .inr (.inl f0))) :: Y)) (WQ cy G Y u9 (spLetterAt S O p0 p1).1 ((spLetterAt S O p0 p1).2.1).toInt64 (spLetterAt S O p0 p1).2.2 O) 10 60 := by
  refine CIW.of (hh := [(0, 10, 13, 13), (0, 10, 17, 15)]) (cc := cL_letterAt) (maxL := 5) (ret := (some .int)) (by decide) rfl (Nat.le_of_ble_eq_true rfl) ?_
  intro p e s m below meth c A ls E0 htab hl
  obtain ⟨hx, hb, hml, hown, hts, hr, hlocks, hA, hS, hP, hK, hD, hX⟩ := E0
  have hiX0 : ∀ w ∈ u_ws RX0 TX0 8, w ∈ wsL_letterAt := by decide +kernel
  have hiX1 : ∀ w ∈ u_ws RX1 TX1 9, w ∈ wsL_letterAt := by decide +kernel
  have hl : lv_has ls 5 [(0, .ref (G 0)), (1, .int p0), (2, .int p1), (3, .ref u9)] := hl
  refine lv_aload_n hx hb dL_letterAt_0 rfl (lv_at hl 3 rfl) ?_
  refine lv_iconst (v := nI 0) hx hb dL_letterAt_1 (by decide) ?_
  refine lv_aload_n hx hb dL_letterAt_2 rfl (lv_at hl 0 rfl) ?_
  refine lv_iload_n hx hb dL_letterAt_3 rfl (lv_at hl 1 rfl) ?_
  refine lv_iload_n hx hb dL_letterAt_4 rfl (lv_at hl 2 rfl) ?_
  refine Y_i (vx_runV (As := [.int p0, .int p1]) (rest := [.int (nI 0), .ref u9]) ⟨hx, hb, hml, hown, hts⟩ (c_X1_letterAt l hlf hI hO p0 p1 _) (cwV 2 hts gL_letterAt_X1_letterAt rfl rfl rfl (by decide +kernel) ⟨Nat.le_of_ble_eq_true rfl, Nat.le_of_ble_eq_true rfl⟩) (pV hP hK hD hS hA hX (va_recv hK hP (ci := 1) (q0 := 0) rfl rfl)) rfl rfl hl.1 rfl (lv_room (Nat.le_of_ble_eq_true rfl)) dL_letterAt_5 ⟨Nat.le_of_ble_eq_true rfl, Nat.le_of_ble_eq_true rfl⟩) hD hS hA (fun E ce q9 H locs hE hP hS ht => ?_) (fun r w'  H locs hp hP hD hS => ?_)
  · rcases hE with ⟨rfl, hE⟩ | ⟨rfl, hE⟩
    · refine vx_catch (own := RL) (name := "java/lang/IllegalArgumentException") hown [] ⟨0, 10, 13, 13⟩ [⟨0, 10, 17, 15⟩] (by rw [htab]; rfl) (fun z hz => absurd hz List.not_mem_nil) (by decide) (by decide) (hts (.classLink RL 13 "java/lang/IllegalArgumentException") (by decide +kernel)) (va_Nw.use rfl hX.2.2.1.1) ht.1 ht.2.1 ht.2.2 ?_
      refine lv_astore (lv' := [(4, .ref q9), (0, .ref (G 0)), (1, .int p0), (2, .int p1), (3, .ref u9)]) hx hb dL_letterAt_13 hl (by decide) rfl (fun ls hl => ?_)
      refine lv_iconst (v := nI 1) hx hb dL_letterAt_15 (by decide) ?_
      exact C_iret hx hb hr hlocks hS hP hK hD (Nat.le_of_ble_eq_true rfl) (Nat.le_of_ble_eq_true rfl) dL_letterAt_16 ⟨by rw [hE], G, hd, nx, f0, rfl, by rw [spLetterAt_keep (by rw [hE]; decide)], hO, fun h => by rw [hE] at h; cases h⟩
    · refine vx_catch (own := RL) (name := "java/lang/IndexOutOfBoundsException") hown [⟨0, 10, 13, 13⟩] ⟨0, 10, 17, 15⟩ [] (by rw [htab]; rfl) (fun z hz => by obtain rfl := List.mem_singleton.mp hz; exact Or.inr ⟨by decide, "java/lang/IllegalArgumentException", hts (.classLink RL 13 "java/lang/IllegalArgumentException") (by decide +kernel), hX.2.2.2.2.2.2.2.2.1.2.2.2.2.1⟩) (by decide) (by decide) (hts (.classLink RL 15 "java/lang/IndexOutOfBoundsException") (by decide +kernel)) (va_Nw.use rfl hX.2.2.2.2.1.1) ht.1 ht.2.1 ht.2.2 ?_
      refine lv_astore (lv' := [(4, .ref q9), (0, .ref (G 0)), (1, .int p0), (2, .int p1), (3, .ref u9)]) hx hb dL_letterAt_17 hl (by decide) rfl (fun ls hl => ?_)
      refine lv_iconst (v := nI 2) hx hb dL_letterAt_19 (by decide) ?_
      exact C_iret hx hb hr hlocks hS hP hK hD (Nat.le_of_ble_eq_true rfl) (Nat.le_of_ble_eq_true rfl) dL_letterAt_20 ⟨by rw [hE], G, hd, nx, f0, rfl, by rw [spLetterAt_keep (by rw [hE]; decide)], hO, fun h => by rw [hE] at h; cases h⟩
  obtain ⟨h0, rfl, rfl⟩ := hp
  refine lv_i2l (v := ((spLetterAt S O p0 p1).2.1).toInt64) hx hb dL_letterAt_8 rfl ?_
  replace hP := P_perm (CW_front _).symm hP
  replace hD := D_perm (CW_front _).symm hD
  refine r_last (w' := (u9, .inl (cy 1, 1, .inr (.inl (vp_updL f0 0 (((spLetterAt S O p0 p1).2.1).toInt64))))) :: CW cy G ((spLetterAt S O p0 p1).2.2) hd nx Y) hx hb hK hP hD hS 0 rfl (show 0 < 1 by decide) (by decide) dL_letterAt_9 rfl (fun H locs hP hD hS => ?_)
  replace hP := P_perm (CW_front _) hP
  replace hD := D_perm (CW_front _) hD
  refine lv_goto (tgt := 21) hx hb dL_letterAt_10 (by decide) ?_
  refine lv_iconst (v := nI 0) hx hb dL_letterAt_21 (by decide) ?_
  exact C_iret hx hb hr hlocks hS hP hK hD (Nat.le_of_ble_eq_true rfl) (Nat.le_of_ble_eq_true rfl) dL_letterAt_22 ⟨by rw [h0], G, hd, nx, _, rfl, rfl, hO, fun _ => rfl⟩

set_option maxHeartbeats 4000000 in
set_option maxRecDepth 100000 in
theorem c_L_areAlike (l : Launch) (hlf : l.stackTraces = false) {D : va_G} {cy : Nat → ClassId} {G : Nat → Nat} {S : Nat → Nat → Nat} {hd : Option Nat} {nx : Nat → Option Nat} {Y : va_W} {O : List Nat} (hI : Inv S O) (hO : ChP nx hd O) {u9 : Nat} {f0 : Nat → Int64} (p0 p1 : Int32) : CI l yL_areAlike wsL_areAlike ({ frames := 9, cells := 10, slots := 60, locals := 155 } : Room) D cy [.ref (G 0), .int p0, .int p1, .ref u9] (CW cy G S hd nx ((u9, .inl (cy 1, 1, .inr (.inl f0))) :: Y)) (WQ cy G Y u9 (spAreAlike S p0 p1).1 ((spAreAlike S p0 p1).2.1).toInt64 (spAreAlike S p0 p1).2.2 O) 10 60 := by
  refine CIW.of (hh := [(0, 17, 20, 13)]) (cc := cL_areAlike) (maxL := 5) (ret := (some .int)) (by decide) rfl (Nat.le_of_ble_eq_true rfl) ?_
  intro p e s m below meth c A ls E0 htab hl
  obtain ⟨hx, hb, hml, hown, hts, hr, hlocks, hA, hS, hP, hK, hD, hX⟩ := E0
  have hiX0 : ∀ w ∈ u_ws RX0 TX0 8, w ∈ wsL_areAlike := by decide +kernel
  have hiX1 : ∀ w ∈ u_ws RX1 TX1 9, w ∈ wsL_areAlike := by decide +kernel
  have hl : lv_has ls 5 [(0, .ref (G 0)), (1, .int p0), (2, .int p1), (3, .ref u9)] := hl
  refine lv_aload_n hx hb dL_areAlike_0 rfl (lv_at hl 3 rfl) ?_
  refine lv_iconst (v := nI 0) hx hb dL_areAlike_1 (by decide) ?_
  refine lv_aload_n hx hb dL_areAlike_2 rfl (lv_at hl 0 rfl) ?_
  refine lv_iload_n hx hb dL_areAlike_3 rfl (lv_at hl 1 rfl) ?_
  refine lv_iload_n hx hb dL_areAlike_4 rfl (lv_at hl 2 rfl) ?_
  refine Y_i (vx_runV (As := [.int p0, .int p1]) (rest := [.int (nI 0), .ref u9]) ⟨hx, hb, hml, hown, hts⟩ (c_X1_areAlike l hlf hI hO p0 p1 _) (cwV 2 hts gL_areAlike_X1_areAlike rfl rfl rfl (by decide +kernel) ⟨Nat.le_of_ble_eq_true rfl, Nat.le_of_ble_eq_true rfl⟩) (pV hP hK hD hS hA hX (va_recv hK hP (ci := 1) (q0 := 0) rfl rfl)) rfl rfl hl.1 rfl (lv_room (Nat.le_of_ble_eq_true rfl)) dL_areAlike_5 ⟨Nat.le_of_ble_eq_true rfl, Nat.le_of_ble_eq_true rfl⟩) hD hS hA (fun E ce q9 H locs hE hP hS ht => ?_) (fun r w'  H locs hp hP hD hS => ?_)
  · rcases hE with ⟨rfl, hE⟩
    refine vx_catch (own := RL) (name := "java/lang/IllegalArgumentException") hown [] ⟨0, 17, 20, 13⟩ [] (by rw [htab]; rfl) (fun z hz => absurd hz List.not_mem_nil) (by decide) (by decide) (hts (.classLink RL 13 "java/lang/IllegalArgumentException") (by decide +kernel)) (va_Nw.use rfl hX.2.2.1.1) ht.1 ht.2.1 ht.2.2 ?_
    refine lv_astore (lv' := [(4, .ref q9), (0, .ref (G 0)), (1, .int p0), (2, .int p1), (3, .ref u9)]) hx hb dL_areAlike_20 hl (by decide) rfl (fun ls hl => ?_)
    refine lv_iconst (v := nI 1) hx hb dL_areAlike_22 (by decide) ?_
    exact C_iret hx hb hr hlocks hS hP hK hD (Nat.le_of_ble_eq_true rfl) (Nat.le_of_ble_eq_true rfl) dL_areAlike_23 ⟨by rw [hE], G, hd, nx, f0, rfl, by rw [spAreAlike_keep (by rw [hE]; decide)], hO, fun h => by rw [hE] at h; cases h⟩
  obtain ⟨h0, rfl, rfl⟩ := hp
  refine lv_if_eq (tgt := 15) hx hb dL_areAlike_8 (by decide) (fun cE => ?_) (fun cE => ?_)
  · refine lv_lconst (v := lN 0) hx hb dL_areAlike_15 (by decide) ?_
    replace hP := P_perm (CW_front _).symm hP
    replace hD := D_perm (CW_front _).symm hD
    refine r_last (w' := (u9, .inl (cy 1, 1, .inr (.inl (vp_updL f0 0 (lN 0))))) :: CW cy G ((spAreAlike S p0 p1).2.2) hd nx Y) hx hb hK hP hD hS 0 rfl (show 0 < 1 by decide) (by decide) dL_areAlike_16 rfl (fun H locs hP hD hS => ?_)
    replace hP := P_perm (CW_front _) hP
    replace hD := D_perm (CW_front _) hD
    refine lv_goto (tgt := 24) hx hb dL_areAlike_17 (by decide) ?_
    refine lv_iconst (v := nI 0) hx hb dL_areAlike_24 (by decide) ?_
    exact C_iret hx hb hr hlocks hS hP hK hD (Nat.le_of_ble_eq_true rfl) (Nat.le_of_ble_eq_true rfl) dL_areAlike_25 ⟨by rw [h0], G, hd, nx, _, rfl, rfl, hO, fun _ => by rw [cE]; rfl⟩
  · refine lv_lconst (v := lN 1) hx hb dL_areAlike_11 (by decide) ?_
    refine lv_goto (tgt := 16) hx hb dL_areAlike_12 (by decide) ?_
    replace hP := P_perm (CW_front _).symm hP
    replace hD := D_perm (CW_front _).symm hD
    refine r_last (w' := (u9, .inl (cy 1, 1, .inr (.inl (vp_updL f0 0 (lN 1))))) :: CW cy G ((spAreAlike S p0 p1).2.2) hd nx Y) hx hb hK hP hD hS 0 rfl (show 0 < 1 by decide) (by decide) dL_areAlike_16 rfl (fun H locs hP hD hS => ?_)
    replace hP := P_perm (CW_front _) hP
    replace hD := D_perm (CW_front _) hD
    refine lv_goto (tgt := 24) hx hb dL_areAlike_17 (by decide) ?_
    refine lv_iconst (v := nI 0) hx hb dL_areAlike_24 (by decide) ?_
    exact C_iret hx hb hr hlocks hS hP hK hD (Nat.le_of_ble_eq_true rfl) (Nat.le_of_ble_eq_true rfl) dL_areAlike_25 ⟨by rw [h0], G, hd, nx, _, rfl, rfl, hO, fun _ => by rcases alike_01 S p0 p1 with h | h; exact absurd h cE; rw [h]; rfl⟩

set_option maxHeartbeats 4000000 in
set_option maxRecDepth 100000 in
theorem c_L_authorOf (l : Launch) (hlf : l.stackTraces = false) {D : va_G} {cy : Nat → ClassId} {G : Nat → Nat} {S : Nat → Nat → Nat} {hd : Option Nat} {nx : Nat → Option Nat} {Y : va_W} {O : List Nat} (hI : Inv S O) (hO : ChP nx hd O) {u9 : Nat} {f0 : Nat → Int64} (p0 : Int32) : CI l yL_authorOf wsL_authorOf ({ frames := 8, cells := 10, slots := 60, locals := 133 } : Room) D cy [.ref (G 0), .int p0, .ref u9] (CW cy G S hd nx ((u9, .inl (cy 1, 1, .inr (.inl f0))) :: Y)) (WQ cy G Y u9 (spAuthorOf S p0).1 ((spAuthorOf S p0).2.1).toInt64 (spAuthorOf S p0).2.2 O) 10 60 := by
  refine CIW.of (hh := [(0, 9, 12, 15)]) (cc := cL_authorOf) (maxL := 4) (ret := (some .int)) (by decide) rfl (Nat.le_of_ble_eq_true rfl) ?_
  intro p e s m below meth c A ls E0 htab hl
  obtain ⟨hx, hb, hml, hown, hts, hr, hlocks, hA, hS, hP, hK, hD, hX⟩ := E0
  have hiX0 : ∀ w ∈ u_ws RX0 TX0 8, w ∈ wsL_authorOf := by decide +kernel
  have hiX1 : ∀ w ∈ u_ws RX1 TX1 9, w ∈ wsL_authorOf := by decide +kernel
  have hl : lv_has ls 4 [(0, .ref (G 0)), (1, .int p0), (2, .ref u9)] := hl
  refine lv_aload_n hx hb dL_authorOf_0 rfl (lv_at hl 2 rfl) ?_
  refine lv_iconst (v := nI 0) hx hb dL_authorOf_1 (by decide) ?_
  refine lv_aload_n hx hb dL_authorOf_2 rfl (lv_at hl 0 rfl) ?_
  refine lv_iload_n hx hb dL_authorOf_3 rfl (lv_at hl 1 rfl) ?_
  refine Y_i (vx_runV (As := [.int p0]) (rest := [.int (nI 0), .ref u9]) ⟨hx, hb, hml, hown, hts⟩ (c_X1_authorOf l hlf hI hO p0 _) (cwV 1 hts gL_authorOf_X1_authorOf rfl rfl rfl (by decide +kernel) ⟨Nat.le_of_ble_eq_true rfl, Nat.le_of_ble_eq_true rfl⟩) (pV hP hK hD hS hA hX (va_recv hK hP (ci := 1) (q0 := 0) rfl rfl)) rfl rfl hl.1 rfl (lv_room (Nat.le_of_ble_eq_true rfl)) dL_authorOf_4 ⟨Nat.le_of_ble_eq_true rfl, Nat.le_of_ble_eq_true rfl⟩) hD hS hA (fun E ce q9 H locs hE hP hS ht => ?_) (fun r w'  H locs hp hP hD hS => ?_)
  · rcases hE with ⟨rfl, hE⟩
    refine vx_catch (own := RL) (name := "java/lang/IndexOutOfBoundsException") hown [] ⟨0, 9, 12, 15⟩ [] (by rw [htab]; rfl) (fun z hz => absurd hz List.not_mem_nil) (by decide) (by decide) (hts (.classLink RL 15 "java/lang/IndexOutOfBoundsException") (by decide +kernel)) (va_Nw.use rfl hX.2.2.2.2.1.1) ht.1 ht.2.1 ht.2.2 ?_
    refine lv_astore_n (lv' := [(3, .ref q9), (0, .ref (G 0)), (1, .int p0), (2, .ref u9)]) hx hb dL_authorOf_12 rfl hl (by decide) rfl (fun ls hl => ?_)
    refine lv_iconst (v := nI 1) hx hb dL_authorOf_13 (by decide) ?_
    exact C_iret hx hb hr hlocks hS hP hK hD (Nat.le_of_ble_eq_true rfl) (Nat.le_of_ble_eq_true rfl) dL_authorOf_14 ⟨by rw [hE], G, hd, nx, f0, rfl, by rw [spAuthorOf_keep (by rw [hE]; decide)], hO, fun h => by rw [hE] at h; cases h⟩
  obtain ⟨h0, rfl, rfl⟩ := hp
  refine lv_i2l (v := ((spAuthorOf S p0).2.1).toInt64) hx hb dL_authorOf_7 rfl ?_
  replace hP := P_perm (CW_front _).symm hP
  replace hD := D_perm (CW_front _).symm hD
  refine r_last (w' := (u9, .inl (cy 1, 1, .inr (.inl (vp_updL f0 0 (((spAuthorOf S p0).2.1).toInt64))))) :: CW cy G ((spAuthorOf S p0).2.2) hd nx Y) hx hb hK hP hD hS 0 rfl (show 0 < 1 by decide) (by decide) dL_authorOf_8 rfl (fun H locs hP hD hS => ?_)
  replace hP := P_perm (CW_front _) hP
  replace hD := D_perm (CW_front _) hD
  refine lv_goto (tgt := 15) hx hb dL_authorOf_9 (by decide) ?_
  refine lv_iconst (v := nI 0) hx hb dL_authorOf_15 (by decide) ?_
  exact C_iret hx hb hr hlocks hS hP hK hD (Nat.le_of_ble_eq_true rfl) (Nat.le_of_ble_eq_true rfl) dL_authorOf_16 ⟨by rw [h0], G, hd, nx, _, rfl, rfl, hO, fun _ => rfl⟩

set_option maxHeartbeats 4000000 in
set_option maxRecDepth 100000 in
theorem c_L_behind (l : Launch) (hlf : l.stackTraces = false) {D : va_G} {cy : Nat → ClassId} {G : Nat → Nat} {S : Nat → Nat → Nat} {hd : Option Nat} {nx : Nat → Option Nat} {Y : va_W} {O : List Nat} (hI : Inv S O) (hO : ChP nx hd O) {u9 : Nat} {f0 : Nat → Int64} (p0 : Int32) : CI l yL_behind wsL_behind ({ frames := 8, cells := 10, slots := 60, locals := 134 } : Room) D cy [.ref (G 0), .int p0, .ref u9] (CW cy G S hd nx ((u9, .inl (cy 1, 1, .inr (.inl f0))) :: Y)) (WQ cy G Y u9 (spBehind S p0).1 ((spBehind S p0).2.1).toInt64 (spBehind S p0).2.2 O) 10 60 := by
  refine CIW.of (hh := [(0, 9, 12, 15)]) (cc := cL_behind) (maxL := 4) (ret := (some .int)) (by decide) rfl (Nat.le_of_ble_eq_true rfl) ?_
  intro p e s m below meth c A ls E0 htab hl
  obtain ⟨hx, hb, hml, hown, hts, hr, hlocks, hA, hS, hP, hK, hD, hX⟩ := E0
  have hiX0 : ∀ w ∈ u_ws RX0 TX0 8, w ∈ wsL_behind := by decide +kernel
  have hiX1 : ∀ w ∈ u_ws RX1 TX1 9, w ∈ wsL_behind := by decide +kernel
  have hl : lv_has ls 4 [(0, .ref (G 0)), (1, .int p0), (2, .ref u9)] := hl
  refine lv_aload_n hx hb dL_behind_0 rfl (lv_at hl 2 rfl) ?_
  refine lv_iconst (v := nI 0) hx hb dL_behind_1 (by decide) ?_
  refine lv_aload_n hx hb dL_behind_2 rfl (lv_at hl 0 rfl) ?_
  refine lv_iload_n hx hb dL_behind_3 rfl (lv_at hl 1 rfl) ?_
  refine Y_i (vx_runV (As := [.int p0]) (rest := [.int (nI 0), .ref u9]) ⟨hx, hb, hml, hown, hts⟩ (c_X1_behind l hlf hI hO p0 _) (cwV 1 hts gL_behind_X1_behind rfl rfl rfl (by decide +kernel) ⟨Nat.le_of_ble_eq_true rfl, Nat.le_of_ble_eq_true rfl⟩) (pV hP hK hD hS hA hX (va_recv hK hP (ci := 1) (q0 := 0) rfl rfl)) rfl rfl hl.1 rfl (lv_room (Nat.le_of_ble_eq_true rfl)) dL_behind_4 ⟨Nat.le_of_ble_eq_true rfl, Nat.le_of_ble_eq_true rfl⟩) hD hS hA (fun E ce q9 H locs hE hP hS ht => ?_) (fun r w'  H locs hp hP hD hS => ?_)
  · rcases hE with ⟨rfl, hE⟩
    refine vx_catch (own := RL) (name := "java/lang/IndexOutOfBoundsException") hown [] ⟨0, 9, 12, 15⟩ [] (by rw [htab]; rfl) (fun z hz => absurd hz List.not_mem_nil) (by decide) (by decide) (hts (.classLink RL 15 "java/lang/IndexOutOfBoundsException") (by decide +kernel)) (va_Nw.use rfl hX.2.2.2.2.1.1) ht.1 ht.2.1 ht.2.2 ?_
    refine lv_astore_n (lv' := [(3, .ref q9), (0, .ref (G 0)), (1, .int p0), (2, .ref u9)]) hx hb dL_behind_12 rfl hl (by decide) rfl (fun ls hl => ?_)
    refine lv_iconst (v := nI 1) hx hb dL_behind_13 (by decide) ?_
    exact C_iret hx hb hr hlocks hS hP hK hD (Nat.le_of_ble_eq_true rfl) (Nat.le_of_ble_eq_true rfl) dL_behind_14 ⟨by rw [hE], G, hd, nx, f0, rfl, by rw [spBehind_keep (by rw [hE]; decide)], hO, fun h => by rw [hE] at h; cases h⟩
  obtain ⟨h0, rfl, rfl⟩ := hp
  refine lv_i2l (v := ((spBehind S p0).2.1).toInt64) hx hb dL_behind_7 rfl ?_
  replace hP := P_perm (CW_front _).symm hP
  replace hD := D_perm (CW_front _).symm hD
  refine r_last (w' := (u9, .inl (cy 1, 1, .inr (.inl (vp_updL f0 0 (((spBehind S p0).2.1).toInt64))))) :: CW cy G ((spBehind S p0).2.2) hd nx Y) hx hb hK hP hD hS 0 rfl (show 0 < 1 by decide) (by decide) dL_behind_8 rfl (fun H locs hP hD hS => ?_)
  replace hP := P_perm (CW_front _) hP
  replace hD := D_perm (CW_front _) hD
  refine lv_goto (tgt := 15) hx hb dL_behind_9 (by decide) ?_
  refine lv_iconst (v := nI 0) hx hb dL_behind_15 (by decide) ?_
  exact C_iret hx hb hr hlocks hS hP hK hD (Nat.le_of_ble_eq_true rfl) (Nat.le_of_ble_eq_true rfl) dL_behind_16 ⟨by rw [h0], G, hd, nx, _, rfl, rfl, hO, fun _ => rfl⟩

set_option maxHeartbeats 4000000 in
set_option maxRecDepth 100000 in
theorem c_L_clock (l : Launch) (hlf : l.stackTraces = false) {D : va_G} {cy : Nat → ClassId} {G : Nat → Nat} {S : Nat → Nat → Nat} {hd : Option Nat} {nx : Nat → Option Nat} {Y : va_W} {O : List Nat} (hI : Inv S O) (hO : ChP nx hd O) {u9 : Nat} {f0 : Nat → Int64} (p0 : Int32) : CI l yL_clock wsL_clock ({ frames := 9, cells := 10, slots := 60, locals := 153 } : Room) D cy [.ref (G 0), .int p0, .ref u9] (CW cy G S hd nx ((u9, .inl (cy 1, 1, .inr (.inl f0))) :: Y)) (WQ cy G Y u9 (spClock S p0).1 ((spClock S p0).2.1).toInt64 (spClock S p0).2.2 O) 10 60 := by
  refine CIW.of (hh := [(0, 9, 12, 13)]) (cc := cL_clock) (maxL := 4) (ret := (some .int)) (by decide) rfl (Nat.le_of_ble_eq_true rfl) ?_
  intro p e s m below meth c A ls E0 htab hl
  obtain ⟨hx, hb, hml, hown, hts, hr, hlocks, hA, hS, hP, hK, hD, hX⟩ := E0
  have hiX1 : ∀ w ∈ u_ws RX1 TX1 9, w ∈ wsL_clock := by decide +kernel
  have hl : lv_has ls 4 [(0, .ref (G 0)), (1, .int p0), (2, .ref u9)] := hl
  refine lv_aload_n hx hb dL_clock_0 rfl (lv_at hl 2 rfl) ?_
  refine lv_iconst (v := nI 0) hx hb dL_clock_1 (by decide) ?_
  refine lv_aload_n hx hb dL_clock_2 rfl (lv_at hl 0 rfl) ?_
  refine lv_iload_n hx hb dL_clock_3 rfl (lv_at hl 1 rfl) ?_
  refine Y_i (vx_runV (As := [.int p0]) (rest := [.int (nI 0), .ref u9]) ⟨hx, hb, hml, hown, hts⟩ (c_X1_clock l hlf hI hO p0 _) (cwV 1 hts gL_clock_X1_clock rfl rfl rfl (by decide +kernel) ⟨Nat.le_of_ble_eq_true rfl, Nat.le_of_ble_eq_true rfl⟩) (pV hP hK hD hS hA hX (va_recv hK hP (ci := 1) (q0 := 0) rfl rfl)) rfl rfl hl.1 rfl (lv_room (Nat.le_of_ble_eq_true rfl)) dL_clock_4 ⟨Nat.le_of_ble_eq_true rfl, Nat.le_of_ble_eq_true rfl⟩) hD hS hA (fun E ce q9 H locs hE hP hS ht => ?_) (fun r w'  H locs hp hP hD hS => ?_)
  · rcases hE with ⟨rfl, hE⟩
    refine vx_catch (own := RL) (name := "java/lang/IllegalArgumentException") hown [] ⟨0, 9, 12, 13⟩ [] (by rw [htab]; rfl) (fun z hz => absurd hz List.not_mem_nil) (by decide) (by decide) (hts (.classLink RL 13 "java/lang/IllegalArgumentException") (by decide +kernel)) (va_Nw.use rfl hX.2.2.1.1) ht.1 ht.2.1 ht.2.2 ?_
    refine lv_astore_n (lv' := [(3, .ref q9), (0, .ref (G 0)), (1, .int p0), (2, .ref u9)]) hx hb dL_clock_12 rfl hl (by decide) rfl (fun ls hl => ?_)
    refine lv_iconst (v := nI 1) hx hb dL_clock_13 (by decide) ?_
    exact C_iret hx hb hr hlocks hS hP hK hD (Nat.le_of_ble_eq_true rfl) (Nat.le_of_ble_eq_true rfl) dL_clock_14 ⟨by rw [hE], G, hd, nx, f0, rfl, by rw [spClock_keep (by rw [hE]; decide)], hO, fun h => by rw [hE] at h; cases h⟩
  obtain ⟨h0, rfl, rfl⟩ := hp
  refine lv_i2l (v := ((spClock S p0).2.1).toInt64) hx hb dL_clock_7 rfl ?_
  replace hP := P_perm (CW_front _).symm hP
  replace hD := D_perm (CW_front _).symm hD
  refine r_last (w' := (u9, .inl (cy 1, 1, .inr (.inl (vp_updL f0 0 (((spClock S p0).2.1).toInt64))))) :: CW cy G ((spClock S p0).2.2) hd nx Y) hx hb hK hP hD hS 0 rfl (show 0 < 1 by decide) (by decide) dL_clock_8 rfl (fun H locs hP hD hS => ?_)
  replace hP := P_perm (CW_front _) hP
  replace hD := D_perm (CW_front _) hD
  refine lv_goto (tgt := 15) hx hb dL_clock_9 (by decide) ?_
  refine lv_iconst (v := nI 0) hx hb dL_clock_15 (by decide) ?_
  exact C_iret hx hb hr hlocks hS hP hK hD (Nat.le_of_ble_eq_true rfl) (Nat.le_of_ble_eq_true rfl) dL_clock_16 ⟨by rw [h0], G, hd, nx, _, rfl, rfl, hO, fun _ => rfl⟩

set_option maxHeartbeats 4000000 in
set_option maxRecDepth 100000 in
theorem c_L_print (l : Launch) (hlf : l.stackTraces = false) {D : va_G} {cy : Nat → ClassId} {G : Nat → Nat} {S : Nat → Nat → Nat} {hd : Option Nat} {nx : Nat → Option Nat} {Y : va_W} {O : List Nat} (hI : Inv S O) (hO : ChP nx hd O) {u9 : Nat} {f0 : Nat → Int64} (p0 : Int32) : CI l yL_print wsL_print ({ frames := 9, cells := 10, slots := 60, locals := 155 } : Room) D cy [.ref (G 0), .int p0, .ref u9] (CW cy G S hd nx ((u9, .inl (cy 1, 1, .inr (.inl f0))) :: Y)) (WQ cy G Y u9 (spPrint S O p0).1 ((spPrint S O p0).2.1).toInt64 (spPrint S O p0).2.2 O) 10 60 := by
  refine CIW.of (hh := [(0, 9, 12, 13), (0, 9, 15, 17)]) (cc := cL_print) (maxL := 4) (ret := (some .int)) (by decide) rfl (Nat.le_of_ble_eq_true rfl) ?_
  intro p e s m below meth c A ls E0 htab hl
  obtain ⟨hx, hb, hml, hown, hts, hr, hlocks, hA, hS, hP, hK, hD, hX⟩ := E0
  have hiX0 : ∀ w ∈ u_ws RX0 TX0 8, w ∈ wsL_print := by decide +kernel
  have hiX1 : ∀ w ∈ u_ws RX1 TX1 9, w ∈ wsL_print := by decide +kernel
  have hl : lv_has ls 4 [(0, .ref (G 0)), (1, .int p0), (2, .ref u9)] := hl
  refine lv_aload_n hx hb dL_print_0 rfl (lv_at hl 2 rfl) ?_
  refine lv_iconst (v := nI 0) hx hb dL_print_1 (by decide) ?_
  refine lv_aload_n hx hb dL_print_2 rfl (lv_at hl 0 rfl) ?_
  refine lv_iload_n hx hb dL_print_3 rfl (lv_at hl 1 rfl) ?_
  refine Y_i (vx_runV (As := [.int p0]) (rest := [.int (nI 0), .ref u9]) ⟨hx, hb, hml, hown, hts⟩ (c_X1_print l hlf hI hO p0 _) (cwV 1 hts gL_print_X1_print rfl rfl rfl (by decide +kernel) ⟨Nat.le_of_ble_eq_true rfl, Nat.le_of_ble_eq_true rfl⟩) (pV hP hK hD hS hA hX (va_recv hK hP (ci := 1) (q0 := 0) rfl rfl)) rfl rfl hl.1 rfl (lv_room (Nat.le_of_ble_eq_true rfl)) dL_print_4 ⟨Nat.le_of_ble_eq_true rfl, Nat.le_of_ble_eq_true rfl⟩) hD hS hA (fun E ce q9 H locs hE hP hS ht => ?_) (fun r w'  H locs hp hP hD hS => ?_)
  · rcases hE with ⟨rfl, hE⟩ | ⟨rfl, hE⟩
    · refine vx_catch (own := RL) (name := "java/lang/IllegalArgumentException") hown [] ⟨0, 9, 12, 13⟩ [⟨0, 9, 15, 17⟩] (by rw [htab]; rfl) (fun z hz => absurd hz List.not_mem_nil) (by decide) (by decide) (hts (.classLink RL 13 "java/lang/IllegalArgumentException") (by decide +kernel)) (va_Nw.use rfl hX.2.2.1.1) ht.1 ht.2.1 ht.2.2 ?_
      refine lv_astore_n (lv' := [(3, .ref q9), (0, .ref (G 0)), (1, .int p0), (2, .ref u9)]) hx hb dL_print_12 rfl hl (by decide) rfl (fun ls hl => ?_)
      refine lv_iconst (v := nI 1) hx hb dL_print_13 (by decide) ?_
      exact C_iret hx hb hr hlocks hS hP hK hD (Nat.le_of_ble_eq_true rfl) (Nat.le_of_ble_eq_true rfl) dL_print_14 ⟨by rw [hE], G, hd, nx, f0, rfl, by rw [spPrint_keep (by rw [hE]; decide)], hO, fun h => by rw [hE] at h; cases h⟩
    · refine vx_catch (own := RL) (name := "java/lang/IllegalStateException") hown [⟨0, 9, 12, 13⟩] ⟨0, 9, 15, 17⟩ [] (by rw [htab]; rfl) (fun z hz => by obtain rfl := List.mem_singleton.mp hz; exact Or.inr ⟨by decide, "java/lang/IllegalArgumentException", hts (.classLink RL 13 "java/lang/IllegalArgumentException") (by decide +kernel), hX.2.2.2.2.2.2.2.2.1.2.2.1⟩) (by decide) (by decide) (hts (.classLink RL 17 "java/lang/IllegalStateException") (by decide +kernel)) (va_Nw.use rfl hX.2.2.2.1.1) ht.1 ht.2.1 ht.2.2 ?_
      refine lv_astore_n (lv' := [(3, .ref q9), (0, .ref (G 0)), (1, .int p0), (2, .ref u9)]) hx hb dL_print_15 rfl hl (by decide) rfl (fun ls hl => ?_)
      refine lv_iconst (v := nI 2) hx hb dL_print_16 (by decide) ?_
      exact C_iret hx hb hr hlocks hS hP hK hD (Nat.le_of_ble_eq_true rfl) (Nat.le_of_ble_eq_true rfl) dL_print_17 ⟨by rw [hE], G, hd, nx, f0, rfl, by rw [spPrint_keep (by rw [hE]; decide)], hO, fun h => by rw [hE] at h; cases h⟩
  obtain ⟨h0, rfl, rfl⟩ := hp
  refine lv_i2l (v := ((spPrint S O p0).2.1).toInt64) hx hb dL_print_7 rfl ?_
  replace hP := P_perm (CW_front _).symm hP
  replace hD := D_perm (CW_front _).symm hD
  refine r_last (w' := (u9, .inl (cy 1, 1, .inr (.inl (vp_updL f0 0 (((spPrint S O p0).2.1).toInt64))))) :: CW cy G ((spPrint S O p0).2.2) hd nx Y) hx hb hK hP hD hS 0 rfl (show 0 < 1 by decide) (by decide) dL_print_8 rfl (fun H locs hP hD hS => ?_)
  replace hP := P_perm (CW_front _) hP
  replace hD := D_perm (CW_front _) hD
  refine lv_goto (tgt := 18) hx hb dL_print_9 (by decide) ?_
  refine lv_iconst (v := nI 0) hx hb dL_print_18 (by decide) ?_
  exact C_iret hx hb hr hlocks hS hP hK hD (Nat.le_of_ble_eq_true rfl) (Nat.le_of_ble_eq_true rfl) dL_print_19 ⟨by rw [h0], G, hd, nx, _, rfl, rfl, hO, fun _ => rfl⟩

set_option maxHeartbeats 4000000 in
set_option maxRecDepth 100000 in
theorem c_L_printed (l : Launch) (hlf : l.stackTraces = false) {D : va_G} {cy : Nat → ClassId} {G : Nat → Nat} {S : Nat → Nat → Nat} {hd : Option Nat} {nx : Nat → Option Nat} {Y : va_W} {O : List Nat} (hI : Inv S O) (hO : ChP nx hd O) {u9 : Nat} {f0 : Nat → Int64} (p0 p1 : Int32) : CI l yL_printed wsL_printed ({ frames := 9, cells := 10, slots := 60, locals := 154 } : Room) D cy [.ref (G 0), .int p0, .int p1, .ref u9] (CW cy G S hd nx ((u9, .inl (cy 1, 1, .inr (.inl f0))) :: Y)) (WQ cy G Y u9 (spPrinted S p0 p1).1 ((spPrinted S p0 p1).2.1).toInt64 (spPrinted S p0 p1).2.2 O) 10 60 := by
  refine CIW.of (hh := [(0, 10, 13, 15), (0, 10, 17, 13)]) (cc := cL_printed) (maxL := 5) (ret := (some .int)) (by decide) rfl (Nat.le_of_ble_eq_true rfl) ?_
  intro p e s m below meth c A ls E0 htab hl
  obtain ⟨hx, hb, hml, hown, hts, hr, hlocks, hA, hS, hP, hK, hD, hX⟩ := E0
  have hiX1 : ∀ w ∈ u_ws RX1 TX1 9, w ∈ wsL_printed := by decide +kernel
  have hl : lv_has ls 5 [(0, .ref (G 0)), (1, .int p0), (2, .int p1), (3, .ref u9)] := hl
  refine lv_aload_n hx hb dL_printed_0 rfl (lv_at hl 3 rfl) ?_
  refine lv_iconst (v := nI 0) hx hb dL_printed_1 (by decide) ?_
  refine lv_aload_n hx hb dL_printed_2 rfl (lv_at hl 0 rfl) ?_
  refine lv_iload_n hx hb dL_printed_3 rfl (lv_at hl 1 rfl) ?_
  refine lv_iload_n hx hb dL_printed_4 rfl (lv_at hl 2 rfl) ?_
  refine Y_i (vx_runV (As := [.int p0, .int p1]) (rest := [.int (nI 0), .ref u9]) ⟨hx, hb, hml, hown, hts⟩ (c_X1_printed l hlf hI hO p0 p1 _) (cwV 2 hts gL_printed_X1_printed rfl rfl rfl (by decide +kernel) ⟨Nat.le_of_ble_eq_true rfl, Nat.le_of_ble_eq_true rfl⟩) (pV hP hK hD hS hA hX (va_recv hK hP (ci := 1) (q0 := 0) rfl rfl)) rfl rfl hl.1 rfl (lv_room (Nat.le_of_ble_eq_true rfl)) dL_printed_5 ⟨Nat.le_of_ble_eq_true rfl, Nat.le_of_ble_eq_true rfl⟩) hD hS hA (fun E ce q9 H locs hE hP hS ht => ?_) (fun r w'  H locs hp hP hD hS => ?_)
  · rcases hE with ⟨rfl, hE⟩ | ⟨rfl, hE⟩
    · refine vx_catch (own := RL) (name := "java/lang/IndexOutOfBoundsException") hown [] ⟨0, 10, 13, 15⟩ [⟨0, 10, 17, 13⟩] (by rw [htab]; rfl) (fun z hz => absurd hz List.not_mem_nil) (by decide) (by decide) (hts (.classLink RL 15 "java/lang/IndexOutOfBoundsException") (by decide +kernel)) (va_Nw.use rfl hX.2.2.2.2.1.1) ht.1 ht.2.1 ht.2.2 ?_
      refine lv_astore (lv' := [(4, .ref q9), (0, .ref (G 0)), (1, .int p0), (2, .int p1), (3, .ref u9)]) hx hb dL_printed_13 hl (by decide) rfl (fun ls hl => ?_)
      refine lv_iconst (v := nI 1) hx hb dL_printed_15 (by decide) ?_
      exact C_iret hx hb hr hlocks hS hP hK hD (Nat.le_of_ble_eq_true rfl) (Nat.le_of_ble_eq_true rfl) dL_printed_16 ⟨by rw [hE], G, hd, nx, f0, rfl, by rw [spPrinted_keep (by rw [hE]; decide)], hO, fun h => by rw [hE] at h; cases h⟩
    · refine vx_catch (own := RL) (name := "java/lang/IllegalArgumentException") hown [⟨0, 10, 13, 15⟩] ⟨0, 10, 17, 13⟩ [] (by rw [htab]; rfl) (fun z hz => by obtain rfl := List.mem_singleton.mp hz; exact Or.inr ⟨by decide, "java/lang/IndexOutOfBoundsException", hts (.classLink RL 15 "java/lang/IndexOutOfBoundsException") (by decide +kernel), hX.2.2.2.2.2.2.2.2.1.2.1⟩) (by decide) (by decide) (hts (.classLink RL 13 "java/lang/IllegalArgumentException") (by decide +kernel)) (va_Nw.use rfl hX.2.2.1.1) ht.1 ht.2.1 ht.2.2 ?_
      refine lv_astore (lv' := [(4, .ref q9), (0, .ref (G 0)), (1, .int p0), (2, .int p1), (3, .ref u9)]) hx hb dL_printed_17 hl (by decide) rfl (fun ls hl => ?_)
      refine lv_iconst (v := nI 2) hx hb dL_printed_19 (by decide) ?_
      exact C_iret hx hb hr hlocks hS hP hK hD (Nat.le_of_ble_eq_true rfl) (Nat.le_of_ble_eq_true rfl) dL_printed_20 ⟨by rw [hE], G, hd, nx, f0, rfl, by rw [spPrinted_keep (by rw [hE]; decide)], hO, fun h => by rw [hE] at h; cases h⟩
  obtain ⟨h0, rfl, rfl⟩ := hp
  refine lv_i2l (v := ((spPrinted S p0 p1).2.1).toInt64) hx hb dL_printed_8 rfl ?_
  replace hP := P_perm (CW_front _).symm hP
  replace hD := D_perm (CW_front _).symm hD
  refine r_last (w' := (u9, .inl (cy 1, 1, .inr (.inl (vp_updL f0 0 (((spPrinted S p0 p1).2.1).toInt64))))) :: CW cy G ((spPrinted S p0 p1).2.2) hd nx Y) hx hb hK hP hD hS 0 rfl (show 0 < 1 by decide) (by decide) dL_printed_9 rfl (fun H locs hP hD hS => ?_)
  replace hP := P_perm (CW_front _) hP
  replace hD := D_perm (CW_front _) hD
  refine lv_goto (tgt := 21) hx hb dL_printed_10 (by decide) ?_
  refine lv_iconst (v := nI 0) hx hb dL_printed_21 (by decide) ?_
  exact C_iret hx hb hr hlocks hS hP hK hD (Nat.le_of_ble_eq_true rfl) (Nat.le_of_ble_eq_true rfl) dL_printed_22 ⟨by rw [h0], G, hd, nx, _, rfl, rfl, hO, fun _ => rfl⟩

set_option maxHeartbeats 4000000 in
set_option maxRecDepth 100000 in
theorem c_L_setFloor (l : Launch) (hlf : l.stackTraces = false) {D : va_G} {cy : Nat → ClassId} {G : Nat → Nat} {S : Nat → Nat → Nat} {hd : Option Nat} {nx : Nat → Option Nat} {Y : va_W} {O : List Nat} (hI : Inv S O) (hO : ChP nx hd O) {u9 : Nat} {f0 : Nat → Int64} (p0 : Int32) : CI l yL_setFloor wsL_setFloor ({ frames := 8, cells := 10, slots := 60, locals := 134 } : Room) D cy [.ref (G 0), .int p0, .ref u9] (CW cy G S hd nx ((u9, .inl (cy 1, 1, .inr (.inl f0))) :: Y)) (WQ cy G Y u9 (spSetFloor S p0).1 ((spSetFloor S p0).2.1).toInt64 (spSetFloor S p0).2.2 O) 10 60 := by
  refine CIW.of (hh := [(0, 9, 12, 13)]) (cc := cL_setFloor) (maxL := 4) (ret := (some .int)) (by decide) rfl (Nat.le_of_ble_eq_true rfl) ?_
  intro p e s m below meth c A ls E0 htab hl
  obtain ⟨hx, hb, hml, hown, hts, hr, hlocks, hA, hS, hP, hK, hD, hX⟩ := E0
  have hiX1 : ∀ w ∈ u_ws RX1 TX1 9, w ∈ wsL_setFloor := by decide +kernel
  have hl : lv_has ls 4 [(0, .ref (G 0)), (1, .int p0), (2, .ref u9)] := hl
  refine lv_aload_n hx hb dL_setFloor_0 rfl (lv_at hl 2 rfl) ?_
  refine lv_iconst (v := nI 0) hx hb dL_setFloor_1 (by decide) ?_
  refine lv_aload_n hx hb dL_setFloor_2 rfl (lv_at hl 0 rfl) ?_
  refine lv_iload_n hx hb dL_setFloor_3 rfl (lv_at hl 1 rfl) ?_
  refine Y_i (vx_runV (As := [.int p0]) (rest := [.int (nI 0), .ref u9]) ⟨hx, hb, hml, hown, hts⟩ (c_X1_setFloor l hlf hI hO p0 _) (cwV 1 hts gL_setFloor_X1_setFloor rfl rfl rfl (by decide +kernel) ⟨Nat.le_of_ble_eq_true rfl, Nat.le_of_ble_eq_true rfl⟩) (pV hP hK hD hS hA hX (va_recv hK hP (ci := 1) (q0 := 0) rfl rfl)) rfl rfl hl.1 rfl (lv_room (Nat.le_of_ble_eq_true rfl)) dL_setFloor_4 ⟨Nat.le_of_ble_eq_true rfl, Nat.le_of_ble_eq_true rfl⟩) hD hS hA (fun E ce q9 H locs hE hP hS ht => ?_) (fun r w'  H locs hp hP hD hS => ?_)
  · rcases hE with ⟨rfl, hE⟩
    refine vx_catch (own := RL) (name := "java/lang/IllegalArgumentException") hown [] ⟨0, 9, 12, 13⟩ [] (by rw [htab]; rfl) (fun z hz => absurd hz List.not_mem_nil) (by decide) (by decide) (hts (.classLink RL 13 "java/lang/IllegalArgumentException") (by decide +kernel)) (va_Nw.use rfl hX.2.2.1.1) ht.1 ht.2.1 ht.2.2 ?_
    refine lv_astore_n (lv' := [(3, .ref q9), (0, .ref (G 0)), (1, .int p0), (2, .ref u9)]) hx hb dL_setFloor_12 rfl hl (by decide) rfl (fun ls hl => ?_)
    refine lv_iconst (v := nI 1) hx hb dL_setFloor_13 (by decide) ?_
    exact C_iret hx hb hr hlocks hS hP hK hD (Nat.le_of_ble_eq_true rfl) (Nat.le_of_ble_eq_true rfl) dL_setFloor_14 ⟨by rw [hE], G, hd, nx, f0, rfl, by rw [spSetFloor_keep (by rw [hE]; decide)], hO, fun h => by rw [hE] at h; cases h⟩
  obtain ⟨h0, rfl, rfl⟩ := hp
  refine lv_i2l (v := ((spSetFloor S p0).2.1).toInt64) hx hb dL_setFloor_7 rfl ?_
  replace hP := P_perm (CW_front _).symm hP
  replace hD := D_perm (CW_front _).symm hD
  refine r_last (w' := (u9, .inl (cy 1, 1, .inr (.inl (vp_updL f0 0 (((spSetFloor S p0).2.1).toInt64))))) :: CW cy G ((spSetFloor S p0).2.2) hd nx Y) hx hb hK hP hD hS 0 rfl (show 0 < 1 by decide) (by decide) dL_setFloor_8 rfl (fun H locs hP hD hS => ?_)
  replace hP := P_perm (CW_front _) hP
  replace hD := D_perm (CW_front _) hD
  refine lv_goto (tgt := 15) hx hb dL_setFloor_9 (by decide) ?_
  refine lv_iconst (v := nI 0) hx hb dL_setFloor_15 (by decide) ?_
  exact C_iret hx hb hr hlocks hS hP hK hD (Nat.le_of_ble_eq_true rfl) (Nat.le_of_ble_eq_true rfl) dL_setFloor_16 ⟨by rw [h0], G, hd, nx, _, rfl, rfl, hO, fun _ => rfl⟩

set_option maxHeartbeats 4000000 in
set_option maxRecDepth 100000 in
theorem c_L_advance (l : Launch) (hlf : l.stackTraces = false) {D : va_G} {cy : Nat → ClassId} {G : Nat → Nat} {S : Nat → Nat → Nat} {hd : Option Nat} {nx : Nat → Option Nat} {Y : va_W} {O : List Nat} (hI : Inv S O) (hO : ChP nx hd O) {u9 : Nat} {f0 : Nat → Int64} (p0 p1 : Int32) : CI l yL_advance wsL_advance ({ frames := 9, cells := 10, slots := 60, locals := 154 } : Room) D cy [.ref (G 0), .int p0, .int p1, .ref u9] (CW cy G S hd nx ((u9, .inl (cy 1, 1, .inr (.inl f0))) :: Y)) (WQ cy G Y u9 (spAdvance S p0 p1).1 ((spAdvance S p0 p1).2.1).toInt64 (spAdvance S p0 p1).2.2 O) 10 60 := by
  refine CIW.of (hh := [(0, 10, 13, 13)]) (cc := cL_advance) (maxL := 5) (ret := (some .int)) (by decide) rfl (Nat.le_of_ble_eq_true rfl) ?_
  intro p e s m below meth c A ls E0 htab hl
  obtain ⟨hx, hb, hml, hown, hts, hr, hlocks, hA, hS, hP, hK, hD, hX⟩ := E0
  have hiX1 : ∀ w ∈ u_ws RX1 TX1 9, w ∈ wsL_advance := by decide +kernel
  have hl : lv_has ls 5 [(0, .ref (G 0)), (1, .int p0), (2, .int p1), (3, .ref u9)] := hl
  refine lv_aload_n hx hb dL_advance_0 rfl (lv_at hl 3 rfl) ?_
  refine lv_iconst (v := nI 0) hx hb dL_advance_1 (by decide) ?_
  refine lv_aload_n hx hb dL_advance_2 rfl (lv_at hl 0 rfl) ?_
  refine lv_iload_n hx hb dL_advance_3 rfl (lv_at hl 1 rfl) ?_
  refine lv_iload_n hx hb dL_advance_4 rfl (lv_at hl 2 rfl) ?_
  refine Y_i (vx_runV (As := [.int p0, .int p1]) (rest := [.int (nI 0), .ref u9]) ⟨hx, hb, hml, hown, hts⟩ (c_X1_advance l hlf hI hO p0 p1 _) (cwV 2 hts gL_advance_X1_advance rfl rfl rfl (by decide +kernel) ⟨Nat.le_of_ble_eq_true rfl, Nat.le_of_ble_eq_true rfl⟩) (pV hP hK hD hS hA hX (va_recv hK hP (ci := 1) (q0 := 0) rfl rfl)) rfl rfl hl.1 rfl (lv_room (Nat.le_of_ble_eq_true rfl)) dL_advance_5 ⟨Nat.le_of_ble_eq_true rfl, Nat.le_of_ble_eq_true rfl⟩) hD hS hA (fun E ce q9 H locs hE hP hS ht => ?_) (fun r w'  H locs hp hP hD hS => ?_)
  · rcases hE with ⟨rfl, hE⟩
    refine vx_catch (own := RL) (name := "java/lang/IllegalArgumentException") hown [] ⟨0, 10, 13, 13⟩ [] (by rw [htab]; rfl) (fun z hz => absurd hz List.not_mem_nil) (by decide) (by decide) (hts (.classLink RL 13 "java/lang/IllegalArgumentException") (by decide +kernel)) (va_Nw.use rfl hX.2.2.1.1) ht.1 ht.2.1 ht.2.2 ?_
    refine lv_astore (lv' := [(4, .ref q9), (0, .ref (G 0)), (1, .int p0), (2, .int p1), (3, .ref u9)]) hx hb dL_advance_13 hl (by decide) rfl (fun ls hl => ?_)
    refine lv_iconst (v := nI 1) hx hb dL_advance_15 (by decide) ?_
    exact C_iret hx hb hr hlocks hS hP hK hD (Nat.le_of_ble_eq_true rfl) (Nat.le_of_ble_eq_true rfl) dL_advance_16 ⟨by rw [hE], G, hd, nx, f0, rfl, by rw [spAdvance_keep (by rw [hE]; decide)], hO, fun h => by rw [hE] at h; cases h⟩
  obtain ⟨h0, rfl, rfl⟩ := hp
  refine lv_i2l (v := ((spAdvance S p0 p1).2.1).toInt64) hx hb dL_advance_8 rfl ?_
  replace hP := P_perm (CW_front _).symm hP
  replace hD := D_perm (CW_front _).symm hD
  refine r_last (w' := (u9, .inl (cy 1, 1, .inr (.inl (vp_updL f0 0 (((spAdvance S p0 p1).2.1).toInt64))))) :: CW cy G ((spAdvance S p0 p1).2.2) hd nx Y) hx hb hK hP hD hS 0 rfl (show 0 < 1 by decide) (by decide) dL_advance_9 rfl (fun H locs hP hD hS => ?_)
  replace hP := P_perm (CW_front _) hP
  replace hD := D_perm (CW_front _) hD
  refine lv_goto (tgt := 17) hx hb dL_advance_10 (by decide) ?_
  refine lv_iconst (v := nI 0) hx hb dL_advance_17 (by decide) ?_
  exact C_iret hx hb hr hlocks hS hP hK hD (Nat.le_of_ble_eq_true rfl) (Nat.le_of_ble_eq_true rfl) dL_advance_18 ⟨by rw [h0], G, hd, nx, _, rfl, rfl, hO, fun _ => rfl⟩

set_option maxHeartbeats 4000000 in
set_option maxRecDepth 100000 in
theorem c_L_sell (l : Launch) (hlf : l.stackTraces = false) {D : va_G} {cy : Nat → ClassId} {G : Nat → Nat} {S : Nat → Nat → Nat} {hd : Option Nat} {nx : Nat → Option Nat} {Y : va_W} {O : List Nat} (hI : Inv S O) (hO : ChP nx hd O) {u9 : Nat} {f0 : Nat → Int64} (p0 p1 : Int32) : CI l yL_sell wsL_sell ({ frames := 8, cells := 10, slots := 60, locals := 138 } : Room) D cy [.ref (G 0), .int p0, .int p1, .ref u9] (CW cy G S hd nx ((u9, .inl (cy 1, 1, .inr (.inl f0))) :: Y)) (WQ cy G Y u9 (spSell S p0 p1).1 ((spSell S p0 p1).2.1).toInt64 (spSell S p0 p1).2.2 O) 10 60 := by
  refine CIW.of (hh := [(0, 10, 13, 15), (0, 10, 17, 13)]) (cc := cL_sell) (maxL := 5) (ret := (some .int)) (by decide) rfl (Nat.le_of_ble_eq_true rfl) ?_
  intro p e s m below meth c A ls E0 htab hl
  obtain ⟨hx, hb, hml, hown, hts, hr, hlocks, hA, hS, hP, hK, hD, hX⟩ := E0
  have hiX1 : ∀ w ∈ u_ws RX1 TX1 9, w ∈ wsL_sell := by decide +kernel
  have hl : lv_has ls 5 [(0, .ref (G 0)), (1, .int p0), (2, .int p1), (3, .ref u9)] := hl
  refine lv_aload_n hx hb dL_sell_0 rfl (lv_at hl 3 rfl) ?_
  refine lv_iconst (v := nI 0) hx hb dL_sell_1 (by decide) ?_
  refine lv_aload_n hx hb dL_sell_2 rfl (lv_at hl 0 rfl) ?_
  refine lv_iload_n hx hb dL_sell_3 rfl (lv_at hl 1 rfl) ?_
  refine lv_iload_n hx hb dL_sell_4 rfl (lv_at hl 2 rfl) ?_
  refine Y_i (vx_runV (As := [.int p0, .int p1]) (rest := [.int (nI 0), .ref u9]) ⟨hx, hb, hml, hown, hts⟩ (c_X1_sell l hlf hI hO p0 p1 _) (cwV 2 hts gL_sell_X1_sell rfl rfl rfl (by decide +kernel) ⟨Nat.le_of_ble_eq_true rfl, Nat.le_of_ble_eq_true rfl⟩) (pV hP hK hD hS hA hX (va_recv hK hP (ci := 1) (q0 := 0) rfl rfl)) rfl rfl hl.1 rfl (lv_room (Nat.le_of_ble_eq_true rfl)) dL_sell_5 ⟨Nat.le_of_ble_eq_true rfl, Nat.le_of_ble_eq_true rfl⟩) hD hS hA (fun E ce q9 H locs hE hP hS ht => ?_) (fun r w'  H locs hp hP hD hS => ?_)
  · rcases hE with ⟨rfl, hE⟩ | ⟨rfl, hE⟩
    · refine vx_catch (own := RL) (name := "java/lang/IndexOutOfBoundsException") hown [] ⟨0, 10, 13, 15⟩ [⟨0, 10, 17, 13⟩] (by rw [htab]; rfl) (fun z hz => absurd hz List.not_mem_nil) (by decide) (by decide) (hts (.classLink RL 15 "java/lang/IndexOutOfBoundsException") (by decide +kernel)) (va_Nw.use rfl hX.2.2.2.2.1.1) ht.1 ht.2.1 ht.2.2 ?_
      refine lv_astore (lv' := [(4, .ref q9), (0, .ref (G 0)), (1, .int p0), (2, .int p1), (3, .ref u9)]) hx hb dL_sell_13 hl (by decide) rfl (fun ls hl => ?_)
      refine lv_iconst (v := nI 1) hx hb dL_sell_15 (by decide) ?_
      exact C_iret hx hb hr hlocks hS hP hK hD (Nat.le_of_ble_eq_true rfl) (Nat.le_of_ble_eq_true rfl) dL_sell_16 ⟨by rw [hE], G, hd, nx, f0, rfl, by rw [spSell_keep (by rw [hE]; decide)], hO, fun h => by rw [hE] at h; cases h⟩
    · refine vx_catch (own := RL) (name := "java/lang/IllegalArgumentException") hown [⟨0, 10, 13, 15⟩] ⟨0, 10, 17, 13⟩ [] (by rw [htab]; rfl) (fun z hz => by obtain rfl := List.mem_singleton.mp hz; exact Or.inr ⟨by decide, "java/lang/IndexOutOfBoundsException", hts (.classLink RL 15 "java/lang/IndexOutOfBoundsException") (by decide +kernel), hX.2.2.2.2.2.2.2.2.1.2.1⟩) (by decide) (by decide) (hts (.classLink RL 13 "java/lang/IllegalArgumentException") (by decide +kernel)) (va_Nw.use rfl hX.2.2.1.1) ht.1 ht.2.1 ht.2.2 ?_
      refine lv_astore (lv' := [(4, .ref q9), (0, .ref (G 0)), (1, .int p0), (2, .int p1), (3, .ref u9)]) hx hb dL_sell_17 hl (by decide) rfl (fun ls hl => ?_)
      refine lv_iconst (v := nI 2) hx hb dL_sell_19 (by decide) ?_
      exact C_iret hx hb hr hlocks hS hP hK hD (Nat.le_of_ble_eq_true rfl) (Nat.le_of_ble_eq_true rfl) dL_sell_20 ⟨by rw [hE], G, hd, nx, f0, rfl, by rw [spSell_keep (by rw [hE]; decide)], hO, fun h => by rw [hE] at h; cases h⟩
  obtain ⟨h0, rfl, rfl⟩ := hp
  refine lv_i2l (v := ((spSell S p0 p1).2.1).toInt64) hx hb dL_sell_8 rfl ?_
  replace hP := P_perm (CW_front _).symm hP
  replace hD := D_perm (CW_front _).symm hD
  refine r_last (w' := (u9, .inl (cy 1, 1, .inr (.inl (vp_updL f0 0 (((spSell S p0 p1).2.1).toInt64))))) :: CW cy G ((spSell S p0 p1).2.2) hd nx Y) hx hb hK hP hD hS 0 rfl (show 0 < 1 by decide) (by decide) dL_sell_9 rfl (fun H locs hP hD hS => ?_)
  replace hP := P_perm (CW_front _) hP
  replace hD := D_perm (CW_front _) hD
  refine lv_goto (tgt := 21) hx hb dL_sell_10 (by decide) ?_
  refine lv_iconst (v := nI 0) hx hb dL_sell_21 (by decide) ?_
  exact C_iret hx hb hr hlocks hS hP hK hD (Nat.le_of_ble_eq_true rfl) (Nat.le_of_ble_eq_true rfl) dL_sell_22 ⟨by rw [h0], G, hd, nx, _, rfl, rfl, hO, fun _ => rfl⟩

set_option maxHeartbeats 4000000 in
set_option maxRecDepth 100000 in
theorem c_L_paid (l : Launch) (hlf : l.stackTraces = false) {D : va_G} {cy : Nat → ClassId} {G : Nat → Nat} {S : Nat → Nat → Nat} {hd : Option Nat} {nx : Nat → Option Nat} {Y : va_W} {O : List Nat} (hI : Inv S O) (hO : ChP nx hd O) {u9 : Nat} {f0 : Nat → Int64} (p0 : Int32) : CI l yL_paid wsL_paid ({ frames := 9, cells := 10, slots := 60, locals := 153 } : Room) D cy [.ref (G 0), .int p0, .ref u9] (CW cy G S hd nx ((u9, .inl (cy 1, 1, .inr (.inl f0))) :: Y)) (WQ cy G Y u9 (cPaid p0) (lN (S 11 (aN p0))) S O) 10 60 := by
  refine CIW.of (hh := [(0, 8, 11, 13)]) (cc := cL_paid) (maxL := 4) (ret := (some .int)) (by decide) rfl (Nat.le_of_ble_eq_true rfl) ?_
  intro p e s m below meth c A ls E0 htab hl
  obtain ⟨hx, hb, hml, hown, hts, hr, hlocks, hA, hS, hP, hK, hD, hX⟩ := E0
  have hiX1 : ∀ w ∈ u_ws RX1 TX1 9, w ∈ wsL_paid := by decide +kernel
  have hl : lv_has ls 4 [(0, .ref (G 0)), (1, .int p0), (2, .ref u9)] := hl
  refine lv_aload_n hx hb dL_paid_0 rfl (lv_at hl 2 rfl) ?_
  refine lv_iconst (v := nI 0) hx hb dL_paid_1 (by decide) ?_
  refine lv_aload_n hx hb dL_paid_2 rfl (lv_at hl 0 rfl) ?_
  refine lv_iload_n hx hb dL_paid_3 rfl (lv_at hl 1 rfl) ?_
  refine Y_l (vx_runV (As := [.int p0]) (rest := [.int (nI 0), .ref u9]) ⟨hx, hb, hml, hown, hts⟩ (c_X1_paid l hlf hI hO p0 _) (cwV 1 hts gL_paid_X1_paid rfl rfl rfl (by decide +kernel) ⟨Nat.le_of_ble_eq_true rfl, Nat.le_of_ble_eq_true rfl⟩) (pV hP hK hD hS hA hX (va_recv hK hP (ci := 1) (q0 := 0) rfl rfl)) rfl rfl hl.1 rfl (lv_room (Nat.le_of_ble_eq_true rfl)) dL_paid_4 ⟨Nat.le_of_ble_eq_true rfl, Nat.le_of_ble_eq_true rfl⟩) hD hS hA (fun E ce q9 H locs hE hP hS ht => ?_) (fun r w'  H locs hp hP hD hS => ?_)
  · rcases hE with ⟨rfl, hE⟩
    refine vx_catch (own := RL) (name := "java/lang/IllegalArgumentException") hown [] ⟨0, 8, 11, 13⟩ [] (by rw [htab]; rfl) (fun z hz => absurd hz List.not_mem_nil) (by decide) (by decide) (hts (.classLink RL 13 "java/lang/IllegalArgumentException") (by decide +kernel)) (va_Nw.use rfl hX.2.2.1.1) ht.1 ht.2.1 ht.2.2 ?_
    refine lv_astore_n (lv' := [(3, .ref q9), (0, .ref (G 0)), (1, .int p0), (2, .ref u9)]) hx hb dL_paid_11 rfl hl (by decide) rfl (fun ls hl => ?_)
    refine lv_iconst (v := nI 1) hx hb dL_paid_12 (by decide) ?_
    exact C_iret hx hb hr hlocks hS hP hK hD (Nat.le_of_ble_eq_true rfl) (Nat.le_of_ble_eq_true rfl) dL_paid_13 ⟨by rw [hE], G, hd, nx, f0, rfl, rfl, hO, fun h => by rw [hE] at h; cases h⟩
  obtain ⟨h0, rfl, rfl⟩ := hp
  replace hP := P_perm (CW_front _).symm hP
  replace hD := D_perm (CW_front _).symm hD
  refine r_last (w' := (u9, .inl (cy 1, 1, .inr (.inl (vp_updL f0 0 (lN (S 11 (aN p0))))))) :: CW cy G S hd nx Y) hx hb hK hP hD hS 0 rfl (show 0 < 1 by decide) (by decide) dL_paid_7 rfl (fun H locs hP hD hS => ?_)
  replace hP := P_perm (CW_front _) hP
  replace hD := D_perm (CW_front _) hD
  refine lv_goto (tgt := 14) hx hb dL_paid_8 (by decide) ?_
  refine lv_iconst (v := nI 0) hx hb dL_paid_14 (by decide) ?_
  exact C_iret hx hb hr hlocks hS hP hK hD (Nat.le_of_ble_eq_true rfl) (Nat.le_of_ble_eq_true rfl) dL_paid_15 ⟨by rw [h0], G, hd, nx, _, rfl, rfl, hO, fun _ => rfl⟩

set_option maxHeartbeats 4000000 in
set_option maxRecDepth 100000 in
theorem c_L_left (l : Launch) (hlf : l.stackTraces = false) {D : va_G} {cy : Nat → ClassId} {G : Nat → Nat} {S : Nat → Nat → Nat} {hd : Option Nat} {nx : Nat → Option Nat} {Y : va_W} {O : List Nat} (hI : Inv S O) (hO : ChP nx hd O) {u9 : Nat} {f0 : Nat → Int64} (p0 : Int32) : CI l yL_left wsL_left ({ frames := 9, cells := 10, slots := 60, locals := 153 } : Room) D cy [.ref (G 0), .int p0, .ref u9] (CW cy G S hd nx ((u9, .inl (cy 1, 1, .inr (.inl f0))) :: Y)) (WQ cy G Y u9 (spLeft S p0).1 ((spLeft S p0).2.1).toInt64 (spLeft S p0).2.2 O) 10 60 := by
  refine CIW.of (hh := [(0, 9, 12, 13)]) (cc := cL_left) (maxL := 4) (ret := (some .int)) (by decide) rfl (Nat.le_of_ble_eq_true rfl) ?_
  intro p e s m below meth c A ls E0 htab hl
  obtain ⟨hx, hb, hml, hown, hts, hr, hlocks, hA, hS, hP, hK, hD, hX⟩ := E0
  have hiX1 : ∀ w ∈ u_ws RX1 TX1 9, w ∈ wsL_left := by decide +kernel
  have hl : lv_has ls 4 [(0, .ref (G 0)), (1, .int p0), (2, .ref u9)] := hl
  refine lv_aload_n hx hb dL_left_0 rfl (lv_at hl 2 rfl) ?_
  refine lv_iconst (v := nI 0) hx hb dL_left_1 (by decide) ?_
  refine lv_aload_n hx hb dL_left_2 rfl (lv_at hl 0 rfl) ?_
  refine lv_iload_n hx hb dL_left_3 rfl (lv_at hl 1 rfl) ?_
  refine Y_i (vx_runV (As := [.int p0]) (rest := [.int (nI 0), .ref u9]) ⟨hx, hb, hml, hown, hts⟩ (c_X1_left l hlf hI hO p0 _) (cwV 1 hts gL_left_X1_left rfl rfl rfl (by decide +kernel) ⟨Nat.le_of_ble_eq_true rfl, Nat.le_of_ble_eq_true rfl⟩) (pV hP hK hD hS hA hX (va_recv hK hP (ci := 1) (q0 := 0) rfl rfl)) rfl rfl hl.1 rfl (lv_room (Nat.le_of_ble_eq_true rfl)) dL_left_4 ⟨Nat.le_of_ble_eq_true rfl, Nat.le_of_ble_eq_true rfl⟩) hD hS hA (fun E ce q9 H locs hE hP hS ht => ?_) (fun r w'  H locs hp hP hD hS => ?_)
  · rcases hE with ⟨rfl, hE⟩
    refine vx_catch (own := RL) (name := "java/lang/IllegalArgumentException") hown [] ⟨0, 9, 12, 13⟩ [] (by rw [htab]; rfl) (fun z hz => absurd hz List.not_mem_nil) (by decide) (by decide) (hts (.classLink RL 13 "java/lang/IllegalArgumentException") (by decide +kernel)) (va_Nw.use rfl hX.2.2.1.1) ht.1 ht.2.1 ht.2.2 ?_
    refine lv_astore_n (lv' := [(3, .ref q9), (0, .ref (G 0)), (1, .int p0), (2, .ref u9)]) hx hb dL_left_12 rfl hl (by decide) rfl (fun ls hl => ?_)
    refine lv_iconst (v := nI 1) hx hb dL_left_13 (by decide) ?_
    exact C_iret hx hb hr hlocks hS hP hK hD (Nat.le_of_ble_eq_true rfl) (Nat.le_of_ble_eq_true rfl) dL_left_14 ⟨by rw [hE], G, hd, nx, f0, rfl, by rw [spLeft_keep (by rw [hE]; decide)], hO, fun h => by rw [hE] at h; cases h⟩
  obtain ⟨h0, rfl, rfl⟩ := hp
  refine lv_i2l (v := ((spLeft S p0).2.1).toInt64) hx hb dL_left_7 rfl ?_
  replace hP := P_perm (CW_front _).symm hP
  replace hD := D_perm (CW_front _).symm hD
  refine r_last (w' := (u9, .inl (cy 1, 1, .inr (.inl (vp_updL f0 0 (((spLeft S p0).2.1).toInt64))))) :: CW cy G ((spLeft S p0).2.2) hd nx Y) hx hb hK hP hD hS 0 rfl (show 0 < 1 by decide) (by decide) dL_left_8 rfl (fun H locs hP hD hS => ?_)
  replace hP := P_perm (CW_front _) hP
  replace hD := D_perm (CW_front _) hD
  refine lv_goto (tgt := 15) hx hb dL_left_9 (by decide) ?_
  refine lv_iconst (v := nI 0) hx hb dL_left_15 (by decide) ?_
  exact C_iret hx hb hr hlocks hS hP hK hD (Nat.le_of_ble_eq_true rfl) (Nat.le_of_ble_eq_true rfl) dL_left_16 ⟨by rw [h0], G, hd, nx, _, rfl, rfl, hO, fun _ => rfl⟩
