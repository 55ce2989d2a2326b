/-! ===== the class: signs ===== -/
section ROWQ
variable {p : Program} {l : Launch} {e : Env} {R : Room} {s : State} {m : MethodId} {args : Array Value} {below : List Frame} {meth : Method} {c : Code} {H : Heap} {locs : List Loc} {cells slots : Nat} {Q : State → Prop}
variable {cc : ByteArray} {pc : Nat} {ls : Array Slot} {rest : List Value} {D : va_G} {cy : Nat → ClassId} {A : Nat → Prop} {w w' : va_W} {a : Nat} {Ts : List Cond}
theorem r_astoreq {x : Option Nat} {i nL : Nat} {lv lv' : List (Nat × Value)} (hx : p.tables.exec = Jvm.exec) (hb : c.code = cc) (hdg : decode cc pc = .ok (.astore i, 2)) (h : lv_has ls nL lv) (hn : i < nL) (hl : (i, va_rf x) :: lv.filter (fun q => !(q.1 == i) && !(q.1 + 1 == i && q.2.category == 2)) = lv')
    (kk : ∀ ls' : Array Slot, lv_has ls' nL lv' → W p l e R s m args below meth c H locs cells slots Q (F0 m (pc + 2) ls' rest)) : W p l e R s m args below meth c H locs cells slots Q (F0 m pc ls (va_rf x :: rest)) := by
  cases x with
  | none => exact lv_astoreN hx hb hdg h hn hl kk
  | some y => exact lv_astore hx hb hdg h hn hl kk
theorem r_astore_nq {x : Option Nat} {k : Fin 4} {i nL : Nat} {lv lv' : List (Nat × Value)} (hx : p.tables.exec = Jvm.exec) (hb : c.code = cc) (hdg : decode cc pc = .ok (.astore_n k, 1)) (hi : (k : Nat) = i) (h : lv_has ls nL lv) (hn : i < nL) (hl : (i, va_rf x) :: lv.filter (fun q => !(q.1 == i) && !(q.1 + 1 == i && q.2.category == 2)) = lv')
    (kk : ∀ ls' : Array Slot, lv_has ls' nL lv' → W p l e R s m args below meth c H locs cells slots Q (F0 m (pc + 1) ls' rest)) : W p l e R s m args below meth c H locs cells slots Q (F0 m pc ls (va_rf x :: rest)) := by
  cases x with
  | none => exact lv_astore_nN hx hb hdg hi h hn hl kk
  | some y => exact lv_astore_n hx hb hdg hi h hn hl kk
theorem r_aloadq {x : Option Nat} {i : Nat} (hx : p.tables.exec = Jvm.exec) (hb : c.code = cc) (hdg : decode cc pc = .ok (.aload i, 2)) (hl : ls[i]? = some (.val (va_rf x)))
    (k : W p l e R s m args below meth c H locs cells slots Q (F0 m (pc + 2) ls (va_rf x :: rest))) : W p l e R s m args below meth c H locs cells slots Q (F0 m pc ls rest) := by
  cases x with
  | none => exact lv_aloadN hx hb hdg hl k
  | some y => exact lv_aload hx hb hdg hl k
theorem r_aload_nq {x : Option Nat} {k : Fin 4} {i : Nat} (hx : p.tables.exec = Jvm.exec) (hb : c.code = cc) (hdg : decode cc pc = .ok (.aload_n k, 1)) (hi : (k : Nat) = i) (hl : ls[i]? = some (.val (va_rf x)))
    (k : W p l e R s m args below meth c H locs cells slots Q (F0 m (pc + 1) ls (va_rf x :: rest))) : W p l e R s m args below meth c H locs cells slots Q (F0 m pc ls rest) := by
  cases x with
  | none => exact lv_aload_nN hx hb hdg hi hl k
  | some y => exact lv_aload_n hx hb hdg hi hl k
theorem r_putN {own C host : String} {T : u_T} {N ci index q0 k : Nat} {ty0 : Nat → FieldType} {fs : List Value} {v : Value} (hx : p.tables.exec = Jvm.exec) (hb : c.code = cc) (hts : ∀ w ∈ Ts, w.before args s = true) (hin : ∀ w ∈ u_ws C T N, w ∈ Ts) (hty : ∀ k, k < N → parseFieldDescriptor (T k).2.2.1 = some (ty0 k)) (hnm : ∀ a, a < N → ∀ b, b < N → a ≠ b → (T a).2.1 ≠ (T b).2.1) (hown : s.vm.findClass own = some m.cls) (hK : va_K D vwCl (TYS cy) s) (hP : va_P D vwCl w H) (hD : va_D A w) (hS : va_S A s.heap H locs) (he : w[q0]? = some (a, .inr (ci, fs))) (hc : vwCl[ci]? = some (C, T, N)) (hk : k < N) (hlink : (Cond.fieldLinkNest own index (T k).1 (T k).2.1 (T k).2.2.1 host).before args s = true) (hfin : (T k).2.2.2 = false) {ty : FieldType} (hd : parseFieldDescriptor (T k).2.2.1 = some ty) (hn : narrow ty v = v) (hfit : fits ty v = true) (hl : k < fs.length) (hdg : decode cc pc = .ok (.putfield index, 3)) (hw : w.set q0 (a, .inr (ci, fs.set k v)) = w')
    (kk : ∀ (H1 : Heap) (locs1 : List Loc), va_P D vwCl w' H1 → va_D A w' → va_S A s.heap H1 locs1 → W p l e R s m args below meth c H1 locs1 cells slots Q (F0 m (pc + 3) ls rest)) : W p l e R s m args below meth c H locs cells slots Q (F0 m pc ls (v :: .ref a :: rest)) :=
  va_putN hx hb hts hin ty0 hty hnm hown hK hP hD hS q0 he hc k hk hlink (fun _ h => h) hfin hd hn hfit hl hdg (fun H1 l1 h1 h2 h3 => kk H1 l1 (hw ▸ h1) (hw ▸ h2) h3)
end ROWQ

set_option maxHeartbeats 4000000 in
set_option maxRecDepth 100000 in
theorem c_X0_isKnownIn (l : Launch) {D : va_G} {cy : Nat → ClassId} {G : Nat → Nat} {S : Nat → Nat → Nat} {hd : Option Nat} {nx : Nat → Option Nat} {Y : va_W} (hR : Rng S) {i c9 : Nat} (hi : i < S 0 0) (hc9 : c9 < 4) : CI l yX0_isKnownIn wsX0_isKnownIn ({ frames := 1, cells := 0, slots := 0, locals := 12 } : Room) D cy [.ref (G (100 + 3 * i)), .int (nI c9)] (CW cy G S hd nx Y) (fun r w' => r = nI (S 5 (60 * c9 + i)) ∧ w' = CW cy G S hd nx Y) 0 0 := by
  refine CI.of (cc := cX0_isKnownIn) (maxL := 2) (ret := (some .boolean)) (by decide) rfl (Nat.le_of_ble_eq_true rfl) ?_
  intro p e s m below meth c A ls E0 hl
  obtain ⟨hx, hb, hml, hown, hts, hr, hlocks, hA, hS, hP, hK, hD, hX⟩ := E0
  have hiX0 : ∀ w ∈ u_ws RX0 TX0 8, w ∈ wsX0_isKnownIn := by decide +kernel
  have hl : lv_has ls 2 [(0, .ref (G (100 + 3 * i))), (1, .int (nI c9))] := hl
  have h5 := hR.2.2.2.2.2.2.2.1 (60 * c9 + i)
  have h7 := hR.2.2.2.2.2.2.2.2.2.1 (60 * c9 + i)
  refine lv_aload_n hx hb dX0_isKnownIn_0 rfl (lv_at hl 0 rfl) ?_
  refine va_get (D := D) (ci := 0) (v := .ref (G (101 + 3 * i))) (C := RX0) (T := TX0) (N := 8) hx hb hts hiX0 hown hK hP (6 + (20 + i)) (CW_sg hi) rfl 6 (by decide) (hts (.fieldLink RX0 15 "CoauthorText$Sign" "stampsInCopies" "[I") (by decide +kernel)) (fun _ h9 => h9) rfl dX0_isKnownIn_1 ?_
  refine lv_iload_n hx hb dX0_isKnownIn_4 rfl (lv_at hl 1 rfl) ?_
  refine r_iald hx hb hK hP (6 + (20 + (S 0 0 + i))) (CW_st hi) (by omega) (by decide) dX0_isKnownIn_5 ?_
  refine lv_iconst (v := (-1)) hx hb dX0_isKnownIn_6 (by decide) ?_
  refine lv_icmp_eq (tgt := 14) hx hb dX0_isKnownIn_7 (by decide) (fun cE => ?_) (fun cE => ?_)
  · have e0 : S 5 (60 * c9 + i) = 0 := by
      false_or_by_contra
      rename_i h
      rw [stV, if_neg h] at cE
      exact nI_m1 (by omega) cE
    refine lv_iconst (v := nI 0) hx hb dX0_isKnownIn_14 (by decide) ?_
    exact C_zret hx hb hr hlocks hS hP hK hD (Nat.le_of_ble_eq_true rfl) (Nat.le_of_ble_eq_true rfl) dX0_isKnownIn_15 rfl ⟨by rw [e0], rfl⟩
  · have e1 : S 5 (60 * c9 + i) = 1 := by
      have : ¬ S 5 (60 * c9 + i) = 0 := fun h => cE (by rw [stV, if_pos h])
      omega
    refine lv_iconst (v := nI 1) hx hb dX0_isKnownIn_10 (by decide) ?_
    refine lv_goto (tgt := 15) hx hb dX0_isKnownIn_11 (by decide) ?_
    exact C_zret hx hb hr hlocks hS hP hK hD (Nat.le_of_ble_eq_true rfl) (Nat.le_of_ble_eq_true rfl) dX0_isKnownIn_15 rfl ⟨by rw [e1], rfl⟩

set_option maxHeartbeats 4000000 in
set_option maxRecDepth 100000 in
theorem c_X0_isRemovedIn (l : Launch) {D : va_G} {cy : Nat → ClassId} {G : Nat → Nat} {S : Nat → Nat → Nat} {hd : Option Nat} {nx : Nat → Option Nat} {Y : va_W} (hR : Rng S) {i c9 : Nat} (hi : i < S 0 0) (hc9 : c9 < 4) : CI l yX0_isRemovedIn wsX0_isRemovedIn ({ frames := 2, cells := 0, slots := 0, locals := 33 } : Room) D cy [.ref (G (100 + 3 * i)), .int (nI c9)] (CW cy G S hd nx Y) (fun r w' => r = nI (bN (decide (S 5 (60 * c9 + i) = 1) && decide (S 6 (60 * c9 + i) = 1))) ∧ w' = CW cy G S hd nx Y) 0 0 := by
  refine CI.of (cc := cX0_isRemovedIn) (maxL := 2) (ret := (some .boolean)) (by decide) rfl (Nat.le_of_ble_eq_true rfl) ?_
  intro p e s m below meth c A ls E0 hl
  obtain ⟨hx, hb, hml, hown, hts, hr, hlocks, hA, hS, hP, hK, hD, hX⟩ := E0
  have hiX0 : ∀ w ∈ u_ws RX0 TX0 8, w ∈ wsX0_isRemovedIn := by decide +kernel
  have hl : lv_has ls 2 [(0, .ref (G (100 + 3 * i))), (1, .int (nI c9))] := hl
  have h5 := hR.2.2.2.2.2.2.2.1 (60 * c9 + i)
  have h6 := hR.2.2.2.2.2.2.2.2.1 (60 * c9 + i)
  refine lv_aload_n hx hb dX0_isRemovedIn_0 rfl (lv_at hl 0 rfl) ?_
  refine lv_iload_n hx hb dX0_isRemovedIn_1 rfl (lv_at hl 1 rfl) ?_
  refine K_i (va_runV (As := [.int (nI c9)]) (rest := []) ⟨hx, hb, hml, hown, hts⟩ (c_X0_isKnownIn l hR hi hc9 _) (cwV 1 hts gX0_isRemovedIn_X0_isKnownIn rfl rfl rfl (by decide +kernel) ⟨Nat.le_of_ble_eq_true rfl, Nat.le_of_ble_eq_true rfl⟩) (pV hP hK hD hS hA hX (va_recv hK hP (ci := 0) (q0 := 6 + (20 + i)) rfl (CW_sg hi))) rfl rfl hl.1 rfl (lv_room (Nat.le_of_ble_eq_true rfl)) dX0_isRemovedIn_2 ⟨Nat.le_of_ble_eq_true rfl, Nat.le_of_ble_eq_true rfl⟩) hD hS hA (fun r w'  H locs hp hP hD hS => ?_)
  obtain ⟨rfl, rfl⟩ := hp
  refine r_if_eq (tgt := 21) hx hb dX0_isRemovedIn_5 (by decide) (by omega) (fun c1 => ?_) (fun c1 => ?_)
  · refine lv_iconst (v := nI 0) hx hb dX0_isRemovedIn_21 (by decide) ?_
    exact C_zret hx hb hr hlocks hS hP hK hD (Nat.le_of_ble_eq_true rfl) (Nat.le_of_ble_eq_true rfl) dX0_isRemovedIn_22 rfl ⟨by rw [show (decide (S 5 (60 * c9 + i) = 1) && decide (S 6 (60 * c9 + i) = 1)) = false from by simp; omega]; rfl, rfl⟩
  · refine lv_aload_n hx hb dX0_isRemovedIn_8 rfl (lv_at hl 0 rfl) ?_
    refine va_get (D := D) (ci := 0) (v := .ref (G (102 + 3 * i))) (C := RX0) (T := TX0) (N := 8) hx hb hts hiX0 hown hK hP (6 + (20 + i)) (CW_sg hi) rfl 7 (by decide) (hts (.fieldLink RX0 19 "CoauthorText$Sign" "removedInCopies" "[Z") (by decide +kernel)) (fun _ h9 => h9) rfl dX0_isRemovedIn_9 ?_
    refine lv_iload_n hx hb dX0_isRemovedIn_12 rfl (lv_at hl 1 rfl) ?_
    refine r_zald hx hb hK hP (6 + (20 + (S 0 0 + (S 0 0 + i)))) (CW_rm hi) (by omega) (by decide) dX0_isRemovedIn_13 ?_
    refine r_if_eq (tgt := 21) hx hb dX0_isRemovedIn_14 (by decide) (by omega) (fun c2 => ?_) (fun c2 => ?_)
    · refine lv_iconst (v := nI 0) hx hb dX0_isRemovedIn_21 (by decide) ?_
      exact C_zret hx hb hr hlocks hS hP hK hD (Nat.le_of_ble_eq_true rfl) (Nat.le_of_ble_eq_true rfl) dX0_isRemovedIn_22 rfl ⟨by rw [show (decide (S 5 (60 * c9 + i) = 1) && decide (S 6 (60 * c9 + i) = 1)) = false from by simp; omega]; rfl, rfl⟩
    · refine lv_iconst (v := nI 1) hx hb dX0_isRemovedIn_17 (by decide) ?_
      refine lv_goto (tgt := 22) hx hb dX0_isRemovedIn_18 (by decide) ?_
      exact C_zret hx hb hr hlocks hS hP hK hD (Nat.le_of_ble_eq_true rfl) (Nat.le_of_ble_eq_true rfl) dX0_isRemovedIn_22 rfl ⟨by rw [show (decide (S 5 (60 * c9 + i) = 1) && decide (S 6 (60 * c9 + i) = 1)) = true from by simp; omega]; rfl, rfl⟩

set_option maxHeartbeats 4000000 in
set_option maxRecDepth 100000 in
theorem c_X0_isInTextOf (l : Launch) {D : va_G} {cy : Nat → ClassId} {G : Nat → Nat} {S : Nat → Nat → Nat} {hd : Option Nat} {nx : Nat → Option Nat} {Y : va_W} (hR : Rng S) {i c9 : Nat} (hi : i < S 0 0) (hc9 : c9 < 4) : CI l yX0_isInTextOf wsX0_isInTextOf ({ frames := 2, cells := 0, slots := 0, locals := 33 } : Room) D cy [.ref (G (100 + 3 * i)), .int (nI c9)] (CW cy G S hd nx Y) (fun r w' => r = nI (bN (vsb S c9 i)) ∧ w' = CW cy G S hd nx Y) 0 0 := by
  refine CI.of (cc := cX0_isInTextOf) (maxL := 2) (ret := (some .boolean)) (by decide) rfl (Nat.le_of_ble_eq_true rfl) ?_
  intro p e s m below meth c A ls E0 hl
  obtain ⟨hx, hb, hml, hown, hts, hr, hlocks, hA, hS, hP, hK, hD, hX⟩ := E0
  have hiX0 : ∀ w ∈ u_ws RX0 TX0 8, w ∈ wsX0_isInTextOf := by decide +kernel
  have hl : lv_has ls 2 [(0, .ref (G (100 + 3 * i))), (1, .int (nI c9))] := hl
  have h5 := hR.2.2.2.2.2.2.2.1 (60 * c9 + i)
  have h6 := hR.2.2.2.2.2.2.2.2.1 (60 * c9 + i)
  refine lv_aload_n hx hb dX0_isInTextOf_0 rfl (lv_at hl 0 rfl) ?_
  refine lv_iload_n hx hb dX0_isInTextOf_1 rfl (lv_at hl 1 rfl) ?_
  refine K_i (va_runV (As := [.int (nI c9)]) (rest := []) ⟨hx, hb, hml, hown, hts⟩ (c_X0_isKnownIn l hR hi hc9 _) (cwV 1 hts gX0_isInTextOf_X0_isKnownIn rfl rfl rfl (by decide +kernel) ⟨Nat.le_of_ble_eq_true rfl, Nat.le_of_ble_eq_true rfl⟩) (pV hP hK hD hS hA hX (va_recv hK hP (ci := 0) (q0 := 6 + (20 + i)) rfl (CW_sg hi))) rfl rfl hl.1 rfl (lv_room (Nat.le_of_ble_eq_true rfl)) dX0_isInTextOf_2 ⟨Nat.le_of_ble_eq_true rfl, Nat.le_of_ble_eq_true rfl⟩) hD hS hA (fun r w'  H locs hp hP hD hS => ?_)
  obtain ⟨rfl, rfl⟩ := hp
  refine r_if_eq (tgt := 21) hx hb dX0_isInTextOf_5 (by decide) (by omega) (fun c1 => ?_) (fun c1 => ?_)
  · refine lv_iconst (v := nI 0) hx hb dX0_isInTextOf_21 (by decide) ?_
    exact C_zret hx hb hr hlocks hS hP hK hD (Nat.le_of_ble_eq_true rfl) (Nat.le_of_ble_eq_true rfl) dX0_isInTextOf_22 rfl ⟨by rw [show vsb S c9 i = false from by simp [vsb]; omega]; rfl, rfl⟩
  · refine lv_aload_n hx hb dX0_isInTextOf_8 rfl (lv_at hl 0 rfl) ?_
    refine va_get (D := D) (ci := 0) (v := .ref (G (102 + 3 * i))) (C := RX0) (T := TX0) (N := 8) hx hb hts hiX0 hown hK hP (6 + (20 + i)) (CW_sg hi) rfl 7 (by decide) (hts (.fieldLink RX0 19 "CoauthorText$Sign" "removedInCopies" "[Z") (by decide +kernel)) (fun _ h9 => h9) rfl dX0_isInTextOf_9 ?_
    refine lv_iload_n hx hb dX0_isInTextOf_12 rfl (lv_at hl 1 rfl) ?_
    refine r_zald hx hb hK hP (6 + (20 + (S 0 0 + (S 0 0 + i)))) (CW_rm hi) (by omega) (by decide) dX0_isInTextOf_13 ?_
    refine r_if_ne (tgt := 21) hx hb dX0_isInTextOf_14 (by decide) (by omega) (fun c2 => ?_) (fun c2 => ?_)
    · refine lv_iconst (v := nI 0) hx hb dX0_isInTextOf_21 (by decide) ?_
      exact C_zret hx hb hr hlocks hS hP hK hD (Nat.le_of_ble_eq_true rfl) (Nat.le_of_ble_eq_true rfl) dX0_isInTextOf_22 rfl ⟨by rw [show vsb S c9 i = false from by simp [vsb]; omega]; rfl, rfl⟩
    · refine lv_iconst (v := nI 1) hx hb dX0_isInTextOf_17 (by decide) ?_
      refine lv_goto (tgt := 22) hx hb dX0_isInTextOf_18 (by decide) ?_
      exact C_zret hx hb hr hlocks hS hP hK hD (Nat.le_of_ble_eq_true rfl) (Nat.le_of_ble_eq_true rfl) dX0_isInTextOf_22 rfl ⟨by rw [show vsb S c9 i = true from by simp [vsb]; omega]; rfl, rfl⟩

set_option maxHeartbeats 4000000 in
set_option maxRecDepth 100000 in
theorem c_X0_setRemoved (l : Launch) {D : va_G} {cy : Nat → ClassId} {G : Nat → Nat} {S : Nat → Nat → Nat} {hd : Option Nat} {nx : Nat → Option Nat} {Y : va_W} (hn60 : S 0 0 ≤ 60) {i c9 v t9 : Nat} (hi : i < S 0 0) (hc9 : c9 < 4) (hv : v < 2) : CV l yX0_setRemoved wsX0_setRemoved ({ frames := 1, cells := 0, slots := 0, locals := 12 } : Room) D cy [.ref (G (100 + 3 * i)), .int (nI c9), .int (nI v), .int (nI t9)] (CW cy G S hd nx Y) (fun w' => w' = CW cy G (up2 (up2 (up2 S 6 (60 * c9 + i) v) 5 (60 * c9 + i) 1) 7 (60 * c9 + i) t9) hd nx Y) 0 0 := by
  refine CV.of (cc := cX0_setRemoved) (maxL := 4) (ret := none) (by decide) rfl (Nat.le_of_ble_eq_true rfl) ?_
  intro p e s m below meth c A ls E0 hl
  obtain ⟨hx, hb, hml, hown, hts, hr, hlocks, hA, hS, hP, hK, hD, hX⟩ := E0
  have hiX0 : ∀ w ∈ u_ws RX0 TX0 8, w ∈ wsX0_setRemoved := by decide +kernel
  have hl : lv_has ls 4 [(0, .ref (G (100 + 3 * i))), (1, .int (nI c9)), (2, .int (nI v)), (3, .int (nI t9))] := hl
  refine lv_aload_n hx hb dX0_setRemoved_0 rfl (lv_at hl 0 rfl) ?_
  refine va_get (D := D) (ci := 0) (v := .ref (G (102 + 3 * i))) (C := RX0) (T := TX0) (N := 8) hx hb hts hiX0 hown hK hP (6 + (20 + i)) (CW_sg hi) rfl 7 (by decide) (hts (.fieldLink RX0 19 "CoauthorText$Sign" "removedInCopies" "[Z") (by decide +kernel)) (fun _ h9 => h9) rfl dX0_setRemoved_1 ?_
  refine lv_iload_n hx hb dX0_setRemoved_4 rfl (lv_at hl 1 rfl) ?_
  refine lv_iload_n hx hb dX0_setRemoved_5 rfl (lv_at hl 2 rfl) ?_
  refine r_zast (w' := CW cy G (up2 S 6 (60 * c9 + i) v) hd nx Y) hx hb hK hP hD hS (6 + (20 + (S 0 0 + (S 0 0 + i)))) (CW_rm hi) (by omega) (by decide) dX0_setRemoved_6 (nar_b hv) (CW_setRm hi hn60) (fun H locs hP hD hS => ?_)
  refine lv_aload_n hx hb dX0_setRemoved_7 rfl (lv_at hl 0 rfl) ?_
  refine va_get (D := D) (ci := 0) (v := .ref (G (101 + 3 * i))) (C := RX0) (T := TX0) (N := 8) hx hb hts hiX0 hown hK hP (6 + (20 + i)) (CW_sg hi) rfl 6 (by decide) (hts (.fieldLink RX0 15 "CoauthorText$Sign" "stampsInCopies" "[I") (by decide +kernel)) (fun _ h9 => h9) rfl dX0_setRemoved_8 ?_
  refine lv_iload_n hx hb dX0_setRemoved_11 rfl (lv_at hl 1 rfl) ?_
  refine lv_iload_n hx hb dX0_setRemoved_12 rfl (lv_at hl 3 rfl) ?_
  refine r_iast (w' := CW cy G (up2 (up2 (up2 S 6 (60 * c9 + i) v) 5 (60 * c9 + i) 1) 7 (60 * c9 + i) t9) hd nx Y) hx hb hK hP hD hS (6 + (20 + ((up2 S 6 (60 * c9 + i) v) 0 0 + i))) (CW_st hi) (by omega) (by decide) dX0_setRemoved_13 (CW_setSt (S := up2 S 6 (60 * c9 + i) v) hi hn60) (fun H locs hP hD hS => ?_)
  exact C_vret hx hb hr hlocks hS hP hK hD (Nat.le_of_ble_eq_true rfl) (Nat.le_of_ble_eq_true rfl) dX0_setRemoved_14 rfl

def brS (S : Nat → Nat → Nat) (a f i : Nat) : Nat → Nat → Nat := if lrB S a f i then up2 (up2 (up2 S 6 (60 * a + i) (S 6 (60 * f + i))) 5 (60 * a + i) 1) 7 (60 * a + i) (S 7 (60 * f + i)) else S
theorem stV_lt {S : Nat → Nat → Nat} (hR : Rng S) (a f i : Nat) : stV S i a < stV S i f ↔ lrB S a f i = true := by
  have h5 := hR.2.2.2.2.2.2.2.1 (60 * f + i)
  have h7 := hR.2.2.2.2.2.2.2.2.2.1
  have h7f := h7 (60 * f + i)
  have h7a := h7 (60 * a + i)
  simp only [stV, lrB, Bool.and_eq_true, Bool.or_eq_true, decide_eq_true_eq]
  by_cases hf : S 5 (60 * f + i) = 0
  · rw [if_pos hf]
    constructor
    · intro h
      by_cases ha : S 5 (60 * a + i) = 0
      · rw [if_pos ha] at h; exact absurd h (by decide)
      · rw [if_neg ha] at h
        exact (Int32.lt_irrefl (Int32.lt_trans h (m1_lt (by omega)))).elim
    · intro h; omega
  · rw [if_neg hf]
    by_cases ha : S 5 (60 * a + i) = 0
    · rw [if_pos ha]
      exact ⟨fun _ => ⟨by omega, Or.inl ha⟩, fun _ => m1_lt (by omega)⟩
    · rw [if_neg ha, nI_ltI (by omega) (by omega)]
      omega

set_option maxHeartbeats 4000000 in
set_option maxRecDepth 100000 in
theorem c_X0_bringNewer (l : Launch) {D : va_G} {cy : Nat → ClassId} {G : Nat → Nat} {S : Nat → Nat → Nat} {hd : Option Nat} {nx : Nat → Option Nat} {Y : va_W} (hR : Rng S) {i a f : Nat} (hi : i < S 0 0) (ha : a < 4) (hf : f < 4) : CV l yX0_bringNewer wsX0_bringNewer ({ frames := 2, cells := 0, slots := 0, locals := 35 } : Room) D cy [.ref (G (100 + 3 * i)), .int (nI a), .int (nI f)] (CW cy G S hd nx Y) (fun w' => w' = CW cy G (brS S a f i) hd nx Y) 0 0 := by
  refine CV.of (cc := cX0_bringNewer) (maxL := 3) (ret := none) (by decide) rfl (Nat.le_of_ble_eq_true rfl) ?_
  intro p e s m below meth c A ls E0 hl
  obtain ⟨hx, hb, hml, hown, hts, hr, hlocks, hA, hS, hP, hK, hD, hX⟩ := E0
  have hiX0 : ∀ w ∈ u_ws RX0 TX0 8, w ∈ wsX0_bringNewer := by decide +kernel
  have hl : lv_has ls 3 [(0, .ref (G (100 + 3 * i))), (1, .int (nI a)), (2, .int (nI f))] := hl
  have h6 := hR.2.2.2.2.2.2.2.2.1 (60 * f + i)
  refine lv_aload_n hx hb dX0_bringNewer_0 rfl (lv_at hl 0 rfl) ?_
  refine va_get (D := D) (ci := 0) (v := .ref (G (101 + 3 * i))) (C := RX0) (T := TX0) (N := 8) hx hb hts hiX0 hown hK hP (6 + (20 + i)) (CW_sg hi) rfl 6 (by decide) (hts (.fieldLink RX0 15 "CoauthorText$Sign" "stampsInCopies" "[I") (by decide +kernel)) (fun _ h9 => h9) rfl dX0_bringNewer_1 ?_
  refine lv_iload_n hx hb dX0_bringNewer_4 rfl (lv_at hl 2 rfl) ?_
  refine r_iald hx hb hK hP (6 + (20 + (S 0 0 + i))) (CW_st hi) (by omega) (by decide) dX0_bringNewer_5 ?_
  refine lv_aload_n hx hb dX0_bringNewer_6 rfl (lv_at hl 0 rfl) ?_
  refine va_get (D := D) (ci := 0) (v := .ref (G (101 + 3 * i))) (C := RX0) (T := TX0) (N := 8) hx hb hts hiX0 hown hK hP (6 + (20 + i)) (CW_sg hi) rfl 6 (by decide) (hts (.fieldLink RX0 15 "CoauthorText$Sign" "stampsInCopies" "[I") (by decide +kernel)) (fun _ h9 => h9) rfl dX0_bringNewer_7 ?_
  refine lv_iload_n hx hb dX0_bringNewer_10 rfl (lv_at hl 1 rfl) ?_
  refine r_iald hx hb hK hP (6 + (20 + (S 0 0 + i))) (CW_st hi) (by omega) (by decide) dX0_bringNewer_11 ?_
  refine lv_icmp_le (tgt := 32) hx hb dX0_bringNewer_12 (by decide) (fun cL => ?_) (fun cL => ?_)
  · exact C_vret hx hb hr hlocks hS hP hK hD (Nat.le_of_ble_eq_true rfl) (Nat.le_of_ble_eq_true rfl) dX0_bringNewer_32 (by rw [brS, if_neg (fun h => Int32.not_lt.mpr cL ((stV_lt hR a f i).mpr h))])
  · have hbr := (stV_lt hR a f i).mp (Int32.not_le.mp cL)
    refine lv_aload_n hx hb dX0_bringNewer_15 rfl (lv_at hl 0 rfl) ?_
    refine lv_iload_n hx hb dX0_bringNewer_16 rfl (lv_at hl 1 rfl) ?_
    refine lv_aload_n hx hb dX0_bringNewer_17 rfl (lv_at hl 0 rfl) ?_
    refine va_get (D := D) (ci := 0) (v := .ref (G (102 + 3 * i))) (C := RX0) (T := TX0) (N := 8) hx hb hts hiX0 hown hK hP (6 + (20 + i)) (CW_sg hi) rfl 7 (by decide) (hts (.fieldLink RX0 19 "CoauthorText$Sign" "removedInCopies" "[Z") (by decide +kernel)) (fun _ h9 => h9) rfl dX0_bringNewer_18 ?_
    refine lv_iload_n hx hb dX0_bringNewer_21 rfl (lv_at hl 2 rfl) ?_
    refine r_zald hx hb hK hP (6 + (20 + (S 0 0 + (S 0 0 + i)))) (CW_rm hi) (by omega) (by decide) dX0_bringNewer_22 ?_
    refine lv_aload_n hx hb dX0_bringNewer_23 rfl (lv_at hl 0 rfl) ?_
    refine va_get (D := D) (ci := 0) (v := .ref (G (101 + 3 * i))) (C := RX0) (T := TX0) (N := 8) hx hb hts hiX0 hown hK hP (6 + (20 + i)) (CW_sg hi) rfl 6 (by decide) (hts (.fieldLink RX0 15 "CoauthorText$Sign" "stampsInCopies" "[I") (by decide +kernel)) (fun _ h9 => h9) rfl dX0_bringNewer_24 ?_
    refine lv_iload_n hx hb dX0_bringNewer_27 rfl (lv_at hl 2 rfl) ?_
    refine r_iald hx hb hK hP (6 + (20 + (S 0 0 + i))) (CW_st hi) (by omega) (by decide) dX0_bringNewer_28 ?_
    have hkf : S 5 (60 * f + i) = 1 := by simp only [lrB, Bool.and_eq_true, decide_eq_true_eq] at hbr; exact hbr.1
    refine lv_topi (fun y9 ey9 => ?_)
    obtain rfl : y9 = nI (S 7 (60 * f + i)) := ey9.trans (by rw [stV, if_neg (by omega)])
    refine K_v (va_runV (As := [.int (nI a), .int (nI (S 6 (60 * f + i))), .int (nI (S 7 (60 * f + i)))]) (rest := []) ⟨hx, hb, hml, hown, hts⟩ (c_X0_setRemoved l hR.1 hi ha h6 _) (cwV 3 hts gX0_bringNewer_X0_setRemoved rfl rfl rfl (by decide +kernel) ⟨Nat.le_of_ble_eq_true rfl, Nat.le_of_ble_eq_true rfl⟩) (pV hP hK hD hS hA hX (va_recv hK hP (ci := 0) (q0 := 6 + (20 + i)) rfl (CW_sg hi))) rfl rfl hl.1 rfl (lv_room (Nat.le_of_ble_eq_true rfl)) dX0_bringNewer_29 ⟨Nat.le_of_ble_eq_true rfl, Nat.le_of_ble_eq_true rfl⟩) hD hS hA (fun w'  H locs hp hP hD hS => ?_)
    subst hp
    exact C_vret hx hb hr hlocks hS hP hK hD (Nat.le_of_ble_eq_true rfl) (Nat.le_of_ble_eq_true rfl) dX0_bringNewer_32 (by rw [brS, if_pos hbr])
