/-! ===== the class: checks and walks ===== -/
section ROWT
variable {p : Program} {l : Launch} {e : Env} {R : Room} {s : State} {m : MethodId} {args : Array Value} {below : List Frame} {meth : Method} {c : Code} {H : Heap} {locs : List Loc} {cells slots : Nat} {Q : State → Prop} {pc : Nat} {ls : Array Slot} {rest : List Value}
theorem r_topr {x : Option Nat} {a9 : Nat} (h : x = some a9) (k : W p l e R s m args below meth c H locs cells slots Q (F0 m pc ls (.ref a9 :: rest))) : W p l e R s m args below meth c H locs cells slots Q (F0 m pc ls (va_rf x :: rest)) := by
  subst h; exact k
theorem r_topn {x : Option Nat} (h : x = none) (k : W p l e R s m args below meth c H locs cells slots Q (F0 m pc ls (.null :: rest))) : W p l e R s m args below meth c H locs cells slots Q (F0 m pc ls (va_rf x :: rest)) := by
  subst h; exact k
end ROWT
theorem inS_iff {v : Int32} {n : Nat} (hn : n < 2 ^ 31) : inS v n = true ↔ 0 ≤ v ∧ v < nI n := by
  simp only [inS, inB, Bool.and_eq_true, decide_eq_true_eq]
  have h : v ≤ bI n ↔ v < nI n := by
    rw [Int32.le_iff_toInt_le, Int32.lt_iff_toInt_lt, bI_toInt hn, nI_toInt hn]
    omega
  rw [h]
theorem inS_no {v : Int32} {n : Nat} (hn : n < 2 ^ 31) : inS v n = false ↔ ¬ (0 ≤ v ∧ v < nI n) := by
  rw [← inS_iff hn]
  cases inS v n <;> simp

set_option maxHeartbeats 4000000 in
set_option maxRecDepth 100000 in
theorem c_X1_checkRange (l : Launch) (hlf : l.stackTraces = false) {D : va_G} {cy : Nat → ClassId} {w : va_W} (v lo hi : Int32) : TV l yX1_checkRange wsX1_checkRange ({ frames := 6, cells := 1, slots := 6, locals := 90 } : Room) D cy [.int v, .int lo, .int hi] (w) (fun w' => inB v lo hi = true ∧ w' = w) (fun E => E = eIAE ∧ inB v lo hi = false) 1 6 := by
  refine TV.of (cc := cX1_checkRange) (maxL := 3) (ret := none) (by decide) rfl (Nat.le_of_ble_eq_true rfl) ?_
  intro p e s m below meth c A ls E0 hT0 hl
  obtain ⟨hx, hb, hml, hown, hts, hr, hlocks, hA, hS, hP, hK, hD, hX⟩ := E0
  have hl : lv_has ls 3 [(0, .int v), (1, .int lo), (2, .int hi)] := hl
  refine lv_iload_n hx hb dX1_checkRange_0 rfl (lv_at hl 0 rfl) ?_
  refine lv_iload_n hx hb dX1_checkRange_1 rfl (lv_at hl 1 rfl) ?_
  refine lv_icmp_lt (tgt := 10) hx hb dX1_checkRange_2 (by decide) (fun cA => ?_) (fun cA => ?_)
  · obtain ⟨tx, x0, x1, x2, x3, x4, x5, x6, x7, x8⟩ := hX.2.2.2.2.2.2.2.1
    exact Y_throw (own := RX1) (E := "java/lang/IllegalArgumentException") (ik := 101) (is := 153) (ic := 105) (ws := wsX1_checkRange) hT0 hx hb hlf hlocks hown hts hP hK hD hS hX hX.2.2.1 x3 (by rw [hml]; exact hl.1) (by decide +kernel) (by decide +kernel) (by decide +kernel) (by decide +kernel) (by decide +kernel) (by decide +kernel) dX1_checkRange_10 dX1_checkRange_13 dX1_checkRange_14 dX1_checkRange_16 dX1_checkRange_19 (Nat.le_of_ble_eq_true rfl) (Nat.le_of_ble_eq_true rfl) (Nat.le_of_ble_eq_true rfl) (Nat.le_of_ble_eq_true rfl) ⟨rfl, by simp only [inB, Bool.and_eq_false_iff, decide_eq_false_iff_not]; exact Or.inl (Int32.not_le.mpr cA)⟩ (Nat.le_of_ble_eq_true rfl) (Nat.le_of_ble_eq_true rfl)
  · refine lv_iload_n hx hb dX1_checkRange_5 rfl (lv_at hl 0 rfl) ?_
    refine lv_iload_n hx hb dX1_checkRange_6 rfl (lv_at hl 2 rfl) ?_
    refine lv_icmp_le (tgt := 20) hx hb dX1_checkRange_7 (by decide) (fun cB => ?_) (fun cB => ?_)
    · exact vx_ret (C_vret hx hb hr hlocks hS hP hK hD (Nat.le_of_ble_eq_true rfl) (Nat.le_of_ble_eq_true rfl) dX1_checkRange_20 ⟨by simp only [inB, Bool.and_eq_true, decide_eq_true_eq]; exact ⟨Int32.not_lt.mp cA, cB⟩, rfl⟩)
    · obtain ⟨tx, x0, x1, x2, x3, x4, x5, x6, x7, x8⟩ := hX.2.2.2.2.2.2.2.1
      exact Y_throw (own := RX1) (E := "java/lang/IllegalArgumentException") (ik := 101) (is := 153) (ic := 105) (ws := wsX1_checkRange) hT0 hx hb hlf hlocks hown hts hP hK hD hS hX hX.2.2.1 x3 (by rw [hml]; exact hl.1) (by decide +kernel) (by decide +kernel) (by decide +kernel) (by decide +kernel) (by decide +kernel) (by decide +kernel) dX1_checkRange_10 dX1_checkRange_13 dX1_checkRange_14 dX1_checkRange_16 dX1_checkRange_19 (Nat.le_of_ble_eq_true rfl) (Nat.le_of_ble_eq_true rfl) (Nat.le_of_ble_eq_true rfl) (Nat.le_of_ble_eq_true rfl) ⟨rfl, by simp only [inB, Bool.and_eq_false_iff, decide_eq_false_iff_not]; exact Or.inr cB⟩ (Nat.le_of_ble_eq_true rfl) (Nat.le_of_ble_eq_true rfl)

set_option maxHeartbeats 4000000 in
set_option maxRecDepth 100000 in
theorem c_X1_checkAuthor (l : Launch) (hlf : l.stackTraces = false) {D : va_G} {cy : Nat → ClassId} {w : va_W} (v : Int32) : TV l yX1_checkAuthor wsX1_checkAuthor ({ frames := 7, cells := 1, slots := 6, locals := 112 } : Room) D cy [.int v] (w) (fun w' => isA v = true ∧ w' = w) (fun E => E = eIAE ∧ isA v = false) 1 6 := by
  refine TV.of (cc := cX1_checkAuthor) (maxL := 1) (ret := none) (by decide) rfl (Nat.le_of_ble_eq_true rfl) ?_
  intro p e s m below meth c A ls E0 hT0 hl
  obtain ⟨hx, hb, hml, hown, hts, hr, hlocks, hA, hS, hP, hK, hD, hX⟩ := E0
  have hl : lv_has ls 1 [(0, .int v)] := hl
  refine lv_iload_n hx hb dX1_checkAuthor_0 rfl (lv_at hl 0 rfl) ?_
  refine lv_iconst (v := nI 0) hx hb dX1_checkAuthor_1 (by decide) ?_
  refine lv_iconst (v := nI 3) hx hb dX1_checkAuthor_2 (by decide) ?_
  refine Y_v (vx_runS (As := [.int v, .int (nI 0), .int (nI 3)]) (rest := []) ⟨hx, hb, hml, hown, hts⟩ (c_X1_checkRange l hlf v (nI 0) (nI 3) _) (va_cwS 3 hts gX1_checkAuthor_X1_checkRange rfl rfl rfl (by decide +kernel) ⟨Nat.le_of_ble_eq_true rfl, Nat.le_of_ble_eq_true rfl⟩) (pS hP hK hD hS hA hX) rfl rfl hl.1 rfl (lv_room (Nat.le_of_ble_eq_true rfl)) dX1_checkAuthor_3 ⟨Nat.le_of_ble_eq_true rfl, Nat.le_of_ble_eq_true rfl⟩) hD hS hA (fun E ce q9 H locs hE hP hS ht => ?_) (fun w'  H locs hp hP hD hS => ?_)
  · exact Y_out hT0 hlocks hP hK hD hS ht hE (Nat.le_of_ble_eq_true rfl) (Nat.le_of_ble_eq_true rfl)
  obtain ⟨hU, hw9⟩ := hp
  rw [hw9] at hP hD
  exact vx_ret (C_vret hx hb hr hlocks hS hP hK hD (Nat.le_of_ble_eq_true rfl) (Nat.le_of_ble_eq_true rfl) dX1_checkAuthor_6 ⟨hU, rfl⟩)

set_option maxHeartbeats 4000000 in
set_option maxRecDepth 100000 in
theorem c_X1_checkEdition (l : Launch) (hlf : l.stackTraces = false) {D : va_G} {cy : Nat → ClassId} {G : Nat → Nat} {S : Nat → Nat → Nat} {hd : Option Nat} {nx : Nat → Option Nat} {Y : va_W} (hR : Rng S) (v : Int32) : TV l yX1_checkEdition wsX1_checkEdition ({ frames := 6, cells := 1, slots := 6, locals := 90 } : Room) D cy [.ref (G 0), .int v] (CW cy G S hd nx Y) (fun w' => inS v (S 0 1) = true ∧ w' = CW cy G S hd nx Y) (fun E => E = eIOB ∧ inS v (S 0 1) = false) 1 6 := by
  refine TV.of (cc := cX1_checkEdition) (maxL := 2) (ret := none) (by decide) rfl (Nat.le_of_ble_eq_true rfl) ?_
  intro p e s m below meth c A ls E0 hT0 hl
  obtain ⟨hx, hb, hml, hown, hts, hr, hlocks, hA, hS, hP, hK, hD, hX⟩ := E0
  have hiX1 : ∀ w ∈ u_ws RX1 TX1 9, w ∈ wsX1_checkEdition := by decide +kernel
  have hl : lv_has ls 2 [(0, .ref (G 0)), (1, .int v)] := hl
  have he20 := hR.2.1
  refine lv_iload_n hx hb dX1_checkEdition_0 rfl (lv_at hl 1 rfl) ?_
  refine lv_if_lt (tgt := 12) hx hb dX1_checkEdition_1 (by decide) (fun cA => ?_) (fun cA => ?_)
  · obtain ⟨tx, x0, x1, x2, x3, x4, x5, x6, x7, x8⟩ := hX.2.2.2.2.2.2.2.1
    exact Y_throw (own := RX1) (E := "java/lang/IndexOutOfBoundsException") (ik := 53) (is := 155) (ic := 57) (ws := wsX1_checkEdition) hT0 hx hb hlf hlocks hown hts hP hK hD hS hX hX.2.2.2.2.1 x4 (by rw [hml]; exact hl.1) (by decide +kernel) (by decide +kernel) (by decide +kernel) (by decide +kernel) (by decide +kernel) (by decide +kernel) dX1_checkEdition_12 dX1_checkEdition_15 dX1_checkEdition_16 dX1_checkEdition_18 dX1_checkEdition_21 (Nat.le_of_ble_eq_true rfl) (Nat.le_of_ble_eq_true rfl) (Nat.le_of_ble_eq_true rfl) (Nat.le_of_ble_eq_true rfl) ⟨rfl, (inS_no (by omega)).mpr (fun h => Int32.not_le.mpr cA h.1)⟩ (Nat.le_of_ble_eq_true rfl) (Nat.le_of_ble_eq_true rfl)
  · refine lv_iload_n hx hb dX1_checkEdition_4 rfl (lv_at hl 1 rfl) ?_
    refine lv_aload_n hx hb dX1_checkEdition_5 rfl (lv_at hl 0 rfl) ?_
    refine va_get (D := D) (ci := 1) (v := .int (nI (S 0 1))) (C := RX1) (T := TX1) (N := 9) hx hb hts hiX1 hown hK hP (0) rfl rfl 5 (by decide) (hts (.fieldLink RX1 32 "CoauthorText" "editionCount" "I") (by decide +kernel)) (fun _ h9 => h9) rfl dX1_checkEdition_6 ?_
    refine lv_icmp_lt (tgt := 22) hx hb dX1_checkEdition_9 (by decide) (fun cB => ?_) (fun cB => ?_)
    · exact vx_ret (C_vret hx hb hr hlocks hS hP hK hD (Nat.le_of_ble_eq_true rfl) (Nat.le_of_ble_eq_true rfl) dX1_checkEdition_22 ⟨(inS_iff (by omega)).mpr ⟨Int32.not_lt.mp cA, cB⟩, rfl⟩)
    · obtain ⟨tx, x0, x1, x2, x3, x4, x5, x6, x7, x8⟩ := hX.2.2.2.2.2.2.2.1
      exact Y_throw (own := RX1) (E := "java/lang/IndexOutOfBoundsException") (ik := 53) (is := 155) (ic := 57) (ws := wsX1_checkEdition) hT0 hx hb hlf hlocks hown hts hP hK hD hS hX hX.2.2.2.2.1 x4 (by rw [hml]; exact hl.1) (by decide +kernel) (by decide +kernel) (by decide +kernel) (by decide +kernel) (by decide +kernel) (by decide +kernel) dX1_checkEdition_12 dX1_checkEdition_15 dX1_checkEdition_16 dX1_checkEdition_18 dX1_checkEdition_21 (Nat.le_of_ble_eq_true rfl) (Nat.le_of_ble_eq_true rfl) (Nat.le_of_ble_eq_true rfl) (Nat.le_of_ble_eq_true rfl) ⟨rfl, (inS_no (by omega)).mpr (fun h => cB h.2)⟩ (Nat.le_of_ble_eq_true rfl) (Nat.le_of_ble_eq_true rfl)

set_option maxHeartbeats 4000000 in
set_option maxRecDepth 100000 in
theorem c_X1_findByNumber (l : Launch) (hlf : l.stackTraces = false) {D : va_G} {cy : Nat → ClassId} {G : Nat → Nat} {S : Nat → Nat → Nat} {hd : Option Nat} {nx : Nat → Option Nat} {Y : va_W} (hR : Rng S) (v : Int32) : TQ l yX1_findByNumber wsX1_findByNumber ({ frames := 6, cells := 1, slots := 6, locals := 90 } : Room) D cy [.ref (G 0), .int v] (CW cy G S hd nx Y) (fun r w' => (∃ i : Nat, i < S 0 0 ∧ v = nI i ∧ r = some (G (100 + 3 * i))) ∧ inS v (S 0 0) = true ∧ w' = CW cy G S hd nx Y) (fun E => E = eIOB ∧ inS v (S 0 0) = false) 1 6 := by
  refine TQ.of (cc := cX1_findByNumber) (maxL := 3) (ret := (some (.object "CoauthorText$Sign"))) (by decide) rfl (Nat.le_of_ble_eq_true rfl) ?_
  intro p e s m below meth c A ls E0 hT0 hl
  obtain ⟨hx, hb, hml, hown, hts, hr, hlocks, hA, hS, hP, hK, hD, hX⟩ := E0
  have hiX1 : ∀ w ∈ u_ws RX1 TX1 9, w ∈ wsX1_findByNumber := by decide +kernel
  have hl : lv_has ls 3 [(0, .ref (G 0)), (1, .int v)] := hl
  have hn60 := hR.1
  refine lv_iload_n hx hb dX1_findByNumber_0 rfl (lv_at hl 1 rfl) ?_
  refine lv_if_lt (tgt := 21) hx hb dX1_findByNumber_1 (by decide) (fun cA => ?_) (fun cA => ?_)
  · refine lv_null hx hb dX1_findByNumber_21 ?_
    refine lv_astore_nN (lv' := [(2, .null), (0, .ref (G 0)), (1, .int v)]) hx hb dX1_findByNumber_22 rfl hl (by decide) rfl (fun ls hl => ?_)
    refine lv_aload_nN hx hb dX1_findByNumber_23 rfl (lv_at hl 0 rfl) ?_
    refine lv_ifnonnullN hx hb dX1_findByNumber_24 ?_
    obtain ⟨tx, x0, x1, x2, x3, x4, x5, x6, x7, x8⟩ := hX.2.2.2.2.2.2.2.1
    exact Y_throw (own := RX1) (E := "java/lang/IndexOutOfBoundsException") (ik := 53) (is := 157) (ic := 57) (ws := wsX1_findByNumber) hT0 hx hb hlf hlocks hown hts hP hK hD hS hX hX.2.2.2.2.1 x5 (by rw [hml]; exact hl.1) (by decide +kernel) (by decide +kernel) (by decide +kernel) (by decide +kernel) (by decide +kernel) (by decide +kernel) dX1_findByNumber_27 dX1_findByNumber_30 dX1_findByNumber_31 dX1_findByNumber_33 dX1_findByNumber_36 (Nat.le_of_ble_eq_true rfl) (Nat.le_of_ble_eq_true rfl) (Nat.le_of_ble_eq_true rfl) (Nat.le_of_ble_eq_true rfl) ⟨rfl, (inS_no (by omega)).mpr (fun h => Int32.not_le.mpr cA h.1)⟩ (Nat.le_of_ble_eq_true rfl) (Nat.le_of_ble_eq_true rfl)
  · refine lv_iload_n hx hb dX1_findByNumber_4 rfl (lv_at hl 1 rfl) ?_
    refine lv_aload_n hx hb dX1_findByNumber_5 rfl (lv_at hl 0 rfl) ?_
    refine va_get (D := D) (ci := 1) (v := .int (nI (S 0 0))) (C := RX1) (T := TX1) (N := 9) hx hb hts hiX1 hown hK hP (0) rfl rfl 1 (by decide) (hts (.fieldLink RX1 15 "CoauthorText" "signCount" "I") (by decide +kernel)) (fun _ h9 => h9) rfl dX1_findByNumber_6 ?_
    refine lv_icmp_ge (tgt := 21) hx hb dX1_findByNumber_9 (by decide) (fun cB => ?_) (fun cB => ?_)
    · refine lv_null hx hb dX1_findByNumber_21 ?_
      refine lv_astore_nN (lv' := [(2, .null), (0, .ref (G 0)), (1, .int v)]) hx hb dX1_findByNumber_22 rfl hl (by decide) rfl (fun ls hl => ?_)
      refine lv_aload_nN hx hb dX1_findByNumber_23 rfl (lv_at hl 0 rfl) ?_
      refine lv_ifnonnullN hx hb dX1_findByNumber_24 ?_
      obtain ⟨tx, x0, x1, x2, x3, x4, x5, x6, x7, x8⟩ := hX.2.2.2.2.2.2.2.1
      exact Y_throw (own := RX1) (E := "java/lang/IndexOutOfBoundsException") (ik := 53) (is := 157) (ic := 57) (ws := wsX1_findByNumber) hT0 hx hb hlf hlocks hown hts hP hK hD hS hX hX.2.2.2.2.1 x5 (by rw [hml]; exact hl.1) (by decide +kernel) (by decide +kernel) (by decide +kernel) (by decide +kernel) (by decide +kernel) (by decide +kernel) dX1_findByNumber_27 dX1_findByNumber_30 dX1_findByNumber_31 dX1_findByNumber_33 dX1_findByNumber_36 (Nat.le_of_ble_eq_true rfl) (Nat.le_of_ble_eq_true rfl) (Nat.le_of_ble_eq_true rfl) (Nat.le_of_ble_eq_true rfl) ⟨rfl, (inS_no (by omega)).mpr (fun h => Int32.not_le.mpr h.2 cB)⟩ (Nat.le_of_ble_eq_true rfl) (Nat.le_of_ble_eq_true rfl)
    · have hV := (inS_iff (v := v) (n := S 0 0) (by omega)).mpr ⟨Int32.not_lt.mp cA, Int32.not_le.mp cB⟩
      obtain ⟨i, hi, hvi⟩ := inS_n (by omega) hV
      have hl : lv_has ls 3 [(0, .ref (G 0)), (1, .int (nI i))] := by rw [hvi] at hl; exact hl
      refine lv_aload_n hx hb dX1_findByNumber_12 rfl (lv_at hl 0 rfl) ?_
      refine va_get (D := D) (ci := 1) (v := .ref (G 1)) (C := RX1) (T := TX1) (N := 9) hx hb hts hiX1 hown hK hP (0) rfl rfl 0 (by decide) (hts (.fieldLink RX1 11 "CoauthorText" "signsByNumber" "[LCoauthorText$Sign;") (by decide +kernel)) (fun _ h9 => h9) rfl dX1_findByNumber_13 ?_
      refine lv_iload_n hx hb dX1_findByNumber_16 rfl (lv_at hl 1 rfl) ?_
      refine r_aldS hx hb hK hP (1) rfl (by omega) (by decide) dX1_findByNumber_17 ?_
      refine r_topr (a9 := G (100 + 3 * i)) (if_pos hi) ?_
      refine lv_goto (tgt := 22) hx hb dX1_findByNumber_18 (by decide) ?_
      refine lv_astore_n (lv' := [(2, .ref (G (100 + 3 * i))), (0, .ref (G 0)), (1, .int (nI i))]) hx hb dX1_findByNumber_22 rfl hl (by decide) rfl (fun ls hl => ?_)
      refine lv_aload_n hx hb dX1_findByNumber_23 rfl (lv_at hl 0 rfl) ?_
      refine lv_ifnonnull (tgt := 37) hx hb dX1_findByNumber_24 (by decide) ?_
      refine lv_aload_n hx hb dX1_findByNumber_37 rfl (lv_at hl 0 rfl) ?_
      exact vx_ret (C_qret (v := some (G (100 + 3 * i))) hx hb hr (Or.inl ⟨_, rfl⟩) hlocks hS hP hK hD (Nat.le_of_ble_eq_true rfl) (Nat.le_of_ble_eq_true rfl) dX1_findByNumber_38 ⟨⟨i, hi, hvi, rfl⟩, hV, rfl⟩)

set_option maxHeartbeats 4000000 in
set_option maxRecDepth 100000 in
theorem c_X1_nextStamp (l : Launch) {D : va_G} {cy : Nat → ClassId} {G : Nat → Nat} {S : Nat → Nat → Nat} {hd : Option Nat} {nx : Nat → Option Nat} {Y : va_W} {a : Nat} (ha : a < 4) : CI l yX1_nextStamp wsX1_nextStamp ({ frames := 1, cells := 0, slots := 0, locals := 12 } : Room) D cy [.ref (G 0), .int (nI a)] (CW cy G S hd nx Y) (fun r w' => r = nI (4 * (S 8 a + 1) + a) ∧ w' = CW cy G (up2 S 8 a (S 8 a + 1)) hd nx Y) 0 0 := by
  refine CI.of (cc := cX1_nextStamp) (maxL := 2) (ret := (some .int)) (by decide) rfl (Nat.le_of_ble_eq_true rfl) ?_
  intro p e s m below meth c A ls E0 hl
  obtain ⟨hx, hb, hml, hown, hts, hr, hlocks, hA, hS, hP, hK, hD, hX⟩ := E0
  have hiX1 : ∀ w ∈ u_ws RX1 TX1 9, w ∈ wsX1_nextStamp := by decide +kernel
  have hl : lv_has ls 2 [(0, .ref (G 0)), (1, .int (nI a))] := hl
  refine lv_aload_n hx hb dX1_nextStamp_0 rfl (lv_at hl 0 rfl) ?_
  refine va_get (D := D) (ci := 1) (v := .ref (G 2)) (C := RX1) (T := TX1) (N := 9) hx hb hts hiX1 hown hK hP (0) rfl rfl 3 (by decide) (hts (.fieldLink RX1 23 "CoauthorText" "clocks" "[I") (by decide +kernel)) (fun _ h9 => h9) rfl dX1_nextStamp_1 ?_
  refine lv_iload_n hx hb dX1_nextStamp_4 rfl (lv_at hl 1 rfl) ?_
  refine lv_dup2_11 hx hb dX1_nextStamp_5 rfl rfl ?_
  refine r_iald hx hb hK hP (2) rfl (by omega) (by decide) dX1_nextStamp_6 ?_
  refine lv_iconst (v := nI 1) hx hb dX1_nextStamp_7 (by decide) ?_
  refine r_iadd hx hb dX1_nextStamp_8 ?_
  refine r_iast (w' := CW cy G (up2 S 8 a (S 8 a + 1)) hd nx Y) hx hb hK hP hD hS (2) rfl (by omega) (by decide) dX1_nextStamp_9 (by rw [show upd (fun x9 => nI (S 8 x9)) a (nI (S 8 a + 1)) = fun x9 => nI (up2 S 8 a (S 8 a + 1) 8 x9) from upd_n S 8 _ _]; rfl) (fun H locs hP hD hS => ?_)
  refine lv_aload_n hx hb dX1_nextStamp_10 rfl (lv_at hl 0 rfl) ?_
  refine va_get (D := D) (ci := 1) (v := .ref (G 2)) (C := RX1) (T := TX1) (N := 9) hx hb hts hiX1 hown hK hP (0) rfl rfl 3 (by decide) (hts (.fieldLink RX1 23 "CoauthorText" "clocks" "[I") (by decide +kernel)) (fun _ h9 => h9) rfl dX1_nextStamp_11 ?_
  refine lv_iload_n hx hb dX1_nextStamp_14 rfl (lv_at hl 1 rfl) ?_
  refine r_iald hx hb hK hP (2) rfl (by omega) (by decide) dX1_nextStamp_15 ?_
  refine lv_iconst (v := nI 4) hx hb dX1_nextStamp_16 (by decide) ?_
  refine r_imul hx hb dX1_nextStamp_17 ?_
  refine lv_iload_n hx hb dX1_nextStamp_18 rfl (lv_at hl 1 rfl) ?_
  refine r_iadd hx hb dX1_nextStamp_19 ?_
  exact C_iret hx hb hr hlocks hS hP hK hD (Nat.le_of_ble_eq_true rfl) (Nat.le_of_ble_eq_true rfl) dX1_nextStamp_20 ⟨by rw [up2_s, Nat.mul_comm], rfl⟩

set_option maxHeartbeats 4000000 in
set_option maxRecDepth 100000 in
theorem c_X1_findAtPlace (l : Launch) (hlf : l.stackTraces = false) {D : va_G} {cy : Nat → ClassId} {G : Nat → Nat} {S : Nat → Nat → Nat} {hd : Option Nat} {nx : Nat → Option Nat} {Y : va_W} {O : List Nat} (hR : Rng S) (hO : ChP nx hd O) (hOm : ∀ i, i ∈ O → i < S 0 0) (hO60 : O.length ≤ 60) {c9 : Nat} (hc9 : c9 < 4) (v : Int32) : TQ l yX1_findAtPlace wsX1_findAtPlace ({ frames := 6, cells := 1, slots := 6, locals := 90 } : Room) D cy [.ref (G 0), .int (nI c9), .int v] (CW cy G S hd nx Y) (fun r w' => inS v (txL S O c9).length = true ∧ r = some (G (100 + 3 * (txL S O c9).getD (aN v) 0)) ∧ w' = CW cy G S hd nx Y) (fun E => E = eIOB ∧ inS v (txL S O c9).length = false) 1 6 := by
  refine TQ.of (cc := cX1_findAtPlace) (maxL := 5) (ret := (some (.object "CoauthorText$Sign"))) (by decide) rfl (Nat.le_of_ble_eq_true rfl) ?_
  intro p e s m below meth c A ls E0 hT0 hl
  obtain ⟨hx, hb, hml, hown, hts, hr, hlocks, hA, hS, hP, hK, hD, hX⟩ := E0
  have hiX0 : ∀ w ∈ u_ws RX0 TX0 8, w ∈ wsX1_findAtPlace := by decide +kernel
  have hiX1 : ∀ w ∈ u_ws RX1 TX1 9, w ∈ wsX1_findAtPlace := by decide +kernel
  have hl : lv_has ls 5 [(0, .ref (G 0)), (1, .int (nI c9)), (2, .int v)] := hl
  have hl60 : (txL S O c9).length ≤ 60 := Nat.le_trans (List.length_filter_le _ _) hO60
  refine lv_iconst (v := nI 0) hx hb dX1_findAtPlace_0 (by decide) ?_
  refine lv_istore_n (lv' := [(3, .int (nI 0)), (0, .ref (G 0)), (1, .int (nI c9)), (2, .int v)]) hx hb dX1_findAtPlace_1 rfl hl (by decide) rfl (fun ls hl => ?_)
  refine lv_aload_n hx hb dX1_findAtPlace_2 rfl (lv_at hl 1 rfl) ?_
  refine va_get (D := D) (ci := 1) (v := va_rf (hd.map fun j => G (100 + 3 * j))) (C := RX1) (T := TX1) (N := 9) hx hb hts hiX1 hown hK hP (0) rfl rfl 2 (by decide) (hts (.fieldLink RX1 19 "CoauthorText" "firstInOrder" "LCoauthorText$Sign;") (by decide +kernel)) (fun _ h9 => h9) rfl dX1_findAtPlace_3 ?_
  refine r_astoreq (lv' := [(4, va_rf (hd.map fun j => G (100 + 3 * j))), (3, .int (nI 0)), (0, .ref (G 0)), (1, .int (nI c9)), (2, .int v)]) hx hb dX1_findAtPlace_6 hl (by decide) rfl (fun ls hl => ?_)
  have loop : ∀ (r : List Nat) (o : Option Nat) (dn : List Nat) (H : Heap) (locs : List Loc) (ls : Array Slot), ChP nx o r → (∀ i, i ∈ r → i < S 0 0) → txL S O c9 = dn ++ r.filter (vsb S c9) → (∀ j, j < dn.length → v ≠ nI j) → va_P D vwCl (CW cy G S hd nx Y) H → va_D A (CW cy G S hd nx Y) → va_S A s.heap H locs → lv_has ls 5 [(4, va_rf (o.map fun j => G (100 + 3 * j))), (3, .int (nI dn.length)), (0, .ref (G 0)), (1, .int (nI c9)), (2, .int v)] → W p l e ({ frames := 6, cells := 1, slots := 6, locals := 90 } : Room) s m ([.ref (G 0), .int (nI c9), .int v] : List Value).toArray below meth c H locs 0 0 (vx_MQ below (va_Qq (fun r w' => inS v (txL S O c9).length = true ∧ r = some (G (100 + 3 * (txL S O c9).getD (aN v) 0)) ∧ w' = CW cy G S hd nx Y) (fun w' t => wB D cy A w' t) A) (xQ D cy (fun E => E = eIOB ∧ inS v (txL S O c9).length = false) (CW cy G S hd nx Y) A) ([.ref (G 0), .int (nI c9), .int v] : List Value).toArray s 1 6 A) (F0 m 8 ls []) := by
    intro r
    induction r with
    | nil =>
      intro o dn H locs ls ho hm htx hne hP hD hS hl
      have ho : o = none := ho
      subst ho
      have hl : lv_has ls 5 [(4, .null), (3, .int (nI dn.length)), (0, .ref (G 0)), (1, .int (nI c9)), (2, .int v)] := hl
      refine lv_aloadN hx hb dX1_findAtPlace_8 (lv_at hl 0 rfl) ?_
      refine lv_ifnullN (tgt := 43) hx hb dX1_findAtPlace_10 (by decide) ?_
      obtain ⟨tx, x0, x1, x2, x3, x4, x5, x6, x7, x8⟩ := hX.2.2.2.2.2.2.2.1
      exact Y_throw (own := RX1) (E := "java/lang/IndexOutOfBoundsException") (ik := 53) (is := 55) (ic := 57) (ws := wsX1_findAtPlace) hT0 hx hb hlf hlocks hown hts hP hK hD hS hX hX.2.2.2.2.1 x6 (by rw [hml]; exact hl.1) (by decide +kernel) (by decide +kernel) (by decide +kernel) (by decide +kernel) (by decide +kernel) (by decide +kernel) dX1_findAtPlace_43 dX1_findAtPlace_46 dX1_findAtPlace_47 dX1_findAtPlace_49 dX1_findAtPlace_52 (Nat.le_of_ble_eq_true rfl) (Nat.le_of_ble_eq_true rfl) (Nat.le_of_ble_eq_true rfl) (Nat.le_of_ble_eq_true rfl) ⟨rfl, by
          rcases hV : inS v (txL S O c9).length with _ | _
          · rfl
          · obtain ⟨j, hj, hvj⟩ := inS_n (by omega) hV
            exact absurd hvj (hne j (by rw [htx] at hj; simpa using hj))⟩ (Nat.le_of_ble_eq_true rfl) (Nat.le_of_ble_eq_true rfl)
    | cons x r ih =>
      intro o dn H locs ls ho hm htx hne hP hD hS hl
      obtain ⟨ho, ho2⟩ := ho
      subst ho
      have hx9 := hm x List.mem_cons_self
      have hm2 : ∀ i, i ∈ r → i < S 0 0 := fun i hi => hm i (List.mem_cons_of_mem _ hi)
      have hdl : dn.length ≤ 60 := by rw [htx, List.length_append] at hl60; omega
      have hl : lv_has ls 5 [(4, .ref (G (100 + 3 * x))), (3, .int (nI dn.length)), (0, .ref (G 0)), (1, .int (nI c9)), (2, .int v)] := hl
      refine lv_aload hx hb dX1_findAtPlace_8 (lv_at hl 0 rfl) ?_
      refine lv_ifnull hx hb dX1_findAtPlace_10 ?_
      refine lv_aload hx hb dX1_findAtPlace_13 (lv_at hl 0 rfl) ?_
      refine lv_iload_n hx hb dX1_findAtPlace_15 rfl (lv_at hl 3 rfl) ?_
      refine K_i (va_runVN (As := [.int (nI c9)]) (rest := []) ⟨hx, hb, hml, hown, hts⟩ (c_X0_isInTextOf l hR hx9 hc9 _) ⟨va_cnB 1 hts gX1_findAtPlace_X0_isInTextOf_n125 rfl rfl rfl hX.2.2.2.2.2.2.1.1 (hts (.initialized RX0) (by decide +kernel)) (by decide +kernel) ⟨Nat.le_of_ble_eq_true rfl, Nat.le_of_ble_eq_true rfl⟩, hts (.instanceMethod yX0_isInTextOf) (by decide +kernel), hts (.selects RX0 yX0_isInTextOf yX0_isInTextOf) (by decide +kernel)⟩ (pV hP hK hD hS hA hX (va_recv hK hP (ci := 0) (q0 := 6 + (20 + x)) rfl (CW_sg hx9))) rfl rfl hl.1 rfl (lv_room (Nat.le_of_ble_eq_true rfl)) dX1_findAtPlace_16 ⟨Nat.le_of_ble_eq_true rfl, Nat.le_of_ble_eq_true rfl⟩) hD hS hA (fun r w'  H locs hp hP hD hS => ?_)
      obtain ⟨rfl, rfl⟩ := hp
      refine r_if_eq (tgt := 33) hx hb dX1_findAtPlace_19 (by decide) (Nat.lt_trans (bN_lt _) (by decide)) (fun cV => ?_) (fun cV => ?_)
      · have hv0 := bN_0.mp cV
        refine lv_aload hx hb dX1_findAtPlace_33 (lv_at hl 0 rfl) ?_
        refine va_getN (D := D) (ci := 0) (v := va_rf ((nx x).map fun j => G (100 + 3 * j))) (C := RX0) (T := TX0) (N := 8) (host := RX1) hx hb hts hiX0 hown hK hP (6 + (20 + x)) (CW_sg hx9) rfl 5 (by decide) (va_Nw.use rfl hX.2.2.2.2.2.1.1) (fun _ h9 => h9) rfl dX1_findAtPlace_35 ?_
        refine r_astoreq (lv' := [(4, va_rf ((nx x).map fun j => G (100 + 3 * j))), (3, .int (nI dn.length)), (0, .ref (G 0)), (1, .int (nI c9)), (2, .int v)]) hx hb dX1_findAtPlace_38 hl (by decide) rfl (fun ls hl => ?_)
        refine lv_goto (tgt := 8) hx hb dX1_findAtPlace_40 (by decide) ?_
        exact ih (nx x) dn _ _ ls ho2 hm2 (by rw [htx, List.filter_cons, if_neg (by rw [hv0]; decide)]) (hne) hP hD hS (lv_sub hl [0, 1, 2, 3, 4] rfl)
      · have hv1 := bN_1.mp cV
        refine lv_iload_n hx hb dX1_findAtPlace_22 rfl (lv_at hl 1 rfl) ?_
        refine lv_iload_n hx hb dX1_findAtPlace_23 rfl (lv_at hl 4 rfl) ?_
        refine lv_icmp_ne (tgt := 30) hx hb dX1_findAtPlace_24 (by decide) (fun cE => ?_) (fun cE => ?_)
        · refine lv_iinc (v := nI (dn.length + 1)) (lv' := [(3, .int (nI (dn.length + 1))), (4, .ref (G (100 + 3 * x))), (0, .ref (G 0)), (1, .int (nI c9)), (2, .int v)]) hx hb dX1_findAtPlace_30 hl (k := 1) rfl (nI_inc _) (by decide) rfl (fun ls hl => ?_)
          have e9 : dn.length + 1 = (dn ++ [x]).length := by simp
          rw [e9] at hl
          refine lv_aload hx hb dX1_findAtPlace_33 (lv_at hl 1 rfl) ?_
          refine va_getN (D := D) (ci := 0) (v := va_rf ((nx x).map fun j => G (100 + 3 * j))) (C := RX0) (T := TX0) (N := 8) (host := RX1) hx hb hts hiX0 hown hK hP (6 + (20 + x)) (CW_sg hx9) rfl 5 (by decide) (va_Nw.use rfl hX.2.2.2.2.2.1.1) (fun _ h9 => h9) rfl dX1_findAtPlace_35 ?_
          refine r_astoreq (lv' := [(4, va_rf ((nx x).map fun j => G (100 + 3 * j))), (3, .int (nI ((dn ++ [x]).length))), (0, .ref (G 0)), (1, .int (nI c9)), (2, .int v)]) hx hb dX1_findAtPlace_38 hl (by decide) rfl (fun ls hl => ?_)
          refine lv_goto (tgt := 8) hx hb dX1_findAtPlace_40 (by decide) ?_
          exact ih (nx x) (dn ++ [x]) _ _ ls ho2 hm2 (by rw [htx, List.filter_cons, if_pos hv1, List.append_assoc]; rfl) (fun j hj => by
              rw [List.length_append, List.length_singleton] at hj
              rcases Nat.lt_or_eq_of_le (Nat.lt_succ_iff.mp hj) with h | h
              · exact hne j h
              · subst h; exact fun e => cE e.symm) hP hD hS (lv_sub hl [0, 1, 2, 3, 4] rfl)
        · refine lv_aload hx hb dX1_findAtPlace_27 (lv_at hl 0 rfl) ?_
          have hlt : dn.length < (txL S O c9).length := by rw [htx, List.length_append, List.filter_cons, if_pos hv1, List.length_cons]; omega
          exact vx_ret (C_qret (v := some (G (100 + 3 * x))) hx hb hr (Or.inl ⟨_, rfl⟩) hlocks hS hP hK hD (Nat.le_of_ble_eq_true rfl) (Nat.le_of_ble_eq_true rfl) dX1_findAtPlace_29 ⟨by rw [← cE]; exact inS_of hlt (by omega), by rw [← cE, aN_n (by omega), getD_lt hlt]; simp only [htx, List.filter_cons, if_pos hv1]; simp, rfl⟩)
  exact loop O hd [] _ _ ls hO hOm rfl (fun j hj => absurd hj (Nat.not_lt_zero j)) hP hD hS (lv_sub hl [0, 1, 2, 3, 4] rfl)

def cntE (S : Nat → Nat → Nat) (c9 : Nat) : List Nat → Option Nat → Nat
  | [], _ => 0
  | x :: r, e => if e = some x then 0 else bN (vsb S c9 x) + cntE S c9 r e
theorem cntE_none (S : Nat → Nat → Nat) (c9 : Nat) : ∀ O : List Nat, cntE S c9 O none = (txL S O c9).length
  | [] => rfl
  | x :: r => by
    rw [cntE, if_neg (by simp), cntE_none S c9 r, txL, txL, List.filter_cons]
    cases h : vsb S c9 x <;> simp [bN] <;> omega
theorem cntE_le (S : Nat → Nat → Nat) (c9 : Nat) (e : Option Nat) : ∀ O : List Nat, cntE S c9 O e ≤ O.length
  | [] => Nat.le_refl _
  | x :: r => by
    rw [cntE, List.length_cons]
    have h1 := cntE_le S c9 e r
    have h2 := bN_lt (vsb S c9 x)
    split <;> omega
theorem cntE_some {S : Nat → Nat → Nat} {c9 z : Nat} : ∀ {O : List Nat}, O.Nodup → z ∈ txL S O c9 → cntE S c9 O (some z) = posL (txL S O c9) z
  | [], _, h => absurd h List.not_mem_nil
  | x :: r, hn, h => by
    have hn2 := List.nodup_cons.mp hn
    by_cases e : z = x
    · subst e
      have hv : vsb S c9 z = true := (List.mem_filter.mp h).2
      rw [cntE, if_pos rfl, txL, List.filter_cons, if_pos hv, posL, if_pos rfl]
    · have hz : z ∈ txL S r c9 := by
        obtain ⟨h1, h2⟩ := List.mem_filter.mp h
        rcases List.mem_cons.mp h1 with h3 | h3
        · exact absurd h3 e
        · exact List.mem_filter.mpr ⟨h3, h2⟩
      have ih := cntE_some hn2.2 hz
      rw [cntE, if_neg (fun h9 => e (Option.some.inj h9)), ih, txL, txL, List.filter_cons]
      cases hv : vsb S c9 x
      · simp [bN]
      · simp only [bN, if_true, posL]
        rw [if_neg (fun h9 => e h9.symm)]
        omega

set_option maxHeartbeats 4000000 in
set_option maxRecDepth 100000 in
theorem c_X1_countAheadOf_none (l : Launch) {D : va_G} {cy : Nat → ClassId} {G : Nat → Nat} {S : Nat → Nat → Nat} {hd : Option Nat} {nx : Nat → Option Nat} {Y : va_W} {O : List Nat} (hR : Rng S) (hO : ChP nx hd O) (hOm : ∀ i, i ∈ O → i < S 0 0) (hO60 : O.length ≤ 60) {c9 : Nat} (hc9 : c9 < 4) : CI l yX1_countAheadOf wsX1_countAheadOf ({ frames := 3, cells := 0, slots := 0, locals := 54 } : Room) D cy [.ref (G 0), .int (nI c9), .null] (CW cy G S hd nx Y) (fun r w' => r = nI (cntE S c9 O none) ∧ w' = CW cy G S hd nx Y) 0 0 := by
  refine CI.of (cc := cX1_countAheadOf) (maxL := 5) (ret := (some .int)) (by decide) rfl (Nat.le_of_ble_eq_true rfl) ?_
  intro p e s m below meth c A ls E0 hl
  obtain ⟨hx, hb, hml, hown, hts, hr, hlocks, hA, hS, hP, hK, hD, hX⟩ := E0
  have hiX0 : ∀ w ∈ u_ws RX0 TX0 8, w ∈ wsX1_countAheadOf := by decide +kernel
  have hiX1 : ∀ w ∈ u_ws RX1 TX1 9, w ∈ wsX1_countAheadOf := by decide +kernel
  have hl : lv_has ls 5 [(0, .ref (G 0)), (1, .int (nI c9)), (2, .null)] := hl
  refine lv_iconst (v := nI 0) hx hb dX1_countAheadOf_0 (by decide) ?_
  refine lv_istore_n (lv' := [(3, .int (nI 0)), (0, .ref (G 0)), (1, .int (nI c9)), (2, .null)]) hx hb dX1_countAheadOf_1 rfl hl (by decide) rfl (fun ls hl => ?_)
  refine lv_aload_n hx hb dX1_countAheadOf_2 rfl (lv_at hl 1 rfl) ?_
  refine va_get (D := D) (ci := 1) (v := va_rf (hd.map fun j => G (100 + 3 * j))) (C := RX1) (T := TX1) (N := 9) hx hb hts hiX1 hown hK hP (0) rfl rfl 2 (by decide) (hts (.fieldLink RX1 19 "CoauthorText" "firstInOrder" "LCoauthorText$Sign;") (by decide +kernel)) (fun _ h9 => h9) rfl dX1_countAheadOf_3 ?_
  refine r_astoreq (lv' := [(4, va_rf (hd.map fun j => G (100 + 3 * j))), (3, .int (nI 0)), (0, .ref (G 0)), (1, .int (nI c9)), (2, .null)]) hx hb dX1_countAheadOf_6 hl (by decide) rfl (fun ls hl => ?_)
  have loop : ∀ (r : List Nat) (o : Option Nat) (k : Nat) (H : Heap) (locs : List Loc) (ls : Array Slot), ChP nx o r → (∀ i, i ∈ r → i < S 0 0) → k + cntE S c9 r none = cntE S c9 O none → va_P D vwCl (CW cy G S hd nx Y) H → va_D A (CW cy G S hd nx Y) → va_S A s.heap H locs → lv_has ls 5 [(4, va_rf (o.map fun j => G (100 + 3 * j))), (3, .int (nI k)), (0, .ref (G 0)), (1, .int (nI c9)), (2, .null)] → W p l e ({ frames := 3, cells := 0, slots := 0, locals := 54 } : Room) s m ([.ref (G 0), .int (nI c9), .null] : List Value).toArray below meth c H locs 0 0 (MQ below (va_Qi (fun r w' => r = nI (cntE S c9 O none) ∧ w' = CW cy G S hd nx Y) (fun w' t => wB D cy A w' t) A) ([.ref (G 0), .int (nI c9), .null] : List Value).toArray s 0 0 A) (F0 m 8 ls []) := by
    intro r
    induction r with
    | nil =>
      intro o k H locs ls ho hm hk hP hD hS hl
      have ho : o = none := ho
      subst ho
      have hl : lv_has ls 5 [(4, .null), (3, .int (nI k)), (0, .ref (G 0)), (1, .int (nI c9)), (2, .null)] := hl
      refine lv_aloadN hx hb dX1_countAheadOf_8 (lv_at hl 0 rfl) ?_
      refine lv_ifnullN (tgt := 41) hx hb dX1_countAheadOf_10 (by decide) ?_
      refine lv_iload_n hx hb dX1_countAheadOf_41 rfl (lv_at hl 1 rfl) ?_
      exact C_iret hx hb hr hlocks hS hP hK hD (Nat.le_of_ble_eq_true rfl) (Nat.le_of_ble_eq_true rfl) dX1_countAheadOf_42 ⟨by rw [← hk]; rfl, rfl⟩
    | cons x r ih =>
      intro o k H locs ls ho hm hk hP hD hS hl
      obtain ⟨ho, ho2⟩ := ho
      subst ho
      have hx9 := hm x List.mem_cons_self
      have hm2 : ∀ i, i ∈ r → i < S 0 0 := fun i hi => hm i (List.mem_cons_of_mem _ hi)
      have hl : lv_has ls 5 [(4, .ref (G (100 + 3 * x))), (3, .int (nI k)), (0, .ref (G 0)), (1, .int (nI c9)), (2, .null)] := hl
      refine lv_aload hx hb dX1_countAheadOf_8 (lv_at hl 0 rfl) ?_
      refine lv_ifnull hx hb dX1_countAheadOf_10 ?_
      refine lv_aload hx hb dX1_countAheadOf_13 (lv_at hl 0 rfl) ?_
      refine lv_aload_nN hx hb dX1_countAheadOf_15 rfl (lv_at hl 4 rfl) ?_
      have hiff : (some (G (100 + 3 * x)) = none) ↔ none = some x := by
        simp
      refine lv_acmp_eq (rx := some (G (100 + 3 * x))) (ry := none) (tgt := 41) hx hb dX1_countAheadOf_16 (by decide) (fun cE => ?_) (fun cE => ?_)
      · refine lv_iload_n hx hb dX1_countAheadOf_41 rfl (lv_at hl 1 rfl) ?_
        exact C_iret hx hb hr hlocks hS hP hK hD (Nat.le_of_ble_eq_true rfl) (Nat.le_of_ble_eq_true rfl) dX1_countAheadOf_42 ⟨by rw [← hk, cntE, if_pos (hiff.mp cE)]; rfl, rfl⟩
      · rw [cntE, if_neg (fun h => cE (hiff.mpr h))] at hk
        refine lv_aload hx hb dX1_countAheadOf_19 (lv_at hl 0 rfl) ?_
        refine lv_iload_n hx hb dX1_countAheadOf_21 rfl (lv_at hl 3 rfl) ?_
        refine K_i (va_runVN (As := [.int (nI c9)]) (rest := []) ⟨hx, hb, hml, hown, hts⟩ (c_X0_isInTextOf l hR hx9 hc9 _) ⟨va_cnB 1 hts gX1_countAheadOf_X0_isInTextOf_n125 rfl rfl rfl hX.2.2.2.2.2.2.1.1 (hts (.initialized RX0) (by decide +kernel)) (by decide +kernel) ⟨Nat.le_of_ble_eq_true rfl, Nat.le_of_ble_eq_true rfl⟩, hts (.instanceMethod yX0_isInTextOf) (by decide +kernel), hts (.selects RX0 yX0_isInTextOf yX0_isInTextOf) (by decide +kernel)⟩ (pV hP hK hD hS hA hX (va_recv hK hP (ci := 0) (q0 := 6 + (20 + x)) rfl (CW_sg hx9))) rfl rfl hl.1 rfl (lv_room (Nat.le_of_ble_eq_true rfl)) dX1_countAheadOf_22 ⟨Nat.le_of_ble_eq_true rfl, Nat.le_of_ble_eq_true rfl⟩) hD hS hA (fun r w'  H locs hp hP hD hS => ?_)
        obtain ⟨rfl, rfl⟩ := hp
        refine r_if_eq (tgt := 31) hx hb dX1_countAheadOf_25 (by decide) (Nat.lt_trans (bN_lt _) (by decide)) (fun cV => ?_) (fun cV => ?_)
        · refine lv_aload hx hb dX1_countAheadOf_31 (lv_at hl 0 rfl) ?_
          refine va_getN (D := D) (ci := 0) (v := va_rf ((nx x).map fun j => G (100 + 3 * j))) (C := RX0) (T := TX0) (N := 8) (host := RX1) hx hb hts hiX0 hown hK hP (6 + (20 + x)) (CW_sg hx9) rfl 5 (by decide) (va_Nw.use rfl hX.2.2.2.2.2.1.1) (fun _ h9 => h9) rfl dX1_countAheadOf_33 ?_
          refine r_astoreq (lv' := [(4, va_rf ((nx x).map fun j => G (100 + 3 * j))), (3, .int (nI k)), (0, .ref (G 0)), (1, .int (nI c9)), (2, .null)]) hx hb dX1_countAheadOf_36 hl (by decide) rfl (fun ls hl => ?_)
          refine lv_goto (tgt := 8) hx hb dX1_countAheadOf_38 (by decide) ?_
          exact ih (nx x) k _ _ ls ho2 hm2 (by rw [cV] at hk; omega) hP hD hS (lv_sub hl [0, 1, 2, 3, 4] rfl)
        · refine lv_iinc (v := nI (k + 1)) (lv' := [(3, .int (nI (k + 1))), (4, .ref (G (100 + 3 * x))), (0, .ref (G 0)), (1, .int (nI c9)), (2, .null)]) hx hb dX1_countAheadOf_28 hl (k := 1) rfl (nI_inc _) (by decide) rfl (fun ls hl => ?_)
          refine lv_aload hx hb dX1_countAheadOf_31 (lv_at hl 1 rfl) ?_
          refine va_getN (D := D) (ci := 0) (v := va_rf ((nx x).map fun j => G (100 + 3 * j))) (C := RX0) (T := TX0) (N := 8) (host := RX1) hx hb hts hiX0 hown hK hP (6 + (20 + x)) (CW_sg hx9) rfl 5 (by decide) (va_Nw.use rfl hX.2.2.2.2.2.1.1) (fun _ h9 => h9) rfl dX1_countAheadOf_33 ?_
          refine r_astoreq (lv' := [(4, va_rf ((nx x).map fun j => G (100 + 3 * j))), (3, .int (nI (k + 1))), (0, .ref (G 0)), (1, .int (nI c9)), (2, .null)]) hx hb dX1_countAheadOf_36 hl (by decide) rfl (fun ls hl => ?_)
          refine lv_goto (tgt := 8) hx hb dX1_countAheadOf_38 (by decide) ?_
          exact ih (nx x) (k + 1) _ _ ls ho2 hm2 (by have := bN_lt (vsb S c9 x); omega) hP hD hS (lv_sub hl [0, 1, 2, 3, 4] rfl)
  exact loop O hd 0 _ _ ls hO hOm (Nat.zero_add _) hP hD hS (lv_sub hl [0, 1, 2, 3, 4] rfl)

set_option maxHeartbeats 4000000 in
set_option maxRecDepth 100000 in
theorem c_X1_countAheadOf_some (l : Launch) {D : va_G} {cy : Nat → ClassId} {G : Nat → Nat} {S : Nat → Nat → Nat} {hd : Option Nat} {nx : Nat → Option Nat} {Y : va_W} {O : List Nat} (hR : Rng S) (hO : ChP nx hd O) (hOm : ∀ i, i ∈ O → i < S 0 0) (hO60 : O.length ≤ 60) {c9 : Nat} (hc9 : c9 < 4) {z : Nat} (hz : z < S 0 0) : CI l yX1_countAheadOf wsX1_countAheadOf ({ frames := 3, cells := 0, slots := 0, locals := 54 } : Room) D cy [.ref (G 0), .int (nI c9), .ref (G (100 + 3 * z))] (CW cy G S hd nx Y) (fun r w' => r = nI (cntE S c9 O (some z)) ∧ w' = CW cy G S hd nx Y) 0 0 := by
  refine CI.of (cc := cX1_countAheadOf) (maxL := 5) (ret := (some .int)) (by decide) rfl (Nat.le_of_ble_eq_true rfl) ?_
  intro p e s m below meth c A ls E0 hl
  obtain ⟨hx, hb, hml, hown, hts, hr, hlocks, hA, hS, hP, hK, hD, hX⟩ := E0
  have hiX0 : ∀ w ∈ u_ws RX0 TX0 8, w ∈ wsX1_countAheadOf := by decide +kernel
  have hiX1 : ∀ w ∈ u_ws RX1 TX1 9, w ∈ wsX1_countAheadOf := by decide +kernel
  have hl : lv_has ls 5 [(0, .ref (G 0)), (1, .int (nI c9)), (2, .ref (G (100 + 3 * z)))] := hl
  refine lv_iconst (v := nI 0) hx hb dX1_countAheadOf_0 (by decide) ?_
  refine lv_istore_n (lv' := [(3, .int (nI 0)), (0, .ref (G 0)), (1, .int (nI c9)), (2, .ref (G (100 + 3 * z)))]) hx hb dX1_countAheadOf_1 rfl hl (by decide) rfl (fun ls hl => ?_)
  refine lv_aload_n hx hb dX1_countAheadOf_2 rfl (lv_at hl 1 rfl) ?_
  refine va_get (D := D) (ci := 1) (v := va_rf (hd.map fun j => G (100 + 3 * j))) (C := RX1) (T := TX1) (N := 9) hx hb hts hiX1 hown hK hP (0) rfl rfl 2 (by decide) (hts (.fieldLink RX1 19 "CoauthorText" "firstInOrder" "LCoauthorText$Sign;") (by decide +kernel)) (fun _ h9 => h9) rfl dX1_countAheadOf_3 ?_
  refine r_astoreq (lv' := [(4, va_rf (hd.map fun j => G (100 + 3 * j))), (3, .int (nI 0)), (0, .ref (G 0)), (1, .int (nI c9)), (2, .ref (G (100 + 3 * z)))]) hx hb dX1_countAheadOf_6 hl (by decide) rfl (fun ls hl => ?_)
  have loop : ∀ (r : List Nat) (o : Option Nat) (k : Nat) (H : Heap) (locs : List Loc) (ls : Array Slot), ChP nx o r → (∀ i, i ∈ r → i < S 0 0) → k + cntE S c9 r (some z) = cntE S c9 O (some z) → va_P D vwCl (CW cy G S hd nx Y) H → va_D A (CW cy G S hd nx Y) → va_S A s.heap H locs → lv_has ls 5 [(4, va_rf (o.map fun j => G (100 + 3 * j))), (3, .int (nI k)), (0, .ref (G 0)), (1, .int (nI c9)), (2, .ref (G (100 + 3 * z)))] → W p l e ({ frames := 3, cells := 0, slots := 0, locals := 54 } : Room) s m ([.ref (G 0), .int (nI c9), .ref (G (100 + 3 * z))] : List Value).toArray below meth c H locs 0 0 (MQ below (va_Qi (fun r w' => r = nI (cntE S c9 O (some z)) ∧ w' = CW cy G S hd nx Y) (fun w' t => wB D cy A w' t) A) ([.ref (G 0), .int (nI c9), .ref (G (100 + 3 * z))] : List Value).toArray s 0 0 A) (F0 m 8 ls []) := by
    intro r
    induction r with
    | nil =>
      intro o k H locs ls ho hm hk hP hD hS hl
      have ho : o = none := ho
      subst ho
      have hl : lv_has ls 5 [(4, .null), (3, .int (nI k)), (0, .ref (G 0)), (1, .int (nI c9)), (2, .ref (G (100 + 3 * z)))] := hl
      refine lv_aloadN hx hb dX1_countAheadOf_8 (lv_at hl 0 rfl) ?_
      refine lv_ifnullN (tgt := 41) hx hb dX1_countAheadOf_10 (by decide) ?_
      refine lv_iload_n hx hb dX1_countAheadOf_41 rfl (lv_at hl 1 rfl) ?_
      exact C_iret hx hb hr hlocks hS hP hK hD (Nat.le_of_ble_eq_true rfl) (Nat.le_of_ble_eq_true rfl) dX1_countAheadOf_42 ⟨by rw [← hk]; rfl, rfl⟩
    | cons x r ih =>
      intro o k H locs ls ho hm hk hP hD hS hl
      obtain ⟨ho, ho2⟩ := ho
      subst ho
      have hx9 := hm x List.mem_cons_self
      have hm2 : ∀ i, i ∈ r → i < S 0 0 := fun i hi => hm i (List.mem_cons_of_mem _ hi)
      have hl : lv_has ls 5 [(4, .ref (G (100 + 3 * x))), (3, .int (nI k)), (0, .ref (G 0)), (1, .int (nI c9)), (2, .ref (G (100 + 3 * z)))] := hl
      refine lv_aload hx hb dX1_countAheadOf_8 (lv_at hl 0 rfl) ?_
      refine lv_ifnull hx hb dX1_countAheadOf_10 ?_
      refine lv_aload hx hb dX1_countAheadOf_13 (lv_at hl 0 rfl) ?_
      refine lv_aload_n hx hb dX1_countAheadOf_15 rfl (lv_at hl 4 rfl) ?_
      have hiff : (some (G (100 + 3 * x)) = some (G (100 + 3 * z))) ↔ (some z) = some x := by
        simp only [Option.some.injEq]
        exact ⟨fun h => (G_inj hD hx9 hz h).symm, fun h => by rw [h]⟩
      refine lv_acmp_eq (rx := some (G (100 + 3 * x))) (ry := some (G (100 + 3 * z))) (tgt := 41) hx hb dX1_countAheadOf_16 (by decide) (fun cE => ?_) (fun cE => ?_)
      · refine lv_iload_n hx hb dX1_countAheadOf_41 rfl (lv_at hl 1 rfl) ?_
        exact C_iret hx hb hr hlocks hS hP hK hD (Nat.le_of_ble_eq_true rfl) (Nat.le_of_ble_eq_true rfl) dX1_countAheadOf_42 ⟨by rw [← hk, cntE, if_pos (hiff.mp cE)]; rfl, rfl⟩
      · rw [cntE, if_neg (fun h => cE (hiff.mpr h))] at hk
        refine lv_aload hx hb dX1_countAheadOf_19 (lv_at hl 0 rfl) ?_
        refine lv_iload_n hx hb dX1_countAheadOf_21 rfl (lv_at hl 3 rfl) ?_
        refine K_i (va_runVN (As := [.int (nI c9)]) (rest := []) ⟨hx, hb, hml, hown, hts⟩ (c_X0_isInTextOf l hR hx9 hc9 _) ⟨va_cnB 1 hts gX1_countAheadOf_X0_isInTextOf_n125 rfl rfl rfl hX.2.2.2.2.2.2.1.1 (hts (.initialized RX0) (by decide +kernel)) (by decide +kernel) ⟨Nat.le_of_ble_eq_true rfl, Nat.le_of_ble_eq_true rfl⟩, hts (.instanceMethod yX0_isInTextOf) (by decide +kernel), hts (.selects RX0 yX0_isInTextOf yX0_isInTextOf) (by decide +kernel)⟩ (pV hP hK hD hS hA hX (va_recv hK hP (ci := 0) (q0 := 6 + (20 + x)) rfl (CW_sg hx9))) rfl rfl hl.1 rfl (lv_room (Nat.le_of_ble_eq_true rfl)) dX1_countAheadOf_22 ⟨Nat.le_of_ble_eq_true rfl, Nat.le_of_ble_eq_true rfl⟩) hD hS hA (fun r w'  H locs hp hP hD hS => ?_)
        obtain ⟨rfl, rfl⟩ := hp
        refine r_if_eq (tgt := 31) hx hb dX1_countAheadOf_25 (by decide) (Nat.lt_trans (bN_lt _) (by decide)) (fun cV => ?_) (fun cV => ?_)
        · refine lv_aload hx hb dX1_countAheadOf_31 (lv_at hl 0 rfl) ?_
          refine va_getN (D := D) (ci := 0) (v := va_rf ((nx x).map fun j => G (100 + 3 * j))) (C := RX0) (T := TX0) (N := 8) (host := RX1) hx hb hts hiX0 hown hK hP (6 + (20 + x)) (CW_sg hx9) rfl 5 (by decide) (va_Nw.use rfl hX.2.2.2.2.2.1.1) (fun _ h9 => h9) rfl dX1_countAheadOf_33 ?_
          refine r_astoreq (lv' := [(4, va_rf ((nx x).map fun j => G (100 + 3 * j))), (3, .int (nI k)), (0, .ref (G 0)), (1, .int (nI c9)), (2, .ref (G (100 + 3 * z)))]) hx hb dX1_countAheadOf_36 hl (by decide) rfl (fun ls hl => ?_)
          refine lv_goto (tgt := 8) hx hb dX1_countAheadOf_38 (by decide) ?_
          exact ih (nx x) k _ _ ls ho2 hm2 (by rw [cV] at hk; omega) hP hD hS (lv_sub hl [0, 1, 2, 3, 4] rfl)
        · refine lv_iinc (v := nI (k + 1)) (lv' := [(3, .int (nI (k + 1))), (4, .ref (G (100 + 3 * x))), (0, .ref (G 0)), (1, .int (nI c9)), (2, .ref (G (100 + 3 * z)))]) hx hb dX1_countAheadOf_28 hl (k := 1) rfl (nI_inc _) (by decide) rfl (fun ls hl => ?_)
          refine lv_aload hx hb dX1_countAheadOf_31 (lv_at hl 1 rfl) ?_
          refine va_getN (D := D) (ci := 0) (v := va_rf ((nx x).map fun j => G (100 + 3 * j))) (C := RX0) (T := TX0) (N := 8) (host := RX1) hx hb hts hiX0 hown hK hP (6 + (20 + x)) (CW_sg hx9) rfl 5 (by decide) (va_Nw.use rfl hX.2.2.2.2.2.1.1) (fun _ h9 => h9) rfl dX1_countAheadOf_33 ?_
          refine r_astoreq (lv' := [(4, va_rf ((nx x).map fun j => G (100 + 3 * j))), (3, .int (nI (k + 1))), (0, .ref (G 0)), (1, .int (nI c9)), (2, .ref (G (100 + 3 * z)))]) hx hb dX1_countAheadOf_36 hl (by decide) rfl (fun ls hl => ?_)
          refine lv_goto (tgt := 8) hx hb dX1_countAheadOf_38 (by decide) ?_
          exact ih (nx x) (k + 1) _ _ ls ho2 hm2 (by have := bN_lt (vsb S c9 x); omega) hP hD hS (lv_sub hl [0, 1, 2, 3, 4] rfl)
  exact loop O hd 0 _ _ ls hO hOm (Nat.zero_add _) hP hD hS (lv_sub hl [0, 1, 2, 3, 4] rfl)

set_option maxHeartbeats 4000000 in
set_option maxRecDepth 100000 in
theorem c_X1_countWrittenBy (l : Launch) {D : va_G} {cy : Nat → ClassId} {G : Nat → Nat} {S : Nat → Nat → Nat} {hd : Option Nat} {nx : Nat → Option Nat} {Y : va_W} {O : List Nat} (hR : Rng S) (hO : ChP nx hd O) (hOm : ∀ i, i ∈ O → i < S 0 0) (hO60 : O.length ≤ 60) {c9 : Nat} (hc9 : c9 < 4) {w9 : Nat} (hw9 : w9 < 4) : CI l yX1_countWrittenBy wsX1_countWrittenBy ({ frames := 3, cells := 0, slots := 0, locals := 54 } : Room) D cy [.ref (G 0), .int (nI w9), .int (nI c9)] (CW cy G S hd nx Y) (fun r w' => r = nI (cntA S (txL S O c9) w9) ∧ w' = CW cy G S hd nx Y) 0 0 := by
  refine CI.of (cc := cX1_countWrittenBy) (maxL := 5) (ret := (some .int)) (by decide) rfl (Nat.le_of_ble_eq_true rfl) ?_
  intro p e s m below meth c A ls E0 hl
  obtain ⟨hx, hb, hml, hown, hts, hr, hlocks, hA, hS, hP, hK, hD, hX⟩ := E0
  have hiX0 : ∀ w ∈ u_ws RX0 TX0 8, w ∈ wsX1_countWrittenBy := by decide +kernel
  have hiX1 : ∀ w ∈ u_ws RX1 TX1 9, w ∈ wsX1_countWrittenBy := by decide +kernel
  have hl : lv_has ls 5 [(0, .ref (G 0)), (1, .int (nI w9)), (2, .int (nI c9))] := hl
  refine lv_iconst (v := nI 0) hx hb dX1_countWrittenBy_0 (by decide) ?_
  refine lv_istore_n (lv' := [(3, .int (nI 0)), (0, .ref (G 0)), (1, .int (nI w9)), (2, .int (nI c9))]) hx hb dX1_countWrittenBy_1 rfl hl (by decide) rfl (fun ls hl => ?_)
  refine lv_aload_n hx hb dX1_countWrittenBy_2 rfl (lv_at hl 1 rfl) ?_
  refine va_get (D := D) (ci := 1) (v := va_rf (hd.map fun j => G (100 + 3 * j))) (C := RX1) (T := TX1) (N := 9) hx hb hts hiX1 hown hK hP (0) rfl rfl 2 (by decide) (hts (.fieldLink RX1 19 "CoauthorText" "firstInOrder" "LCoauthorText$Sign;") (by decide +kernel)) (fun _ h9 => h9) rfl dX1_countWrittenBy_3 ?_
  refine r_astoreq (lv' := [(4, va_rf (hd.map fun j => G (100 + 3 * j))), (3, .int (nI 0)), (0, .ref (G 0)), (1, .int (nI w9)), (2, .int (nI c9))]) hx hb dX1_countWrittenBy_6 hl (by decide) rfl (fun ls hl => ?_)
  have loop : ∀ (r : List Nat) (o : Option Nat) (k : Nat) (H : Heap) (locs : List Loc) (ls : Array Slot), ChP nx o r → (∀ i, i ∈ r → i < S 0 0) → k + cntA S (r.filter (vsb S c9)) w9 = cntA S (txL S O c9) w9 → va_P D vwCl (CW cy G S hd nx Y) H → va_D A (CW cy G S hd nx Y) → va_S A s.heap H locs → lv_has ls 5 [(4, va_rf (o.map fun j => G (100 + 3 * j))), (3, .int (nI k)), (0, .ref (G 0)), (1, .int (nI w9)), (2, .int (nI c9))] → W p l e ({ frames := 3, cells := 0, slots := 0, locals := 54 } : Room) s m ([.ref (G 0), .int (nI w9), .int (nI c9)] : List Value).toArray below meth c H locs 0 0 (MQ below (va_Qi (fun r w' => r = nI (cntA S (txL S O c9) w9) ∧ w' = CW cy G S hd nx Y) (fun w' t => wB D cy A w' t) A) ([.ref (G 0), .int (nI w9), .int (nI c9)] : List Value).toArray s 0 0 A) (F0 m 8 ls []) := by
    intro r
    induction r with
    | nil =>
      intro o k H locs ls ho hm hk hP hD hS hl
      have ho : o = none := ho
      subst ho
      have hl : lv_has ls 5 [(4, .null), (3, .int (nI k)), (0, .ref (G 0)), (1, .int (nI w9)), (2, .int (nI c9))] := hl
      refine lv_aloadN hx hb dX1_countWrittenBy_8 (lv_at hl 0 rfl) ?_
      refine lv_ifnullN (tgt := 44) hx hb dX1_countWrittenBy_10 (by decide) ?_
      refine lv_iload_n hx hb dX1_countWrittenBy_44 rfl (lv_at hl 1 rfl) ?_
      exact C_iret hx hb hr hlocks hS hP hK hD (Nat.le_of_ble_eq_true rfl) (Nat.le_of_ble_eq_true rfl) dX1_countWrittenBy_45 ⟨by rw [← hk]; rfl, rfl⟩
    | cons x r ih =>
      intro o k H locs ls ho hm hk hP hD hS hl
      obtain ⟨ho, ho2⟩ := ho
      subst ho
      have hx9 := hm x List.mem_cons_self
      have hm2 : ∀ i, i ∈ r → i < S 0 0 := fun i hi => hm i (List.mem_cons_of_mem _ hi)
      have h1 := hR.2.2.2.1 x
      have hl : lv_has ls 5 [(4, .ref (G (100 + 3 * x))), (3, .int (nI k)), (0, .ref (G 0)), (1, .int (nI w9)), (2, .int (nI c9))] := hl
      refine lv_aload hx hb dX1_countWrittenBy_8 (lv_at hl 0 rfl) ?_
      refine lv_ifnull hx hb dX1_countWrittenBy_10 ?_
      refine lv_aload hx hb dX1_countWrittenBy_13 (lv_at hl 0 rfl) ?_
      refine va_getN (D := D) (ci := 0) (v := .int (nI (S 1 x))) (C := RX0) (T := TX0) (N := 8) (host := RX1) hx hb hts hiX0 hown hK hP (6 + (20 + x)) (CW_sg hx9) rfl 1 (by decide) (va_Nw.use rfl hX.2.2.2.2.2.1.2.2.1) (fun _ h9 => h9) rfl dX1_countWrittenBy_15 ?_
      refine lv_iload_n hx hb dX1_countWrittenBy_18 rfl (lv_at hl 3 rfl) ?_
      refine r_icmp_ne (tgt := 34) hx hb dX1_countWrittenBy_19 (by decide) (by omega) (by omega) (fun cE => ?_) (fun cE => ?_)
      · refine lv_aload hx hb dX1_countWrittenBy_34 (lv_at hl 0 rfl) ?_
        refine va_getN (D := D) (ci := 0) (v := va_rf ((nx x).map fun j => G (100 + 3 * j))) (C := RX0) (T := TX0) (N := 8) (host := RX1) hx hb hts hiX0 hown hK hP (6 + (20 + x)) (CW_sg hx9) rfl 5 (by decide) (va_Nw.use rfl hX.2.2.2.2.2.1.1) (fun _ h9 => h9) rfl dX1_countWrittenBy_36 ?_
        refine r_astoreq (lv' := [(4, va_rf ((nx x).map fun j => G (100 + 3 * j))), (3, .int (nI k)), (0, .ref (G 0)), (1, .int (nI w9)), (2, .int (nI c9))]) hx hb dX1_countWrittenBy_39 hl (by decide) rfl (fun ls hl => ?_)
        refine lv_goto (tgt := 8) hx hb dX1_countWrittenBy_41 (by decide) ?_
        exact ih (nx x) k _ _ ls ho2 hm2 (by rw [← hk, List.filter_cons]; split <;> simp [cntA, List.countP_cons, cE]) hP hD hS (lv_sub hl [0, 1, 2, 3, 4] rfl)
      · refine lv_aload hx hb dX1_countWrittenBy_22 (lv_at hl 0 rfl) ?_
        refine lv_iload_n hx hb dX1_countWrittenBy_24 rfl (lv_at hl 4 rfl) ?_
        refine K_i (va_runVN (As := [.int (nI c9)]) (rest := []) ⟨hx, hb, hml, hown, hts⟩ (c_X0_isInTextOf l hR hx9 hc9 _) ⟨va_cnB 1 hts gX1_countWrittenBy_X0_isInTextOf_n125 rfl rfl rfl hX.2.2.2.2.2.2.1.1 (hts (.initialized RX0) (by decide +kernel)) (by decide +kernel) ⟨Nat.le_of_ble_eq_true rfl, Nat.le_of_ble_eq_true rfl⟩, hts (.instanceMethod yX0_isInTextOf) (by decide +kernel), hts (.selects RX0 yX0_isInTextOf yX0_isInTextOf) (by decide +kernel)⟩ (pV hP hK hD hS hA hX (va_recv hK hP (ci := 0) (q0 := 6 + (20 + x)) rfl (CW_sg hx9))) rfl rfl hl.1 rfl (lv_room (Nat.le_of_ble_eq_true rfl)) dX1_countWrittenBy_25 ⟨Nat.le_of_ble_eq_true rfl, Nat.le_of_ble_eq_true rfl⟩) hD hS hA (fun r w'  H locs hp hP hD hS => ?_)
        obtain ⟨rfl, rfl⟩ := hp
        refine r_if_eq (tgt := 34) hx hb dX1_countWrittenBy_28 (by decide) (Nat.lt_trans (bN_lt _) (by decide)) (fun cV => ?_) (fun cV => ?_)
        · refine lv_aload hx hb dX1_countWrittenBy_34 (lv_at hl 0 rfl) ?_
          refine va_getN (D := D) (ci := 0) (v := va_rf ((nx x).map fun j => G (100 + 3 * j))) (C := RX0) (T := TX0) (N := 8) (host := RX1) hx hb hts hiX0 hown hK hP (6 + (20 + x)) (CW_sg hx9) rfl 5 (by decide) (va_Nw.use rfl hX.2.2.2.2.2.1.1) (fun _ h9 => h9) rfl dX1_countWrittenBy_36 ?_
          refine r_astoreq (lv' := [(4, va_rf ((nx x).map fun j => G (100 + 3 * j))), (3, .int (nI k)), (0, .ref (G 0)), (1, .int (nI w9)), (2, .int (nI c9))]) hx hb dX1_countWrittenBy_39 hl (by decide) rfl (fun ls hl => ?_)
          refine lv_goto (tgt := 8) hx hb dX1_countWrittenBy_41 (by decide) ?_
          exact ih (nx x) k _ _ ls ho2 hm2 (by rw [← hk, List.filter_cons, if_neg (by rw [bN_0.mp cV]; decide)]) hP hD hS (lv_sub hl [0, 1, 2, 3, 4] rfl)
        · refine lv_iinc (v := nI (k + 1)) (lv' := [(3, .int (nI (k + 1))), (4, .ref (G (100 + 3 * x))), (0, .ref (G 0)), (1, .int (nI w9)), (2, .int (nI c9))]) hx hb dX1_countWrittenBy_31 hl (k := 1) rfl (nI_inc _) (by decide) rfl (fun ls hl => ?_)
          refine lv_aload hx hb dX1_countWrittenBy_34 (lv_at hl 1 rfl) ?_
          refine va_getN (D := D) (ci := 0) (v := va_rf ((nx x).map fun j => G (100 + 3 * j))) (C := RX0) (T := TX0) (N := 8) (host := RX1) hx hb hts hiX0 hown hK hP (6 + (20 + x)) (CW_sg hx9) rfl 5 (by decide) (va_Nw.use rfl hX.2.2.2.2.2.1.1) (fun _ h9 => h9) rfl dX1_countWrittenBy_36 ?_
          refine r_astoreq (lv' := [(4, va_rf ((nx x).map fun j => G (100 + 3 * j))), (3, .int (nI (k + 1))), (0, .ref (G 0)), (1, .int (nI w9)), (2, .int (nI c9))]) hx hb dX1_countWrittenBy_39 hl (by decide) rfl (fun ls hl => ?_)
          refine lv_goto (tgt := 8) hx hb dX1_countWrittenBy_41 (by decide) ?_
          exact ih (nx x) (k + 1) _ _ ls ho2 hm2 (by rw [← hk, List.filter_cons, if_pos (bN_1.mp cV)]; simp [cntA, List.countP_cons, cE]; omega) hP hD hS (lv_sub hl [0, 1, 2, 3, 4] rfl)
  exact loop O hd 0 _ _ ls hO hOm (Nat.zero_add _) hP hD hS (lv_sub hl [0, 1, 2, 3, 4] rfl)
