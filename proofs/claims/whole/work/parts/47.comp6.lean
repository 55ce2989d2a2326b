/-! ===== the class: print, remove, restore, learn ===== -/
def rwK (S : Nat → Nat → Nat) (k : Nat) (f : Nat → Nat) : Nat → Nat → Nat := fun κ j => if κ = 9 then (if 4 * S 0 1 ≤ j ∧ j < 4 * S 0 1 + k then f (j - 4 * S 0 1) else S 9 j) else S κ j
theorem rwK_0 (S : Nat → Nat → Nat) (f : Nat → Nat) : rwK S 0 f = S := by
  funext κ j
  unfold rwK
  by_cases h : κ = 9
  · subst h
    rw [if_pos rfl, if_neg (by omega)]
  · rw [if_neg h]
theorem rwK_4 (S : Nat → Nat → Nat) (f : Nat → Nat) : rwK S 4 f = rowS S f := rfl
theorem rwK_s (S : Nat → Nat → Nat) (k : Nat) (f : Nat → Nat) : up2 (rwK S k f) 9 (4 * S 0 1 + k) (f k) = rwK S (k + 1) f := by
  funext κ j
  by_cases h : κ = 9
  · subst h
    by_cases e : j = 4 * S 0 1 + k
    · subst e
      rw [up2_s, rwK, if_pos rfl, if_pos ⟨by omega, by omega⟩, Nat.add_sub_cancel_left]
    · rw [up2_i _ e]
      simp only [rwK, if_true]
      by_cases hr : 4 * S 0 1 ≤ j ∧ j < 4 * S 0 1 + k
      · rw [if_pos hr, if_pos ⟨hr.1, by omega⟩]
      · rw [if_neg hr, if_neg (fun h => hr ⟨h.1, by omega⟩)]
  · rw [up2_k _ h]
    simp only [rwK, if_neg h]
theorem Rng.rwK {S : Nat → Nat → Nat} (h : Rng S) (k : Nat) {f : Nat → Nat} (hf : ∀ i, f i ≤ 60) : Rng (rwK S k f) := by
  obtain ⟨h1, h2, h3, h4, h5, h6, h7, h8, h9, h10, h11, h12, h13⟩ := h
  refine ⟨h1, h2, h3, h4, h5, h6, h7, h8, h9, h10, h11, fun j => ?_, h13⟩
  show (if 4 * S 0 1 ≤ j ∧ j < 4 * S 0 1 + k then f (j - 4 * S 0 1) else S 9 j) ≤ 60
  split
  · exact hf _
  · exact h12 j

set_option maxHeartbeats 4000000 in
set_option maxRecDepth 100000 in
theorem c_X1_print (l : Launch) (hlf : l.stackTraces = false) {D : va_G} {cy : Nat → ClassId} {G : Nat → Nat} {S : Nat → Nat → Nat} {hd : Option Nat} {nx : Nat → Option Nat} {Y : va_W} {O : List Nat} (hI : Inv S O) (hO : ChP nx hd O) (p0 : Int32) : TI l yX1_print wsX1_print ({ frames := 8, cells := 10, slots := 60, locals := 132 } : Room) D cy [.ref (G 0), .int p0] (CW cy G S hd nx Y) (fun r w' => (spPrint S O p0).1 = 0 ∧ r = (spPrint S O p0).2.1 ∧ w' = CW cy G (spPrint S O p0).2.2 hd nx Y) (fun E => (E = eIAE ∧ (spPrint S O p0).1 = 1) ∨ (E = eISE ∧ (spPrint S O p0).1 = 2)) 10 60 := by
  refine TI.of (cc := cX1_print) (maxL := 4) (ret := (some .int)) (by decide) rfl (Nat.le_of_ble_eq_true rfl) ?_
  intro p e s m below meth c A ls E0 hT0 hl
  obtain ⟨hx, hb, hml, hown, hts, hr, hlocks, hA, hS, hP, hK, hD, hX⟩ := E0
  have hiX0 : ∀ w ∈ u_ws RX0 TX0 8, w ∈ wsX1_print := by decide +kernel
  have hiX1 : ∀ w ∈ u_ws RX1 TX1 9, w ∈ wsX1_print := by decide +kernel
  have hl : lv_has ls 4 [(0, .ref (G 0)), (1, .int p0)] := hl
  refine lv_iload_n hx hb dX1_print_0 rfl (lv_at hl 1 rfl) ?_
  refine Y_v (vx_runS (As := [.int p0]) (rest := []) ⟨hx, hb, hml, hown, hts⟩ (c_X1_checkAuthor l hlf p0 _) (va_cwS 1 hts gX1_print_X1_checkAuthor rfl rfl rfl (by decide +kernel) ⟨Nat.le_of_ble_eq_true rfl, Nat.le_of_ble_eq_true rfl⟩) (pS hP hK hD hS hA hX) rfl rfl hl.1 rfl (lv_room (Nat.le_of_ble_eq_true rfl)) dX1_print_1 ⟨Nat.le_of_ble_eq_true rfl, Nat.le_of_ble_eq_true rfl⟩) hD hS hA (fun E ce q9 H locs hE hP hS ht => ?_) (fun w'  H locs hp hP hD hS => ?_)
  · exact Y_out hT0 hlocks hP hK hD hS ht (Or.inl (⟨hE.1, by simp [spPrint, hE.2]⟩)) (Nat.le_of_ble_eq_true rfl) (Nat.le_of_ble_eq_true rfl)
  obtain ⟨hU, hw9⟩ := hp
  rw [hw9] at hP hD
  obtain ⟨a, ha, rfl⟩ := isA_n hU
  have ea := aN_n (show a < 2 ^ 31 by omega)
  refine lv_aload_n hx hb dX1_print_4 rfl (lv_at hl 0 rfl) ?_
  refine lv_iload_n hx hb dX1_print_5 rfl (lv_at hl 1 rfl) ?_
  refine lv_null hx hb dX1_print_6 ?_
  refine K_i (va_runV (As := [.int (nI a), .null]) (rest := []) ⟨hx, hb, hml, hown, hts⟩ (c_X1_countAheadOf_none l hI.R hO hI.om hI.ol ha _) (cwV 2 hts gX1_print_X1_countAheadOf rfl rfl rfl (by decide +kernel) ⟨Nat.le_of_ble_eq_true rfl, Nat.le_of_ble_eq_true rfl⟩) (pV hP hK hD hS hA hX (va_recv hK hP (ci := 1) (q0 := 0) rfl rfl)) rfl rfl hl.1 rfl (lv_room (Nat.le_of_ble_eq_true rfl)) dX1_print_7 ⟨Nat.le_of_ble_eq_true rfl, Nat.le_of_ble_eq_true rfl⟩) hD hS hA (fun r w'  H locs hp hP hD hS => ?_)
  obtain ⟨rfl, rfl⟩ := hp
  rw [cntE_none]
  have hl60 := hI.len a
  have he20 := hI.R.2.1
  refine r_if_ne (tgt := 23) hx hb dX1_print_10 (by decide) (by omega) (fun cB => ?_) (fun cB => ?_)
  · refine lv_aload_n hx hb dX1_print_23 rfl (lv_at hl 0 rfl) ?_
    refine va_get (D := D) (ci := 1) (v := .int (nI (S 0 1))) (C := RX1) (T := TX1) (N := 9) hx hb hts hiX1 hown hK hP (0) rfl rfl 5 (by decide) (hts (.fieldLink RX1 32 "CoauthorText" "editionCount" "I") (by decide +kernel)) (fun _ h9 => h9) rfl dX1_print_24 ?_
    refine lv_bipush (v := nI 20) hx hb dX1_print_27 (by decide) ?_
    refine r_icmp_lt (tgt := 42) hx hb dX1_print_29 (by decide) (by omega) (by omega) (fun cC => ?_) (fun cC => ?_)
    · have hspec : spPrint S O (nI a) = (0, nI (S 0 1), prS S (txL S O a)) := by
        have hz : ¬ (txL S O a).length = 0 := by omega
        have h20 : ¬ S 0 1 = 20 := by omega
        simp only [spPrint, hU, ea, hz, h20, Bool.true_eq_false, if_false, or_self]
      have hfc : ∀ i, cntA S (txL S O a) i ≤ 60 := fun i => Nat.le_trans (cnt_le S _ i) hl60
      refine lv_aload_n hx hb dX1_print_42 rfl (lv_at hl 0 rfl) ?_
      refine va_get (D := D) (ci := 1) (v := .ref (G 3)) (C := RX1) (T := TX1) (N := 9) hx hb hts hiX1 hown hK hP (0) rfl rfl 4 (by decide) (hts (.fieldLink RX1 29 "CoauthorText" "signsInEditions" "[[I") (by decide +kernel)) (fun _ h9 => h9) rfl dX1_print_43 ?_
      refine lv_aload_n hx hb dX1_print_46 rfl (lv_at hl 0 rfl) ?_
      refine va_get (D := D) (ci := 1) (v := .int (nI (S 0 1))) (C := RX1) (T := TX1) (N := 9) hx hb hts hiX1 hown hK hP (0) rfl rfl 5 (by decide) (hts (.fieldLink RX1 32 "CoauthorText" "editionCount" "I") (by decide +kernel)) (fun _ h9 => h9) rfl dX1_print_47 ?_
      refine r_aldI hx hb hK hP (3) rfl (by omega) (by decide) dX1_print_50 ?_
      refine r_topr (a9 := G (10 + S 0 1)) (if_pos cC) ?_
      refine lv_astore_n (lv' := [(2, .ref (G (10 + S 0 1))), (0, .ref (G 0)), (1, .int (nI a))]) hx hb dX1_print_51 rfl hl (by decide) rfl (fun ls hl => ?_)
      refine lv_iconst (v := nI 0) hx hb dX1_print_52 (by decide) ?_
      refine lv_istore_n (lv' := [(3, .int (nI 0)), (2, .ref (G (10 + S 0 1))), (0, .ref (G 0)), (1, .int (nI a))]) hx hb dX1_print_53 rfl hl (by decide) rfl (fun ls hl => ?_)
      have iter : ∀ (k : Nat) (v3 : Int32) (H : Heap) (locs : List Loc) (ls : Array Slot), k < 4 → v3 = nI k → va_P D vwCl (CW cy G (rwK S k (cntA S (txL S O a))) hd nx Y) H → va_D A (CW cy G (rwK S k (cntA S (txL S O a))) hd nx Y) → va_S A s.heap H locs → lv_has ls 4 [(3, .int v3), (2, .ref (G (10 + S 0 1))), (0, .ref (G 0)), (1, .int (nI a))] → (∀ (H : Heap) (locs : List Loc) (ls : Array Slot), va_P D vwCl (CW cy G (rwK S (k + 1) (cntA S (txL S O a))) hd nx Y) H → va_D A (CW cy G (rwK S (k + 1) (cntA S (txL S O a))) hd nx Y) → va_S A s.heap H locs → lv_has ls 4 [(3, .int (nI (k + 1))), (2, .ref (G (10 + S 0 1))), (0, .ref (G 0)), (1, .int (nI a))] → W p l e ({ frames := 8, cells := 10, slots := 60, locals := 132 } : Room) s m ([.ref (G 0), .int (nI a)] : List Value).toArray below meth c H locs 1 6 (vx_MQ below (va_Qi (fun r w' => (spPrint S O (nI a)).1 = 0 ∧ r = (spPrint S O (nI a)).2.1 ∧ w' = CW cy G (spPrint S O (nI a)).2.2 hd nx Y) (fun w' t => wB D cy A w' t) A) (xQ D cy (fun E => (E = eIAE ∧ (spPrint S O (nI a)).1 = 1) ∨ (E = eISE ∧ (spPrint S O (nI a)).1 = 2)) (CW cy G S hd nx Y) A) ([.ref (G 0), .int (nI a)] : List Value).toArray s 10 60 A) (F0 m 54 ls [])) → W p l e ({ frames := 8, cells := 10, slots := 60, locals := 132 } : Room) s m ([.ref (G 0), .int (nI a)] : List Value).toArray below meth c H locs 1 6 (vx_MQ below (va_Qi (fun r w' => (spPrint S O (nI a)).1 = 0 ∧ r = (spPrint S O (nI a)).2.1 ∧ w' = CW cy G (spPrint S O (nI a)).2.2 hd nx Y) (fun w' t => wB D cy A w' t) A) (xQ D cy (fun E => (E = eIAE ∧ (spPrint S O (nI a)).1 = 1) ∨ (E = eISE ∧ (spPrint S O (nI a)).1 = 2)) (CW cy G S hd nx Y) A) ([.ref (G 0), .int (nI a)] : List Value).toArray s 10 60 A) (F0 m 54 ls []) := by
        intro k v3 H locs ls hk hv3 hP hD hS hl kont
        subst hv3
        have hl : lv_has ls 4 [(3, .int (nI k)), (2, .ref (G (10 + S 0 1))), (0, .ref (G 0)), (1, .int (nI a))] := hl
        refine lv_iload_n hx hb dX1_print_54 rfl (lv_at hl 0 rfl) ?_
        refine lv_iconst (v := nI 4) hx hb dX1_print_55 (by decide) ?_
        refine r_icmp_ge (tgt := 74) hx hb dX1_print_56 (by decide) (by omega) (by decide) (fun c1 => ?_) (fun c1 => ?_)
        · omega
        · refine lv_aload_n hx hb dX1_print_59 rfl (lv_at hl 1 rfl) ?_
          refine lv_iload_n hx hb dX1_print_60 rfl (lv_at hl 0 rfl) ?_
          refine lv_aload_n hx hb dX1_print_61 rfl (lv_at hl 2 rfl) ?_
          refine lv_iload_n hx hb dX1_print_62 rfl (lv_at hl 0 rfl) ?_
          refine lv_iload_n hx hb dX1_print_63 rfl (lv_at hl 3 rfl) ?_
          refine K_i (va_runV (As := [.int (nI k), .int (nI a)]) (rest := [.int (nI k), .ref (G (10 + S 0 1))]) ⟨hx, hb, hml, hown, hts⟩ (c_X1_countWrittenBy (S := rwK S k (cntA S (txL S O a))) (O := O) l (hI.R.rwK k hfc) hO hI.om hI.ol ha hk _) (cwV 2 hts gX1_print_X1_countWrittenBy rfl rfl rfl (by decide +kernel) ⟨Nat.le_of_ble_eq_true rfl, Nat.le_of_ble_eq_true rfl⟩) (pV hP hK hD hS hA hX (va_recv hK hP (ci := 1) (q0 := 0) rfl rfl)) rfl rfl hl.1 rfl (lv_room (Nat.le_of_ble_eq_true rfl)) dX1_print_64 ⟨Nat.le_of_ble_eq_true rfl, Nat.le_of_ble_eq_true rfl⟩) hD hS hA (fun r w'  H locs hp hP hD hS => ?_)
          obtain ⟨hr9, rfl⟩ := hp
          obtain rfl : r = nI (cntA S (txL S O a) k) := hr9
          refine r_iast (w' := CW cy G (rwK S (k + 1) (cntA S (txL S O a))) hd nx Y) hx hb hK hP hD hS (6 + (S 0 1)) (CW_rw cC) (by omega) (by decide) dX1_print_67 ((CW_setRw (S := rwK S k (cntA S (txL S O a))) cC hk).trans (by rw [← rwK_s])) (fun H locs hP hD hS => ?_)
          refine lv_iinc (v := nI (k + 1)) (lv' := [(3, .int (nI (k + 1))), (2, .ref (G (10 + S 0 1))), (0, .ref (G 0)), (1, .int (nI a))]) hx hb dX1_print_68 hl (k := 0) rfl (nI_inc _) (by decide) rfl (fun ls hl => ?_)
          refine lv_goto (tgt := 54) hx hb dX1_print_71 (by decide) ?_
          exact kont _ _ ls hP hD hS (lv_sub hl [0, 1, 2, 3] rfl)
      have hP : va_P D vwCl (CW cy G (rwK S 0 (cntA S (txL S O a))) hd nx Y) H := by rw [rwK_0]; exact hP
      have hD : va_D A (CW cy G (rwK S 0 (cntA S (txL S O a))) hd nx Y) := by rw [rwK_0]; exact hD
      refine iter 0 (nI 0) _ _ ls (by decide) rfl hP hD hS (lv_sub hl [0, 1, 2, 3] rfl) (fun H locs ls hP hD hS hl => ?_)
      refine iter 1 (nI 1) _ _ ls (by decide) rfl hP hD hS hl (fun H locs ls hP hD hS hl => ?_)
      refine iter 2 (nI 2) _ _ ls (by decide) rfl hP hD hS hl (fun H locs ls hP hD hS hl => ?_)
      refine iter 3 (nI 3) _ _ ls (by decide) rfl hP hD hS hl (fun H locs ls hP hD hS hl => ?_)
      refine lv_iload_n hx hb dX1_print_54 rfl (lv_at hl 0 rfl) ?_
      refine lv_iconst (v := nI 4) hx hb dX1_print_55 (by decide) ?_
      refine r_icmp_ge (tgt := 74) hx hb dX1_print_56 (by decide) (by decide) (by decide) (fun c2 => ?_) (fun c2 => ?_)
      · refine lv_aload_n hx hb dX1_print_74 rfl (lv_at hl 2 rfl) ?_
        refine lv_dup hx hb dX1_print_75 rfl ?_
        refine va_get (D := D) (ci := 1) (v := .int (nI ((rwK S (3 + 1) (cntA S (txL S O a))) 0 1))) (C := RX1) (T := TX1) (N := 9) hx hb hts hiX1 hown hK hP (0) rfl rfl 5 (by decide) (hts (.fieldLink RX1 32 "CoauthorText" "editionCount" "I") (by decide +kernel)) (fun _ h9 => h9) rfl dX1_print_76 ?_
        refine lv_iconst (v := nI 1) hx hb dX1_print_79 (by decide) ?_
        refine r_iadd hx hb dX1_print_80 ?_
        refine r_put (w' := CW cy G (prS S (txL S O a)) hd nx Y) (own := RX1) (C := RX1) (T := TX1) (N := 9) (ci := 1) (q0 := 0) (k := 5) (index := 32) (ty := .int) hx hb hts hiX1 tyX1_ok nmX1 hown hK hP hD hS rfl rfl (by decide) (by decide +kernel) rfl (by decide +kernel) rfl rfl (Nat.le_of_ble_eq_true rfl) dX1_print_81 rfl (fun H locs hP hD hS => ?_)
        refine lv_aload_n hx hb dX1_print_84 rfl (lv_at hl 2 rfl) ?_
        refine va_get (D := D) (ci := 1) (v := .int (nI (S 0 1 + 1))) (C := RX1) (T := TX1) (N := 9) hx hb hts hiX1 hown hK hP (0) rfl rfl 5 (by decide) (hts (.fieldLink RX1 32 "CoauthorText" "editionCount" "I") (by decide +kernel)) (fun _ h9 => h9) rfl dX1_print_85 ?_
        refine lv_iconst (v := nI 1) hx hb dX1_print_88 (by decide) ?_
        refine r_isub hx hb dX1_print_89 (by omega) ?_
        exact vx_ret (C_iret hx hb hr hlocks hS hP hK hD (Nat.le_of_ble_eq_true rfl) (Nat.le_of_ble_eq_true rfl) dX1_print_90 (by rw [hspec]; exact ⟨rfl, by rw [Nat.add_sub_cancel], rfl⟩))
      · omega
    · have h20 : S 0 1 = 20 := by omega
      have hsp : (spPrint S O (nI a)).1 = 2 := by simp [spPrint, hU, ea, h20]
      obtain ⟨tx, x0, x1, x2, x3, x4, x5, x6, x7, x8⟩ := hX.2.2.2.2.2.2.2.1
      exact Y_throw (own := RX1) (E := "java/lang/IllegalStateException") (ik := 64) (is := 136) (ic := 68) (ws := wsX1_print) hT0 hx hb hlf hlocks hown hts hP hK hD hS hX hX.2.2.2.1 x2 (by rw [hml]; exact hl.1) (by decide +kernel) (by decide +kernel) (by decide +kernel) (by decide +kernel) (by decide +kernel) (by decide +kernel) dX1_print_32 dX1_print_35 dX1_print_36 dX1_print_38 dX1_print_41 (Nat.le_of_ble_eq_true rfl) (Nat.le_of_ble_eq_true rfl) (Nat.le_of_ble_eq_true rfl) (Nat.le_of_ble_eq_true rfl) (Or.inr (⟨rfl, hsp⟩)) (Nat.le_of_ble_eq_true rfl) (Nat.le_of_ble_eq_true rfl)
  · obtain ⟨tx, x0, x1, x2, x3, x4, x5, x6, x7, x8⟩ := hX.2.2.2.2.2.2.2.1
    exact Y_throw (own := RX1) (E := "java/lang/IllegalStateException") (ik := 64) (is := 134) (ic := 68) (ws := wsX1_print) hT0 hx hb hlf hlocks hown hts hP hK hD hS hX hX.2.2.2.1 x1 (by rw [hml]; exact hl.1) (by decide +kernel) (by decide +kernel) (by decide +kernel) (by decide +kernel) (by decide +kernel) (by decide +kernel) dX1_print_13 dX1_print_16 dX1_print_17 dX1_print_19 dX1_print_22 (Nat.le_of_ble_eq_true rfl) (Nat.le_of_ble_eq_true rfl) (Nat.le_of_ble_eq_true rfl) (Nat.le_of_ble_eq_true rfl) (Or.inr (⟨rfl, by simp [spPrint, hU, ea, cB]⟩)) (Nat.le_of_ble_eq_true rfl) (Nat.le_of_ble_eq_true rfl)

theorem up2_noop {f : Nat → Nat → Nat} {k i v : Nat} (h : f k i = v) : up2 f k i v = f := by
  rw [← h]; exact up2_same f k i
theorem set_eq {S : Nat → Nat → Nat} {a i v : Nat} (h5 : S 5 (60 * a + i) = 1) : up2 (up2 (up2 (up2 S 8 a (S 8 a + 1)) 6 (60 * a + i) v) 5 (60 * a + i) 1) 7 (60 * a + i) (4 * (S 8 a + 1) + a) = setS S a i v := by
  rw [up2_noop (show up2 (up2 S 8 a (S 8 a + 1)) 6 (60 * a + i) v 5 (60 * a + i) = 1 from h5), up2_comm S (show (8 : Nat) ≠ 6 by decide)]
  rfl

set_option maxHeartbeats 4000000 in
set_option maxRecDepth 100000 in
theorem c_X1_remove (l : Launch) (hlf : l.stackTraces = false) {D : va_G} {cy : Nat → ClassId} {G : Nat → Nat} {S : Nat → Nat → Nat} {hd : Option Nat} {nx : Nat → Option Nat} {Y : va_W} {O : List Nat} (hI : Inv S O) (hO : ChP nx hd O) (p0 p1 : Int32) : TI l yX1_remove wsX1_remove ({ frames := 8, cells := 10, slots := 60, locals := 132 } : Room) D cy [.ref (G 0), .int p0, .int p1] (CW cy G S hd nx Y) (fun r w' => (spRemove S O p0 p1).1 = 0 ∧ r = (spRemove S O p0 p1).2.1 ∧ w' = CW cy G (spRemove S O p0 p1).2.2 hd nx Y) (fun E => (E = eIAE ∧ (spRemove S O p0 p1).1 = 1) ∨ (E = eIOB ∧ (spRemove S O p0 p1).1 = 2)) 10 60 := by
  refine TI.of (cc := cX1_remove) (maxL := 4) (ret := (some .int)) (by decide) rfl (Nat.le_of_ble_eq_true rfl) ?_
  intro p e s m below meth c A ls E0 hT0 hl
  obtain ⟨hx, hb, hml, hown, hts, hr, hlocks, hA, hS, hP, hK, hD, hX⟩ := E0
  have hiX0 : ∀ w ∈ u_ws RX0 TX0 8, w ∈ wsX1_remove := by decide +kernel
  have hiX1 : ∀ w ∈ u_ws RX1 TX1 9, w ∈ wsX1_remove := by decide +kernel
  have hl : lv_has ls 4 [(0, .ref (G 0)), (1, .int p0), (2, .int p1)] := hl
  refine lv_iload_n hx hb dX1_remove_0 rfl (lv_at hl 1 rfl) ?_
  refine Y_v (vx_runS (As := [.int p0]) (rest := []) ⟨hx, hb, hml, hown, hts⟩ (c_X1_checkAuthor l hlf p0 _) (va_cwS 1 hts gX1_remove_X1_checkAuthor rfl rfl rfl (by decide +kernel) ⟨Nat.le_of_ble_eq_true rfl, Nat.le_of_ble_eq_true rfl⟩) (pS hP hK hD hS hA hX) rfl rfl hl.1 rfl (lv_room (Nat.le_of_ble_eq_true rfl)) dX1_remove_1 ⟨Nat.le_of_ble_eq_true rfl, Nat.le_of_ble_eq_true rfl⟩) hD hS hA (fun E ce q9 H locs hE hP hS ht => ?_) (fun w'  H locs hp hP hD hS => ?_)
  · exact Y_out hT0 hlocks hP hK hD hS ht (Or.inl (⟨hE.1, by simp [spRemove, hE.2]⟩)) (Nat.le_of_ble_eq_true rfl) (Nat.le_of_ble_eq_true rfl)
  obtain ⟨hU, hw9⟩ := hp
  rw [hw9] at hP hD
  obtain ⟨a, ha, rfl⟩ := isA_n hU
  have ea := aN_n (show a < 2 ^ 31 by omega)
  refine lv_aload_n hx hb dX1_remove_4 rfl (lv_at hl 0 rfl) ?_
  refine lv_iload_n hx hb dX1_remove_5 rfl (lv_at hl 1 rfl) ?_
  refine lv_iload_n hx hb dX1_remove_6 rfl (lv_at hl 2 rfl) ?_
  refine Y_q (vx_runV (As := [.int (nI a), .int p1]) (rest := []) ⟨hx, hb, hml, hown, hts⟩ (c_X1_findAtPlace l hlf hI.R hO hI.om hI.ol ha p1 _) (cwV 2 hts gX1_remove_X1_findAtPlace rfl rfl rfl (by decide +kernel) ⟨Nat.le_of_ble_eq_true rfl, Nat.le_of_ble_eq_true rfl⟩) (pV hP hK hD hS hA hX (va_recv hK hP (ci := 1) (q0 := 0) rfl rfl)) rfl rfl hl.1 rfl (lv_room (Nat.le_of_ble_eq_true rfl)) dX1_remove_7 ⟨Nat.le_of_ble_eq_true rfl, Nat.le_of_ble_eq_true rfl⟩) hD hS hA (fun E ce q9 H locs hE hP hS ht => ?_) (fun r w'  H locs hp hP hD hS => ?_)
  · exact Y_out hT0 hlocks hP hK hD hS ht (Or.inr (⟨hE.1, by simp [spRemove, hU, hE.2, ea]⟩)) (Nat.le_of_ble_eq_true rfl) (Nat.le_of_ble_eq_true rfl)
  obtain ⟨hV, rfl, hw9⟩ := hp
  rw [hw9] at hP hD
  have hl60 := hI.len a
  obtain ⟨k, hk, rfl⟩ := inS_n (by omega) hV
  have ek := aN_n (show k < 2 ^ 31 by omega)
  rw [ek]
  obtain ⟨i, hik⟩ : ∃ i, (txL S O a).getD k 0 = i := ⟨_, rfl⟩
  have hm := txL_mem hI (getD_mem hk)
  rw [hik] at hm
  rw [hik]
  have hi := hm.1
  refine r_topr (a9 := G (100 + 3 * i)) rfl ?_
  have hn60 := hI.R.1
  have h5 := hm.2.1
  refine lv_astore_n (lv' := [(3, .ref (G (100 + 3 * i))), (0, .ref (G 0)), (1, .int (nI a)), (2, .int (nI k))]) hx hb dX1_remove_10 rfl hl (by decide) rfl (fun ls hl => ?_)
  refine lv_aload_n hx hb dX1_remove_11 rfl (lv_at hl 0 rfl) ?_
  refine lv_iload_n hx hb dX1_remove_12 rfl (lv_at hl 2 rfl) ?_
  refine lv_iconst (v := nI 1) hx hb dX1_remove_13 (by decide) ?_
  refine lv_aload_n hx hb dX1_remove_14 rfl (lv_at hl 1 rfl) ?_
  refine lv_iload_n hx hb dX1_remove_15 rfl (lv_at hl 2 rfl) ?_
  refine K_i (va_runV (As := [.int (nI a)]) (rest := [.int (nI 1), .int (nI a), .ref (G (100 + 3 * i))]) ⟨hx, hb, hml, hown, hts⟩ (c_X1_nextStamp l ha _) (cwV 1 hts gX1_remove_X1_nextStamp rfl rfl rfl (by decide +kernel) ⟨Nat.le_of_ble_eq_true rfl, Nat.le_of_ble_eq_true rfl⟩) (pV hP hK hD hS hA hX (va_recv hK hP (ci := 1) (q0 := 0) rfl rfl)) rfl rfl hl.1 rfl (lv_room (Nat.le_of_ble_eq_true rfl)) dX1_remove_16 ⟨Nat.le_of_ble_eq_true rfl, Nat.le_of_ble_eq_true rfl⟩) hD hS hA (fun r w'  H locs hp hP hD hS => ?_)
  obtain ⟨rfl, rfl⟩ := hp
  refine K_v (va_runVN (As := [.int (nI a), .int (nI 1), .int (nI (4 * (S 8 a + 1) + a))]) (rest := []) ⟨hx, hb, hml, hown, hts⟩ (c_X0_setRemoved (S := up2 S 8 a (S 8 a + 1)) l hn60 (v := 1) hi ha (by decide) _) ⟨va_cnB 3 hts gX1_remove_X0_setRemoved_n83 rfl rfl rfl hX.2.2.2.2.2.2.1.2.2.1 (hts (.initialized RX0) (by decide +kernel)) (by decide +kernel) ⟨Nat.le_of_ble_eq_true rfl, Nat.le_of_ble_eq_true rfl⟩, hts (.instanceMethod yX0_setRemoved) (by decide +kernel), hts (.selects RX0 yX0_setRemoved yX0_setRemoved) (by decide +kernel)⟩ (pV hP hK hD hS hA hX (va_recv hK hP (ci := 0) (q0 := 6 + (20 + i)) rfl (CW_sg hi))) rfl rfl hl.1 rfl (lv_room (Nat.le_of_ble_eq_true rfl)) dX1_remove_19 ⟨Nat.le_of_ble_eq_true rfl, Nat.le_of_ble_eq_true rfl⟩) hD hS hA (fun w'  H locs hp hP hD hS => ?_)
  rw [set_eq h5] at hp
  subst hp
  refine lv_aload_n hx hb dX1_remove_22 rfl (lv_at hl 0 rfl) ?_
  refine va_getN (D := D) (ci := 0) (v := .int (nI i)) (C := RX0) (T := TX0) (N := 8) (host := RX1) hx hb hts hiX0 hown hK hP (6 + (20 + i)) (CW_sg hi) rfl 0 (by decide) (va_Nw.use rfl hX.2.2.2.2.2.1.2.2.2.2.2) (fun _ h9 => h9) rfl dX1_remove_23 ?_
  exact vx_ret (C_iret hx hb hr hlocks hS hP hK hD (Nat.le_of_ble_eq_true rfl) (Nat.le_of_ble_eq_true rfl) dX1_remove_26 (by rw [show spRemove S O (nI a) (nI k) = (0, nI i, setS S a i 1) from by simp only [spRemove, hU, hV, ea, ek, hik, Bool.true_eq_false, if_false]]; exact ⟨rfl, rfl, rfl⟩))

set_option maxHeartbeats 4000000 in
set_option maxRecDepth 100000 in
theorem c_X1_restore (l : Launch) (hlf : l.stackTraces = false) {D : va_G} {cy : Nat → ClassId} {G : Nat → Nat} {S : Nat → Nat → Nat} {hd : Option Nat} {nx : Nat → Option Nat} {Y : va_W} {O : List Nat} (hI : Inv S O) (hO : ChP nx hd O) (hF : Few S) (p0 p1 : Int32) : TI l yX1_restore wsX1_restore ({ frames := 8, cells := 10, slots := 60, locals := 132 } : Room) D cy [.ref (G 0), .int p0, .int p1] (CW cy G S hd nx Y) (fun r w' => (spRestore S O p0 p1).1 = 0 ∧ r = (spRestore S O p0 p1).2.1 ∧ w' = CW cy G (spRestore S O p0 p1).2.2 hd nx Y) (fun E => (E = eIOB ∧ (spRestore S O p0 p1).1 = 1) ∨ (E = eIAE ∧ (spRestore S O p0 p1).1 = 2) ∨ (E = eISE ∧ (spRestore S O p0 p1).1 = 3)) 10 60 := by
  refine TI.of (cc := cX1_restore) (maxL := 4) (ret := (some .int)) (by decide) rfl (Nat.le_of_ble_eq_true rfl) ?_
  intro p e s m below meth c A ls E0 hT0 hl
  obtain ⟨hx, hb, hml, hown, hts, hr, hlocks, hA, hS, hP, hK, hD, hX⟩ := E0
  have hiX0 : ∀ w ∈ u_ws RX0 TX0 8, w ∈ wsX1_restore := by decide +kernel
  have hiX1 : ∀ w ∈ u_ws RX1 TX1 9, w ∈ wsX1_restore := by decide +kernel
  have hl : lv_has ls 4 [(0, .ref (G 0)), (1, .int p0), (2, .int p1)] := hl
  refine lv_aload_n hx hb dX1_restore_0 rfl (lv_at hl 0 rfl) ?_
  refine lv_iload_n hx hb dX1_restore_1 rfl (lv_at hl 2 rfl) ?_
  refine Y_q (vx_runV (As := [.int p1]) (rest := []) ⟨hx, hb, hml, hown, hts⟩ (c_X1_findByNumber l hlf hI.R p1 _) (cwV 1 hts gX1_restore_X1_findByNumber rfl rfl rfl (by decide +kernel) ⟨Nat.le_of_ble_eq_true rfl, Nat.le_of_ble_eq_true rfl⟩) (pV hP hK hD hS hA hX (va_recv hK hP (ci := 1) (q0 := 0) rfl rfl)) rfl rfl hl.1 rfl (lv_room (Nat.le_of_ble_eq_true rfl)) dX1_restore_2 ⟨Nat.le_of_ble_eq_true rfl, Nat.le_of_ble_eq_true rfl⟩) hD hS hA (fun E ce q9 H locs hE hP hS ht => ?_) (fun r w'  H locs hp hP hD hS => ?_)
  · exact Y_out hT0 hlocks hP hK hD hS ht (Or.inl (⟨hE.1, by simp [spRestore, hE.2]⟩)) (Nat.le_of_ble_eq_true rfl) (Nat.le_of_ble_eq_true rfl)
  obtain ⟨⟨i, hi, hvi, rfl⟩, hV, hw9⟩ := hp
  rw [hw9] at hP hD
  subst hvi
  have hn60 := hI.R.1
  have ei := aN_n (show i < 2 ^ 31 by omega)
  refine r_topr (a9 := G (100 + 3 * i)) rfl ?_
  refine lv_astore_n (lv' := [(3, .ref (G (100 + 3 * i))), (0, .ref (G 0)), (1, .int p0), (2, .int (nI i))]) hx hb dX1_restore_5 rfl hl (by decide) rfl (fun ls hl => ?_)
  refine lv_iload_n hx hb dX1_restore_6 rfl (lv_at hl 2 rfl) ?_
  refine Y_v (vx_runS (As := [.int p0]) (rest := []) ⟨hx, hb, hml, hown, hts⟩ (c_X1_checkAuthor l hlf p0 _) (va_cwS 1 hts gX1_restore_X1_checkAuthor rfl rfl rfl (by decide +kernel) ⟨Nat.le_of_ble_eq_true rfl, Nat.le_of_ble_eq_true rfl⟩) (pS hP hK hD hS hA hX) rfl rfl hl.1 rfl (lv_room (Nat.le_of_ble_eq_true rfl)) dX1_restore_7 ⟨Nat.le_of_ble_eq_true rfl, Nat.le_of_ble_eq_true rfl⟩) hD hS hA (fun E ce q9 H locs hE hP hS ht => ?_) (fun w'  H locs hp hP hD hS => ?_)
  · exact Y_out hT0 hlocks hP hK hD hS ht (Or.inr (Or.inl (⟨hE.1, by simp [spRestore, hV, hE.2]⟩))) (Nat.le_of_ble_eq_true rfl) (Nat.le_of_ble_eq_true rfl)
  obtain ⟨hU, hw9⟩ := hp
  rw [hw9] at hP hD
  obtain ⟨a, ha, rfl⟩ := isA_n hU
  have ea := aN_n (show a < 2 ^ 31 by omega)
  refine lv_aload_n hx hb dX1_restore_10 rfl (lv_at hl 0 rfl) ?_
  refine lv_iload_n hx hb dX1_restore_11 rfl (lv_at hl 2 rfl) ?_
  refine K_i (va_runVN (As := [.int (nI a)]) (rest := []) ⟨hx, hb, hml, hown, hts⟩ (c_X0_isRemovedIn l hI.R hi ha _) ⟨va_cnB 1 hts gX1_restore_X0_isRemovedIn_n91 rfl rfl rfl hX.2.2.2.2.2.2.1.2.2.2.1 (hts (.initialized RX0) (by decide +kernel)) (by decide +kernel) ⟨Nat.le_of_ble_eq_true rfl, Nat.le_of_ble_eq_true rfl⟩, hts (.instanceMethod yX0_isRemovedIn) (by decide +kernel), hts (.selects RX0 yX0_isRemovedIn yX0_isRemovedIn) (by decide +kernel)⟩ (pV hP hK hD hS hA hX (va_recv hK hP (ci := 0) (q0 := 6 + (20 + i)) rfl (CW_sg hi))) rfl rfl hl.1 rfl (lv_room (Nat.le_of_ble_eq_true rfl)) dX1_restore_12 ⟨Nat.le_of_ble_eq_true rfl, Nat.le_of_ble_eq_true rfl⟩) hD hS hA (fun r w'  H locs hp hP hD hS => ?_)
  obtain ⟨rfl, rfl⟩ := hp
  refine r_if_ne (tgt := 28) hx hb dX1_restore_15 (by decide) (Nat.lt_trans (bN_lt _) (by decide)) (fun cB => ?_) (fun cB => ?_)
  · have h9 := bN_1.mp cB
    rw [Bool.and_eq_true, decide_eq_true_eq, decide_eq_true_eq] at h9
    have h5 := h9.1
    have k6 := h9.2
    refine lv_aload_n hx hb dX1_restore_28 rfl (lv_at hl 0 rfl) ?_
    refine lv_iload_n hx hb dX1_restore_29 rfl (lv_at hl 2 rfl) ?_
    refine lv_iconst (v := nI 0) hx hb dX1_restore_30 (by decide) ?_
    refine lv_aload_n hx hb dX1_restore_31 rfl (lv_at hl 1 rfl) ?_
    refine lv_iload_n hx hb dX1_restore_32 rfl (lv_at hl 2 rfl) ?_
    refine K_i (va_runV (As := [.int (nI a)]) (rest := [.int (nI 0), .int (nI a), .ref (G (100 + 3 * i))]) ⟨hx, hb, hml, hown, hts⟩ (c_X1_nextStamp l ha _) (cwV 1 hts gX1_restore_X1_nextStamp rfl rfl rfl (by decide +kernel) ⟨Nat.le_of_ble_eq_true rfl, Nat.le_of_ble_eq_true rfl⟩) (pV hP hK hD hS hA hX (va_recv hK hP (ci := 1) (q0 := 0) rfl rfl)) rfl rfl hl.1 rfl (lv_room (Nat.le_of_ble_eq_true rfl)) dX1_restore_33 ⟨Nat.le_of_ble_eq_true rfl, Nat.le_of_ble_eq_true rfl⟩) hD hS hA (fun r w'  H locs hp hP hD hS => ?_)
    obtain ⟨rfl, rfl⟩ := hp
    refine K_v (va_runVN (As := [.int (nI a), .int (nI 0), .int (nI (4 * (S 8 a + 1) + a))]) (rest := []) ⟨hx, hb, hml, hown, hts⟩ (c_X0_setRemoved (S := up2 S 8 a (S 8 a + 1)) l hn60 (v := 0) hi ha (by decide) _) ⟨va_cnB 3 hts gX1_restore_X0_setRemoved_n83 rfl rfl rfl hX.2.2.2.2.2.2.1.2.2.1 (hts (.initialized RX0) (by decide +kernel)) (by decide +kernel) ⟨Nat.le_of_ble_eq_true rfl, Nat.le_of_ble_eq_true rfl⟩, hts (.instanceMethod yX0_setRemoved) (by decide +kernel), hts (.selects RX0 yX0_setRemoved yX0_setRemoved) (by decide +kernel)⟩ (pV hP hK hD hS hA hX (va_recv hK hP (ci := 0) (q0 := 6 + (20 + i)) rfl (CW_sg hi))) rfl rfl hl.1 rfl (lv_room (Nat.le_of_ble_eq_true rfl)) dX1_restore_36 ⟨Nat.le_of_ble_eq_true rfl, Nat.le_of_ble_eq_true rfl⟩) hD hS hA (fun w'  H locs hp hP hD hS => ?_)
    rw [set_eq h5] at hp
    subst hp
    obtain ⟨S9, hS9⟩ : ∃ S9, setS S a i 0 = S9 := ⟨_, rfl⟩
    rw [hS9] at hP hD
    have hR9 : Rng S9 := by rw [← hS9]; exact hI.R.set hF ha (by decide)
    have e00 : S9 0 0 = S 0 0 := by rw [← hS9]; rfl
    have hi9 : i < S9 0 0 := by rw [e00]; exact hi
    have hin : i ∈ txL S9 O a := by rw [← hS9, txL, List.mem_filter]; exact ⟨(hI.2.2.2.2.1 i).mpr hi, by simp [vsb, setS, up2, h5]⟩
    refine lv_aload_n hx hb dX1_restore_39 rfl (lv_at hl 1 rfl) ?_
    refine lv_iload_n hx hb dX1_restore_40 rfl (lv_at hl 2 rfl) ?_
    refine lv_aload_n hx hb dX1_restore_41 rfl (lv_at hl 0 rfl) ?_
    refine K_i (va_runV (As := [.int (nI a), .ref (G (100 + 3 * i))]) (rest := []) ⟨hx, hb, hml, hown, hts⟩ (c_X1_countAheadOf_some l hR9 hO (by rw [e00]; exact hI.om) hI.ol ha hi9 _) (cwV 2 hts gX1_restore_X1_countAheadOf rfl rfl rfl (by decide +kernel) ⟨Nat.le_of_ble_eq_true rfl, Nat.le_of_ble_eq_true rfl⟩) (pV hP hK hD hS hA hX (va_recv hK hP (ci := 1) (q0 := 0) rfl rfl)) rfl rfl hl.1 rfl (lv_room (Nat.le_of_ble_eq_true rfl)) dX1_restore_42 ⟨Nat.le_of_ble_eq_true rfl, Nat.le_of_ble_eq_true rfl⟩) hD hS hA (fun r w'  H locs hp hP hD hS => ?_)
    obtain ⟨rfl, rfl⟩ := hp
    rw [cntE_some hI.2.2.2.1 hin]
    exact vx_ret (C_iret hx hb hr hlocks hS hP hK hD (Nat.le_of_ble_eq_true rfl) (Nat.le_of_ble_eq_true rfl) dX1_restore_45 (by rw [show spRestore S O (nI a) (nI i) = (0, nI (posL (txL S9 O a) i), S9) from by simp only [spRestore, hU, hV, ea, ei, h5, k6, hS9, Bool.true_eq_false, if_false, and_self, if_true]]; exact ⟨rfl, rfl, rfl⟩))
  · have h9 := bN_0.mp cB
    rw [Bool.and_eq_false_iff, decide_eq_false_iff_not, decide_eq_false_iff_not] at h9
    have h8 : ¬ (S 5 (60 * a + i) = 1 ∧ S 6 (60 * a + i) = 1) := fun h => h9.elim (fun h7 => h7 h.1) (fun h7 => h7 h.2)
    have hsp : (spRestore S O (nI a) (nI i)).1 = 3 := by simp only [spRestore, hV, hU, ea, ei, h8, Bool.true_eq_false, if_false]
    obtain ⟨tx, x0, x1, x2, x3, x4, x5, x6, x7, x8⟩ := hX.2.2.2.2.2.2.2.1
    exact Y_throw (own := RX1) (E := "java/lang/IllegalStateException") (ik := 64) (is := 95) (ic := 68) (ws := wsX1_restore) hT0 hx hb hlf hlocks hown hts hP hK hD hS hX hX.2.2.2.1 x8 (by rw [hml]; exact hl.1) (by decide +kernel) (by decide +kernel) (by decide +kernel) (by decide +kernel) (by decide +kernel) (by decide +kernel) dX1_restore_18 dX1_restore_21 dX1_restore_22 dX1_restore_24 dX1_restore_27 (Nat.le_of_ble_eq_true rfl) (Nat.le_of_ble_eq_true rfl) (Nat.le_of_ble_eq_true rfl) (Nat.le_of_ble_eq_true rfl) (Or.inr (Or.inr (⟨rfl, hsp⟩))) (Nat.le_of_ble_eq_true rfl) (Nat.le_of_ble_eq_true rfl)

theorem Rng.lr {S : Nat → Nat → Nat} (h : Rng S) (a f : Nat) (P : Nat → Bool) : Rng (lrP S a f P) := by
  obtain ⟨h1, h2, h3, h4, h5, h6, h7, h8, h9, h10, h11, h12, h13⟩ := h
  refine ⟨h1, h2, h3, h4, h5, h6, h7, fun j => ?_, fun j => ?_, fun j => ?_, h11, h12, h13⟩
  · show (if _ then 1 else S 5 j) < 2
    split
    · decide
    · exact h8 j
  · show (if _ then S 6 _ else S 6 j) < 2
    split
    · exact h9 _
    · exact h9 j
  · show (if _ then S 7 _ else S 7 j) < 16777216
    split
    · exact h10 _
    · exact h10 j
theorem br_lr {S : Nat → Nat → Nat} {a f x : Nat} {P P' : Nat → Bool} (haf : a ≠ f) (hx : x < 60) (hPx : P x = false) (hPP : ∀ i, i ≠ x → P' i = P i) (h1 : P' x = true) : brS (lrP S a f P) a f x = lrP S a f P' := by
  have hb : lrB (lrP S a f P) a f x = lrB S a f x := by
    simp only [lrB]
    rw [lr_its haf hx, lr_mine hPx, lr_mine hPx, lr_its haf hx]
  unfold brS
  rw [hb]
  split
  · rename_i h
    rw [lr_its haf hx, lr_its haf hx, up2_comm (lrP S a f P) (show (6 : Nat) ≠ 5 by decide)]
    exact lr_add hx hPP h1 h
  · rename_i h
    exact (lr_skip hPP (by simpa using h)).symm
theorem cnt_app (p : Nat → Bool) (L : List Nat) (x : Nat) : (L ++ [x]).countP p = L.countP p + bN (p x) := by
  rw [List.countP_append]
  cases h : p x <;> simp [h, bN]
theorem O_perm {S : Nat → Nat → Nat} {O : List Nat} (h : Inv S O) : O.Perm (List.range (S 0 0)) := (List.perm_ext_iff_of_nodup h.2.2.2.1 List.nodup_range).mpr (fun i => by rw [h.2.2.2.2.1 i, List.mem_range])

set_option maxHeartbeats 4000000 in
set_option maxRecDepth 100000 in
theorem c_X1_learn (l : Launch) (hlf : l.stackTraces = false) {D : va_G} {cy : Nat → ClassId} {G : Nat → Nat} {S : Nat → Nat → Nat} {hd : Option Nat} {nx : Nat → Option Nat} {Y : va_W} {O : List Nat} (hI : Inv S O) (hO : ChP nx hd O) (p0 p1 : Int32) : TI l yX1_learn wsX1_learn ({ frames := 8, cells := 10, slots := 60, locals := 132 } : Room) D cy [.ref (G 0), .int p0, .int p1] (CW cy G S hd nx Y) (fun r w' => (spLearn S p0 p1).1 = 0 ∧ r = (spLearn S p0 p1).2.1 ∧ w' = CW cy G (spLearn S p0 p1).2.2 hd nx Y) (fun E => (E = eIAE ∧ (spLearn S p0 p1).1 = 1)) 10 60 := by
  refine TI.of (cc := cX1_learn) (maxL := 5) (ret := (some .int)) (by decide) rfl (Nat.le_of_ble_eq_true rfl) ?_
  intro p e s m below meth c A ls E0 hT0 hl
  obtain ⟨hx, hb, hml, hown, hts, hr, hlocks, hA, hS, hP, hK, hD, hX⟩ := E0
  have hiX0 : ∀ w ∈ u_ws RX0 TX0 8, w ∈ wsX1_learn := by decide +kernel
  have hiX1 : ∀ w ∈ u_ws RX1 TX1 9, w ∈ wsX1_learn := by decide +kernel
  have hl : lv_has ls 5 [(0, .ref (G 0)), (1, .int p0), (2, .int p1)] := hl
  refine lv_iload_n hx hb dX1_learn_0 rfl (lv_at hl 1 rfl) ?_
  refine Y_v (vx_runS (As := [.int p0]) (rest := []) ⟨hx, hb, hml, hown, hts⟩ (c_X1_checkAuthor l hlf p0 _) (va_cwS 1 hts gX1_learn_X1_checkAuthor rfl rfl rfl (by decide +kernel) ⟨Nat.le_of_ble_eq_true rfl, Nat.le_of_ble_eq_true rfl⟩) (pS hP hK hD hS hA hX) rfl rfl hl.1 rfl (lv_room (Nat.le_of_ble_eq_true rfl)) dX1_learn_1 ⟨Nat.le_of_ble_eq_true rfl, Nat.le_of_ble_eq_true rfl⟩) hD hS hA (fun E ce q9 H locs hE hP hS ht => ?_) (fun w'  H locs hp hP hD hS => ?_)
  · exact Y_out hT0 hlocks hP hK hD hS ht (⟨hE.1, by simp [spLearn, hE.2]⟩) (Nat.le_of_ble_eq_true rfl) (Nat.le_of_ble_eq_true rfl)
  obtain ⟨hU, hw9⟩ := hp
  rw [hw9] at hP hD
  refine lv_iload_n hx hb dX1_learn_4 rfl (lv_at hl 2 rfl) ?_
  refine Y_v (vx_runS (As := [.int p1]) (rest := []) ⟨hx, hb, hml, hown, hts⟩ (c_X1_checkAuthor l hlf p1 _) (va_cwS 1 hts gX1_learn_X1_checkAuthor rfl rfl rfl (by decide +kernel) ⟨Nat.le_of_ble_eq_true rfl, Nat.le_of_ble_eq_true rfl⟩) (pS hP hK hD hS hA hX) rfl rfl hl.1 rfl (lv_room (Nat.le_of_ble_eq_true rfl)) dX1_learn_5 ⟨Nat.le_of_ble_eq_true rfl, Nat.le_of_ble_eq_true rfl⟩) hD hS hA (fun E ce q9 H locs hE hP hS ht => ?_) (fun w'  H locs hp hP hD hS => ?_)
  · exact Y_out hT0 hlocks hP hK hD hS ht (⟨hE.1, by simp [spLearn, hU, hE.2]⟩) (Nat.le_of_ble_eq_true rfl) (Nat.le_of_ble_eq_true rfl)
  obtain ⟨hV, hw9⟩ := hp
  rw [hw9] at hP hD
  refine lv_iload_n hx hb dX1_learn_8 rfl (lv_at hl 1 rfl) ?_
  refine lv_iload_n hx hb dX1_learn_9 rfl (lv_at hl 2 rfl) ?_
  refine lv_icmp_ne (tgt := 23) hx hb dX1_learn_10 (by decide) (fun cC => ?_) (fun cC => ?_)
  · obtain ⟨a, ha, rfl⟩ := isA_n hU
    have ea := aN_n (show a < 2 ^ 31 by omega)
    obtain ⟨f, hf, rfl⟩ := isA_n hV
    have ef := aN_n (show f < 2 ^ 31 by omega)
    have haf : a ≠ f := fun e => cC (by rw [e])
    have hn60 := hI.R.1
    have h5 := hI.R.2.2.2.2.2.2.2.1
    have h8 := hI.R.2.2.2.2.2.2.2.2.2.2.1
    refine lv_iconst (v := nI 0) hx hb dX1_learn_23 (by decide) ?_
    refine lv_istore_n (lv' := [(3, .int (nI 0)), (0, .ref (G 0)), (1, .int (nI a)), (2, .int (nI f))]) hx hb dX1_learn_24 rfl hl (by decide) rfl (fun ls hl => ?_)
    refine lv_aload_n hx hb dX1_learn_25 rfl (lv_at hl 1 rfl) ?_
    refine va_get (D := D) (ci := 1) (v := va_rf (hd.map fun j => G (100 + 3 * j))) (C := RX1) (T := TX1) (N := 9) hx hb hts hiX1 hown hK hP (0) rfl rfl 2 (by decide) (hts (.fieldLink RX1 19 "CoauthorText" "firstInOrder" "LCoauthorText$Sign;") (by decide +kernel)) (fun _ h9 => h9) rfl dX1_learn_26 ?_
    refine r_astoreq (lv' := [(4, va_rf (hd.map fun j => G (100 + 3 * j))), (3, .int (nI 0)), (0, .ref (G 0)), (1, .int (nI a)), (2, .int (nI f))]) hx hb dX1_learn_29 hl (by decide) rfl (fun ls hl => ?_)
    have loop : ∀ (r : List Nat) (o : Option Nat) (dn : List Nat) (Sj : Nat → Nat → Nat) (H : Heap) (locs : List Loc) (ls : Array Slot), ChP nx o r → O = dn ++ r → Sj = lrP S a f (fun i => decide (i ∈ dn)) → va_P D vwCl (CW cy G Sj hd nx Y) H → va_D A (CW cy G Sj hd nx Y) → va_S A s.heap H locs → lv_has ls 5 [(4, va_rf (o.map fun j => G (100 + 3 * j))), (3, .int (nI (dn.countP (nwB S a f)))), (0, .ref (G 0)), (1, .int (nI a)), (2, .int (nI f))] → W p l e ({ frames := 8, cells := 10, slots := 60, locals := 132 } : Room) s m ([.ref (G 0), .int (nI a), .int (nI f)] : List Value).toArray below meth c H locs 2 12 (vx_MQ below (va_Qi (fun r w' => (spLearn S (nI a) (nI f)).1 = 0 ∧ r = (spLearn S (nI a) (nI f)).2.1 ∧ w' = CW cy G (spLearn S (nI a) (nI f)).2.2 hd nx Y) (fun w' t => wB D cy A w' t) A) (xQ D cy (fun E => (E = eIAE ∧ (spLearn S (nI a) (nI f)).1 = 1)) (CW cy G S hd nx Y) A) ([.ref (G 0), .int (nI a), .int (nI f)] : List Value).toArray s 10 60 A) (F0 m 31 ls []) := by
      intro r
      induction r with
      | nil =>
        intro o dn Sj H locs ls ho hdn hSj hP hD hS hl
        have ho : o = none := ho
        subst ho
        have hl : lv_has ls 5 [(4, .null), (3, .int (nI (dn.countP (nwB S a f)))), (0, .ref (G 0)), (1, .int (nI a)), (2, .int (nI f))] := hl
        rw [List.append_nil] at hdn
        have e8 : Sj 8 = S 8 := by rw [hSj]; rfl
        have h8a := h8 a
        have h8f := h8 f
        have eP : Sj = lrP S a f (fun i => decide (i < S 0 0)) := by rw [hSj]; congr 1; funext i; rw [← hdn]; exact decide_eq_decide.mpr (hI.2.2.2.2.1 i)
        refine lv_aloadN hx hb dX1_learn_31 (lv_at hl 0 rfl) ?_
        refine lv_ifnullN (tgt := 74) hx hb dX1_learn_33 (by decide) ?_
        refine lv_aload_n hx hb dX1_learn_74 rfl (lv_at hl 2 rfl) ?_
        refine va_get (D := D) (ci := 1) (v := .ref (G 2)) (C := RX1) (T := TX1) (N := 9) hx hb hts hiX1 hown hK hP (0) rfl rfl 3 (by decide) (hts (.fieldLink RX1 23 "CoauthorText" "clocks" "[I") (by decide +kernel)) (fun _ h9 => h9) rfl dX1_learn_75 ?_
        refine lv_iload_n hx hb dX1_learn_78 rfl (lv_at hl 3 rfl) ?_
        refine lv_aload_n hx hb dX1_learn_79 rfl (lv_at hl 2 rfl) ?_
        refine va_get (D := D) (ci := 1) (v := .ref (G 2)) (C := RX1) (T := TX1) (N := 9) hx hb hts hiX1 hown hK hP (0) rfl rfl 3 (by decide) (hts (.fieldLink RX1 23 "CoauthorText" "clocks" "[I") (by decide +kernel)) (fun _ h9 => h9) rfl dX1_learn_80 ?_
        refine lv_iload_n hx hb dX1_learn_83 rfl (lv_at hl 3 rfl) ?_
        refine r_iald hx hb hK hP (2) rfl (by omega) (by decide) dX1_learn_84 ?_
        refine lv_aload_n hx hb dX1_learn_85 rfl (lv_at hl 2 rfl) ?_
        refine va_get (D := D) (ci := 1) (v := .ref (G 2)) (C := RX1) (T := TX1) (N := 9) hx hb hts hiX1 hown hK hP (0) rfl rfl 3 (by decide) (hts (.fieldLink RX1 23 "CoauthorText" "clocks" "[I") (by decide +kernel)) (fun _ h9 => h9) rfl dX1_learn_86 ?_
        refine lv_iload_n hx hb dX1_learn_89 rfl (lv_at hl 4 rfl) ?_
        refine r_iald hx hb hK hP (2) rfl (by omega) (by decide) dX1_learn_90 ?_
        refine va_mmax hx hb (by rw [hml]; exact hl.1.symm) hown (hts (.methodLink RX1 116 Lib.Math.max.name) (by decide +kernel)) (hts (.static Lib.Math.max.name) (by decide +kernel)) (hts (.initialized "java/lang/Math") (by decide +kernel)) (hts (.code Lib.Math.max.name Lib.Math.max.code 2 (some .int)) (by decide +kernel)) (Nat.le_of_ble_eq_true rfl) (Nat.le_of_ble_eq_true rfl) (Nat.le_of_ble_eq_true rfl) (Nat.le_of_ble_eq_true rfl) dX1_learn_91 ?_
        refine lv_topi (fun y9 ey9 => ?_)
        obtain rfl : y9 = nI (max (S 8 a) (S 8 f)) := ey9.trans (by
              rw [e8]
              split
              · rename_i h; rw [nI_ltI (by omega) (by omega)] at h; rw [show max (S 8 a) (S 8 f) = S 8 f from by omega]
              · rename_i h; rw [nI_ltI (by omega) (by omega)] at h; rw [show max (S 8 a) (S 8 f) = S 8 a from by omega])
        refine r_iast (w' := CW cy G (up2 Sj 8 a (max (S 8 a) (S 8 f))) hd nx Y) hx hb hK hP hD hS (2) rfl (by omega) (by decide) dX1_learn_94 (by rw [show upd (fun x9 => nI (Sj 8 x9)) a (nI (max (S 8 a) (S 8 f))) = fun x9 => nI (up2 Sj 8 a (max (S 8 a) (S 8 f)) 8 x9) from upd_n Sj 8 _ _]; rfl) (fun H locs hP hD hS => ?_)
        refine lv_iload_n hx hb dX1_learn_95 rfl (lv_at hl 1 rfl) ?_
        exact vx_ret (C_iret hx hb hr hlocks hS hP hK hD (Nat.le_of_ble_eq_true rfl) (Nat.le_of_ble_eq_true rfl) dX1_learn_96 (by rw [show spLearn S (nI a) (nI f) = (0, nI ((List.range (S 0 0)).countP (nwB S a f)), lrS S a f) from by simp [spLearn, hU, hV, ea, ef, cC]]; exact ⟨rfl, by rw [← hdn, (O_perm hI).countP_eq], by rw [lrS, ← eP]⟩))
      | cons x r ih =>
        intro o dn Sj H locs ls ho hdn hSj hP hD hS hl
        obtain ⟨ho, ho2⟩ := ho
        subst ho
        have hxO : x < S 0 0 := hI.om x (by rw [hdn]; simp)
        have e00 : Sj 0 0 = S 0 0 := by rw [hSj]; rfl
        have hx9 : x < Sj 0 0 := by rw [e00]; exact hxO
        have hRj : Rng Sj := by rw [hSj]; exact hI.R.lr a f _
        have hxn : x ∉ dn := fun h => by have hnd := hI.2.2.2.1; rw [hdn] at hnd; exact (List.nodup_append.mp hnd).2.2 x h x List.mem_cons_self rfl
        have i5 : Sj 5 (60 * f + x) = S 5 (60 * f + x) := by rw [hSj]; exact lr_its haf (by omega) 5
        have m5 : Sj 5 (60 * a + x) = S 5 (60 * a + x) := by rw [hSj]; exact lr_mine (by simpa using hxn) 5
        have g5 := h5 (60 * f + x)
        have g5a := h5 (60 * a + x)
        have hl : lv_has ls 5 [(4, .ref (G (100 + 3 * x))), (3, .int (nI (dn.countP (nwB S a f)))), (0, .ref (G 0)), (1, .int (nI a)), (2, .int (nI f))] := hl
        have join : ∀ (H : Heap) (locs : List Loc) (ls : Array Slot), va_P D vwCl (CW cy G Sj hd nx Y) H → va_D A (CW cy G Sj hd nx Y) → va_S A s.heap H locs → lv_has ls 5 [(3, .int (nI ((dn ++ [x]).countP (nwB S a f)))), (4, .ref (G (100 + 3 * x))), (0, .ref (G 0)), (1, .int (nI a)), (2, .int (nI f))] → W p l e ({ frames := 8, cells := 10, slots := 60, locals := 132 } : Room) s m ([.ref (G 0), .int (nI a), .int (nI f)] : List Value).toArray below meth c H locs 2 12 (vx_MQ below (va_Qi (fun r w' => (spLearn S (nI a) (nI f)).1 = 0 ∧ r = (spLearn S (nI a) (nI f)).2.1 ∧ w' = CW cy G (spLearn S (nI a) (nI f)).2.2 hd nx Y) (fun w' t => wB D cy A w' t) A) (xQ D cy (fun E => (E = eIAE ∧ (spLearn S (nI a) (nI f)).1 = 1)) (CW cy G S hd nx Y) A) ([.ref (G 0), .int (nI a), .int (nI f)] : List Value).toArray s 10 60 A) (F0 m 57 ls []) := by
          intro H locs ls hP hD hS hl
          refine lv_aload hx hb dX1_learn_57 (lv_at hl 1 rfl) ?_
          refine lv_iload_n hx hb dX1_learn_59 rfl (lv_at hl 3 rfl) ?_
          refine lv_iload_n hx hb dX1_learn_60 rfl (lv_at hl 4 rfl) ?_
          refine K_v (va_runVN (As := [.int (nI a), .int (nI f)]) (rest := []) ⟨hx, hb, hml, hown, hts⟩ (c_X0_bringNewer l hRj hx9 ha hf _) ⟨va_cnB 2 hts gX1_learn_X0_bringNewer_n109 rfl rfl rfl hX.2.2.2.2.2.2.1.2.2.2.2.2 (hts (.initialized RX0) (by decide +kernel)) (by decide +kernel) ⟨Nat.le_of_ble_eq_true rfl, Nat.le_of_ble_eq_true rfl⟩, hts (.instanceMethod yX0_bringNewer) (by decide +kernel), hts (.selects RX0 yX0_bringNewer yX0_bringNewer) (by decide +kernel)⟩ (pV hP hK hD hS hA hX (va_recv hK hP (ci := 0) (q0 := 6 + (20 + x)) rfl (CW_sg hx9))) rfl rfl hl.1 rfl (lv_room (Nat.le_of_ble_eq_true rfl)) dX1_learn_61 ⟨Nat.le_of_ble_eq_true rfl, Nat.le_of_ble_eq_true rfl⟩) hD hS hA (fun w'  H locs hp hP hD hS => ?_)
          subst hp
          have hx9b : x < (brS Sj a f x) 0 0 := by unfold brS; split <;> exact hx9
          refine lv_aload hx hb dX1_learn_64 (lv_at hl 1 rfl) ?_
          refine va_getN (D := D) (ci := 0) (v := va_rf ((nx x).map fun j => G (100 + 3 * j))) (C := RX0) (T := TX0) (N := 8) (host := RX1) hx hb hts hiX0 hown hK hP (6 + (20 + x)) (CW_sg hx9b) rfl 5 (by decide) (va_Nw.use rfl hX.2.2.2.2.2.1.1) (fun _ h9 => h9) rfl dX1_learn_66 ?_
          refine r_astoreq (lv' := [(4, va_rf ((nx x).map fun j => G (100 + 3 * j))), (3, .int (nI ((dn ++ [x]).countP (nwB S a f)))), (0, .ref (G 0)), (1, .int (nI a)), (2, .int (nI f))]) hx hb dX1_learn_69 hl (by decide) rfl (fun ls hl => ?_)
          refine lv_goto (tgt := 31) hx hb dX1_learn_71 (by decide) ?_
          exact ih (nx x) (dn ++ [x]) (brS Sj a f x) _ _ ls ho2 (by rw [hdn]; simp) (by rw [hSj]; exact br_lr haf (by omega) (by simpa using hxn) (fun i hi => by simp [hi]) (by simp)) hP hD hS (lv_sub hl [0, 1, 2, 3, 4] rfl)
        refine lv_aload hx hb dX1_learn_31 (lv_at hl 0 rfl) ?_
        refine lv_ifnull hx hb dX1_learn_33 ?_
        refine lv_aload hx hb dX1_learn_36 (lv_at hl 0 rfl) ?_
        refine lv_iload_n hx hb dX1_learn_38 rfl (lv_at hl 4 rfl) ?_
        refine K_i (va_runVN (As := [.int (nI f)]) (rest := []) ⟨hx, hb, hml, hown, hts⟩ (c_X0_isKnownIn l hRj hx9 hf _) ⟨va_cnB 1 hts gX1_learn_X0_isKnownIn_n106 rfl rfl rfl hX.2.2.2.2.2.2.1.2.2.2.2.1 (hts (.initialized RX0) (by decide +kernel)) (by decide +kernel) ⟨Nat.le_of_ble_eq_true rfl, Nat.le_of_ble_eq_true rfl⟩, hts (.instanceMethod yX0_isKnownIn) (by decide +kernel), hts (.selects RX0 yX0_isKnownIn yX0_isKnownIn) (by decide +kernel)⟩ (pV hP hK hD hS hA hX (va_recv hK hP (ci := 0) (q0 := 6 + (20 + x)) rfl (CW_sg hx9))) rfl rfl hl.1 rfl (lv_room (Nat.le_of_ble_eq_true rfl)) dX1_learn_39 ⟨Nat.le_of_ble_eq_true rfl, Nat.le_of_ble_eq_true rfl⟩) hD hS hA (fun r w'  H locs hp hP hD hS => ?_)
        rw [i5] at hp
        obtain ⟨rfl, rfl⟩ := hp
        refine r_if_eq (tgt := 57) hx hb dX1_learn_42 (by decide) (by omega) (fun cX => ?_) (fun cX => ?_)
        · have hcn : (dn ++ [x]).countP (nwB S a f) = dn.countP (nwB S a f) + 0 := by rw [cnt_app, show nwB S a f x = false from by simp only [nwB, Bool.and_eq_false_iff, decide_eq_false_iff_not]; omega]; rfl
          exact join _ _ ls hP hD hS (by rw [hcn]; exact lv_sub hl [1, 0, 2, 3, 4] rfl)
        · refine lv_aload hx hb dX1_learn_45 (lv_at hl 0 rfl) ?_
          refine lv_iload_n hx hb dX1_learn_47 rfl (lv_at hl 3 rfl) ?_
          refine K_i (va_runVN (As := [.int (nI a)]) (rest := []) ⟨hx, hb, hml, hown, hts⟩ (c_X0_isKnownIn l hRj hx9 ha _) ⟨va_cnB 1 hts gX1_learn_X0_isKnownIn_n106 rfl rfl rfl hX.2.2.2.2.2.2.1.2.2.2.2.1 (hts (.initialized RX0) (by decide +kernel)) (by decide +kernel) ⟨Nat.le_of_ble_eq_true rfl, Nat.le_of_ble_eq_true rfl⟩, hts (.instanceMethod yX0_isKnownIn) (by decide +kernel), hts (.selects RX0 yX0_isKnownIn yX0_isKnownIn) (by decide +kernel)⟩ (pV hP hK hD hS hA hX (va_recv hK hP (ci := 0) (q0 := 6 + (20 + x)) rfl (CW_sg hx9))) rfl rfl hl.1 rfl (lv_room (Nat.le_of_ble_eq_true rfl)) dX1_learn_48 ⟨Nat.le_of_ble_eq_true rfl, Nat.le_of_ble_eq_true rfl⟩) hD hS hA (fun r w'  H locs hp hP hD hS => ?_)
          rw [m5] at hp
          obtain ⟨rfl, rfl⟩ := hp
          refine r_if_ne (tgt := 57) hx hb dX1_learn_51 (by decide) (by omega) (fun cY => ?_) (fun cY => ?_)
          · have hcn : (dn ++ [x]).countP (nwB S a f) = dn.countP (nwB S a f) + 0 := by rw [cnt_app, show nwB S a f x = false from by simp only [nwB, Bool.and_eq_false_iff, decide_eq_false_iff_not]; omega]; rfl
            exact join _ _ ls hP hD hS (by rw [hcn]; exact lv_sub hl [1, 0, 2, 3, 4] rfl)
          · have hcn : (dn ++ [x]).countP (nwB S a f) = dn.countP (nwB S a f) + 1 := by rw [cnt_app, show nwB S a f x = true from by simp only [nwB, Bool.and_eq_true, decide_eq_true_eq]; omega]; rfl
            refine lv_iinc (v := nI ((dn.countP (nwB S a f)) + 1)) (lv' := [(3, .int (nI ((dn.countP (nwB S a f)) + 1))), (4, .ref (G (100 + 3 * x))), (0, .ref (G 0)), (1, .int (nI a)), (2, .int (nI f))]) hx hb dX1_learn_54 hl (k := 1) rfl (nI_inc _) (by decide) rfl (fun ls hl => ?_)
            exact join _ _ ls hP hD hS (by rw [hcn]; exact lv_sub hl [0, 1, 2, 3, 4] rfl)
    exact loop O hd [] S _ _ ls hO rfl (by rw [show (fun i => decide (i ∈ ([] : List Nat))) = (fun i => decide (i < 0)) from by funext i; simp]; exact (lr_0 S a f).symm) hP hD hS (lv_sub hl [0, 1, 2, 3, 4] rfl)
  · obtain ⟨tx, x0, x1, x2, x3, x4, x5, x6, x7, x8⟩ := hX.2.2.2.2.2.2.2.1
    exact Y_throw (own := RX1) (E := "java/lang/IllegalArgumentException") (ik := 101) (is := 103) (ic := 105) (ws := wsX1_learn) hT0 hx hb hlf hlocks hown hts hP hK hD hS hX hX.2.2.1 x0 (by rw [hml]; exact hl.1) (by decide +kernel) (by decide +kernel) (by decide +kernel) (by decide +kernel) (by decide +kernel) (by decide +kernel) dX1_learn_13 dX1_learn_16 dX1_learn_17 dX1_learn_19 dX1_learn_22 (Nat.le_of_ble_eq_true rfl) (Nat.le_of_ble_eq_true rfl) (Nat.le_of_ble_eq_true rfl) (Nat.le_of_ble_eq_true rfl) (⟨rfl, by simp [spLearn, hU, hV, cC]⟩) (Nat.le_of_ble_eq_true rfl) (Nat.le_of_ble_eq_true rfl)
