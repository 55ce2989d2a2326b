/-! ===== the class: putInOrder ===== -/
set_option maxHeartbeats 4000000 in
set_option maxRecDepth 100000 in
theorem c_X1_putInOrder (l : Launch) {D : va_G} {cy : Nat → ClassId} {G : Nat → Nat} {S : Nat → Nat → Nat} {hd : Option Nat} {nx : Nat → Option Nat} {Y : va_W} {O : List Nat} (hR : Rng S) (hO : ChP nx hd O) (hOm : ∀ i, i ∈ O → i < S 0 0) (hOn : O.Nodup) {z : Nat} (hz : z < S 0 0) (hzO : z ∉ O) (hb9 : S 4 z = 0 ∨ S 4 z - 1 ∈ O) : CV l yX1_putInOrder wsX1_putInOrder ({ frames := 1, cells := 0, slots := 0, locals := 12 } : Room) D cy [.ref (G 0), .ref (G (100 + 3 * z))] (CW cy G S hd nx Y) (fun w' => ∃ (hd' : Option Nat) (nx' : Nat → Option Nat), w' = CW cy G S hd' nx' Y ∧ ChP nx' hd' (ordI S z O)) 0 0 := by
  refine CV.of (cc := cX1_putInOrder) (maxL := 4) (ret := none) (by decide) rfl (Nat.le_of_ble_eq_true rfl) ?_
  intro p e s m below meth c A ls E0 hl
  obtain ⟨hx, hb, hml, hown, hts, hr, hlocks, hA, hS, hP, hK, hD, hX⟩ := E0
  have hiX0 : ∀ w ∈ u_ws RX0 TX0 8, w ∈ wsX1_putInOrder := by decide +kernel
  have hiX1 : ∀ w ∈ u_ws RX1 TX1 9, w ∈ wsX1_putInOrder := by decide +kernel
  have hl : lv_has ls 4 [(0, .ref (G 0)), (1, .ref (G (100 + 3 * z)))] := hl
  have hkk : ∀ i, 4 * S 3 i + S 1 i < 8388608 := fun i => hR.key i
  refine lv_aload_n hx hb dX1_putInOrder_0 rfl (lv_at hl 1 rfl) ?_
  refine va_getN (D := D) (ci := 0) (v := va_rf (if S 4 z = 0 then none else some (G (100 + 3 * (S 4 z - 1))))) (C := RX0) (T := TX0) (N := 8) (host := RX1) hx hb hts hiX0 hown hK hP (6 + (20 + z)) (CW_sg hz) rfl 4 (by decide) (va_Nw.use rfl hX.2.2.2.2.2.1.2.2.2.1) (fun _ h9 => h9) rfl dX1_putInOrder_1 ?_
  have loop : ∀ (B9 A9 : List Nat) (o : Option Nat) (H : Heap) (locs : List Loc) (ls : Array Slot), O = A9 ++ B9 → ChP nx o B9 → ordI S z O = A9 ++ insK S z B9 → va_P D vwCl (CW cy G S hd nx Y) H → va_D A (CW cy G S hd nx Y) → va_S A s.heap H locs → lv_has ls 4 [(3, va_rf (o.map fun j => G (100 + 3 * j))), (2, va_rf (A9.getLast?.map fun j => G (100 + 3 * j))), (0, .ref (G 0)), (1, .ref (G (100 + 3 * z)))] → W p l e ({ frames := 1, cells := 0, slots := 0, locals := 12 } : Room) s m ([.ref (G 0), .ref (G (100 + 3 * z))] : List Value).toArray below meth c H locs 0 0 (MQ below (va_Qv (fun w' => ∃ (hd' : Option Nat) (nx' : Nat → Option Nat), w' = CW cy G S hd' nx' Y ∧ ChP nx' hd' (ordI S z O)) (fun w' t => wB D cy A w' t) A) ([.ref (G 0), .ref (G (100 + 3 * z))] : List Value).toArray s 0 0 A) (F0 m 21 ls []) := by
    intro B9 A9 o H locs ls hAB ho hI hP hD hS hl
    have fin : ∀ (B9 A9 : List Nat) (o : Option Nat) (H : Heap) (locs : List Loc) (ls : Array Slot), O = A9 ++ B9 → ChP nx o B9 → ordI S z O = A9 ++ z :: B9 → va_P D vwCl (CW cy G S hd nx Y) H → va_D A (CW cy G S hd nx Y) → va_S A s.heap H locs → lv_has ls 4 [(3, va_rf (o.map fun j => G (100 + 3 * j))), (2, va_rf (A9.getLast?.map fun j => G (100 + 3 * j))), (0, .ref (G 0)), (1, .ref (G (100 + 3 * z)))] → W p l e ({ frames := 1, cells := 0, slots := 0, locals := 12 } : Room) s m ([.ref (G 0), .ref (G (100 + 3 * z))] : List Value).toArray below meth c H locs 0 0 (MQ below (va_Qv (fun w' => ∃ (hd' : Option Nat) (nx' : Nat → Option Nat), w' = CW cy G S hd' nx' Y ∧ ChP nx' hd' (ordI S z O)) (fun w' t => wB D cy A w' t) A) ([.ref (G 0), .ref (G (100 + 3 * z))] : List Value).toArray s 0 0 A) (F0 m 46 ls []) := by
      intro B9 A9 o H locs ls hAB ho hI hP hD hS hl
      refine lv_aload_n hx hb dX1_putInOrder_46 rfl (lv_at hl 3 rfl) ?_
      refine r_aload_nq hx hb dX1_putInOrder_47 rfl (lv_at hl 0 rfl) ?_
      refine r_putN (w' := CW cy G S hd (va_up nx z o) Y) (own := RX1) (host := RX1) (C := RX0) (T := TX0) (N := 8) (ci := 0) (q0 := 6 + (20 + z)) (k := 5) (index := 113) (ty := .object "CoauthorText$Sign") (v := va_rf (o.map fun j => G (100 + 3 * j))) hx hb hts hiX0 tyX0_ok nmX0 hown hK hP hD hS (CW_sg hz) rfl (by decide) (va_Nw.use rfl hX.2.2.2.2.2.1.1) rfl (by decide +kernel) (narq _ _) (fitq _ _) (Nat.le_of_ble_eq_true rfl) dX1_putInOrder_48 (CW_setNx (o := o) hz) (fun H locs hP hD hS => ?_)
      have hzA : ∀ i, i ∈ A9 → i ≠ z := fun i hi e => hzO (by rw [hAB, ← e]; exact List.mem_append_left _ hi)
      have hzB : ∀ i, i ∈ B9 → i ≠ z := fun i hi e => hzO (by rw [hAB, ← e]; exact List.mem_append_right _ hi)
      rcases List.eq_nil_or_concat A9 with hA9 | ⟨A0, y, hA9⟩
      · subst hA9
        have hl : lv_has ls 4 [(3, va_rf (o.map fun j => G (100 + 3 * j))), (2, .null), (0, .ref (G 0)), (1, .ref (G (100 + 3 * z)))] := hl
        refine lv_aload_nN hx hb dX1_putInOrder_51 rfl (lv_at hl 1 rfl) ?_
        refine lv_ifnonnullN hx hb dX1_putInOrder_52 ?_
        refine lv_aload_n hx hb dX1_putInOrder_55 rfl (lv_at hl 2 rfl) ?_
        refine lv_aload_n hx hb dX1_putInOrder_56 rfl (lv_at hl 3 rfl) ?_
        refine r_put (w' := CW cy G S (some z) (va_up nx z o) Y) (own := RX1) (C := RX1) (T := TX1) (N := 9) (ci := 1) (q0 := 0) (k := 2) (index := 19) (ty := .object "CoauthorText$Sign") (v := .ref (G (100 + 3 * z))) hx hb hts hiX1 tyX1_ok nmX1 hown hK hP hD hS rfl rfl (by decide) (by decide +kernel) rfl (by decide +kernel) rfl rfl (Nat.le_of_ble_eq_true rfl) dX1_putInOrder_57 rfl (fun H locs hP hD hS => ?_)
        refine lv_goto (tgt := 68) hx hb dX1_putInOrder_60 (by decide) ?_
        exact C_vret hx hb hr hlocks hS hP hK hD (Nat.le_of_ble_eq_true rfl) (Nat.le_of_ble_eq_true rfl) dX1_putInOrder_68 ⟨some z, va_up nx z o, rfl, by rw [hI]; exact ChP_put0 hzB ho⟩
      · rw [List.concat_eq_append] at hA9
        subst hA9
        rw [List.getLast?_concat] at hl
        have hy : y < S 0 0 := hOm y (by rw [hAB]; simp)
        have hyz : z ≠ y := fun e => hzA y (by simp) e.symm
        have hl : lv_has ls 4 [(3, va_rf (o.map fun j => G (100 + 3 * j))), (2, .ref (G (100 + 3 * y))), (0, .ref (G 0)), (1, .ref (G (100 + 3 * z)))] := hl
        refine lv_aload_n hx hb dX1_putInOrder_51 rfl (lv_at hl 1 rfl) ?_
        refine lv_ifnonnull (tgt := 63) hx hb dX1_putInOrder_52 (by decide) ?_
        refine lv_aload_n hx hb dX1_putInOrder_63 rfl (lv_at hl 1 rfl) ?_
        refine lv_aload_n hx hb dX1_putInOrder_64 rfl (lv_at hl 3 rfl) ?_
        refine r_putN (w' := CW cy G S hd (va_up (va_up nx z o) y (some z)) Y) (own := RX1) (host := RX1) (C := RX0) (T := TX0) (N := 8) (ci := 0) (q0 := 6 + (20 + y)) (k := 5) (index := 113) (ty := .object "CoauthorText$Sign") (v := .ref (G (100 + 3 * z))) hx hb hts hiX0 tyX0_ok nmX0 hown hK hP hD hS (CW_sg hy) rfl (by decide) (va_Nw.use rfl hX.2.2.2.2.2.1.1) rfl (by decide +kernel) rfl rfl (Nat.le_of_ble_eq_true rfl) dX1_putInOrder_65 (CW_setNx (o := some z) hy) (fun H locs hP hD hS => ?_)
        have hn9 : (A0 ++ y :: B9).Nodup := by rw [hAB] at hOn; simpa using hOn
        have hn8 := List.nodup_append.mp hn9
        exact C_vret hx hb hr hlocks hS hP hK hD (Nat.le_of_ble_eq_true rfl) (Nat.le_of_ble_eq_true rfl) dX1_putInOrder_68 ⟨hd, va_up (va_up nx z o) y (some z), rfl, by
            rw [hI, List.append_assoc]
            refine ChP_put hyz (fun i hi => ⟨hzB i hi, fun e => (List.nodup_cons.mp hn8.2.1).1 (e ▸ hi)⟩) ho (fun i hi => ⟨hzA i (by simp [hi]), fun e => hn8.2.2 i hi y List.mem_cons_self e⟩) (by rw [hAB] at hO; simpa using hO)⟩
    induction B9 generalizing A9 o H locs ls with
    | nil =>
      have ho9 : o = none := ho
      subst ho9
      have hl : lv_has ls 4 [(3, .null), (2, va_rf (A9.getLast?.map fun j => G (100 + 3 * j))), (0, .ref (G 0)), (1, .ref (G (100 + 3 * z)))] := hl
      refine lv_aload_nN hx hb dX1_putInOrder_21 rfl (lv_at hl 0 rfl) ?_
      refine lv_ifnullN (tgt := 46) hx hb dX1_putInOrder_22 (by decide) ?_
      exact fin [] A9 none _ _ ls hAB rfl hI hP hD hS hl
    | cons x r ih =>
      obtain ⟨ho1, ho2⟩ := ho
      subst ho1
      have hx9 : x < S 0 0 := hOm x (by rw [hAB]; simp)
      have hl : lv_has ls 4 [(3, .ref (G (100 + 3 * x))), (2, va_rf (A9.getLast?.map fun j => G (100 + 3 * j))), (0, .ref (G 0)), (1, .ref (G (100 + 3 * z)))] := hl
      refine lv_aload_n hx hb dX1_putInOrder_21 rfl (lv_at hl 0 rfl) ?_
      refine lv_ifnull hx hb dX1_putInOrder_22 ?_
      refine lv_aload_n hx hb dX1_putInOrder_25 rfl (lv_at hl 0 rfl) ?_
      refine va_getN (D := D) (ci := 0) (v := .int (nI (4 * S 3 x + S 1 x))) (C := RX0) (T := TX0) (N := 8) (host := RX1) hx hb hts hiX0 hown hK hP (6 + (20 + x)) (CW_sg hx9) rfl 3 (by decide) (va_Nw.use rfl hX.2.2.2.2.2.1.2.2.2.2.1) (fun _ h9 => h9) rfl dX1_putInOrder_26 ?_
      refine lv_aload_n hx hb dX1_putInOrder_29 rfl (lv_at hl 3 rfl) ?_
      refine va_getN (D := D) (ci := 0) (v := .int (nI (4 * S 3 z + S 1 z))) (C := RX0) (T := TX0) (N := 8) (host := RX1) hx hb hts hiX0 hown hK hP (6 + (20 + z)) (CW_sg hz) rfl 3 (by decide) (va_Nw.use rfl hX.2.2.2.2.2.1.2.2.2.2.1) (fun _ h9 => h9) rfl dX1_putInOrder_30 ?_
      refine r_icmp_le (tgt := 46) hx hb dX1_putInOrder_33 (by decide) (by have := hkk x; omega) (by have := hkk z; omega) (fun c1 => ?_) (fun c1 => ?_)
      · exact fin (x :: r) A9 (some x) _ _ ls hAB ⟨rfl, ho2⟩ (by rw [hI, insK, if_neg (by unfold keyS; omega)]) hP hD hS hl
      · refine lv_aload_n hx hb dX1_putInOrder_36 rfl (lv_at hl 0 rfl) ?_
        refine lv_astore_n (lv' := [(2, .ref (G (100 + 3 * x))), (3, .ref (G (100 + 3 * x))), (0, .ref (G 0)), (1, .ref (G (100 + 3 * z)))]) hx hb dX1_putInOrder_37 rfl hl (by decide) rfl (fun ls hl => ?_)
        refine lv_aload_n hx hb dX1_putInOrder_38 rfl (lv_at hl 1 rfl) ?_
        refine va_getN (D := D) (ci := 0) (v := va_rf ((nx x).map fun j => G (100 + 3 * j))) (C := RX0) (T := TX0) (N := 8) (host := RX1) hx hb hts hiX0 hown hK hP (6 + (20 + x)) (CW_sg hx9) rfl 5 (by decide) (va_Nw.use rfl hX.2.2.2.2.2.1.1) (fun _ h9 => h9) rfl dX1_putInOrder_39 ?_
        refine r_astore_nq (lv' := [(3, va_rf ((nx x).map fun j => G (100 + 3 * j))), (2, .ref (G (100 + 3 * x))), (0, .ref (G 0)), (1, .ref (G (100 + 3 * z)))]) hx hb dX1_putInOrder_42 rfl hl (by decide) rfl (fun ls hl => ?_)
        refine lv_goto (tgt := 21) hx hb dX1_putInOrder_43 (by decide) ?_
        exact ih (A9 ++ [x]) (nx x) _ _ ls (by rw [hAB, List.append_assoc]; rfl) ho2 (by rw [hI, insK, if_pos (by unfold keyS; omega), List.append_assoc]; rfl) hP hS (by rw [List.getLast?_concat]; exact lv_sub hl [0, 1, 2, 3] rfl)
  by_cases hb0 : S 4 z = 0
  · refine r_topn (if_pos hb0) ?_
    refine lv_astore_nN (lv' := [(2, .null), (0, .ref (G 0)), (1, .ref (G (100 + 3 * z)))]) hx hb dX1_putInOrder_4 rfl hl (by decide) rfl (fun ls hl => ?_)
    refine lv_aload_nN hx hb dX1_putInOrder_5 rfl (lv_at hl 0 rfl) ?_
    refine lv_ifnonnullN hx hb dX1_putInOrder_6 ?_
    refine lv_aload_n hx hb dX1_putInOrder_9 rfl (lv_at hl 1 rfl) ?_
    refine va_get (D := D) (ci := 1) (v := va_rf (hd.map fun j => G (100 + 3 * j))) (C := RX1) (T := TX1) (N := 9) hx hb hts hiX1 hown hK hP (0) rfl rfl 2 (by decide) (hts (.fieldLink RX1 19 "CoauthorText" "firstInOrder" "LCoauthorText$Sign;") (by decide +kernel)) (fun _ h9 => h9) rfl dX1_putInOrder_10 ?_
    refine lv_goto (tgt := 20) hx hb dX1_putInOrder_13 (by decide) ?_
    refine r_astore_nq (lv' := [(3, va_rf (hd.map fun j => G (100 + 3 * j))), (2, .null), (0, .ref (G 0)), (1, .ref (G (100 + 3 * z)))]) hx hb dX1_putInOrder_20 rfl hl (by decide) rfl (fun ls hl => ?_)
    exact loop O [] hd _ _ ls rfl hO (by rw [ordI, if_pos hb0]; rfl) hP hD hS (lv_sub hl [0, 1, 2, 3] rfl)
  · obtain ⟨y, ey⟩ : ∃ y, S 4 z = y + 1 := ⟨S 4 z - 1, by omega⟩
    have hyO : y ∈ O := by rcases hb9 with h | h; exact absurd h hb0; rw [ey] at h; exact h
    have hy : y < S 0 0 := hOm y hyO
    obtain ⟨A9, B9, e1, e2⟩ := insO_split ey hyO
    refine r_topr (a9 := G (100 + 3 * y)) (by rw [if_neg hb0, ey, Nat.add_sub_cancel]) ?_
    refine lv_astore_n (lv' := [(2, .ref (G (100 + 3 * y))), (0, .ref (G 0)), (1, .ref (G (100 + 3 * z)))]) hx hb dX1_putInOrder_4 rfl hl (by decide) rfl (fun ls hl => ?_)
    refine lv_aload_n hx hb dX1_putInOrder_5 rfl (lv_at hl 0 rfl) ?_
    refine lv_ifnonnull (tgt := 16) hx hb dX1_putInOrder_6 (by decide) ?_
    refine lv_aload_n hx hb dX1_putInOrder_16 rfl (lv_at hl 0 rfl) ?_
    refine va_getN (D := D) (ci := 0) (v := va_rf ((nx y).map fun j => G (100 + 3 * j))) (C := RX0) (T := TX0) (N := 8) (host := RX1) hx hb hts hiX0 hown hK hP (6 + (20 + y)) (CW_sg hy) rfl 5 (by decide) (va_Nw.use rfl hX.2.2.2.2.2.1.1) (fun _ h9 => h9) rfl dX1_putInOrder_17 ?_
    refine r_astore_nq (lv' := [(3, va_rf ((nx y).map fun j => G (100 + 3 * j))), (2, .ref (G (100 + 3 * y))), (0, .ref (G 0)), (1, .ref (G (100 + 3 * z)))]) hx hb dX1_putInOrder_20 rfl hl (by decide) rfl (fun ls hl => ?_)
    exact loop B9 (A9 ++ [y]) (nx y) _ _ ls (by rw [e1]; simp) (ChP_tail (e1 ▸ hO)) (by rw [ordI, if_neg hb0, e2]; simp) hP hD hS (by rw [List.getLast?_concat]; exact lv_sub hl [0, 1, 2, 3] rfl)
