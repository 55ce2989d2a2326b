/-! ===== the class: insert ===== -/
theorem nI_of_nn {v : Int32} (h : 0 ≤ v) : ∃ k : Nat, k < 2 ^ 31 ∧ v = nI k := by
  rw [Int32.le_iff_toInt_le, Int32.toInt_zero] at h
  have h2 := Int32.toInt_lt v
  refine ⟨v.toInt.toNat, by omega, ?_⟩
  rw [← Int32.toInt_inj, nI_toInt (by omega)]
  omega
theorem Rng.ins {S : Nat → Nat → Nat} (h : Rng S) (hf : Few S) {a b c : Nat} (ha : a < 4) (hb : b ≤ 60) (hc : c < 26) (hn : S 0 0 < 60) : Rng (insS S a b c) := by
  obtain ⟨h1, h2, h3, h4, h5, h6, h7, h8, h9, h10, h11, h12, h13⟩ := h
  have hfa := hf a
  refine ⟨?_, ?_, ?_, fun i => ?_, fun i => ?_, fun i => ?_, fun i => ?_, fun i => ?_, fun i => ?_, fun i => ?_, fun i => ?_, fun i => ?_, fun i => ?_⟩
  · simp [insS, up2]; omega
  · simp [insS, up2]; exact h2
  · simp [insS, up2]; exact h3
  · by_cases e : i = S 0 0
    · simp [insS, up2, e]; exact ha
    · simp [insS, up2, e]; exact h4 i
  · by_cases e : i = S 0 0
    · simp [insS, up2, e]; exact hc
    · simp [insS, up2, e]; exact h5 i
  · by_cases e : i = S 0 0
    · simp [insS, up2, e]; omega
    · simp [insS, up2, e]; exact h6 i
  · by_cases e : i = S 0 0
    · simp [insS, up2, e]; exact hb
    · simp [insS, up2, e]; exact h7 i
  · by_cases e : i = 60 * a + S 0 0
    · simp [insS, up2, e]
    · simp [insS, up2, e]; exact h8 i
  · simp [insS, up2]; exact h9 i
  · simp [insS, up2]; exact h10 i
  · by_cases e : i = a
    · simp [insS, up2, e]; omega
    · simp [insS, up2, e]; exact h11 i
  · simp [insS, up2]; exact h12 i
  · simp [insS, up2]; exact h13 i

set_option maxHeartbeats 4000000 in
set_option maxRecDepth 100000 in
theorem c_X1_insert (l : Launch) (hlf : l.stackTraces = false) {D : va_G} {cy : Nat → ClassId} {G : Nat → Nat} {S : Nat → Nat → Nat} {hd : Option Nat} {nx : Nat → Option Nat} {Y : va_W} {O : List Nat} (hI : Inv S O) (hO : ChP nx hd O) (hF : Few S) (p0 p1 p2 : Int32) : TI l yX1_insert wsX1_insert ({ frames := 8, cells := 10, slots := 60, locals := 132 } : Room) D cy [.ref (G 0), .int p0, .int p1, .int p2] (CW cy G S hd nx Y) (fun r w' => (spInsert S O p0 p1 p2).1 = 0 ∧ r = (spInsert S O p0 p1 p2).2.1 ∧ ∃ (G' : Nat → Nat) (hd' : Option Nat) (nx' : Nat → Option Nat), G' 0 = G 0 ∧ w' = CW cy G' (spInsert S O p0 p1 p2).2.2 hd' nx' Y ∧ ChP nx' hd' (ordI (spInsert S O p0 p1 p2).2.2 (S 0 0) O)) (fun E => (E = eIAE ∧ (spInsert S O p0 p1 p2).1 = 1) ∨ (E = eIOB ∧ (spInsert S O p0 p1 p2).1 = 2) ∨ (E = eISE ∧ (spInsert S O p0 p1 p2).1 = 3)) 10 60 := by
  refine TI.of (cc := cX1_insert) (maxL := 6) (ret := (some .int)) (by decide) rfl (Nat.le_of_ble_eq_true rfl) ?_
  intro p e s m below meth c A ls E0 hT0 hl
  obtain ⟨hx, hb, hml, hown, hts, hr, hlocks, hA, hS, hP, hK, hD, hX⟩ := E0
  have hiX0 : ∀ w ∈ u_ws RX0 TX0 8, w ∈ wsX1_insert := by decide +kernel
  have hiX1 : ∀ w ∈ u_ws RX1 TX1 9, w ∈ wsX1_insert := by decide +kernel
  have hl : lv_has ls 6 [(0, .ref (G 0)), (1, .int p0), (2, .int p1), (3, .int p2)] := hl
  refine lv_iload_n hx hb dX1_insert_0 rfl (lv_at hl 1 rfl) ?_
  refine Y_v (vx_runS (As := [.int p0]) (rest := []) ⟨hx, hb, hml, hown, hts⟩ (c_X1_checkAuthor l hlf p0 _) (va_cwS 1 hts gX1_insert_X1_checkAuthor rfl rfl rfl (by decide +kernel) ⟨Nat.le_of_ble_eq_true rfl, Nat.le_of_ble_eq_true rfl⟩) (pS hP hK hD hS hA hX) rfl rfl hl.1 rfl (lv_room (Nat.le_of_ble_eq_true rfl)) dX1_insert_1 ⟨Nat.le_of_ble_eq_true rfl, Nat.le_of_ble_eq_true rfl⟩) hD hS hA (fun E ce q9 H locs hE hP hS ht => ?_) (fun w'  H locs hp hP hD hS => ?_)
  · exact Y_out hT0 hlocks hP hK hD hS ht (Or.inl (⟨hE.1, by simp [spInsert, hE.2]⟩)) (Nat.le_of_ble_eq_true rfl) (Nat.le_of_ble_eq_true rfl)
  obtain ⟨hU, hw9⟩ := hp
  rw [hw9] at hP hD
  refine lv_iload_n hx hb dX1_insert_4 rfl (lv_at hl 3 rfl) ?_
  refine lv_iconst (v := nI 0) hx hb dX1_insert_5 (by decide) ?_
  refine lv_bipush (v := nI 25) hx hb dX1_insert_6 (by decide) ?_
  refine Y_v (vx_runS (As := [.int p2, .int (nI 0), .int (nI 25)]) (rest := []) ⟨hx, hb, hml, hown, hts⟩ (c_X1_checkRange l hlf p2 (nI 0) (nI 25) _) (va_cwS 3 hts gX1_insert_X1_checkRange rfl rfl rfl (by decide +kernel) ⟨Nat.le_of_ble_eq_true rfl, Nat.le_of_ble_eq_true rfl⟩) (pS hP hK hD hS hA hX) rfl rfl hl.1 rfl (lv_room (Nat.le_of_ble_eq_true rfl)) dX1_insert_8 ⟨Nat.le_of_ble_eq_true rfl, Nat.le_of_ble_eq_true rfl⟩) hD hS hA (fun E ce q9 H locs hE hP hS ht => ?_) (fun w'  H locs hp hP hD hS => ?_)
  · have hE2 : inB p2 0 25 = false := hE.2
    exact Y_out hT0 hlocks hP hK hD hS ht (Or.inl (⟨hE.1, by simp [spInsert, hU, hE2]⟩)) (Nat.le_of_ble_eq_true rfl) (Nat.le_of_ble_eq_true rfl)
  obtain ⟨hV0, hw9⟩ := hp
  rw [hw9] at hP hD
  have hV : inB p2 0 25 = true := hV0
  have hn60 := hI.R.1
  have hlen := hI.len (aN p0)
  refine lv_iload_n hx hb dX1_insert_11 rfl (lv_at hl 2 rfl) ?_
  obtain ⟨len, elen⟩ : ∃ len, (txL S O (aN p0)).length = len := ⟨_, rfl⟩
  rw [elen] at hlen
  refine lv_if_ge (tgt := 25) hx hb dX1_insert_12 (by decide) (fun cN => ?_) (fun cN => ?_)
  · obtain ⟨a, ha, rfl⟩ := isA_n hU
    have ea := aN_n (show a < 2 ^ 31 by omega)
    obtain ⟨c9, hc9, rfl⟩ := inB_n (k := 25) (by decide) hV
    have ec := aN_n (show c9 < 2 ^ 31 by omega)
    obtain ⟨k, hk, rfl⟩ := nI_of_nn cN
    have ek := aN_n hk
    rw [ea] at elen
    have tail : ∀ (b : Nat) (H : Heap) (locs : List Loc) (ls : Array Slot), parL S O a k = b → (b = 0 ∨ b - 1 ∈ O) → k ≤ len → va_P D vwCl (CW cy G S hd nx Y) H → va_D A (CW cy G S hd nx Y) → va_S A s.heap H locs → lv_has ls 6 [(4, va_rf (if b = 0 then none else some (G (100 + 3 * (b - 1))))), (0, .ref (G 0)), (1, .int (nI a)), (2, .int (nI k)), (3, .int (nI c9))] → W p l e ({ frames := 8, cells := 10, slots := 60, locals := 132 } : Room) s m ([.ref (G 0), .int (nI a), .int (nI k), .int (nI c9)] : List Value).toArray below meth c H locs 3 18 (vx_MQ below (va_Qi (fun r w' => (spInsert S O (nI a) (nI k) (nI c9)).1 = 0 ∧ r = (spInsert S O (nI a) (nI k) (nI c9)).2.1 ∧ ∃ (G' : Nat → Nat) (hd' : Option Nat) (nx' : Nat → Option Nat), G' 0 = G 0 ∧ w' = CW cy G' (spInsert S O (nI a) (nI k) (nI c9)).2.2 hd' nx' Y ∧ ChP nx' hd' (ordI (spInsert S O (nI a) (nI k) (nI c9)).2.2 (S 0 0) O)) (fun w' t => wB D cy A w' t) A) (xQ D cy (fun E => (E = eIAE ∧ (spInsert S O (nI a) (nI k) (nI c9)).1 = 1) ∨ (E = eIOB ∧ (spInsert S O (nI a) (nI k) (nI c9)).1 = 2) ∨ (E = eISE ∧ (spInsert S O (nI a) (nI k) (nI c9)).1 = 3)) (CW cy G S hd nx Y) A) ([.ref (G 0), .int (nI a), .int (nI k), .int (nI c9)] : List Value).toArray s 10 60 A) (F0 m 43 ls []) := by
      intro b H locs ls epar hbO hkl hP hD hS hl
      refine lv_aload_n hx hb dX1_insert_43 rfl (lv_at hl 1 rfl) ?_
      refine va_get (D := D) (ci := 1) (v := .int (nI (S 0 0))) (C := RX1) (T := TX1) (N := 9) hx hb hts hiX1 hown hK hP (0) rfl rfl 1 (by decide) (hts (.fieldLink RX1 15 "CoauthorText" "signCount" "I") (by decide +kernel)) (fun _ h9 => h9) rfl dX1_insert_44 ?_
      refine lv_bipush (v := nI 60) hx hb dX1_insert_47 (by decide) ?_
      have hB : inB (nI k) 0 (nI len) = true := inB_of hkl (by omega)
      refine r_icmp_lt (tgt := 62) hx hb dX1_insert_49 (by decide) (by omega) (by omega) (fun cM => ?_) (fun cM => ?_)
      · refine r_new (own := RX1) (C := RX0) (T := TX0) (N := 8) (ci := 0) (fs := [.int 0, .int 0, .int 0, .int 0, .null, .null, .null, .null]) hx hb hts hiX0 tyX0_ok hown (by decide +kernel) (by decide +kernel) (by decide +kernel) hK hP hD hS hA rfl (fun j hj => by rcases (show j = 0 ∨ j = 1 ∨ j = 2 ∨ j = 3 ∨ j = 4 ∨ j = 5 ∨ j = 6 ∨ j = 7 by omega) with rfl | rfl | rfl | rfl | rfl | rfl | rfl | rfl <;> rfl) (Nat.le_of_ble_eq_true rfl) (Nat.le_of_ble_eq_true rfl) dX1_insert_62 (fun z H hP hD hS => ?_)
        replace hP := P_perm (CW_front _) hP
        replace hD := D_perm (CW_front _) hD
        refine lv_dup hx hb dX1_insert_65 rfl ?_
        refine lv_aload_n hx hb dX1_insert_66 rfl (lv_at hl 1 rfl) ?_
        refine va_get (D := D) (ci := 1) (v := .int (nI (S 0 0))) (C := RX1) (T := TX1) (N := 9) hx hb hts hiX1 hown hK hP (0) rfl rfl 1 (by decide) (hts (.fieldLink RX1 15 "CoauthorText" "signCount" "I") (by decide +kernel)) (fun _ h9 => h9) rfl dX1_insert_67 ?_
        refine lv_iload_n hx hb dX1_insert_70 rfl (lv_at hl 2 rfl) ?_
        refine lv_iload_n hx hb dX1_insert_71 rfl (lv_at hl 4 rfl) ?_
        refine lv_aload_n hx hb dX1_insert_72 rfl (lv_at hl 1 rfl) ?_
        refine lv_iload_n hx hb dX1_insert_73 rfl (lv_at hl 2 rfl) ?_
        refine K_i (va_runV (As := [.int (nI a)]) (rest := [.int (nI c9), .int (nI a), .int (nI (S 0 0)), .ref z, .ref z]) ⟨hx, hb, hml, hown, hts⟩ (c_X1_nextStamp l ha _) (cwV 1 hts gX1_insert_X1_nextStamp rfl rfl rfl (by decide +kernel) ⟨Nat.le_of_ble_eq_true rfl, Nat.le_of_ble_eq_true rfl⟩) (pV hP hK hD hS hA hX (va_recv hK hP (ci := 1) (q0 := 0) rfl rfl)) rfl rfl hl.1 rfl (lv_room (Nat.le_of_ble_eq_true rfl)) dX1_insert_74 ⟨Nat.le_of_ble_eq_true rfl, Nat.le_of_ble_eq_true rfl⟩) hD hS hA (fun r w'  H locs hp hP hD hS => ?_)
        obtain ⟨rfl, rfl⟩ := hp
        replace hP := P_perm (CW_front _).symm hP
        replace hD := D_perm (CW_front _).symm hD
        refine r_aloadq hx hb dX1_insert_77 (lv_at hl 0 rfl) ?_
        refine K_v (va_runIN (As := [.int (nI (S 0 0)), .int (nI a), .int (nI c9), .int (nI (4 * (S 8 a + 1) + a)), va_rf (if b = 0 then none else some (G (100 + 3 * (b - 1))))]) (rest := [.ref z]) ⟨hx, hb, hml, hown, hts⟩ (c_X0_init l ha _) ⟨va_cnB 5 hts gX1_insert_X0_init_n73 rfl rfl rfl hX.2.2.2.2.2.2.1.2.1 (hts (.initialized RX0) (by decide +kernel)) (by decide +kernel) ⟨Nat.le_of_ble_eq_true rfl, Nat.le_of_ble_eq_true rfl⟩, rfl, hts (.instanceMethod yX0_init) (by decide +kernel)⟩ (pS hP hK hD hS hA hX) rfl rfl hl.1 rfl (lv_room (Nat.le_of_ble_eq_true rfl)) dX1_insert_79 ⟨Nat.le_of_ble_eq_true rfl, Nat.le_of_ble_eq_true rfl⟩) hD hS hA (fun w'  H locs hp hP hD hS => ?_)
        obtain ⟨q2, q3, rfl⟩ := hp
        refine lv_astore (lv' := [(5, .ref z), (4, va_rf (if b = 0 then none else some (G (100 + 3 * (b - 1))))), (0, .ref (G 0)), (1, .int (nI a)), (2, .int (nI k)), (3, .int (nI c9))]) hx hb dX1_insert_82 hl (by decide) (by generalize (if b = 0 then none else some (G (100 + 3 * (b - 1)))) = o9; cases o9 <;> rfl) (fun ls hl => ?_)
        refine lv_aload_n hx hb dX1_insert_84 rfl (lv_at hl 2 rfl) ?_
        refine va_get (D := D) (ci := 1) (v := .ref (G 1)) (C := RX1) (T := TX1) (N := 9) hx hb hts hiX1 hown hK hP (3) rfl rfl 0 (by decide) (hts (.fieldLink RX1 11 "CoauthorText" "signsByNumber" "[LCoauthorText$Sign;") (by decide +kernel)) (fun _ h9 => h9) rfl dX1_insert_85 ?_
        refine lv_aload_n hx hb dX1_insert_88 rfl (lv_at hl 2 rfl) ?_
        refine va_get (D := D) (ci := 1) (v := .int (nI (S 0 0))) (C := RX1) (T := TX1) (N := 9) hx hb hts hiX1 hown hK hP (3) rfl rfl 1 (by decide) (hts (.fieldLink RX1 15 "CoauthorText" "signCount" "I") (by decide +kernel)) (fun _ h9 => h9) rfl dX1_insert_89 ?_
        refine lv_aload hx hb dX1_insert_92 (lv_at hl 0 rfl) ?_
        refine r_astq (w' := (q3, .inl (cy 2, 4, .inl (fun _ => 0))) :: (q2, .inl (cy 0, 4, .inl (fun j => if j = a then nI 0 else -1))) :: (z, .inr (0, [.int (nI (S 0 0)), .int (nI a), .int (nI c9), .int (nI (4 * (S 8 a + 1) + a)), va_rf (if b = 0 then none else some (G (100 + 3 * (b - 1)))), .null, .ref q2, .ref q3])) :: CWx cy G (up2 S 8 a (S 8 a + 1)) hd nx Y (S 0 0) (va_up (sgF S G) (S 0 0) (some z))) (r := (RX0, TX0, 8)) (q0 := 4) (qk := 2) (ci := 0) (f := sgF S G) 3 hx hb hK hP hD hS rfl rfl rfl rfl (show S 0 0 < 60 by omega) (by decide) dX1_insert_94 rfl (fun H locs hP hD hS => ?_)
        refine lv_aload_n hx hb dX1_insert_95 rfl (lv_at hl 2 rfl) ?_
        refine lv_dup hx hb dX1_insert_96 rfl ?_
        refine va_get (D := D) (ci := 1) (v := .int (nI (S 0 0))) (C := RX1) (T := TX1) (N := 9) hx hb hts hiX1 hown hK hP (3) rfl rfl 1 (by decide) (hts (.fieldLink RX1 15 "CoauthorText" "signCount" "I") (by decide +kernel)) (fun _ h9 => h9) rfl dX1_insert_97 ?_
        refine lv_iconst (v := nI 1) hx hb dX1_insert_100 (by decide) ?_
        refine r_iadd hx hb dX1_insert_101 ?_
        refine r_put (w' := (q3, .inl (cy 2, 4, .inl (fun _ => 0))) :: (q2, .inl (cy 0, 4, .inl (fun j => if j = a then nI 0 else -1))) :: (z, .inr (0, [.int (nI (S 0 0)), .int (nI a), .int (nI c9), .int (nI (4 * (S 8 a + 1) + a)), va_rf (if b = 0 then none else some (G (100 + 3 * (b - 1)))), .null, .ref q2, .ref q3])) :: CWx cy G (up2 S 8 a (S 8 a + 1)) hd nx Y (S 0 0 + 1) (va_up (sgF S G) (S 0 0) (some z))) (own := RX1) (C := RX1) (T := TX1) (N := 9) (ci := 1) (q0 := 3) (k := 1) (index := 15) (ty := .int) hx hb hts hiX1 tyX1_ok nmX1 hown hK hP hD hS rfl rfl (by decide) (by decide +kernel) rfl (by decide +kernel) rfl rfl (Nat.le_of_ble_eq_true rfl) dX1_insert_102 rfl (fun H locs hP hD hS => ?_)
        have hb9 : b = 0 ∨ b - 1 < S 0 0 := hbO.imp id (hI.om _)
        have hC := CW_new hI hO (by omega) ha hb9 hP hD
        have hnO : S 0 0 ∉ O := fun h => Nat.lt_irrefl _ (hI.om _ h)
        obtain ⟨G9, nx9, e0, ez, hO9, hP, hD⟩ : ∃ (G9 : Nat → Nat) (nx9 : Nat → Option Nat), G9 0 = G 0 ∧ G9 (100 + 3 * S 0 0) = z ∧ ChP nx9 hd O ∧ va_P D vwCl (CW cy G9 (insS S a b c9) hd nx9 Y) H ∧ va_D A (CW cy G9 (insS S a b c9) hd nx9 Y) := ⟨_, _, gUp_lo (by omega), gUp_z _ _ _ _ _, ChP_upn hnO hO, hC.1, hC.2⟩
        have hl : lv_has ls 6 [(5, .ref (G9 (100 + 3 * S 0 0))), (4, va_rf (if b = 0 then none else some (G (100 + 3 * (b - 1))))), (0, .ref (G9 0)), (1, .int (nI a)), (2, .int (nI k)), (3, .int (nI c9))] := by rw [ez, e0]; exact hl
        have hz0 : S 0 0 < (insS S a b c9) 0 0 := by simp [insS, up2]
        have e4 : (insS S a b c9) 4 (S 0 0) = b := by simp [insS, up2]
        have hb60 : b ≤ 60 := by omega
        have hn00 : (insS S a b c9) 0 0 = S 0 0 + 1 := by simp [insS, up2]
        have hsp : spInsert S O (nI a) (nI k) (nI c9) = (0, nI (S 0 0), insS S a b c9) := by simp [spInsert, hU, hV, ea, ek, ec, elen, hB, epar, show ¬ S 0 0 = 60 by omega]
        refine lv_aload_n hx hb dX1_insert_105 rfl (lv_at hl 2 rfl) ?_
        refine lv_aload hx hb dX1_insert_106 (lv_at hl 0 rfl) ?_
        refine K_v (va_runV (As := [.ref (G9 (100 + 3 * S 0 0))]) (rest := []) ⟨hx, hb, hml, hown, hts⟩ (c_X1_putInOrder l (hI.R.ins hF ha hb60 (by omega) (by omega)) hO9 (fun i hi => by rw [hn00]; exact Nat.lt_succ_of_lt (hI.om i hi)) hI.2.2.2.1 hz0 hnO (by rw [e4]; exact hbO) _) (cwV 1 hts gX1_insert_X1_putInOrder rfl rfl rfl (by decide +kernel) ⟨Nat.le_of_ble_eq_true rfl, Nat.le_of_ble_eq_true rfl⟩) (pV hP hK hD hS hA hX (va_recv hK hP (ci := 1) (q0 := 0) rfl rfl)) rfl rfl hl.1 rfl (lv_room (Nat.le_of_ble_eq_true rfl)) dX1_insert_108 ⟨Nat.le_of_ble_eq_true rfl, Nat.le_of_ble_eq_true rfl⟩) hD hS hA (fun w'  H locs hp hP hD hS => ?_)
        obtain ⟨hd', nx', rfl, hO'⟩ := hp
        refine lv_aload hx hb dX1_insert_111 (lv_at hl 0 rfl) ?_
        refine va_getN (D := D) (ci := 0) (v := .int (nI (S 0 0))) (C := RX0) (T := TX0) (N := 8) (host := RX1) hx hb hts hiX0 hown hK hP (6 + (20 + (S 0 0))) (CW_sg hz0) rfl 0 (by decide) (va_Nw.use rfl hX.2.2.2.2.2.1.2.2.2.2.2) (fun _ h9 => h9) rfl dX1_insert_113 ?_
        exact vx_ret (C_iret hx hb hr hlocks hS hP hK hD (Nat.le_of_ble_eq_true rfl) (Nat.le_of_ble_eq_true rfl) dX1_insert_116 (by rw [hsp]; exact ⟨rfl, rfl, G9, hd', nx', e0, rfl, hO'⟩))
      · obtain ⟨tx, x0, x1, x2, x3, x4, x5, x6, x7, x8⟩ := hX.2.2.2.2.2.2.2.1
        exact Y_throw (own := RX1) (E := "java/lang/IllegalStateException") (ik := 64) (is := 66) (ic := 68) (ws := wsX1_insert) hT0 hx hb hlf hlocks hown hts hP hK hD hS hX hX.2.2.2.1 x7 (by rw [hml]; exact hl.1) (by decide +kernel) (by decide +kernel) (by decide +kernel) (by decide +kernel) (by decide +kernel) (by decide +kernel) dX1_insert_52 dX1_insert_55 dX1_insert_56 dX1_insert_58 dX1_insert_61 (Nat.le_of_ble_eq_true rfl) (Nat.le_of_ble_eq_true rfl) (Nat.le_of_ble_eq_true rfl) (Nat.le_of_ble_eq_true rfl) (Or.inr (Or.inr (⟨rfl, by simp [spInsert, hU, hV, ea, elen, hB, show S 0 0 = 60 by omega]⟩))) (Nat.le_of_ble_eq_true rfl) (Nat.le_of_ble_eq_true rfl)
    refine lv_iload_n hx hb dX1_insert_25 rfl (lv_at hl 2 rfl) ?_
    refine r_if_ne (tgt := 33) hx hb dX1_insert_26 (by decide) hk (fun cZ => ?_) (fun cZ => ?_)
    · refine lv_aload_n hx hb dX1_insert_33 rfl (lv_at hl 0 rfl) ?_
      refine lv_iload_n hx hb dX1_insert_34 rfl (lv_at hl 1 rfl) ?_
      refine lv_iload_n hx hb dX1_insert_35 rfl (lv_at hl 2 rfl) ?_
      refine lv_iconst (v := nI 1) hx hb dX1_insert_36 (by decide) ?_
      refine r_isub hx hb dX1_insert_37 (by omega) ?_
      refine Y_q (vx_runV (As := [.int (nI a), .int (nI (k - 1))]) (rest := []) ⟨hx, hb, hml, hown, hts⟩ (c_X1_findAtPlace l hlf hI.R hO hI.om hI.ol ha (nI (k - 1)) _) (cwV 2 hts gX1_insert_X1_findAtPlace rfl rfl rfl (by decide +kernel) ⟨Nat.le_of_ble_eq_true rfl, Nat.le_of_ble_eq_true rfl⟩) (pV hP hK hD hS hA hX (va_recv hK hP (ci := 1) (q0 := 0) rfl rfl)) rfl rfl hl.1 rfl (lv_room (Nat.le_of_ble_eq_true rfl)) dX1_insert_38 ⟨Nat.le_of_ble_eq_true rfl, Nat.le_of_ble_eq_true rfl⟩) hD hS hA (fun E ce q9 H locs hE hP hS ht => ?_) (fun r w'  H locs hp hP hD hS => ?_)
      · have hlk : ¬ k ≤ len := fun h => by
          have h9 := hE.2
          rw [elen, inS_of (show k - 1 < len by omega) (by omega)] at h9
          cases h9
        have hB : inB (nI k) 0 (nI len) = false := by
          rw [Bool.eq_false_iff]
          intro h
          obtain ⟨j, hj, ej⟩ := inB_n (by omega) h
          have := (nI_eq hk (by omega)).mp ej
          omega
        exact Y_out hT0 hlocks hP hK hD hS ht (Or.inr (Or.inl (⟨hE.1, by simp [spInsert, hU, hV, ea, elen, hB]⟩))) (Nat.le_of_ble_eq_true rfl) (Nat.le_of_ble_eq_true rfl)
      obtain ⟨hV2, rfl, hw9⟩ := hp
      rw [hw9] at hP hD
      rw [aN_n (show k - 1 < 2 ^ 31 by omega)]
      have hk1 : k - 1 < len := by
        rw [elen] at hV2
        obtain ⟨j, hj, ej⟩ := inS_n (by omega) hV2
        have := (nI_eq (by omega) (by omega)).mp ej
        omega
      obtain ⟨i9, ei⟩ : ∃ i9, (txL S O a).getD (k - 1) 0 = i9 := ⟨_, rfl⟩
      have hm := getD_mem (L := txL S O a) (by rw [elen]; exact hk1)
      rw [ei] at hm
      rw [ei]
      refine r_topr (a9 := G (100 + 3 * i9)) rfl ?_
      refine lv_astore (lv' := [(4, .ref (G (100 + 3 * i9))), (0, .ref (G 0)), (1, .int (nI a)), (2, .int (nI k)), (3, .int (nI c9))]) hx hb dX1_insert_41 hl (by decide) rfl (fun ls hl => ?_)
      refine tail (i9 + 1) _ _ ls (by rw [parL, if_neg (by omega), ei]) (Or.inr (List.mem_filter.mp hm).1) (by omega) hP hD hS ?_
      rw [if_neg (Nat.succ_ne_zero i9), Nat.add_sub_cancel]
      exact (lv_sub hl [0, 1, 2, 3, 4] rfl)
    · refine lv_null hx hb dX1_insert_29 ?_
      refine lv_goto (tgt := 41) hx hb dX1_insert_30 (by decide) ?_
      refine lv_astoreN (lv' := [(4, .null), (0, .ref (G 0)), (1, .int (nI a)), (2, .int (nI k)), (3, .int (nI c9))]) hx hb dX1_insert_41 hl (by decide) rfl (fun ls hl => ?_)
      subst cZ
      refine W.widen (by decide) (by decide) (tail 0 _ _ ls rfl (Or.inl rfl) (Nat.zero_le _) hP hD hS ?_)
      rw [if_pos rfl]
      exact (lv_sub hl [0, 1, 2, 3, 4] rfl)
  · have h9 : inB p1 0 (nI (txL S O (aN p0)).length) = false := by unfold inB; rw [decide_eq_false cN]; rfl
    obtain ⟨tx, x0, x1, x2, x3, x4, x5, x6, x7, x8⟩ := hX.2.2.2.2.2.2.2.1
    exact Y_throw (own := RX1) (E := "java/lang/IndexOutOfBoundsException") (ik := 53) (is := 55) (ic := 57) (ws := wsX1_insert) hT0 hx hb hlf hlocks hown hts hP hK hD hS hX hX.2.2.2.2.1 x6 (by rw [hml]; exact hl.1) (by decide +kernel) (by decide +kernel) (by decide +kernel) (by decide +kernel) (by decide +kernel) (by decide +kernel) dX1_insert_15 dX1_insert_18 dX1_insert_19 dX1_insert_21 dX1_insert_24 (Nat.le_of_ble_eq_true rfl) (Nat.le_of_ble_eq_true rfl) (Nat.le_of_ble_eq_true rfl) (Nat.le_of_ble_eq_true rfl) (Or.inr (Or.inl (⟨rfl, by simp [spInsert, hU, hV, h9]⟩))) (Nat.le_of_ble_eq_true rfl) (Nat.le_of_ble_eq_true rfl)
