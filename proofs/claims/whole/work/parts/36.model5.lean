/-! ===== the reference: insert, remove, restore ===== -/
set_option maxHeartbeats 4000000 in
set_option maxRecDepth 100000 in
theorem c_X2_insert (l : Launch) {D : va_G} {cy : Nat → ClassId} {B : Nat → Nat} {S T : Nat → Nat → Nat} {Y : va_W} {O : List Nat} (hI : Inv S O) (p0 p1 p2 : Int32) : CI l yX2_insert wsX2_insert ({ frames := 4, cells := 0, slots := 0, locals := 82 } : Room) D cy [.ref (B 0), .int p0, .int p1, .int p2] (MW cy B S T Y) (fun r w' => ∃ T' : Nat → Nat → Nat, T' 0 2 = (spInsert S O p0 p1 p2).1 ∧ w' = MW cy B (spInsert S O p0 p1 p2).2.2 T' Y ∧ ((spInsert S O p0 p1 p2).1 = 0 → r = (spInsert S O p0 p1 p2).2.1)) 0 0 := by
  refine CI.of (cc := cX2_insert) (maxL := 4) (ret := (some .int)) (by decide) rfl (Nat.le_of_ble_eq_true rfl) ?_
  intro p e s m below meth c A ls E0 hl
  obtain ⟨hx, hb, hml, hown, hts, hr, hlocks, hA, hS, hP, hK, hD, hX⟩ := E0
  have hiX2 : ∀ w ∈ u_ws RX2 TX2 19, w ∈ wsX2_insert := by decide +kernel
  have hl : lv_has ls 4 [(0, .ref (B 0)), (1, .int p0), (2, .int p1), (3, .int p2)] := hl
  refine lv_aload_n hx hb dX2_insert_0 rfl (lv_at hl 0 rfl) ?_
  refine lv_iload_n hx hb dX2_insert_1 rfl (lv_at hl 1 rfl) ?_
  refine K_i (va_runS (As := [.int p0]) (rest := [.ref (B 0)]) ⟨hx, hb, hml, hown, hts⟩ (c_X2_isAuthor l p0 _) (va_cwS 1 hts gX2_insert_X2_isAuthor rfl rfl rfl (by decide +kernel) ⟨Nat.le_of_ble_eq_true rfl, Nat.le_of_ble_eq_true rfl⟩) (pS hP hK hD hS hA hX) rfl rfl hl.1 rfl (lv_room (Nat.le_of_ble_eq_true rfl)) dX2_insert_2 ⟨Nat.le_of_ble_eq_true rfl, Nat.le_of_ble_eq_true rfl⟩) hD hS hA (fun r w'  H locs hp hP hD hS => ?_)
  obtain ⟨rfl, hw9⟩ := hp
  rw [hw9] at hP hD
  refine r_if_eq (tgt := 22) hx hb dX2_insert_5 (by decide) (Nat.lt_trans (bN_lt _) (by decide)) (fun cA => ?_) (fun cA => ?_)
  · have hU := bN_0.mp cA
    refine lv_iconst (v := nI 1) hx hb dX2_insert_22 (by decide) ?_
    refine K_i (va_runV (As := [.int (nI 1)]) (rest := []) ⟨hx, hb, hml, hown, hts⟩ (c_X2_goes l (k := 1) (by decide) _) (cwV 1 hts gX2_insert_X2_goes rfl rfl rfl (by decide +kernel) ⟨Nat.le_of_ble_eq_true rfl, Nat.le_of_ble_eq_true rfl⟩) (pV hP hK hD hS hA hX (va_recv hK hP (ci := 2) (q0 := 0) rfl rfl)) rfl rfl hl.1 rfl (lv_room (Nat.le_of_ble_eq_true rfl)) dX2_insert_23 ⟨Nat.le_of_ble_eq_true rfl, Nat.le_of_ble_eq_true rfl⟩) hD hS hA (fun r w'  H locs hp hP hD hS => ?_)
    obtain ⟨hr9, rfl⟩ := hp
    obtain rfl : r = nI 0 := hr9
    refine r_if_ne (tgt := 31) hx hb dX2_insert_26 (by decide) (by decide) (fun c1 => ?_) (fun c1 => ?_)
    · omega
    · refine lv_iconst (v := nI 0) hx hb dX2_insert_29 (by decide) ?_
      exact C_iret hx hb hr hlocks hS hP hK hD (Nat.le_of_ble_eq_true rfl) (Nat.le_of_ble_eq_true rfl) dX2_insert_30 (by rw [show spInsert S O p0 p1 p2 = (1, 0, S) from by simp [spInsert, hU]]; exact ⟨_, up2_s _ _ _ _, rfl, fun h => absurd (show (1 : Nat) = 0 from h) (by decide)⟩)
  · have hU := bN_1.mp cA
    refine lv_iload_n hx hb dX2_insert_8 rfl (lv_at hl 3 rfl) ?_
    refine lv_iconst (v := nI 0) hx hb dX2_insert_9 (by decide) ?_
    refine lv_bipush (v := nI 25) hx hb dX2_insert_10 (by decide) ?_
    refine K_i (va_runS (As := [.int p2, .int (nI 0), .int (nI 25)]) (rest := [.ref (B 0)]) ⟨hx, hb, hml, hown, hts⟩ (c_X2_isIn l p2 (nI 0) (nI 25) _) (va_cwS 3 hts gX2_insert_X2_isIn rfl rfl rfl (by decide +kernel) ⟨Nat.le_of_ble_eq_true rfl, Nat.le_of_ble_eq_true rfl⟩) (pS hP hK hD hS hA hX) rfl rfl hl.1 rfl (lv_room (Nat.le_of_ble_eq_true rfl)) dX2_insert_12 ⟨Nat.le_of_ble_eq_true rfl, Nat.le_of_ble_eq_true rfl⟩) hD hS hA (fun r w'  H locs hp hP hD hS => ?_)
    obtain ⟨rfl, hw9⟩ := hp
    rw [hw9] at hP hD
    refine r_if_eq (tgt := 22) hx hb dX2_insert_15 (by decide) (Nat.lt_trans (bN_lt _) (by decide)) (fun cB => ?_) (fun cB => ?_)
    · have hV : inB p2 0 25 = false := bN_0.mp cB
      refine lv_iconst (v := nI 1) hx hb dX2_insert_22 (by decide) ?_
      refine K_i (va_runV (As := [.int (nI 1)]) (rest := []) ⟨hx, hb, hml, hown, hts⟩ (c_X2_goes l (k := 1) (by decide) _) (cwV 1 hts gX2_insert_X2_goes rfl rfl rfl (by decide +kernel) ⟨Nat.le_of_ble_eq_true rfl, Nat.le_of_ble_eq_true rfl⟩) (pV hP hK hD hS hA hX (va_recv hK hP (ci := 2) (q0 := 0) rfl rfl)) rfl rfl hl.1 rfl (lv_room (Nat.le_of_ble_eq_true rfl)) dX2_insert_23 ⟨Nat.le_of_ble_eq_true rfl, Nat.le_of_ble_eq_true rfl⟩) hD hS hA (fun r w'  H locs hp hP hD hS => ?_)
      obtain ⟨hr9, rfl⟩ := hp
      obtain rfl : r = nI 0 := hr9
      refine r_if_ne (tgt := 31) hx hb dX2_insert_26 (by decide) (by decide) (fun c2 => ?_) (fun c2 => ?_)
      · omega
      · refine lv_iconst (v := nI 0) hx hb dX2_insert_29 (by decide) ?_
        exact C_iret hx hb hr hlocks hS hP hK hD (Nat.le_of_ble_eq_true rfl) (Nat.le_of_ble_eq_true rfl) dX2_insert_30 (by rw [show spInsert S O p0 p1 p2 = (1, 0, S) from by simp [spInsert, hU, hV]]; exact ⟨_, up2_s _ _ _ _, rfl, fun h => absurd (show (1 : Nat) = 0 from h) (by decide)⟩)
    · have hV : inB p2 0 25 = true := bN_1.mp cB
      refine lv_iconst (v := nI 0) hx hb dX2_insert_18 (by decide) ?_
      refine lv_goto (tgt := 23) hx hb dX2_insert_19 (by decide) ?_
      refine K_i (va_runV (As := [.int (nI 0)]) (rest := []) ⟨hx, hb, hml, hown, hts⟩ (c_X2_goes l (k := 0) (by decide) _) (cwV 1 hts gX2_insert_X2_goes rfl rfl rfl (by decide +kernel) ⟨Nat.le_of_ble_eq_true rfl, Nat.le_of_ble_eq_true rfl⟩) (pV hP hK hD hS hA hX (va_recv hK hP (ci := 2) (q0 := 0) rfl rfl)) rfl rfl hl.1 rfl (lv_room (Nat.le_of_ble_eq_true rfl)) dX2_insert_23 ⟨Nat.le_of_ble_eq_true rfl, Nat.le_of_ble_eq_true rfl⟩) hD hS hA (fun r w'  H locs hp hP hD hS => ?_)
      obtain ⟨hr9, rfl⟩ := hp
      obtain rfl : r = nI 1 := hr9
      refine r_if_ne (tgt := 31) hx hb dX2_insert_26 (by decide) (by decide) (fun c3 => ?_) (fun c3 => ?_)
      · obtain ⟨v, hv, rfl⟩ := inB_n (k := 25) (by decide) hV
        obtain ⟨a, ha, rfl⟩ := isA_n hU
        have hn60 := hI.R.1
        have hl60 := hI.len a
        have ea := aN_n (show a < 2 ^ 31 by omega)
        have ev := aN_n (show v < 2 ^ 31 by omega)
        refine lv_aload_n hx hb dX2_insert_31 rfl (lv_at hl 0 rfl) ?_
        refine lv_iload_n hx hb dX2_insert_32 rfl (lv_at hl 1 rfl) ?_
        refine K_v (va_runV (As := [.int (nI a)]) (rest := []) ⟨hx, hb, hml, hown, hts⟩ (c_X2_laysText l hI.R hI.g (a := a) ha (hI.lay ha) _) (cwV 1 hts gX2_insert_X2_laysText rfl rfl rfl (by decide +kernel) ⟨Nat.le_of_ble_eq_true rfl, Nat.le_of_ble_eq_true rfl⟩) (pV hP hK hD hS hA hX (va_recv hK hP (ci := 2) (q0 := 0) rfl rfl)) rfl rfl hl.1 rfl (lv_room (Nat.le_of_ble_eq_true rfl)) dX2_insert_33 ⟨Nat.le_of_ble_eq_true rfl, Nat.le_of_ble_eq_true rfl⟩) hD hS hA (fun w'  H locs hp hP hD hS => ?_)
        obtain ⟨T2, rfl, h2, ht⟩ := hp
        rw [lay_txt] at ht
        refine lv_aload_n hx hb dX2_insert_36 rfl (lv_at hl 0 rfl) ?_
        refine lv_iload_n hx hb dX2_insert_37 rfl (lv_at hl 2 rfl) ?_
        refine lv_iconst (v := nI 0) hx hb dX2_insert_38 (by decide) ?_
        refine lv_aload_n hx hb dX2_insert_39 rfl (lv_at hl 0 rfl) ?_
        refine va_get (D := D) (ci := 2) (v := .int (nI (T2 0 0))) (C := RX2) (T := TX2) (N := 19) hx hb hts hiX2 hown hK hP (0) rfl rfl 16 (by decide) (hts (.fieldLink RX2 76 "CoauthorTextModel" "length" "I") (by decide +kernel)) (fun _ h9 => h9) rfl dX2_insert_40 ?_
        refine K_i (va_runS (As := [.int p1, .int (nI 0), .int (nI (T2 0 0))]) (rest := [.ref (B 0)]) ⟨hx, hb, hml, hown, hts⟩ (c_X2_isIn l p1 (nI 0) (nI (T2 0 0)) _) (va_cwS 3 hts gX2_insert_X2_isIn rfl rfl rfl (by decide +kernel) ⟨Nat.le_of_ble_eq_true rfl, Nat.le_of_ble_eq_true rfl⟩) (pS hP hK hD hS hA hX) rfl rfl hl.1 rfl (lv_room (Nat.le_of_ble_eq_true rfl)) dX2_insert_43 ⟨Nat.le_of_ble_eq_true rfl, Nat.le_of_ble_eq_true rfl⟩) hD hS hA (fun r w'  H locs hp hP hD hS => ?_)
        obtain ⟨rfl, hw9⟩ := hp
        rw [hw9] at hP hD
        refine r_if_ne (tgt := 53) hx hb dX2_insert_46 (by decide) (Nat.lt_trans (bN_lt _) (by decide)) (fun cC => ?_) (fun cC => ?_)
        · have hW : inB p1 0 (nI (txL S O a).length) = true := by rw [← ht.1]; exact bN_1.mp cC
          refine lv_aload_n hx hb dX2_insert_53 rfl (lv_at hl 0 rfl) ?_
          refine va_get (D := D) (ci := 2) (v := .int (nI (S 0 0))) (C := RX2) (T := TX2) (N := 19) hx hb hts hiX2 hown hK hP (0) rfl rfl 0 (by decide) (hts (.fieldLink RX2 59 "CoauthorTextModel" "signs" "I") (by decide +kernel)) (fun _ h9 => h9) rfl dX2_insert_54 ?_
          refine lv_bipush (v := nI 60) hx hb dX2_insert_57 (by decide) ?_
          refine r_icmp_ne (tgt := 66) hx hb dX2_insert_59 (by decide) (by omega) (by omega) (fun cD => ?_) (fun cD => ?_)
          · refine lv_iconst (v := nI 0) hx hb dX2_insert_66 (by decide) ?_
            refine K_i (va_runV (As := [.int (nI 0)]) (rest := []) ⟨hx, hb, hml, hown, hts⟩ (c_X2_goes l (k := 0) (by decide) _) (cwV 1 hts gX2_insert_X2_goes rfl rfl rfl (by decide +kernel) ⟨Nat.le_of_ble_eq_true rfl, Nat.le_of_ble_eq_true rfl⟩) (pV hP hK hD hS hA hX (va_recv hK hP (ci := 2) (q0 := 0) rfl rfl)) rfl rfl hl.1 rfl (lv_room (Nat.le_of_ble_eq_true rfl)) dX2_insert_67 ⟨Nat.le_of_ble_eq_true rfl, Nat.le_of_ble_eq_true rfl⟩) hD hS hA (fun r w'  H locs hp hP hD hS => ?_)
            obtain ⟨hr9, rfl⟩ := hp
            obtain rfl : r = nI 1 := hr9
            refine r_if_ne (tgt := 75) hx hb dX2_insert_70 (by decide) (by decide) (fun c4 => ?_) (fun c4 => ?_)
            · obtain ⟨k, hk, rfl⟩ := inB_n (by omega) hW
              have ek := aN_n (show k < 2 ^ 31 by omega)
              refine lv_aload_n hx hb dX2_insert_75 rfl (lv_at hl 0 rfl) ?_
              refine lv_iload_n hx hb dX2_insert_76 rfl (lv_at hl 1 rfl) ?_
              refine K_i (va_runV (As := [.int (nI a)]) (rest := []) ⟨hx, hb, hml, hown, hts⟩ (c_X2_stamp l ha _) (cwV 1 hts gX2_insert_X2_stamp rfl rfl rfl (by decide +kernel) ⟨Nat.le_of_ble_eq_true rfl, Nat.le_of_ble_eq_true rfl⟩) (pV hP hK hD hS hA hX (va_recv hK hP (ci := 2) (q0 := 0) rfl rfl)) rfl rfl hl.1 rfl (lv_room (Nat.le_of_ble_eq_true rfl)) dX2_insert_77 ⟨Nat.le_of_ble_eq_true rfl, Nat.le_of_ble_eq_true rfl⟩) hD hS hA (fun r w'  H locs hp hP hD hS => ?_)
              obtain ⟨rfl, rfl⟩ := hp
              refine lv_pop hx hb dX2_insert_80 rfl ?_
              refine lv_aload_n hx hb dX2_insert_81 rfl (lv_at hl 0 rfl) ?_
              refine va_get (D := D) (ci := 2) (v := .ref (B 1)) (C := RX2) (T := TX2) (N := 19) hx hb hts hiX2 hown hK hP (0) rfl rfl 1 (by decide) (hts (.fieldLink RX2 7 "CoauthorTextModel" "authors" "[I") (by decide +kernel)) (fun _ h9 => h9) rfl dX2_insert_82 ?_
              refine lv_aload_n hx hb dX2_insert_85 rfl (lv_at hl 0 rfl) ?_
              refine va_get (D := D) (ci := 2) (v := .int (nI (S 0 0))) (C := RX2) (T := TX2) (N := 19) hx hb hts hiX2 hown hK hP (0) rfl rfl 0 (by decide) (hts (.fieldLink RX2 59 "CoauthorTextModel" "signs" "I") (by decide +kernel)) (fun _ h9 => h9) rfl dX2_insert_86 ?_
              refine lv_iload_n hx hb dX2_insert_89 rfl (lv_at hl 1 rfl) ?_
              refine r_iast (w' := MW cy B (up2 (up2 S 8 a (S 8 a + 1)) 1 (S 0 0) a) (up2 T2 0 2 0) Y) hx hb hK hP hD hS (1) rfl (by omega) (by decide) dX2_insert_90 (by rw [show upd (fun j => nI ((up2 S 8 a (S 8 a + 1)) 1 j)) (S 0 0) (nI a) = fun j => nI ((up2 (up2 S 8 a (S 8 a + 1)) 1 (S 0 0) a) 1 j) from upd_n (up2 S 8 a (S 8 a + 1)) 1 _ _]; rfl) (fun H locs hP hD hS => ?_)
              refine lv_aload_n hx hb dX2_insert_91 rfl (lv_at hl 0 rfl) ?_
              refine va_get (D := D) (ci := 2) (v := .ref (B 2)) (C := RX2) (T := TX2) (N := 19) hx hb hts hiX2 hown hK hP (0) rfl rfl 2 (by decide) (hts (.fieldLink RX2 13 "CoauthorTextModel" "letters" "[I") (by decide +kernel)) (fun _ h9 => h9) rfl dX2_insert_92 ?_
              refine lv_aload_n hx hb dX2_insert_95 rfl (lv_at hl 0 rfl) ?_
              refine va_get (D := D) (ci := 2) (v := .int (nI (S 0 0))) (C := RX2) (T := TX2) (N := 19) hx hb hts hiX2 hown hK hP (0) rfl rfl 0 (by decide) (hts (.fieldLink RX2 59 "CoauthorTextModel" "signs" "I") (by decide +kernel)) (fun _ h9 => h9) rfl dX2_insert_96 ?_
              refine lv_iload_n hx hb dX2_insert_99 rfl (lv_at hl 3 rfl) ?_
              refine r_iast (w' := MW cy B (up2 (up2 (up2 S 8 a (S 8 a + 1)) 1 (S 0 0) a) 2 (S 0 0) v) (up2 T2 0 2 0) Y) hx hb hK hP hD hS (2) rfl (by omega) (by decide) dX2_insert_100 (by rw [show upd (fun j => nI ((up2 (up2 S 8 a (S 8 a + 1)) 1 (S 0 0) a) 2 j)) (S 0 0) (nI v) = fun j => nI ((up2 (up2 (up2 S 8 a (S 8 a + 1)) 1 (S 0 0) a) 2 (S 0 0) v) 2 j) from upd_n (up2 (up2 S 8 a (S 8 a + 1)) 1 (S 0 0) a) 2 _ _]; rfl) (fun H locs hP hD hS => ?_)
              refine lv_aload_n hx hb dX2_insert_101 rfl (lv_at hl 0 rfl) ?_
              refine va_get (D := D) (ci := 2) (v := .ref (B 3)) (C := RX2) (T := TX2) (N := 19) hx hb hts hiX2 hown hK hP (0) rfl rfl 3 (by decide) (hts (.fieldLink RX2 16 "CoauthorTextModel" "clocksOf" "[I") (by decide +kernel)) (fun _ h9 => h9) rfl dX2_insert_102 ?_
              refine lv_aload_n hx hb dX2_insert_105 rfl (lv_at hl 0 rfl) ?_
              refine va_get (D := D) (ci := 2) (v := .int (nI (S 0 0))) (C := RX2) (T := TX2) (N := 19) hx hb hts hiX2 hown hK hP (0) rfl rfl 0 (by decide) (hts (.fieldLink RX2 59 "CoauthorTextModel" "signs" "I") (by decide +kernel)) (fun _ h9 => h9) rfl dX2_insert_106 ?_
              refine lv_aload_n hx hb dX2_insert_109 rfl (lv_at hl 0 rfl) ?_
              refine va_get (D := D) (ci := 2) (v := .ref (B 8)) (C := RX2) (T := TX2) (N := 19) hx hb hts hiX2 hown hK hP (0) rfl rfl 8 (by decide) (hts (.fieldLink RX2 32 "CoauthorTextModel" "clocks" "[I") (by decide +kernel)) (fun _ h9 => h9) rfl dX2_insert_110 ?_
              refine lv_iload_n hx hb dX2_insert_113 rfl (lv_at hl 1 rfl) ?_
              refine r_iald hx hb hK hP (8) rfl (by omega) (by decide) dX2_insert_114 ?_
              refine lv_topi (fun y9 ey9 => ?_)
              obtain rfl : y9 = nI (S 8 a + 1) := ey9.trans (by show nI (up2 _ 2 _ _ 8 a) = _; simp [up2])
              refine r_iast (w' := MW cy B (up2 (up2 (up2 (up2 S 8 a (S 8 a + 1)) 1 (S 0 0) a) 2 (S 0 0) v) 3 (S 0 0) (S 8 a + 1)) (up2 T2 0 2 0) Y) hx hb hK hP hD hS (3) rfl (by omega) (by decide) dX2_insert_115 (by rw [show upd (fun j => nI ((up2 (up2 (up2 S 8 a (S 8 a + 1)) 1 (S 0 0) a) 2 (S 0 0) v) 3 j)) (S 0 0) (nI (S 8 a + 1)) = fun j => nI ((up2 (up2 (up2 (up2 S 8 a (S 8 a + 1)) 1 (S 0 0) a) 2 (S 0 0) v) 3 (S 0 0) (S 8 a + 1)) 3 j) from upd_n (up2 (up2 (up2 S 8 a (S 8 a + 1)) 1 (S 0 0) a) 2 (S 0 0) v) 3 _ _]; rfl) (fun H locs hP hD hS => ?_)
              refine lv_aload_n hx hb dX2_insert_116 rfl (lv_at hl 0 rfl) ?_
              refine va_get (D := D) (ci := 2) (v := .ref (B 4)) (C := RX2) (T := TX2) (N := 19) hx hb hts hiX2 hown hK hP (0) rfl rfl 4 (by decide) (hts (.fieldLink RX2 19 "CoauthorTextModel" "behinds" "[I") (by decide +kernel)) (fun _ h9 => h9) rfl dX2_insert_117 ?_
              refine lv_aload_n hx hb dX2_insert_120 rfl (lv_at hl 0 rfl) ?_
              refine va_get (D := D) (ci := 2) (v := .int (nI (S 0 0))) (C := RX2) (T := TX2) (N := 19) hx hb hts hiX2 hown hK hP (0) rfl rfl 0 (by decide) (hts (.fieldLink RX2 59 "CoauthorTextModel" "signs" "I") (by decide +kernel)) (fun _ h9 => h9) rfl dX2_insert_121 ?_
              refine lv_iload_n hx hb dX2_insert_124 rfl (lv_at hl 2 rfl) ?_
              have join : W p l e ({ frames := 4, cells := 0, slots := 0, locals := 82 } : Room) s m ([.ref (B 0), .int (nI a), .int (nI k), .int (nI v)] : List Value).toArray below meth c H locs 0 0 (MQ below (va_Qi (fun r w' => ∃ T' : Nat → Nat → Nat, T' 0 2 = (spInsert S O (nI a) (nI k) (nI v)).1 ∧ w' = MW cy B (spInsert S O (nI a) (nI k) (nI v)).2.2 T' Y ∧ ((spInsert S O (nI a) (nI k) (nI v)).1 = 0 → r = (spInsert S O (nI a) (nI k) (nI v)).2.1)) (fun w' t => wB D cy A w' t) A) ([.ref (B 0), .int (nI a), .int (nI k), .int (nI v)] : List Value).toArray s 0 0 A) (F0 m 140 ls [.int (bI (parL S O a k)), .int (nI (S 0 0)), .ref (B 4)]) := by
                refine r_iast (w' := MW cy B (up2 (up2 (up2 (up2 (up2 S 8 a (S 8 a + 1)) 1 (S 0 0) a) 2 (S 0 0) v) 3 (S 0 0) (S 8 a + 1)) 4 (S 0 0) (parL S O a k)) (up2 T2 0 2 0) Y) hx hb hK hP hD hS (4) rfl (by omega) (by decide) dX2_insert_140 (by rw [show upd (fun j => bI ((up2 (up2 (up2 (up2 S 8 a (S 8 a + 1)) 1 (S 0 0) a) 2 (S 0 0) v) 3 (S 0 0) (S 8 a + 1)) 4 j)) (S 0 0) (bI (parL S O a k)) = fun j => bI ((up2 (up2 (up2 (up2 (up2 S 8 a (S 8 a + 1)) 1 (S 0 0) a) 2 (S 0 0) v) 3 (S 0 0) (S 8 a + 1)) 4 (S 0 0) (parL S O a k)) 4 j) from upd_b (up2 (up2 (up2 (up2 S 8 a (S 8 a + 1)) 1 (S 0 0) a) 2 (S 0 0) v) 3 (S 0 0) (S 8 a + 1)) 4 _ _]; rfl) (fun H locs hP hD hS => ?_)
                refine lv_aload_n hx hb dX2_insert_141 rfl (lv_at hl 0 rfl) ?_
                refine va_get (D := D) (ci := 2) (v := .ref (B 5)) (C := RX2) (T := TX2) (N := 19) hx hb hts hiX2 hown hK hP (0) rfl rfl 5 (by decide) (hts (.fieldLink RX2 22 "CoauthorTextModel" "knows" "[Z") (by decide +kernel)) (fun _ h9 => h9) rfl dX2_insert_142 ?_
                refine lv_iload_n hx hb dX2_insert_145 rfl (lv_at hl 1 rfl) ?_
                refine lv_aload_n hx hb dX2_insert_146 rfl (lv_at hl 0 rfl) ?_
                refine va_get (D := D) (ci := 2) (v := .int (nI (S 0 0))) (C := RX2) (T := TX2) (N := 19) hx hb hts hiX2 hown hK hP (0) rfl rfl 0 (by decide) (hts (.fieldLink RX2 59 "CoauthorTextModel" "signs" "I") (by decide +kernel)) (fun _ h9 => h9) rfl dX2_insert_147 ?_
                refine K_i (va_runS (As := [.int (nI a), .int (nI (S 0 0))]) (rest := [.ref (B 5)]) ⟨hx, hb, hml, hown, hts⟩ (c_X2_at l a (S 0 0) _) (va_cwS 2 hts gX2_insert_X2_at rfl rfl rfl (by decide +kernel) ⟨Nat.le_of_ble_eq_true rfl, Nat.le_of_ble_eq_true rfl⟩) (pS hP hK hD hS hA hX) rfl rfl hl.1 rfl (lv_room (Nat.le_of_ble_eq_true rfl)) dX2_insert_150 ⟨Nat.le_of_ble_eq_true rfl, Nat.le_of_ble_eq_true rfl⟩) hD hS hA (fun r w'  H locs hp hP hD hS => ?_)
                obtain ⟨rfl, hw9⟩ := hp
                rw [hw9] at hP hD
                refine lv_iconst (v := nI 1) hx hb dX2_insert_153 (by decide) ?_
                refine r_zast (w' := MW cy B (up2 (up2 (up2 (up2 (up2 (up2 S 8 a (S 8 a + 1)) 1 (S 0 0) a) 2 (S 0 0) v) 3 (S 0 0) (S 8 a + 1)) 4 (S 0 0) (parL S O a k)) 5 (60 * a + S 0 0) 1) (up2 T2 0 2 0) Y) hx hb hK hP hD hS (5) rfl (by omega) (by decide) dX2_insert_154 rfl (by rw [show upd (fun j => nI ((up2 (up2 (up2 (up2 (up2 S 8 a (S 8 a + 1)) 1 (S 0 0) a) 2 (S 0 0) v) 3 (S 0 0) (S 8 a + 1)) 4 (S 0 0) (parL S O a k)) 5 j)) (60 * a + S 0 0) (nI 1) = fun j => nI ((up2 (up2 (up2 (up2 (up2 (up2 S 8 a (S 8 a + 1)) 1 (S 0 0) a) 2 (S 0 0) v) 3 (S 0 0) (S 8 a + 1)) 4 (S 0 0) (parL S O a k)) 5 (60 * a + S 0 0) 1) 5 j) from upd_n (up2 (up2 (up2 (up2 (up2 S 8 a (S 8 a + 1)) 1 (S 0 0) a) 2 (S 0 0) v) 3 (S 0 0) (S 8 a + 1)) 4 (S 0 0) (parL S O a k)) 5 _ _]; rfl) (fun H locs hP hD hS => ?_)
                refine lv_aload_n hx hb dX2_insert_155 rfl (lv_at hl 0 rfl) ?_
                refine lv_dup hx hb dX2_insert_156 rfl ?_
                refine va_get (D := D) (ci := 2) (v := .int (nI (S 0 0))) (C := RX2) (T := TX2) (N := 19) hx hb hts hiX2 hown hK hP (0) rfl rfl 0 (by decide) (hts (.fieldLink RX2 59 "CoauthorTextModel" "signs" "I") (by decide +kernel)) (fun _ h9 => h9) rfl dX2_insert_157 ?_
                refine lv_iconst (v := nI 1) hx hb dX2_insert_160 (by decide) ?_
                refine r_iadd hx hb dX2_insert_161 ?_
                refine r_put (w' := MW cy B (insS S a (parL S O a k) v) (up2 T2 0 2 0) Y) (own := RX2) (C := RX2) (T := TX2) (N := 19) (ci := 2) (q0 := 0) (k := 0) (index := 59) (ty := .int) hx hb hts hiX2 tyX2_ok nmX2 hown hK hP hD hS rfl rfl (by decide) (by decide +kernel) rfl (by decide +kernel) rfl rfl (Nat.le_of_ble_eq_true rfl) dX2_insert_162 rfl (fun H locs hP hD hS => ?_)
                refine lv_aload_n hx hb dX2_insert_165 rfl (lv_at hl 0 rfl) ?_
                refine va_get (D := D) (ci := 2) (v := .int (nI (S 0 0 + 1))) (C := RX2) (T := TX2) (N := 19) hx hb hts hiX2 hown hK hP (0) rfl rfl 0 (by decide) (hts (.fieldLink RX2 59 "CoauthorTextModel" "signs" "I") (by decide +kernel)) (fun _ h9 => h9) rfl dX2_insert_166 ?_
                refine lv_iconst (v := nI 1) hx hb dX2_insert_169 (by decide) ?_
                refine r_isub hx hb dX2_insert_170 (by omega) ?_
                exact C_iret hx hb hr hlocks hS hP hK hD (Nat.le_of_ble_eq_true rfl) (Nat.le_of_ble_eq_true rfl) dX2_insert_171 (by rw [show spInsert S O (nI a) (nI k) (nI v) = (0, nI (S 0 0), insS S a (parL S O a k) v) from by simp [spInsert, hU, hV, hW, ea, ek, ev, cD]]; exact ⟨_, up2_s _ _ _ _, rfl, fun _ => by rw [Nat.add_sub_cancel]⟩)
              refine r_if_ne (tgt := 132) hx hb dX2_insert_125 (by decide) (by omega) (fun cE => ?_) (fun cE => ?_)
              · refine lv_aload_n hx hb dX2_insert_132 rfl (lv_at hl 0 rfl) ?_
                refine va_get (D := D) (ci := 2) (v := .ref (B 12)) (C := RX2) (T := TX2) (N := 19) hx hb hts hiX2 hown hK hP (0) rfl rfl 14 (by decide) (hts (.fieldLink RX2 45 "CoauthorTextModel" "text" "[I") (by decide +kernel)) (fun _ h9 => h9) rfl dX2_insert_133 ?_
                refine lv_iload_n hx hb dX2_insert_136 rfl (lv_at hl 2 rfl) ?_
                refine lv_iconst (v := nI 1) hx hb dX2_insert_137 (by decide) ?_
                refine r_isub hx hb dX2_insert_138 (by omega) ?_
                refine r_iald hx hb hK hP (12) rfl (by omega) (by decide) dX2_insert_139 ?_
                refine lv_topi (fun y9 ey9 => ?_)
                obtain rfl : y9 = bI (parL S O a k) := ey9.trans (by show nI (T2 1 (k - 1)) = _; rw [txt_at ht (show k - 1 < (txL S O a).length by omega), parL, if_neg (by omega), bI_s])
                exact join
              · subst cE
                refine lv_iconst (v := bI 0) hx hb dX2_insert_128 (by decide) ?_
                refine lv_goto (tgt := 140) hx hb dX2_insert_129 (by decide) ?_
                exact join
            · omega
          · refine lv_iconst (v := nI 3) hx hb dX2_insert_62 (by decide) ?_
            refine lv_goto (tgt := 67) hx hb dX2_insert_63 (by decide) ?_
            refine K_i (va_runV (As := [.int (nI 3)]) (rest := []) ⟨hx, hb, hml, hown, hts⟩ (c_X2_goes l (k := 3) (by decide) _) (cwV 1 hts gX2_insert_X2_goes rfl rfl rfl (by decide +kernel) ⟨Nat.le_of_ble_eq_true rfl, Nat.le_of_ble_eq_true rfl⟩) (pV hP hK hD hS hA hX (va_recv hK hP (ci := 2) (q0 := 0) rfl rfl)) rfl rfl hl.1 rfl (lv_room (Nat.le_of_ble_eq_true rfl)) dX2_insert_67 ⟨Nat.le_of_ble_eq_true rfl, Nat.le_of_ble_eq_true rfl⟩) hD hS hA (fun r w'  H locs hp hP hD hS => ?_)
            obtain ⟨hr9, rfl⟩ := hp
            obtain rfl : r = nI 0 := hr9
            refine r_if_ne (tgt := 75) hx hb dX2_insert_70 (by decide) (by decide) (fun c5 => ?_) (fun c5 => ?_)
            · omega
            · refine lv_iconst (v := nI 0) hx hb dX2_insert_73 (by decide) ?_
              exact C_iret hx hb hr hlocks hS hP hK hD (Nat.le_of_ble_eq_true rfl) (Nat.le_of_ble_eq_true rfl) dX2_insert_74 (by rw [show spInsert S O (nI a) p1 (nI v) = (3, 0, S) from by simp [spInsert, hU, hV, hW, ea, cD]]; exact ⟨_, up2_s _ _ _ _, rfl, fun h => absurd (show (3 : Nat) = 0 from h) (by decide)⟩)
        · have hW : inB p1 0 (nI (txL S O a).length) = false := by rw [← ht.1]; exact bN_0.mp cC
          refine lv_iconst (v := nI 2) hx hb dX2_insert_49 (by decide) ?_
          refine lv_goto (tgt := 67) hx hb dX2_insert_50 (by decide) ?_
          refine K_i (va_runV (As := [.int (nI 2)]) (rest := []) ⟨hx, hb, hml, hown, hts⟩ (c_X2_goes l (k := 2) (by decide) _) (cwV 1 hts gX2_insert_X2_goes rfl rfl rfl (by decide +kernel) ⟨Nat.le_of_ble_eq_true rfl, Nat.le_of_ble_eq_true rfl⟩) (pV hP hK hD hS hA hX (va_recv hK hP (ci := 2) (q0 := 0) rfl rfl)) rfl rfl hl.1 rfl (lv_room (Nat.le_of_ble_eq_true rfl)) dX2_insert_67 ⟨Nat.le_of_ble_eq_true rfl, Nat.le_of_ble_eq_true rfl⟩) hD hS hA (fun r w'  H locs hp hP hD hS => ?_)
          obtain ⟨hr9, rfl⟩ := hp
          obtain rfl : r = nI 0 := hr9
          refine r_if_ne (tgt := 75) hx hb dX2_insert_70 (by decide) (by decide) (fun c6 => ?_) (fun c6 => ?_)
          · omega
          · refine lv_iconst (v := nI 0) hx hb dX2_insert_73 (by decide) ?_
            exact C_iret hx hb hr hlocks hS hP hK hD (Nat.le_of_ble_eq_true rfl) (Nat.le_of_ble_eq_true rfl) dX2_insert_74 (by rw [show spInsert S O (nI a) p1 (nI v) = (2, 0, S) from by simp [spInsert, hU, hV, hW, ea]]; exact ⟨_, up2_s _ _ _ _, rfl, fun h => absurd (show (2 : Nat) = 0 from h) (by decide)⟩)
      · omega

set_option maxHeartbeats 4000000 in
set_option maxRecDepth 100000 in
theorem c_X2_remove (l : Launch) {D : va_G} {cy : Nat → ClassId} {B : Nat → Nat} {S T : Nat → Nat → Nat} {Y : va_W} {O : List Nat} (hI : Inv S O) (p0 p1 : Int32) : CI l yX2_remove wsX2_remove ({ frames := 4, cells := 0, slots := 0, locals := 82 } : Room) D cy [.ref (B 0), .int p0, .int p1] (MW cy B S T Y) (fun r w' => ∃ T' : Nat → Nat → Nat, T' 0 2 = (spRemove S O p0 p1).1 ∧ w' = MW cy B (spRemove S O p0 p1).2.2 T' Y ∧ ((spRemove S O p0 p1).1 = 0 → r = (spRemove S O p0 p1).2.1)) 0 0 := by
  refine CI.of (cc := cX2_remove) (maxL := 4) (ret := (some .int)) (by decide) rfl (Nat.le_of_ble_eq_true rfl) ?_
  intro p e s m below meth c A ls E0 hl
  obtain ⟨hx, hb, hml, hown, hts, hr, hlocks, hA, hS, hP, hK, hD, hX⟩ := E0
  have hiX2 : ∀ w ∈ u_ws RX2 TX2 19, w ∈ wsX2_remove := by decide +kernel
  have hl : lv_has ls 4 [(0, .ref (B 0)), (1, .int p0), (2, .int p1)] := hl
  refine lv_aload_n hx hb dX2_remove_0 rfl (lv_at hl 0 rfl) ?_
  refine lv_iload_n hx hb dX2_remove_1 rfl (lv_at hl 1 rfl) ?_
  refine K_i (va_runS (As := [.int p0]) (rest := [.ref (B 0)]) ⟨hx, hb, hml, hown, hts⟩ (c_X2_isAuthor l p0 _) (va_cwS 1 hts gX2_remove_X2_isAuthor rfl rfl rfl (by decide +kernel) ⟨Nat.le_of_ble_eq_true rfl, Nat.le_of_ble_eq_true rfl⟩) (pS hP hK hD hS hA hX) rfl rfl hl.1 rfl (lv_room (Nat.le_of_ble_eq_true rfl)) dX2_remove_2 ⟨Nat.le_of_ble_eq_true rfl, Nat.le_of_ble_eq_true rfl⟩) hD hS hA (fun r w'  H locs hp hP hD hS => ?_)
  obtain ⟨rfl, hw9⟩ := hp
  rw [hw9] at hP hD
  refine r_if_eq (tgt := 12) hx hb dX2_remove_5 (by decide) (Nat.lt_trans (bN_lt _) (by decide)) (fun cA => ?_) (fun cA => ?_)
  · have hU := bN_0.mp cA
    refine lv_iconst (v := nI 1) hx hb dX2_remove_12 (by decide) ?_
    refine K_i (va_runV (As := [.int (nI 1)]) (rest := []) ⟨hx, hb, hml, hown, hts⟩ (c_X2_goes l (k := 1) (by decide) _) (cwV 1 hts gX2_remove_X2_goes rfl rfl rfl (by decide +kernel) ⟨Nat.le_of_ble_eq_true rfl, Nat.le_of_ble_eq_true rfl⟩) (pV hP hK hD hS hA hX (va_recv hK hP (ci := 2) (q0 := 0) rfl rfl)) rfl rfl hl.1 rfl (lv_room (Nat.le_of_ble_eq_true rfl)) dX2_remove_13 ⟨Nat.le_of_ble_eq_true rfl, Nat.le_of_ble_eq_true rfl⟩) hD hS hA (fun r w'  H locs hp hP hD hS => ?_)
    obtain ⟨hr9, rfl⟩ := hp
    obtain rfl : r = nI 0 := hr9
    refine r_if_ne (tgt := 21) hx hb dX2_remove_16 (by decide) (by decide) (fun c1 => ?_) (fun c1 => ?_)
    · omega
    · refine lv_iconst (v := nI 0) hx hb dX2_remove_19 (by decide) ?_
      exact C_iret hx hb hr hlocks hS hP hK hD (Nat.le_of_ble_eq_true rfl) (Nat.le_of_ble_eq_true rfl) dX2_remove_20 (by rw [show spRemove S O p0 p1 = (1, 0, S) from by simp [spRemove, hU]]; exact ⟨_, up2_s _ _ _ _, rfl, fun h => absurd (show (1 : Nat) = 0 from h) (by decide)⟩)
  · have hU := bN_1.mp cA
    refine lv_iconst (v := nI 0) hx hb dX2_remove_8 (by decide) ?_
    refine lv_goto (tgt := 13) hx hb dX2_remove_9 (by decide) ?_
    refine K_i (va_runV (As := [.int (nI 0)]) (rest := []) ⟨hx, hb, hml, hown, hts⟩ (c_X2_goes l (k := 0) (by decide) _) (cwV 1 hts gX2_remove_X2_goes rfl rfl rfl (by decide +kernel) ⟨Nat.le_of_ble_eq_true rfl, Nat.le_of_ble_eq_true rfl⟩) (pV hP hK hD hS hA hX (va_recv hK hP (ci := 2) (q0 := 0) rfl rfl)) rfl rfl hl.1 rfl (lv_room (Nat.le_of_ble_eq_true rfl)) dX2_remove_13 ⟨Nat.le_of_ble_eq_true rfl, Nat.le_of_ble_eq_true rfl⟩) hD hS hA (fun r w'  H locs hp hP hD hS => ?_)
    obtain ⟨hr9, rfl⟩ := hp
    obtain rfl : r = nI 1 := hr9
    refine r_if_ne (tgt := 21) hx hb dX2_remove_16 (by decide) (by decide) (fun c2 => ?_) (fun c2 => ?_)
    · obtain ⟨a, ha, rfl⟩ := isA_n hU
      have hn60 := hI.R.1
      have hl60 := hI.len a
      have ea := aN_n (show a < 2 ^ 31 by omega)
      refine lv_aload_n hx hb dX2_remove_21 rfl (lv_at hl 0 rfl) ?_
      refine lv_iload_n hx hb dX2_remove_22 rfl (lv_at hl 1 rfl) ?_
      refine K_v (va_runV (As := [.int (nI a)]) (rest := []) ⟨hx, hb, hml, hown, hts⟩ (c_X2_laysText l hI.R hI.g (a := a) ha (hI.lay ha) _) (cwV 1 hts gX2_remove_X2_laysText rfl rfl rfl (by decide +kernel) ⟨Nat.le_of_ble_eq_true rfl, Nat.le_of_ble_eq_true rfl⟩) (pV hP hK hD hS hA hX (va_recv hK hP (ci := 2) (q0 := 0) rfl rfl)) rfl rfl hl.1 rfl (lv_room (Nat.le_of_ble_eq_true rfl)) dX2_remove_23 ⟨Nat.le_of_ble_eq_true rfl, Nat.le_of_ble_eq_true rfl⟩) hD hS hA (fun w'  H locs hp hP hD hS => ?_)
      obtain ⟨T2, rfl, h2, ht⟩ := hp
      rw [lay_txt] at ht
      refine lv_aload_n hx hb dX2_remove_26 rfl (lv_at hl 0 rfl) ?_
      refine lv_iload_n hx hb dX2_remove_27 rfl (lv_at hl 2 rfl) ?_
      refine lv_iconst (v := nI 0) hx hb dX2_remove_28 (by decide) ?_
      refine lv_aload_n hx hb dX2_remove_29 rfl (lv_at hl 0 rfl) ?_
      refine va_get (D := D) (ci := 2) (v := .int (nI (T2 0 0))) (C := RX2) (T := TX2) (N := 19) hx hb hts hiX2 hown hK hP (0) rfl rfl 16 (by decide) (hts (.fieldLink RX2 76 "CoauthorTextModel" "length" "I") (by decide +kernel)) (fun _ h9 => h9) rfl dX2_remove_30 ?_
      refine lv_iconst (v := nI 1) hx hb dX2_remove_33 (by decide) ?_
      refine lv_isub hx hb dX2_remove_34 ?_
      refine K_i (va_runS (As := [.int p1, .int (nI 0), .int (bI (T2 0 0))]) (rest := [.ref (B 0)]) ⟨hx, hb, hml, hown, hts⟩ (c_X2_isIn l p1 (nI 0) (bI (T2 0 0)) _) (va_cwS 3 hts gX2_remove_X2_isIn rfl rfl rfl (by decide +kernel) ⟨Nat.le_of_ble_eq_true rfl, Nat.le_of_ble_eq_true rfl⟩) (pS hP hK hD hS hA hX) rfl rfl hl.1 rfl (lv_room (Nat.le_of_ble_eq_true rfl)) dX2_remove_35 ⟨Nat.le_of_ble_eq_true rfl, Nat.le_of_ble_eq_true rfl⟩) hD hS hA (fun r w'  H locs hp hP hD hS => ?_)
      obtain ⟨rfl, hw9⟩ := hp
      rw [hw9] at hP hD
      refine r_if_eq (tgt := 45) hx hb dX2_remove_38 (by decide) (Nat.lt_trans (bN_lt _) (by decide)) (fun cB => ?_) (fun cB => ?_)
      · have hV : inS p1 (txL S O a).length = false := by rw [← ht.1]; exact bN_0.mp cB
        refine lv_iconst (v := nI 2) hx hb dX2_remove_45 (by decide) ?_
        refine K_i (va_runV (As := [.int (nI 2)]) (rest := []) ⟨hx, hb, hml, hown, hts⟩ (c_X2_goes l (k := 2) (by decide) _) (cwV 1 hts gX2_remove_X2_goes rfl rfl rfl (by decide +kernel) ⟨Nat.le_of_ble_eq_true rfl, Nat.le_of_ble_eq_true rfl⟩) (pV hP hK hD hS hA hX (va_recv hK hP (ci := 2) (q0 := 0) rfl rfl)) rfl rfl hl.1 rfl (lv_room (Nat.le_of_ble_eq_true rfl)) dX2_remove_46 ⟨Nat.le_of_ble_eq_true rfl, Nat.le_of_ble_eq_true rfl⟩) hD hS hA (fun r w'  H locs hp hP hD hS => ?_)
        obtain ⟨hr9, rfl⟩ := hp
        obtain rfl : r = nI 0 := hr9
        refine r_if_ne (tgt := 54) hx hb dX2_remove_49 (by decide) (by decide) (fun c3 => ?_) (fun c3 => ?_)
        · omega
        · refine lv_iconst (v := nI 0) hx hb dX2_remove_52 (by decide) ?_
          exact C_iret hx hb hr hlocks hS hP hK hD (Nat.le_of_ble_eq_true rfl) (Nat.le_of_ble_eq_true rfl) dX2_remove_53 (by rw [show spRemove S O (nI a) p1 = (2, 0, S) from by simp [spRemove, hU, hV, ea]]; exact ⟨_, up2_s _ _ _ _, rfl, fun h => absurd (show (2 : Nat) = 0 from h) (by decide)⟩)
      · have hV : inS p1 (txL S O a).length = true := by rw [← ht.1]; exact bN_1.mp cB
        refine lv_iconst (v := nI 0) hx hb dX2_remove_41 (by decide) ?_
        refine lv_goto (tgt := 46) hx hb dX2_remove_42 (by decide) ?_
        refine K_i (va_runV (As := [.int (nI 0)]) (rest := []) ⟨hx, hb, hml, hown, hts⟩ (c_X2_goes l (k := 0) (by decide) _) (cwV 1 hts gX2_remove_X2_goes rfl rfl rfl (by decide +kernel) ⟨Nat.le_of_ble_eq_true rfl, Nat.le_of_ble_eq_true rfl⟩) (pV hP hK hD hS hA hX (va_recv hK hP (ci := 2) (q0 := 0) rfl rfl)) rfl rfl hl.1 rfl (lv_room (Nat.le_of_ble_eq_true rfl)) dX2_remove_46 ⟨Nat.le_of_ble_eq_true rfl, Nat.le_of_ble_eq_true rfl⟩) hD hS hA (fun r w'  H locs hp hP hD hS => ?_)
        obtain ⟨hr9, rfl⟩ := hp
        obtain rfl : r = nI 1 := hr9
        refine r_if_ne (tgt := 54) hx hb dX2_remove_49 (by decide) (by decide) (fun c4 => ?_) (fun c4 => ?_)
        · obtain ⟨k, hk, rfl⟩ := inS_n (by omega) hV
          have ek := aN_n (show k < 2 ^ 31 by omega)
          obtain ⟨i, ei⟩ : ∃ i, (txL S O a).getD k 0 = i := ⟨_, rfl⟩
          have hm := txL_mem hI (getD_mem hk)
          rw [ei] at hm
          refine lv_aload_n hx hb dX2_remove_54 rfl (lv_at hl 0 rfl) ?_
          refine va_get (D := D) (ci := 2) (v := .ref (B 12)) (C := RX2) (T := TX2) (N := 19) hx hb hts hiX2 hown hK hP (0) rfl rfl 14 (by decide) (hts (.fieldLink RX2 45 "CoauthorTextModel" "text" "[I") (by decide +kernel)) (fun _ h9 => h9) rfl dX2_remove_55 ?_
          refine lv_iload_n hx hb dX2_remove_58 rfl (lv_at hl 2 rfl) ?_
          refine r_iald hx hb hK hP (12) rfl (by omega) (by decide) dX2_remove_59 ?_
          refine lv_topi (fun y9 ey9 => ?_)
          obtain rfl : y9 = nI i := ey9.trans (by show nI (T2 1 k) = _; rw [txt_at ht hk, ei])
          refine lv_istore_n (lv' := [(3, .int (nI i)), (0, .ref (B 0)), (1, .int (nI a)), (2, .int (nI k))]) hx hb dX2_remove_60 rfl hl (by decide) rfl (fun ls hl => ?_)
          refine lv_aload_n hx hb dX2_remove_61 rfl (lv_at hl 1 rfl) ?_
          refine va_get (D := D) (ci := 2) (v := .ref (B 6)) (C := RX2) (T := TX2) (N := 19) hx hb hts hiX2 hown hK hP (0) rfl rfl 6 (by decide) (hts (.fieldLink RX2 26 "CoauthorTextModel" "isRemoved" "[Z") (by decide +kernel)) (fun _ h9 => h9) rfl dX2_remove_62 ?_
          refine lv_iload_n hx hb dX2_remove_65 rfl (lv_at hl 2 rfl) ?_
          refine lv_iload_n hx hb dX2_remove_66 rfl (lv_at hl 0 rfl) ?_
          refine K_i (va_runS (As := [.int (nI a), .int (nI i)]) (rest := [.ref (B 6)]) ⟨hx, hb, hml, hown, hts⟩ (c_X2_at l a i _) (va_cwS 2 hts gX2_remove_X2_at rfl rfl rfl (by decide +kernel) ⟨Nat.le_of_ble_eq_true rfl, Nat.le_of_ble_eq_true rfl⟩) (pS hP hK hD hS hA hX) rfl rfl hl.1 rfl (lv_room (Nat.le_of_ble_eq_true rfl)) dX2_remove_67 ⟨Nat.le_of_ble_eq_true rfl, Nat.le_of_ble_eq_true rfl⟩) hD hS hA (fun r w'  H locs hp hP hD hS => ?_)
          obtain ⟨rfl, hw9⟩ := hp
          rw [hw9] at hP hD
          refine lv_iconst (v := nI 1) hx hb dX2_remove_70 (by decide) ?_
          refine r_zast (w' := MW cy B (up2 S 6 (60 * a + i) 1) (up2 T2 0 2 0) Y) hx hb hK hP hD hS (6) rfl (by omega) (by decide) dX2_remove_71 rfl (by rw [show upd (fun j => nI (S 6 j)) (60 * a + i) (nI 1) = fun j => nI ((up2 S 6 (60 * a + i) 1) 6 j) from upd_n S 6 _ _]; rfl) (fun H locs hP hD hS => ?_)
          refine lv_aload_n hx hb dX2_remove_72 rfl (lv_at hl 1 rfl) ?_
          refine va_get (D := D) (ci := 2) (v := .ref (B 7)) (C := RX2) (T := TX2) (N := 19) hx hb hts hiX2 hown hK hP (0) rfl rfl 7 (by decide) (hts (.fieldLink RX2 29 "CoauthorTextModel" "stamps" "[I") (by decide +kernel)) (fun _ h9 => h9) rfl dX2_remove_73 ?_
          refine lv_iload_n hx hb dX2_remove_76 rfl (lv_at hl 2 rfl) ?_
          refine lv_iload_n hx hb dX2_remove_77 rfl (lv_at hl 0 rfl) ?_
          refine K_i (va_runS (As := [.int (nI a), .int (nI i)]) (rest := [.ref (B 7)]) ⟨hx, hb, hml, hown, hts⟩ (c_X2_at l a i _) (va_cwS 2 hts gX2_remove_X2_at rfl rfl rfl (by decide +kernel) ⟨Nat.le_of_ble_eq_true rfl, Nat.le_of_ble_eq_true rfl⟩) (pS hP hK hD hS hA hX) rfl rfl hl.1 rfl (lv_room (Nat.le_of_ble_eq_true rfl)) dX2_remove_78 ⟨Nat.le_of_ble_eq_true rfl, Nat.le_of_ble_eq_true rfl⟩) hD hS hA (fun r w'  H locs hp hP hD hS => ?_)
          obtain ⟨rfl, hw9⟩ := hp
          rw [hw9] at hP hD
          refine lv_aload_n hx hb dX2_remove_81 rfl (lv_at hl 1 rfl) ?_
          refine lv_iload_n hx hb dX2_remove_82 rfl (lv_at hl 2 rfl) ?_
          refine K_i (va_runV (As := [.int (nI a)]) (rest := [.int (nI (60 * a + i)), .ref (B 7)]) ⟨hx, hb, hml, hown, hts⟩ (c_X2_stamp l ha _) (cwV 1 hts gX2_remove_X2_stamp rfl rfl rfl (by decide +kernel) ⟨Nat.le_of_ble_eq_true rfl, Nat.le_of_ble_eq_true rfl⟩) (pV hP hK hD hS hA hX (va_recv hK hP (ci := 2) (q0 := 0) rfl rfl)) rfl rfl hl.1 rfl (lv_room (Nat.le_of_ble_eq_true rfl)) dX2_remove_83 ⟨Nat.le_of_ble_eq_true rfl, Nat.le_of_ble_eq_true rfl⟩) hD hS hA (fun r w'  H locs hp hP hD hS => ?_)
          obtain ⟨hr9, hw9⟩ := hp
          obtain rfl : r = nI (4 * (S 8 a + 1) + a) := hr9
          obtain rfl : w' = MW cy B (up2 (up2 S 6 (60 * a + i) 1) 8 a (S 8 a + 1)) (up2 T2 0 2 0) Y := hw9
          refine r_iast (w' := MW cy B (up2 (up2 (up2 S 6 (60 * a + i) 1) 8 a (S 8 a + 1)) 7 (60 * a + i) (4 * (S 8 a + 1) + a)) (up2 T2 0 2 0) Y) hx hb hK hP hD hS (7) rfl (by omega) (by decide) dX2_remove_86 (by rw [show upd (fun j => nI ((up2 (up2 S 6 (60 * a + i) 1) 8 a (S 8 a + 1)) 7 j)) (60 * a + i) (nI (4 * (S 8 a + 1) + a)) = fun j => nI ((up2 (up2 (up2 S 6 (60 * a + i) 1) 8 a (S 8 a + 1)) 7 (60 * a + i) (4 * (S 8 a + 1) + a)) 7 j) from upd_n (up2 (up2 S 6 (60 * a + i) 1) 8 a (S 8 a + 1)) 7 _ _]; rfl) (fun H locs hP hD hS => ?_)
          refine lv_iload_n hx hb dX2_remove_87 rfl (lv_at hl 0 rfl) ?_
          exact C_iret hx hb hr hlocks hS hP hK hD (Nat.le_of_ble_eq_true rfl) (Nat.le_of_ble_eq_true rfl) dX2_remove_88 (by rw [show spRemove S O (nI a) (nI k) = (0, nI i, setS S a i 1) from by simp only [spRemove, hU, hV, ea, ek, ei, Bool.true_eq_false, if_false]]; exact ⟨_, up2_s _ _ _ _, rfl, fun _ => rfl⟩)
        · omega
    · omega

set_option maxHeartbeats 4000000 in
set_option maxRecDepth 100000 in
theorem c_X2_placeOf (l : Launch) {D : va_G} {cy : Nat → ClassId} {B : Nat → Nat} {S T : Nat → Nat → Nat} {Y : va_W} {L : List Nat} {i : Nat} (ht : txtP T L) (hn : L.Nodup) (hi : i ∈ L) (hlen : L.length ≤ 60) (hb60 : ∀ x, x ∈ L → x < 60) : CI l yX2_placeOf wsX2_placeOf ({ frames := 1, cells := 0, slots := 0, locals := 12 } : Room) D cy [.ref (B 0), .int (nI i)] (MW cy B S T Y) (fun r w' => r = nI (posL L i) ∧ w' = MW cy B S T Y) 0 0 := by
  refine CI.of (cc := cX2_placeOf) (maxL := 4) (ret := (some .int)) (by decide) rfl (Nat.le_of_ble_eq_true rfl) ?_
  intro p e s m below meth c A ls E0 hl
  obtain ⟨hx, hb, hml, hown, hts, hr, hlocks, hA, hS, hP, hK, hD, hX⟩ := E0
  have hiX2 : ∀ w ∈ u_ws RX2 TX2 19, w ∈ wsX2_placeOf := by decide +kernel
  have hl : lv_has ls 4 [(0, .ref (B 0)), (1, .int (nI i))] := hl
  refine lv_iconst (v := bI 0) hx hb dX2_placeOf_0 (by decide) ?_
  refine lv_istore_n (lv' := [(2, .int (bI 0)), (0, .ref (B 0)), (1, .int (nI i))]) hx hb dX2_placeOf_1 rfl hl (by decide) rfl (fun ls hl => ?_)
  refine lv_iconst (v := nI 0) hx hb dX2_placeOf_2 (by decide) ?_
  refine lv_istore_n (lv' := [(3, .int (nI 0)), (2, .int (bI 0)), (0, .ref (B 0)), (1, .int (nI i))]) hx hb dX2_placeOf_3 rfl hl (by decide) rfl (fun ls hl => ?_)
  have hpos := posL_at hi
  have hi60 := hb60 i hi
  have loop : ∀ (q j f : Nat) (ls : Array Slot), j + q = L.length + 1 → j ≤ L.length → ((j ≤ posL L i ∧ f = 0) ∨ (posL L i < j ∧ f = posL L i + 1)) → lv_has ls 4 [(3, .int (nI j)), (2, .int (bI f)), (0, .ref (B 0)), (1, .int (nI i))] → W p l e ({ frames := 1, cells := 0, slots := 0, locals := 12 } : Room) s m ([.ref (B 0), .int (nI i)] : List Value).toArray below meth c s.heap [] 0 0 (MQ below (va_Qi (fun r w' => r = nI (posL L i) ∧ w' = MW cy B S T Y) (fun w' t => wB D cy A w' t) A) ([.ref (B 0), .int (nI i)] : List Value).toArray s 0 0 A) (F0 m 4 ls []) := by
    intro q
    induction q with
    | zero => intro j f ls hq; omega
    | succ q ih =>
      intro j f ls hq hj hf hl
      have htl := ht.1
      refine lv_iload_n hx hb dX2_placeOf_4 rfl (lv_at hl 0 rfl) ?_
      refine lv_aload_n hx hb dX2_placeOf_5 rfl (lv_at hl 2 rfl) ?_
      refine va_get (D := D) (ci := 2) (v := .int (nI (T 0 0))) (C := RX2) (T := TX2) (N := 19) hx hb hts hiX2 hown hK hP (0) rfl rfl 16 (by decide) (hts (.fieldLink RX2 76 "CoauthorTextModel" "length" "I") (by decide +kernel)) (fun _ h9 => h9) rfl dX2_placeOf_6 ?_
      refine r_icmp_ge (tgt := 34) hx hb dX2_placeOf_9 (by decide) (by omega) (by rw [htl]; omega) (fun c1 => ?_) (fun c1 => ?_)
      · refine lv_iload_n hx hb dX2_placeOf_34 rfl (lv_at hl 1 rfl) ?_
        have ef : f = posL L i + 1 := by omega
        exact C_iret hx hb hr hlocks hS hP hK hD (Nat.le_of_ble_eq_true rfl) (Nat.le_of_ble_eq_true rfl) dX2_placeOf_35 ⟨by rw [ef, bI_s], rfl⟩
      · have hjl : j < L.length := by omega
        have ej := txt_at ht hjl
        have hj60 := hb60 _ (getD_mem hjl)
        refine lv_aload_n hx hb dX2_placeOf_12 rfl (lv_at hl 2 rfl) ?_
        refine va_get (D := D) (ci := 2) (v := .ref (B 12)) (C := RX2) (T := TX2) (N := 19) hx hb hts hiX2 hown hK hP (0) rfl rfl 14 (by decide) (hts (.fieldLink RX2 45 "CoauthorTextModel" "text" "[I") (by decide +kernel)) (fun _ h9 => h9) rfl dX2_placeOf_13 ?_
        refine lv_iload_n hx hb dX2_placeOf_16 rfl (lv_at hl 0 rfl) ?_
        refine r_iald hx hb hK hP (12) rfl (by omega) (by decide) dX2_placeOf_17 ?_
        refine lv_iload_n hx hb dX2_placeOf_18 rfl (lv_at hl 3 rfl) ?_
        refine r_icmp_ne (tgt := 26) hx hb dX2_placeOf_19 (by decide) (by rw [ej]; omega) (by omega) (fun cE => ?_) (fun cE => ?_)
        · refine lv_iload_n hx hb dX2_placeOf_26 rfl (lv_at hl 1 rfl) ?_
          refine lv_istore_n (lv' := [(2, .int (bI f)), (3, .int (nI j)), (0, .ref (B 0)), (1, .int (nI i))]) hx hb dX2_placeOf_27 rfl hl (by decide) rfl (fun ls hl => ?_)
          refine lv_iinc (v := nI (j + 1)) (lv' := [(3, .int (nI (j + 1))), (2, .int (bI f)), (0, .ref (B 0)), (1, .int (nI i))]) hx hb dX2_placeOf_28 hl (k := 1) rfl (nI_inc _) (by decide) rfl (fun ls hl => ?_)
          refine lv_goto (tgt := 4) hx hb dX2_placeOf_31 (by decide) ?_
          have hne : j ≠ posL L i := fun e => cE (by rw [ej, getD_lt hjl]; have h9 := hpos.2; rw [← e, List.getElem?_eq_getElem hjl] at h9; exact Option.some.inj h9)
          have hf2 : (j + 1 ≤ posL L i ∧ f = 0) ∨ (posL L i < j + 1 ∧ f = posL L i + 1) := by omega
          exact ih (j + 1) f ls (by omega) (by omega) hf2 (lv_sub hl [0, 1, 2, 3] rfl)
        · have epos : j = posL L i := posL_eq hn (by rw [List.getElem?_eq_getElem hjl, ← getD_lt hjl, ← ej, cE])
          refine lv_iload_n hx hb dX2_placeOf_22 rfl (lv_at hl 0 rfl) ?_
          refine lv_goto (tgt := 27) hx hb dX2_placeOf_23 (by decide) ?_
          refine lv_istore_n (lv' := [(2, .int (nI j)), (3, .int (nI j)), (0, .ref (B 0)), (1, .int (nI i))]) hx hb dX2_placeOf_27 rfl hl (by decide) rfl (fun ls hl => ?_)
          refine lv_iinc (v := nI (j + 1)) (lv' := [(3, .int (nI (j + 1))), (2, .int (nI j)), (0, .ref (B 0)), (1, .int (nI i))]) hx hb dX2_placeOf_28 hl (k := 1) rfl (nI_inc _) (by decide) rfl (fun ls hl => ?_)
          refine lv_goto (tgt := 4) hx hb dX2_placeOf_31 (by decide) ?_
          rw [← bI_s j] at hl
          exact ih (j + 1) (j + 1) ls (by omega) (by omega) (Or.inr ⟨by omega, by omega⟩) (lv_sub hl [0, 1, 2, 3] rfl)
  exact loop (L.length + 1) 0 0 ls (by omega) (Nat.zero_le _) (Or.inl ⟨Nat.zero_le _, rfl⟩) (lv_sub hl [0, 1, 2, 3] rfl)

set_option maxHeartbeats 4000000 in
set_option maxRecDepth 100000 in
theorem c_X2_restore (l : Launch) {D : va_G} {cy : Nat → ClassId} {B : Nat → Nat} {S T : Nat → Nat → Nat} {Y : va_W} {O : List Nat} (hI : Inv S O) (hF : Few S) (p0 p1 : Int32) : CI l yX2_restore wsX2_restore ({ frames := 4, cells := 0, slots := 0, locals := 82 } : Room) D cy [.ref (B 0), .int p0, .int p1] (MW cy B S T Y) (fun r w' => ∃ T' : Nat → Nat → Nat, T' 0 2 = (spRestore S O p0 p1).1 ∧ w' = MW cy B (spRestore S O p0 p1).2.2 T' Y ∧ ((spRestore S O p0 p1).1 = 0 → r = (spRestore S O p0 p1).2.1)) 0 0 := by
  refine CI.of (cc := cX2_restore) (maxL := 3) (ret := (some .int)) (by decide) rfl (Nat.le_of_ble_eq_true rfl) ?_
  intro p e s m below meth c A ls E0 hl
  obtain ⟨hx, hb, hml, hown, hts, hr, hlocks, hA, hS, hP, hK, hD, hX⟩ := E0
  have hiX2 : ∀ w ∈ u_ws RX2 TX2 19, w ∈ wsX2_restore := by decide +kernel
  have hl : lv_has ls 3 [(0, .ref (B 0)), (1, .int p0), (2, .int p1)] := hl
  refine lv_aload_n hx hb dX2_restore_0 rfl (lv_at hl 0 rfl) ?_
  refine lv_aload_n hx hb dX2_restore_1 rfl (lv_at hl 0 rfl) ?_
  refine lv_iload_n hx hb dX2_restore_2 rfl (lv_at hl 2 rfl) ?_
  refine K_i (va_runV (As := [.int p1]) (rest := [.ref (B 0)]) ⟨hx, hb, hml, hown, hts⟩ (c_X2_isSign l p1 _) (cwV 1 hts gX2_restore_X2_isSign rfl rfl rfl (by decide +kernel) ⟨Nat.le_of_ble_eq_true rfl, Nat.le_of_ble_eq_true rfl⟩) (pV hP hK hD hS hA hX (va_recv hK hP (ci := 2) (q0 := 0) rfl rfl)) rfl rfl hl.1 rfl (lv_room (Nat.le_of_ble_eq_true rfl)) dX2_restore_3 ⟨Nat.le_of_ble_eq_true rfl, Nat.le_of_ble_eq_true rfl⟩) hD hS hA (fun r w'  H locs hp hP hD hS => ?_)
  obtain ⟨rfl, rfl⟩ := hp
  refine r_if_ne (tgt := 13) hx hb dX2_restore_6 (by decide) (Nat.lt_trans (bN_lt _) (by decide)) (fun cA => ?_) (fun cA => ?_)
  · have hV := bN_1.mp cA
    refine lv_iload_n hx hb dX2_restore_13 rfl (lv_at hl 1 rfl) ?_
    refine K_i (va_runS (As := [.int p0]) (rest := [.ref (B 0)]) ⟨hx, hb, hml, hown, hts⟩ (c_X2_isAuthor l p0 _) (va_cwS 1 hts gX2_restore_X2_isAuthor rfl rfl rfl (by decide +kernel) ⟨Nat.le_of_ble_eq_true rfl, Nat.le_of_ble_eq_true rfl⟩) (pS hP hK hD hS hA hX) rfl rfl hl.1 rfl (lv_room (Nat.le_of_ble_eq_true rfl)) dX2_restore_14 ⟨Nat.le_of_ble_eq_true rfl, Nat.le_of_ble_eq_true rfl⟩) hD hS hA (fun r w'  H locs hp hP hD hS => ?_)
    obtain ⟨rfl, hw9⟩ := hp
    rw [hw9] at hP hD
    refine r_if_ne (tgt := 24) hx hb dX2_restore_17 (by decide) (Nat.lt_trans (bN_lt _) (by decide)) (fun cB => ?_) (fun cB => ?_)
    · have hU := bN_1.mp cB
      have hn60 := hI.R.1
      obtain ⟨i, hi, rfl⟩ := inS_n (by omega) hV
      obtain ⟨a, ha, rfl⟩ := isA_n hU
      have ea := aN_n (show a < 2 ^ 31 by omega)
      have ei := aN_n (show i < 2 ^ 31 by omega)
      have h5 := hI.R.2.2.2.2.2.2.2.1 (60 * a + i)
      have h6 := hI.R.2.2.2.2.2.2.2.2.1 (60 * a + i)
      refine lv_aload_n hx hb dX2_restore_24 rfl (lv_at hl 0 rfl) ?_
      refine va_get (D := D) (ci := 2) (v := .ref (B 5)) (C := RX2) (T := TX2) (N := 19) hx hb hts hiX2 hown hK hP (0) rfl rfl 5 (by decide) (hts (.fieldLink RX2 22 "CoauthorTextModel" "knows" "[Z") (by decide +kernel)) (fun _ h9 => h9) rfl dX2_restore_25 ?_
      refine lv_iload_n hx hb dX2_restore_28 rfl (lv_at hl 1 rfl) ?_
      refine lv_iload_n hx hb dX2_restore_29 rfl (lv_at hl 2 rfl) ?_
      refine K_i (va_runS (As := [.int (nI a), .int (nI i)]) (rest := [.ref (B 5), .ref (B 0)]) ⟨hx, hb, hml, hown, hts⟩ (c_X2_at l a i _) (va_cwS 2 hts gX2_restore_X2_at rfl rfl rfl (by decide +kernel) ⟨Nat.le_of_ble_eq_true rfl, Nat.le_of_ble_eq_true rfl⟩) (pS hP hK hD hS hA hX) rfl rfl hl.1 rfl (lv_room (Nat.le_of_ble_eq_true rfl)) dX2_restore_30 ⟨Nat.le_of_ble_eq_true rfl, Nat.le_of_ble_eq_true rfl⟩) hD hS hA (fun r w'  H locs hp hP hD hS => ?_)
      obtain ⟨rfl, hw9⟩ := hp
      rw [hw9] at hP hD
      refine r_zald hx hb hK hP (5) rfl (by omega) (by decide) dX2_restore_33 ?_
      refine r_if_eq (tgt := 54) hx hb dX2_restore_34 (by decide) (by omega) (fun cC => ?_) (fun cC => ?_)
      · refine lv_iconst (v := nI 3) hx hb dX2_restore_54 (by decide) ?_
        refine K_i (va_runV (As := [.int (nI 3)]) (rest := []) ⟨hx, hb, hml, hown, hts⟩ (c_X2_goes l (k := 3) (by decide) _) (cwV 1 hts gX2_restore_X2_goes rfl rfl rfl (by decide +kernel) ⟨Nat.le_of_ble_eq_true rfl, Nat.le_of_ble_eq_true rfl⟩) (pV hP hK hD hS hA hX (va_recv hK hP (ci := 2) (q0 := 0) rfl rfl)) rfl rfl hl.1 rfl (lv_room (Nat.le_of_ble_eq_true rfl)) dX2_restore_55 ⟨Nat.le_of_ble_eq_true rfl, Nat.le_of_ble_eq_true rfl⟩) hD hS hA (fun r w'  H locs hp hP hD hS => ?_)
        obtain ⟨hr9, rfl⟩ := hp
        obtain rfl : r = nI 0 := hr9
        refine r_if_ne (tgt := 63) hx hb dX2_restore_58 (by decide) (by decide) (fun c1 => ?_) (fun c1 => ?_)
        · omega
        · refine lv_iconst (v := nI 0) hx hb dX2_restore_61 (by decide) ?_
          exact C_iret hx hb hr hlocks hS hP hK hD (Nat.le_of_ble_eq_true rfl) (Nat.le_of_ble_eq_true rfl) dX2_restore_62 (by rw [show spRestore S O (nI a) (nI i) = (3, 0, S) from by simp [spRestore, hU, hV, ea, ei, cC]]; exact ⟨_, up2_s _ _ _ _, rfl, fun h => absurd (show (3 : Nat) = 0 from h) (by decide)⟩)
      · have k5 : S 5 (60 * a + i) = 1 := by omega
        refine lv_aload_n hx hb dX2_restore_37 rfl (lv_at hl 0 rfl) ?_
        refine va_get (D := D) (ci := 2) (v := .ref (B 6)) (C := RX2) (T := TX2) (N := 19) hx hb hts hiX2 hown hK hP (0) rfl rfl 6 (by decide) (hts (.fieldLink RX2 26 "CoauthorTextModel" "isRemoved" "[Z") (by decide +kernel)) (fun _ h9 => h9) rfl dX2_restore_38 ?_
        refine lv_iload_n hx hb dX2_restore_41 rfl (lv_at hl 1 rfl) ?_
        refine lv_iload_n hx hb dX2_restore_42 rfl (lv_at hl 2 rfl) ?_
        refine K_i (va_runS (As := [.int (nI a), .int (nI i)]) (rest := [.ref (B 6), .ref (B 0)]) ⟨hx, hb, hml, hown, hts⟩ (c_X2_at l a i _) (va_cwS 2 hts gX2_restore_X2_at rfl rfl rfl (by decide +kernel) ⟨Nat.le_of_ble_eq_true rfl, Nat.le_of_ble_eq_true rfl⟩) (pS hP hK hD hS hA hX) rfl rfl hl.1 rfl (lv_room (Nat.le_of_ble_eq_true rfl)) dX2_restore_43 ⟨Nat.le_of_ble_eq_true rfl, Nat.le_of_ble_eq_true rfl⟩) hD hS hA (fun r w'  H locs hp hP hD hS => ?_)
        obtain ⟨rfl, hw9⟩ := hp
        rw [hw9] at hP hD
        refine r_zald hx hb hK hP (6) rfl (by omega) (by decide) dX2_restore_46 ?_
        refine r_if_eq (tgt := 54) hx hb dX2_restore_47 (by decide) (by omega) (fun cD => ?_) (fun cD => ?_)
        · refine lv_iconst (v := nI 3) hx hb dX2_restore_54 (by decide) ?_
          refine K_i (va_runV (As := [.int (nI 3)]) (rest := []) ⟨hx, hb, hml, hown, hts⟩ (c_X2_goes l (k := 3) (by decide) _) (cwV 1 hts gX2_restore_X2_goes rfl rfl rfl (by decide +kernel) ⟨Nat.le_of_ble_eq_true rfl, Nat.le_of_ble_eq_true rfl⟩) (pV hP hK hD hS hA hX (va_recv hK hP (ci := 2) (q0 := 0) rfl rfl)) rfl rfl hl.1 rfl (lv_room (Nat.le_of_ble_eq_true rfl)) dX2_restore_55 ⟨Nat.le_of_ble_eq_true rfl, Nat.le_of_ble_eq_true rfl⟩) hD hS hA (fun r w'  H locs hp hP hD hS => ?_)
          obtain ⟨hr9, rfl⟩ := hp
          obtain rfl : r = nI 0 := hr9
          refine r_if_ne (tgt := 63) hx hb dX2_restore_58 (by decide) (by decide) (fun c2 => ?_) (fun c2 => ?_)
          · omega
          · refine lv_iconst (v := nI 0) hx hb dX2_restore_61 (by decide) ?_
            exact C_iret hx hb hr hlocks hS hP hK hD (Nat.le_of_ble_eq_true rfl) (Nat.le_of_ble_eq_true rfl) dX2_restore_62 (by rw [show spRestore S O (nI a) (nI i) = (3, 0, S) from by simp [spRestore, hU, hV, ea, ei, k5, cD]]; exact ⟨_, up2_s _ _ _ _, rfl, fun h => absurd (show (3 : Nat) = 0 from h) (by decide)⟩)
        · have k6 : S 6 (60 * a + i) = 1 := by omega
          refine lv_iconst (v := nI 0) hx hb dX2_restore_50 (by decide) ?_
          refine lv_goto (tgt := 55) hx hb dX2_restore_51 (by decide) ?_
          refine K_i (va_runV (As := [.int (nI 0)]) (rest := []) ⟨hx, hb, hml, hown, hts⟩ (c_X2_goes l (k := 0) (by decide) _) (cwV 1 hts gX2_restore_X2_goes rfl rfl rfl (by decide +kernel) ⟨Nat.le_of_ble_eq_true rfl, Nat.le_of_ble_eq_true rfl⟩) (pV hP hK hD hS hA hX (va_recv hK hP (ci := 2) (q0 := 0) rfl rfl)) rfl rfl hl.1 rfl (lv_room (Nat.le_of_ble_eq_true rfl)) dX2_restore_55 ⟨Nat.le_of_ble_eq_true rfl, Nat.le_of_ble_eq_true rfl⟩) hD hS hA (fun r w'  H locs hp hP hD hS => ?_)
          obtain ⟨hr9, rfl⟩ := hp
          obtain rfl : r = nI 1 := hr9
          refine r_if_ne (tgt := 63) hx hb dX2_restore_58 (by decide) (by decide) (fun c3 => ?_) (fun c3 => ?_)
          · refine lv_aload_n hx hb dX2_restore_63 rfl (lv_at hl 0 rfl) ?_
            refine va_get (D := D) (ci := 2) (v := .ref (B 6)) (C := RX2) (T := TX2) (N := 19) hx hb hts hiX2 hown hK hP (0) rfl rfl 6 (by decide) (hts (.fieldLink RX2 26 "CoauthorTextModel" "isRemoved" "[Z") (by decide +kernel)) (fun _ h9 => h9) rfl dX2_restore_64 ?_
            refine lv_iload_n hx hb dX2_restore_67 rfl (lv_at hl 1 rfl) ?_
            refine lv_iload_n hx hb dX2_restore_68 rfl (lv_at hl 2 rfl) ?_
            refine K_i (va_runS (As := [.int (nI a), .int (nI i)]) (rest := [.ref (B 6)]) ⟨hx, hb, hml, hown, hts⟩ (c_X2_at l a i _) (va_cwS 2 hts gX2_restore_X2_at rfl rfl rfl (by decide +kernel) ⟨Nat.le_of_ble_eq_true rfl, Nat.le_of_ble_eq_true rfl⟩) (pS hP hK hD hS hA hX) rfl rfl hl.1 rfl (lv_room (Nat.le_of_ble_eq_true rfl)) dX2_restore_69 ⟨Nat.le_of_ble_eq_true rfl, Nat.le_of_ble_eq_true rfl⟩) hD hS hA (fun r w'  H locs hp hP hD hS => ?_)
            obtain ⟨rfl, hw9⟩ := hp
            rw [hw9] at hP hD
            refine lv_iconst (v := nI 0) hx hb dX2_restore_72 (by decide) ?_
            refine r_zast (w' := MW cy B (up2 S 6 (60 * a + i) 0) (up2 T 0 2 0) Y) hx hb hK hP hD hS (6) rfl (by omega) (by decide) dX2_restore_73 rfl (by rw [show upd (fun j => nI (S 6 j)) (60 * a + i) (nI 0) = fun j => nI ((up2 S 6 (60 * a + i) 0) 6 j) from upd_n S 6 _ _]; rfl) (fun H locs hP hD hS => ?_)
            refine lv_aload_n hx hb dX2_restore_74 rfl (lv_at hl 0 rfl) ?_
            refine va_get (D := D) (ci := 2) (v := .ref (B 7)) (C := RX2) (T := TX2) (N := 19) hx hb hts hiX2 hown hK hP (0) rfl rfl 7 (by decide) (hts (.fieldLink RX2 29 "CoauthorTextModel" "stamps" "[I") (by decide +kernel)) (fun _ h9 => h9) rfl dX2_restore_75 ?_
            refine lv_iload_n hx hb dX2_restore_78 rfl (lv_at hl 1 rfl) ?_
            refine lv_iload_n hx hb dX2_restore_79 rfl (lv_at hl 2 rfl) ?_
            refine K_i (va_runS (As := [.int (nI a), .int (nI i)]) (rest := [.ref (B 7)]) ⟨hx, hb, hml, hown, hts⟩ (c_X2_at l a i _) (va_cwS 2 hts gX2_restore_X2_at rfl rfl rfl (by decide +kernel) ⟨Nat.le_of_ble_eq_true rfl, Nat.le_of_ble_eq_true rfl⟩) (pS hP hK hD hS hA hX) rfl rfl hl.1 rfl (lv_room (Nat.le_of_ble_eq_true rfl)) dX2_restore_80 ⟨Nat.le_of_ble_eq_true rfl, Nat.le_of_ble_eq_true rfl⟩) hD hS hA (fun r w'  H locs hp hP hD hS => ?_)
            obtain ⟨rfl, hw9⟩ := hp
            rw [hw9] at hP hD
            refine lv_aload_n hx hb dX2_restore_83 rfl (lv_at hl 0 rfl) ?_
            refine lv_iload_n hx hb dX2_restore_84 rfl (lv_at hl 1 rfl) ?_
            refine K_i (va_runV (As := [.int (nI a)]) (rest := [.int (nI (60 * a + i)), .ref (B 7)]) ⟨hx, hb, hml, hown, hts⟩ (c_X2_stamp l ha _) (cwV 1 hts gX2_restore_X2_stamp rfl rfl rfl (by decide +kernel) ⟨Nat.le_of_ble_eq_true rfl, Nat.le_of_ble_eq_true rfl⟩) (pV hP hK hD hS hA hX (va_recv hK hP (ci := 2) (q0 := 0) rfl rfl)) rfl rfl hl.1 rfl (lv_room (Nat.le_of_ble_eq_true rfl)) dX2_restore_85 ⟨Nat.le_of_ble_eq_true rfl, Nat.le_of_ble_eq_true rfl⟩) hD hS hA (fun r w'  H locs hp hP hD hS => ?_)
            obtain ⟨hr9, hw9⟩ := hp
            obtain rfl : r = nI (4 * (S 8 a + 1) + a) := hr9
            obtain rfl : w' = MW cy B (up2 (up2 S 6 (60 * a + i) 0) 8 a (S 8 a + 1)) (up2 T 0 2 0) Y := hw9
            refine r_iast (w' := MW cy B (up2 (up2 (up2 S 6 (60 * a + i) 0) 8 a (S 8 a + 1)) 7 (60 * a + i) (4 * (S 8 a + 1) + a)) (up2 T 0 2 0) Y) hx hb hK hP hD hS (7) rfl (by omega) (by decide) dX2_restore_88 (by rw [show upd (fun j => nI ((up2 (up2 S 6 (60 * a + i) 0) 8 a (S 8 a + 1)) 7 j)) (60 * a + i) (nI (4 * (S 8 a + 1) + a)) = fun j => nI ((up2 (up2 (up2 S 6 (60 * a + i) 0) 8 a (S 8 a + 1)) 7 (60 * a + i) (4 * (S 8 a + 1) + a)) 7 j) from upd_n (up2 (up2 S 6 (60 * a + i) 0) 8 a (S 8 a + 1)) 7 _ _]; rfl) (fun H locs hP hD hS => ?_)
            obtain ⟨S9, hS9⟩ : ∃ S9, setS S a i 0 = S9 := ⟨_, rfl⟩
            have hP : va_P D vwCl (MW cy B S9 (up2 T 0 2 0) Y) H := by rw [← hS9]; exact hP
            have hD : va_D A (MW cy B S9 (up2 T 0 2 0) Y) := by rw [← hS9]; exact hD
            have hR9 : Rng S9 := by rw [← hS9]; exact hI.R.set hF ha (by decide)
            have hg9 : growP S9 := by rw [← hS9]; exact grow_set hI.g a i 0
            have hl9 : layP S9 a (layL S O a) := by rw [← hS9]; exact lay_set (hI.lay ha) a i 0
            refine lv_aload_n hx hb dX2_restore_89 rfl (lv_at hl 0 rfl) ?_
            refine lv_iload_n hx hb dX2_restore_90 rfl (lv_at hl 1 rfl) ?_
            refine K_v (va_runV (As := [.int (nI a)]) (rest := []) ⟨hx, hb, hml, hown, hts⟩ (c_X2_laysText l hR9 hg9 ha hl9 _) (cwV 1 hts gX2_restore_X2_laysText rfl rfl rfl (by decide +kernel) ⟨Nat.le_of_ble_eq_true rfl, Nat.le_of_ble_eq_true rfl⟩) (pV hP hK hD hS hA hX (va_recv hK hP (ci := 2) (q0 := 0) rfl rfl)) rfl rfl hl.1 rfl (lv_room (Nat.le_of_ble_eq_true rfl)) dX2_restore_91 ⟨Nat.le_of_ble_eq_true rfl, Nat.le_of_ble_eq_true rfl⟩) hD hS hA (fun w'  H locs hp hP hD hS => ?_)
            obtain ⟨T2, rfl, h2, ht⟩ := hp
            have etx : (layL S O a).filter (visB S9 a) = txL S9 O a := by rw [← lay_txt]; congr 1; rw [← hS9]; rfl
            rw [etx] at ht
            have hmem : ∀ x, x ∈ txL S9 O a → x < 60 := fun x hx => by have := (hI.2.2.2.2.1 x).mp (List.mem_filter.mp hx).1; omega
            have hin : i ∈ txL S9 O a := by rw [← hS9, txL, List.mem_filter]; exact ⟨(hI.2.2.2.2.1 i).mpr hi, by simp [vsb, setS, up2, k5]⟩
            refine lv_aload_n hx hb dX2_restore_94 rfl (lv_at hl 0 rfl) ?_
            refine lv_iload_n hx hb dX2_restore_95 rfl (lv_at hl 2 rfl) ?_
            refine K_i (va_runV (As := [.int (nI i)]) (rest := []) ⟨hx, hb, hml, hown, hts⟩ (c_X2_placeOf l ht (hI.2.2.2.1.filter _) hin (nd_len 60 _ (hI.2.2.2.1.filter _) hmem) hmem _) (cwV 1 hts gX2_restore_X2_placeOf rfl rfl rfl (by decide +kernel) ⟨Nat.le_of_ble_eq_true rfl, Nat.le_of_ble_eq_true rfl⟩) (pV hP hK hD hS hA hX (va_recv hK hP (ci := 2) (q0 := 0) rfl rfl)) rfl rfl hl.1 rfl (lv_room (Nat.le_of_ble_eq_true rfl)) dX2_restore_96 ⟨Nat.le_of_ble_eq_true rfl, Nat.le_of_ble_eq_true rfl⟩) hD hS hA (fun r w'  H locs hp hP hD hS => ?_)
            obtain ⟨rfl, rfl⟩ := hp
            exact C_iret hx hb hr hlocks hS hP hK hD (Nat.le_of_ble_eq_true rfl) (Nat.le_of_ble_eq_true rfl) dX2_restore_99 (by rw [show spRestore S O (nI a) (nI i) = (0, nI (posL (txL S9 O a) i), S9) from by simp only [spRestore, hU, hV, ea, ei, k5, k6, hS9, Bool.true_eq_false, if_false, and_self, if_true]]; exact ⟨T2, by rw [h2]; exact up2_s _ _ _ _, rfl, fun _ => rfl⟩)
          · omega
    · have hU := bN_0.mp cB
      refine lv_iconst (v := nI 2) hx hb dX2_restore_20 (by decide) ?_
      refine lv_goto (tgt := 55) hx hb dX2_restore_21 (by decide) ?_
      refine K_i (va_runV (As := [.int (nI 2)]) (rest := []) ⟨hx, hb, hml, hown, hts⟩ (c_X2_goes l (k := 2) (by decide) _) (cwV 1 hts gX2_restore_X2_goes rfl rfl rfl (by decide +kernel) ⟨Nat.le_of_ble_eq_true rfl, Nat.le_of_ble_eq_true rfl⟩) (pV hP hK hD hS hA hX (va_recv hK hP (ci := 2) (q0 := 0) rfl rfl)) rfl rfl hl.1 rfl (lv_room (Nat.le_of_ble_eq_true rfl)) dX2_restore_55 ⟨Nat.le_of_ble_eq_true rfl, Nat.le_of_ble_eq_true rfl⟩) hD hS hA (fun r w'  H locs hp hP hD hS => ?_)
      obtain ⟨hr9, rfl⟩ := hp
      obtain rfl : r = nI 0 := hr9
      refine r_if_ne (tgt := 63) hx hb dX2_restore_58 (by decide) (by decide) (fun c4 => ?_) (fun c4 => ?_)
      · omega
      · refine lv_iconst (v := nI 0) hx hb dX2_restore_61 (by decide) ?_
        exact C_iret hx hb hr hlocks hS hP hK hD (Nat.le_of_ble_eq_true rfl) (Nat.le_of_ble_eq_true rfl) dX2_restore_62 (by rw [show spRestore S O p0 p1 = (2, 0, S) from by simp [spRestore, hU, hV]]; exact ⟨_, up2_s _ _ _ _, rfl, fun h => absurd (show (2 : Nat) = 0 from h) (by decide)⟩)
  · have hV := bN_0.mp cA
    refine lv_iconst (v := nI 1) hx hb dX2_restore_9 (by decide) ?_
    refine lv_goto (tgt := 55) hx hb dX2_restore_10 (by decide) ?_
    refine K_i (va_runV (As := [.int (nI 1)]) (rest := []) ⟨hx, hb, hml, hown, hts⟩ (c_X2_goes l (k := 1) (by decide) _) (cwV 1 hts gX2_restore_X2_goes rfl rfl rfl (by decide +kernel) ⟨Nat.le_of_ble_eq_true rfl, Nat.le_of_ble_eq_true rfl⟩) (pV hP hK hD hS hA hX (va_recv hK hP (ci := 2) (q0 := 0) rfl rfl)) rfl rfl hl.1 rfl (lv_room (Nat.le_of_ble_eq_true rfl)) dX2_restore_55 ⟨Nat.le_of_ble_eq_true rfl, Nat.le_of_ble_eq_true rfl⟩) hD hS hA (fun r w'  H locs hp hP hD hS => ?_)
    obtain ⟨hr9, rfl⟩ := hp
    obtain rfl : r = nI 0 := hr9
    refine r_if_ne (tgt := 63) hx hb dX2_restore_58 (by decide) (by decide) (fun c5 => ?_) (fun c5 => ?_)
    · omega
    · refine lv_iconst (v := nI 0) hx hb dX2_restore_61 (by decide) ?_
      exact C_iret hx hb hr hlocks hS hP hK hD (Nat.le_of_ble_eq_true rfl) (Nat.le_of_ble_eq_true rfl) dX2_restore_62 (by rw [show spRestore S O p0 p1 = (1, 0, S) from by simp [spRestore, hV]]; exact ⟨_, up2_s _ _ _ _, rfl, fun h => absurd (show (1 : Nat) = 0 from h) (by decide)⟩)
