/-! ===== the class: sales ===== -/
def shr (S : Nat → Nat → Nat) (e m a : Nat) : Nat := if S 9 (4 * e + a) = 0 then 0 else slF S m + slP S e m a
theorem shr_congr {S S' : Nat → Nat → Nat} (h9 : S' 9 = S 9) (h0 : S' 0 = S 0) (e m a : Nat) : shr S' e m a = shr S e m a := by
  simp only [shr, slF, slP, slL, slW, slA, h9, h0]
theorem slA_congr {S S' : Nat → Nat → Nat} (h9 : S' 9 = S 9) (e : Nat) : slA S' e = slA S e := by
  simp only [slA, h9]
theorem slP_0 {S : Nat → Nat → Nat} {e m a : Nat} (h : S 9 (4 * e + a) = 0) : slP S e m a = 0 := by
  rw [slP, h, Nat.mul_zero, Nat.zero_div]
theorem slW_mul (S : Nat → Nat → Nat) (e m : Nat) : slW S e * slF S m = (if S 9 (4 * e + 0) = 0 then 0 else slF S m) + (if S 9 (4 * e + 1) = 0 then 0 else slF S m) + (if S 9 (4 * e + 2) = 0 then 0 else slF S m) + (if S 9 (4 * e + 3) = 0 then 0 else slF S m) := by
  unfold slW s4
  simp only [Nat.add_mul]
  have hs : ∀ x : Nat, (if x = 0 then 0 else 1) * slF S m = if x = 0 then 0 else slF S m := fun x => by split <;> simp
  rw [hs, hs, hs, hs]
theorem shr_eq (S : Nat → Nat → Nat) (e m a : Nat) : shr S e m a = (if S 9 (4 * e + a) = 0 then 0 else slF S m) + slP S e m a := by
  unfold shr
  split
  · rename_i h; rw [slP_0 h]
  · rfl
theorem shr_sum (S : Nat → Nat → Nat) (e m : Nat) : shr S e m 0 + shr S e m 1 + shr S e m 2 + shr S e m 3 = slW S e * slF S m + s4 (slP S e m) := by
  rw [slW_mul, shr_eq, shr_eq, shr_eq, shr_eq]
  unfold s4
  omega
theorem slI_lt {S : Nat → Nat → Nat} {e : Nat} (h : 0 < slA S e) : slI S e < 4 ∧ 0 < S 9 (4 * e + slI S e) ∧ ∀ a, a < 4 → 0 < S 9 (4 * e + a) → slI S e ≤ a := by
  have hp : 0 < S 9 (4 * e + 0) + S 9 (4 * e + 1) + S 9 (4 * e + 2) + S 9 (4 * e + 3) := h
  unfold slI
  by_cases q0 : S 9 (4 * e + 0) = 0
  · by_cases q1 : S 9 (4 * e + 1) = 0
    · by_cases q2 : S 9 (4 * e + 2) = 0
      · rw [if_pos q0, if_pos q1, if_pos q2]
        refine ⟨by decide, by omega, fun a ha hx => ?_⟩
        rcases (show a = 0 ∨ a = 1 ∨ a = 2 ∨ a = 3 by omega) with r | r | r | r <;> subst r <;> omega
      · rw [if_pos q0, if_pos q1, if_neg q2]
        refine ⟨by decide, by omega, fun a ha hx => ?_⟩
        rcases (show a = 0 ∨ a = 1 ∨ a = 2 ∨ a = 3 by omega) with r | r | r | r <;> subst r <;> omega
    · rw [if_pos q0, if_neg q1]
      refine ⟨by decide, by omega, fun a ha hx => ?_⟩
      rcases (show a = 0 ∨ a = 1 ∨ a = 2 ∨ a = 3 by omega) with r | r | r | r <;> subst r <;> omega
  · rw [if_neg q0]
    exact ⟨by decide, by omega, fun a _ _ => Nat.zero_le a⟩

set_option maxHeartbeats 4000000 in
set_option maxRecDepth 100000 in
theorem c_X1_shareOf (l : Launch) {D : va_G} {cy : Nat → ClassId} {G : Nat → Nat} {S : Nat → Nat → Nat} {hd : Option Nat} {nx : Nat → Option Nat} {Y : va_W} (h2 : S 0 2 ≤ 25) (h9 : ∀ i, S 9 i ≤ 60) {e9 a am : Nat} (he : e9 < 20) (hal : 0 < slA S e9) (ha : a < 4) (ham : am ≤ 1000000) : CI l yX1_shareOf wsX1_shareOf ({ frames := 1, cells := 0, slots := 0, locals := 12 } : Room) D cy [.ref (G 0), .int (nI a), .ref (G (10 + e9)), .int (nI am)] (CW cy G S hd nx Y) (fun r w' => r = nI (shr S e9 am a) ∧ w' = CW cy G S hd nx Y) 0 0 := by
  refine CI.of (cc := cX1_shareOf) (maxL := 8) (ret := (some .int)) (by decide) rfl (Nat.le_of_ble_eq_true rfl) ?_
  intro p e s m below meth c A ls E0 hl
  obtain ⟨hx, hb, hml, hown, hts, hr, hlocks, hA, hS, hP, hK, hD, hX⟩ := E0
  have hiX1 : ∀ w ∈ u_ws RX1 TX1 9, w ∈ wsX1_shareOf := by decide +kernel
  have hl : lv_has ls 8 [(0, .ref (G 0)), (1, .int (nI a)), (2, .ref (G (10 + e9))), (3, .int (nI am))] := hl
  refine lv_iconst (v := nI 0) hx hb dX1_shareOf_0 (by decide) ?_
  refine lv_istore (lv' := [(4, .int (nI 0)), (0, .ref (G 0)), (1, .int (nI a)), (2, .ref (G (10 + e9))), (3, .int (nI am))]) hx hb dX1_shareOf_1 hl (by decide) rfl (fun ls hl => ?_)
  refine lv_iconst (v := nI 0) hx hb dX1_shareOf_3 (by decide) ?_
  refine lv_istore (lv' := [(5, .int (nI 0)), (4, .int (nI 0)), (0, .ref (G 0)), (1, .int (nI a)), (2, .ref (G (10 + e9))), (3, .int (nI am))]) hx hb dX1_shareOf_4 hl (by decide) rfl (fun ls hl => ?_)
  refine lv_iconst (v := nI 0) hx hb dX1_shareOf_6 (by decide) ?_
  refine lv_istore (lv' := [(6, .int (nI 0)), (5, .int (nI 0)), (4, .int (nI 0)), (0, .ref (G 0)), (1, .int (nI a)), (2, .ref (G (10 + e9))), (3, .int (nI am))]) hx hb dX1_shareOf_7 hl (by decide) rfl (fun ls hl => ?_)
  have iter : ∀ (k al wr : Nat) (v6 : Int32) (ls : Array Slot), k < 4 → v6 = nI k → lv_has ls 8 [(6, .int v6), (5, .int (nI al)), (4, .int (nI wr)), (0, .ref (G 0)), (1, .int (nI a)), (2, .ref (G (10 + e9))), (3, .int (nI am))] → (∀ (ls : Array Slot), lv_has ls 8 [(6, .int (nI (k + 1))), (5, .int (nI (al + S 9 (4 * e9 + k)))), (4, .int (nI (wr + (if S 9 (4 * e9 + k) = 0 then 0 else 1)))), (0, .ref (G 0)), (1, .int (nI a)), (2, .ref (G (10 + e9))), (3, .int (nI am))] → W p l e ({ frames := 1, cells := 0, slots := 0, locals := 12 } : Room) s m ([.ref (G 0), .int (nI a), .ref (G (10 + e9)), .int (nI am)] : List Value).toArray below meth c s.heap [] 0 0 (MQ below (va_Qi (fun r w' => r = nI (shr S e9 am a) ∧ w' = CW cy G S hd nx Y) (fun w' t => wB D cy A w' t) A) ([.ref (G 0), .int (nI a), .ref (G (10 + e9)), .int (nI am)] : List Value).toArray s 0 0 A) (F0 m 9 ls [])) → W p l e ({ frames := 1, cells := 0, slots := 0, locals := 12 } : Room) s m ([.ref (G 0), .int (nI a), .ref (G (10 + e9)), .int (nI am)] : List Value).toArray below meth c s.heap [] 0 0 (MQ below (va_Qi (fun r w' => r = nI (shr S e9 am a) ∧ w' = CW cy G S hd nx Y) (fun w' t => wB D cy A w' t) A) ([.ref (G 0), .int (nI a), .ref (G (10 + e9)), .int (nI am)] : List Value).toArray s 0 0 A) (F0 m 9 ls []) := by
    intro k al wr v6 ls hk hv6 hl kont
    subst hv6
    have hl : lv_has ls 8 [(6, .int (nI k)), (5, .int (nI al)), (4, .int (nI wr)), (0, .ref (G 0)), (1, .int (nI a)), (2, .ref (G (10 + e9))), (3, .int (nI am))] := hl
    have h9k := h9 (4 * e9 + k)
    refine lv_iload hx hb dX1_shareOf_9 (lv_at hl 0 rfl) ?_
    refine lv_iconst (v := nI 4) hx hb dX1_shareOf_11 (by decide) ?_
    refine r_icmp_ge (tgt := 40) hx hb dX1_shareOf_12 (by decide) (by omega) (by decide) (fun c1 => ?_) (fun c1 => ?_)
    · omega
    · refine lv_aload_n hx hb dX1_shareOf_15 rfl (lv_at hl 5 rfl) ?_
      refine lv_iload hx hb dX1_shareOf_16 (lv_at hl 0 rfl) ?_
      refine r_iald hx hb hK hP (6 + e9) (CW_rw he) (by omega) (by decide) dX1_shareOf_18 ?_
      refine lv_topi (fun y9 ey9 => ?_)
      obtain rfl : y9 = nI (S 9 (4 * e9 + k)) := ey9.trans (by rw [rwV, if_pos hk])
      refine r_if_le (tgt := 34) hx hb dX1_shareOf_19 (by decide) (by omega) (fun cH => ?_) (fun cH => ?_)
      · refine lv_iinc (v := nI (k + 1)) (lv' := [(6, .int (nI (k + 1))), (5, .int (nI al)), (4, .int (nI wr)), (0, .ref (G 0)), (1, .int (nI a)), (2, .ref (G (10 + e9))), (3, .int (nI am))]) hx hb dX1_shareOf_34 hl (k := 0) rfl (nI_inc _) (by decide) rfl (fun ls hl => ?_)
        refine lv_goto (tgt := 9) hx hb dX1_shareOf_37 (by decide) ?_
        exact kont ls (by rw [if_pos cH, cH]; exact lv_sub hl [0, 1, 2, 3, 4, 5, 6] rfl)
      · refine lv_iinc (v := nI (wr + 1)) (lv' := [(4, .int (nI (wr + 1))), (6, .int (nI k)), (5, .int (nI al)), (0, .ref (G 0)), (1, .int (nI a)), (2, .ref (G (10 + e9))), (3, .int (nI am))]) hx hb dX1_shareOf_22 hl (k := 2) rfl (nI_inc _) (by decide) rfl (fun ls hl => ?_)
        refine lv_iload hx hb dX1_shareOf_25 (lv_at hl 2 rfl) ?_
        refine lv_aload_n hx hb dX1_shareOf_27 rfl (lv_at hl 5 rfl) ?_
        refine lv_iload hx hb dX1_shareOf_28 (lv_at hl 1 rfl) ?_
        refine r_iald hx hb hK hP (6 + e9) (CW_rw he) (by omega) (by decide) dX1_shareOf_30 ?_
        refine lv_topi (fun y9 ey9 => ?_)
        obtain rfl : y9 = nI (S 9 (4 * e9 + k)) := ey9.trans (by rw [rwV, if_pos hk])
        refine r_iadd hx hb dX1_shareOf_31 ?_
        refine lv_istore (lv' := [(5, .int (nI (al + (S 9 (4 * e9 + k))))), (4, .int (nI (wr + 1))), (6, .int (nI k)), (0, .ref (G 0)), (1, .int (nI a)), (2, .ref (G (10 + e9))), (3, .int (nI am))]) hx hb dX1_shareOf_32 hl (by decide) rfl (fun ls hl => ?_)
        refine lv_iinc (v := nI (k + 1)) (lv' := [(6, .int (nI (k + 1))), (5, .int (nI (al + (S 9 (4 * e9 + k))))), (4, .int (nI (wr + 1))), (0, .ref (G 0)), (1, .int (nI a)), (2, .ref (G (10 + e9))), (3, .int (nI am))]) hx hb dX1_shareOf_34 hl (k := 2) rfl (nI_inc _) (by decide) rfl (fun ls hl => ?_)
        refine lv_goto (tgt := 9) hx hb dX1_shareOf_37 (by decide) ?_
        exact kont ls (by rw [if_neg (show ¬ S 9 (4 * e9 + k) = 0 by omega)]; exact lv_sub hl [0, 1, 2, 3, 4, 5, 6] rfl)
  refine iter 0 (0) (0) (nI 0) ls (by decide) rfl (lv_sub hl [0, 1, 2, 3, 4, 5, 6] rfl) (fun ls hl => ?_)
  refine iter 1 (0 + S 9 (4 * e9 + 0)) (0 + (if S 9 (4 * e9 + 0) = 0 then 0 else 1)) (nI 1) ls (by decide) rfl hl (fun ls hl => ?_)
  refine iter 2 ((0 + S 9 (4 * e9 + 0)) + S 9 (4 * e9 + 1)) ((0 + (if S 9 (4 * e9 + 0) = 0 then 0 else 1)) + (if S 9 (4 * e9 + 1) = 0 then 0 else 1)) (nI 2) ls (by decide) rfl hl (fun ls hl => ?_)
  refine iter 3 (((0 + S 9 (4 * e9 + 0)) + S 9 (4 * e9 + 1)) + S 9 (4 * e9 + 2)) (((0 + (if S 9 (4 * e9 + 0) = 0 then 0 else 1)) + (if S 9 (4 * e9 + 1) = 0 then 0 else 1)) + (if S 9 (4 * e9 + 2) = 0 then 0 else 1)) (nI 3) ls (by decide) rfl hl (fun ls hl => ?_)
  have eal : (((0 + S 9 (4 * e9 + 0)) + S 9 (4 * e9 + 1)) + S 9 (4 * e9 + 2)) + S 9 (4 * e9 + 3) = slA S e9 := by show _ = S 9 (4 * e9 + 0) + S 9 (4 * e9 + 1) + S 9 (4 * e9 + 2) + S 9 (4 * e9 + 3); omega
  have ewr : (((0 + (if S 9 (4 * e9 + 0) = 0 then 0 else 1)) + (if S 9 (4 * e9 + 1) = 0 then 0 else 1)) + (if S 9 (4 * e9 + 2) = 0 then 0 else 1)) + (if S 9 (4 * e9 + 3) = 0 then 0 else 1) = slW S e9 := by show _ = (if S 9 (4 * e9 + 0) = 0 then 0 else 1) + (if S 9 (4 * e9 + 1) = 0 then 0 else 1) + (if S 9 (4 * e9 + 2) = 0 then 0 else 1) + (if S 9 (4 * e9 + 3) = 0 then 0 else 1); omega
  rw [eal, ewr] at hl
  have hfm : am * S 0 2 ≤ 25000000 := Nat.le_trans (Nat.mul_le_mul ham h2) (by decide)
  have hA4 : slA S e9 ≤ 240 := by
    have q0 := h9 (4 * e9 + 0)
    have q1 := h9 (4 * e9 + 1)
    have q2 := h9 (4 * e9 + 2)
    have q3 := h9 (4 * e9 + 3)
    show S 9 (4 * e9 + 0) + S 9 (4 * e9 + 1) + S 9 (4 * e9 + 2) + S 9 (4 * e9 + 3) ≤ 240
    omega
  have h9a := h9 (4 * e9 + a)
  have hF : 4 * slF S am ≤ am := by have h1 : am * S 0 2 ≤ am * 25 := Nat.mul_le_mul_left _ h2; unfold slF; omega
  have hWF : slW S e9 * slF S am ≤ am := Nat.le_trans (Nat.mul_le_mul_right _ (slW_le S e9)) hF
  have hL6 : slL S e9 am ≤ 1000000 := by unfold slL; omega
  have hmul : slL S e9 am * S 9 (4 * e9 + a) ≤ 60000000 := Nat.le_trans (Nat.mul_le_mul hL6 (h9 _)) (by decide)
  refine lv_iload hx hb dX1_shareOf_9 (lv_at hl 0 rfl) ?_
  refine lv_iconst (v := nI 4) hx hb dX1_shareOf_11 (by decide) ?_
  refine r_icmp_ge (tgt := 40) hx hb dX1_shareOf_12 (by decide) (by decide) (by decide) (fun c2 => ?_) (fun c2 => ?_)
  · refine lv_iload hx hb dX1_shareOf_40 (lv_at hl 1 rfl) ?_
    refine r_if_eq (tgt := 51) hx hb dX1_shareOf_42 (by decide) (by omega) (fun c3 => ?_) (fun c3 => ?_)
    · omega
    · refine lv_aload_n hx hb dX1_shareOf_45 rfl (lv_at hl 5 rfl) ?_
      refine lv_iload_n hx hb dX1_shareOf_46 rfl (lv_at hl 4 rfl) ?_
      refine r_iald hx hb hK hP (6 + e9) (CW_rw he) (by omega) (by decide) dX1_shareOf_47 ?_
      refine lv_topi (fun y9 ey9 => ?_)
      obtain rfl : y9 = nI (S 9 (4 * e9 + a)) := ey9.trans (by rw [rwV, if_pos ha])
      refine r_if_ne (tgt := 53) hx hb dX1_shareOf_48 (by decide) (by omega) (fun cH => ?_) (fun cH => ?_)
      · refine lv_iload_n hx hb dX1_shareOf_53 rfl (lv_at hl 6 rfl) ?_
        refine lv_aload_n hx hb dX1_shareOf_54 rfl (lv_at hl 3 rfl) ?_
        refine va_get (D := D) (ci := 1) (v := .int (nI (S 0 2))) (C := RX1) (T := TX1) (N := 9) hx hb hts hiX1 hown hK hP (0) rfl rfl 6 (by decide) (hts (.fieldLink RX1 35 "CoauthorText" "floorPercent" "I") (by decide +kernel)) (fun _ h9 => h9) rfl dX1_shareOf_55 ?_
        refine r_imul hx hb dX1_shareOf_58 ?_
        refine lv_bipush (v := nI 100) hx hb dX1_shareOf_59 (by decide) ?_
        refine r_idiv hx hb dX1_shareOf_61 (by omega) (by decide) (by decide) ?_
        refine lv_istore (lv' := [(6, .int (nI (slF S am))), (5, .int (nI (slA S e9))), (4, .int (nI (slW S e9))), (0, .ref (G 0)), (1, .int (nI a)), (2, .ref (G (10 + e9))), (3, .int (nI am))]) hx hb dX1_shareOf_62 hl (by decide) rfl (fun ls hl => ?_)
        refine lv_iload_n hx hb dX1_shareOf_64 rfl (lv_at hl 6 rfl) ?_
        refine lv_iload hx hb dX1_shareOf_65 (lv_at hl 2 rfl) ?_
        refine lv_iload hx hb dX1_shareOf_67 (lv_at hl 0 rfl) ?_
        refine r_imul hx hb dX1_shareOf_69 ?_
        refine r_isub hx hb dX1_shareOf_70 (by exact hWF) ?_
        refine lv_istore (lv' := [(7, .int (nI (slL S e9 am))), (6, .int (nI (slF S am))), (5, .int (nI (slA S e9))), (4, .int (nI (slW S e9))), (0, .ref (G 0)), (1, .int (nI a)), (2, .ref (G (10 + e9))), (3, .int (nI am))]) hx hb dX1_shareOf_71 hl (by decide) rfl (fun ls hl => ?_)
        refine lv_iload hx hb dX1_shareOf_73 (lv_at hl 1 rfl) ?_
        refine lv_iload hx hb dX1_shareOf_75 (lv_at hl 0 rfl) ?_
        refine lv_aload_n hx hb dX1_shareOf_77 rfl (lv_at hl 6 rfl) ?_
        refine lv_iload_n hx hb dX1_shareOf_78 rfl (lv_at hl 5 rfl) ?_
        refine r_iald hx hb hK hP (6 + e9) (CW_rw he) (by omega) (by decide) dX1_shareOf_79 ?_
        refine lv_topi (fun y9 ey9 => ?_)
        obtain rfl : y9 = nI (S 9 (4 * e9 + a)) := ey9.trans (by rw [rwV, if_pos ha])
        refine r_imul hx hb dX1_shareOf_80 ?_
        refine lv_iload hx hb dX1_shareOf_81 (lv_at hl 2 rfl) ?_
        refine r_idiv hx hb dX1_shareOf_83 (by exact Nat.lt_of_le_of_lt hmul (by decide)) (by omega) (by omega) ?_
        refine r_iadd hx hb dX1_shareOf_84 ?_
        exact C_iret hx hb hr hlocks hS hP hK hD (Nat.le_of_ble_eq_true rfl) (Nat.le_of_ble_eq_true rfl) dX1_shareOf_85 ⟨by rw [shr, if_neg (show ¬ S 9 (4 * e9 + a) = 0 by omega)]; rfl, rfl⟩
      · refine lv_iconst (v := nI 0) hx hb dX1_shareOf_51 (by decide) ?_
        exact C_iret hx hb hr hlocks hS hP hK hD (Nat.le_of_ble_eq_true rfl) (Nat.le_of_ble_eq_true rfl) dX1_shareOf_52 ⟨by rw [shr, if_pos cH], rfl⟩
  · omega

set_option maxHeartbeats 4000000 in
set_option maxRecDepth 100000 in
theorem c_X1_credit (l : Launch) {D : va_G} {cy : Nat → ClassId} {G : Nat → Nat} {S : Nat → Nat → Nat} {hd : Option Nat} {nx : Nat → Option Nat} {Y : va_W} {a x9 : Nat} (ha : a < 4) (hx9 : x9 < 1073741824) (h10 : S 10 a < 1073741824) : CI l yX1_credit wsX1_credit ({ frames := 1, cells := 0, slots := 0, locals := 24 } : Room) D cy [.ref (G 0), .int (nI a), .int (nI x9)] (CW cy G S hd nx Y) (fun r w' => r = nI (x9 - min x9 (S 10 a)) ∧ w' = CW cy G (up2 (up2 S 10 a (S 10 a - min x9 (S 10 a))) 11 a (S 11 a + (x9 - min x9 (S 10 a)))) hd nx Y) 0 0 := by
  refine CI.of (cc := cX1_credit) (maxL := 4) (ret := (some .int)) (by decide) rfl (Nat.le_of_ble_eq_true rfl) ?_
  intro p e s m below meth c A ls E0 hl
  obtain ⟨hx, hb, hml, hown, hts, hr, hlocks, hA, hS, hP, hK, hD, hX⟩ := E0
  have hiX1 : ∀ w ∈ u_ws RX1 TX1 9, w ∈ wsX1_credit := by decide +kernel
  have hl : lv_has ls 4 [(0, .ref (G 0)), (1, .int (nI a)), (2, .int (nI x9))] := hl
  refine lv_iload_n hx hb dX1_credit_0 rfl (lv_at hl 2 rfl) ?_
  refine lv_aload_n hx hb dX1_credit_1 rfl (lv_at hl 0 rfl) ?_
  refine va_get (D := D) (ci := 1) (v := .ref (G 4)) (C := RX1) (T := TX1) (N := 9) hx hb hts hiX1 hown hK hP (0) rfl rfl 7 (by decide) (hts (.fieldLink RX1 38 "CoauthorText" "advancesLeft" "[I") (by decide +kernel)) (fun _ h9 => h9) rfl dX1_credit_2 ?_
  refine lv_iload_n hx hb dX1_credit_5 rfl (lv_at hl 1 rfl) ?_
  refine r_iald hx hb hK hP (4) rfl (by omega) (by decide) dX1_credit_6 ?_
  refine va_mmin hx hb (by rw [hml]; exact hl.1.symm) hown (hts (.methodLink RX1 162 Lib.Math.min.name) (by decide +kernel)) (hts (.static Lib.Math.min.name) (by decide +kernel)) (hts (.initialized "java/lang/Math") (by decide +kernel)) (hts (.code Lib.Math.min.name Lib.Math.min.code 2 (some .int)) (by decide +kernel)) (Nat.le_of_ble_eq_true rfl) (Nat.le_of_ble_eq_true rfl) (Nat.le_of_ble_eq_true rfl) (Nat.le_of_ble_eq_true rfl) dX1_credit_7 ?_
  refine lv_topi (fun y9 ey9 => ?_)
  obtain rfl : y9 = nI (min x9 (S 10 a)) := ey9.trans (by
      split
      · rename_i h; rw [nI_ltI (by omega) (by omega)] at h; rw [show min x9 (S 10 a) = S 10 a from by omega]
      · rename_i h; rw [nI_ltI (by omega) (by omega)] at h; rw [show min x9 (S 10 a) = x9 from by omega])
  have hm1 : min x9 (S 10 a) ≤ x9 := Nat.min_le_left _ _
  have hm2 : min x9 (S 10 a) ≤ S 10 a := Nat.min_le_right _ _
  refine lv_istore_n (lv' := [(3, .int (nI (min x9 (S 10 a)))), (0, .ref (G 0)), (1, .int (nI a)), (2, .int (nI x9))]) hx hb dX1_credit_10 rfl hl (by decide) rfl (fun ls hl => ?_)
  refine lv_aload_n hx hb dX1_credit_11 rfl (lv_at hl 1 rfl) ?_
  refine va_get (D := D) (ci := 1) (v := .ref (G 4)) (C := RX1) (T := TX1) (N := 9) hx hb hts hiX1 hown hK hP (0) rfl rfl 7 (by decide) (hts (.fieldLink RX1 38 "CoauthorText" "advancesLeft" "[I") (by decide +kernel)) (fun _ h9 => h9) rfl dX1_credit_12 ?_
  refine lv_iload_n hx hb dX1_credit_15 rfl (lv_at hl 2 rfl) ?_
  refine lv_dup2_11 hx hb dX1_credit_16 rfl rfl ?_
  refine r_iald hx hb hK hP (4) rfl (by omega) (by decide) dX1_credit_17 ?_
  refine lv_iload_n hx hb dX1_credit_18 rfl (lv_at hl 0 rfl) ?_
  refine r_isub hx hb dX1_credit_19 (by exact hm2) ?_
  refine r_iast (w' := CW cy G (up2 S 10 a (S 10 a - min x9 (S 10 a))) hd nx Y) hx hb hK hP hD hS (4) rfl (by omega) (by decide) dX1_credit_20 (by rw [show upd (fun x9 => nI (S 10 x9)) a (nI (S 10 a - min x9 (S 10 a))) = fun y9 => nI (up2 S 10 a (S 10 a - min x9 (S 10 a)) 10 y9) from upd_n S 10 _ _]; rfl) (fun H locs hP hD hS => ?_)
  refine lv_aload_n hx hb dX1_credit_21 rfl (lv_at hl 1 rfl) ?_
  refine va_get (D := D) (ci := 1) (v := .ref (G 5)) (C := RX1) (T := TX1) (N := 9) hx hb hts hiX1 hown hK hP (0) rfl rfl 8 (by decide) (hts (.fieldLink RX1 41 "CoauthorText" "paidBySales" "[J") (by decide +kernel)) (fun _ h9 => h9) rfl dX1_credit_22 ?_
  refine lv_iload_n hx hb dX1_credit_25 rfl (lv_at hl 2 rfl) ?_
  refine lv_dup2_11 hx hb dX1_credit_26 rfl rfl ?_
  refine r_lald hx hb hK hP (5) rfl (by omega) (by decide) dX1_credit_27 ?_
  refine lv_topl (fun y9 ey9 => ?_)
  obtain rfl : y9 = lN (S 11 a) := ey9
  refine lv_iload_n hx hb dX1_credit_28 rfl (lv_at hl 3 rfl) ?_
  refine lv_iload_n hx hb dX1_credit_29 rfl (lv_at hl 0 rfl) ?_
  refine r_isub hx hb dX1_credit_30 (by exact hm1) ?_
  refine lv_i2l (v := lN (x9 - (min x9 (S 10 a)))) hx hb dX1_credit_31 (nI_l (by omega)) ?_
  refine r_ladd hx hb dX1_credit_32 ?_
  refine r_last (w' := CW cy G (up2 (up2 S 10 a (S 10 a - min x9 (S 10 a))) 11 a (S 11 a + (x9 - min x9 (S 10 a)))) hd nx Y) hx hb hK hP hD hS (5) rfl (by omega) (by decide) dX1_credit_33 (by rw [show vp_updL (fun y9 => lN (up2 S 10 a (S 10 a - min x9 (S 10 a)) 11 y9)) a (lN (S 11 a + (x9 - min x9 (S 10 a)))) = fun y9 => lN ((up2 (up2 S 10 a (S 10 a - min x9 (S 10 a))) 11 a (S 11 a + (x9 - min x9 (S 10 a)))) 11 y9) from upd_l (up2 S 10 a (S 10 a - min x9 (S 10 a))) 11 _ _]; rfl) (fun H locs hP hD hS => ?_)
  refine lv_iload_n hx hb dX1_credit_34 rfl (lv_at hl 3 rfl) ?_
  refine lv_iload_n hx hb dX1_credit_35 rfl (lv_at hl 0 rfl) ?_
  refine r_isub hx hb dX1_credit_36 (by exact hm1) ?_
  exact C_iret hx hb hr hlocks hS hP hK hD (Nat.le_of_ble_eq_true rfl) (Nat.le_of_ble_eq_true rfl) dX1_credit_37 ⟨rfl, rfl⟩

set_option maxHeartbeats 4000000 in
set_option maxRecDepth 100000 in
theorem c_X1_sell (l : Launch) (hlf : l.stackTraces = false) {D : va_G} {cy : Nat → ClassId} {G : Nat → Nat} {S : Nat → Nat → Nat} {hd : Option Nat} {nx : Nat → Option Nat} {Y : va_W} {O : List Nat} (hI : Inv S O) (hO : ChP nx hd O) (p0 p1 : Int32) : TI l yX1_sell wsX1_sell ({ frames := 7, cells := 10, slots := 60, locals := 112 } : Room) D cy [.ref (G 0), .int p0, .int p1] (CW cy G S hd nx Y) (fun r w' => (spSell S p0 p1).1 = 0 ∧ r = (spSell S p0 p1).2.1 ∧ w' = CW cy G (spSell S p0 p1).2.2 hd nx Y) (fun E => (E = eIOB ∧ (spSell S p0 p1).1 = 1) ∨ (E = eIAE ∧ (spSell S p0 p1).1 = 2)) 10 60 := by
  refine TI.of (cc := cX1_sell) (maxL := 7) (ret := (some .int)) (by decide) rfl (Nat.le_of_ble_eq_true rfl) ?_
  intro p e s m below meth c A ls E0 hT0 hl
  obtain ⟨hx, hb, hml, hown, hts, hr, hlocks, hA, hS, hP, hK, hD, hX⟩ := E0
  have hiX1 : ∀ w ∈ u_ws RX1 TX1 9, w ∈ wsX1_sell := by decide +kernel
  have hl : lv_has ls 7 [(0, .ref (G 0)), (1, .int p0), (2, .int p1)] := hl
  refine lv_aload_n hx hb dX1_sell_0 rfl (lv_at hl 0 rfl) ?_
  refine lv_iload_n hx hb dX1_sell_1 rfl (lv_at hl 1 rfl) ?_
  refine Y_v (vx_runV (As := [.int p0]) (rest := []) ⟨hx, hb, hml, hown, hts⟩ (c_X1_checkEdition l hlf hI.R p0 _) (cwV 1 hts gX1_sell_X1_checkEdition rfl rfl rfl (by decide +kernel) ⟨Nat.le_of_ble_eq_true rfl, Nat.le_of_ble_eq_true rfl⟩) (pV hP hK hD hS hA hX (va_recv hK hP (ci := 1) (q0 := 0) rfl rfl)) rfl rfl hl.1 rfl (lv_room (Nat.le_of_ble_eq_true rfl)) dX1_sell_2 ⟨Nat.le_of_ble_eq_true rfl, Nat.le_of_ble_eq_true rfl⟩) hD hS hA (fun E ce q9 H locs hE hP hS ht => ?_) (fun w'  H locs hp hP hD hS => ?_)
  · exact Y_out hT0 hlocks hP hK hD hS ht (Or.inl (⟨hE.1, by simp [spSell, hE.2]⟩)) (Nat.le_of_ble_eq_true rfl) (Nat.le_of_ble_eq_true rfl)
  obtain ⟨hV, hw9⟩ := hp
  rw [hw9] at hP hD
  refine lv_iload_n hx hb dX1_sell_5 rfl (lv_at hl 2 rfl) ?_
  refine lv_iconst (v := nI 1) hx hb dX1_sell_6 (by decide) ?_
  refine lv_ldc (v := nI 1000000) hx hb hown (hts (.constant RX1 145 (1000000)) (by decide +kernel)) dX1_sell_7 ?_
  refine Y_v (vx_runS (As := [.int p1, .int (nI 1), .int (nI 1000000)]) (rest := []) ⟨hx, hb, hml, hown, hts⟩ (c_X1_checkRange l hlf p1 (nI 1) (nI 1000000) _) (va_cwS 3 hts gX1_sell_X1_checkRange rfl rfl rfl (by decide +kernel) ⟨Nat.le_of_ble_eq_true rfl, Nat.le_of_ble_eq_true rfl⟩) (pS hP hK hD hS hA hX) rfl rfl hl.1 rfl (lv_room (Nat.le_of_ble_eq_true rfl)) dX1_sell_9 ⟨Nat.le_of_ble_eq_true rfl, Nat.le_of_ble_eq_true rfl⟩) hD hS hA (fun E ce q9 H locs hE hP hS ht => ?_) (fun w'  H locs hp hP hD hS => ?_)
  · have hE2 : inB p1 1 1000000 = false := hE.2
    exact Y_out hT0 hlocks hP hK hD hS ht (Or.inr (⟨hE.1, by simp [spSell, hV, hE2]⟩)) (Nat.le_of_ble_eq_true rfl) (Nat.le_of_ble_eq_true rfl)
  obtain ⟨hU0, hw9⟩ := hp
  rw [hw9] at hP hD
  have hU : inB p1 1 1000000 = true := hU0
  obtain ⟨am, ham, rfl⟩ := inB_1 (k := 1000000) (by decide) hU
  have eb := aN_n (show am < 2 ^ 31 by omega)
  have he20 := hI.R.2.1
  obtain ⟨e9, he9, rfl⟩ := inS_n (by omega) hV
  have ee := aN_n (show e9 < 2 ^ 31 by omega)
  have he19 : e9 < 20 := by omega
  have h9 : ∀ i, S 9 i ≤ 60 := hI.R.2.2.2.2.2.2.2.2.2.2.2.1
  have hall := hI.2.2.2.2.2.2.2.2.2 e9 he9
  have hfl := slF_le hI.R am
  have h10 : ∀ i, S 10 i < 1073741824 := hI.R.2.2.2.2.2.2.2.2.2.2.2.2
  have hsum := slP_sum S e9 am hall.1
  have hshr := shr_sum S e9 am
  have hWF : slW S e9 * slF S am ≤ am := Nat.le_trans (Nat.mul_le_mul_right _ (slW_le S e9)) hfl
  have hsl : slL S e9 am = am - slW S e9 * slF S am := rfl
  have hsr : slR S e9 am = slL S e9 am - s4 (slP S e9 am) := rfl
  obtain ⟨hi1, hi2, hi3⟩ := slI_lt hall.1
  have hshm : ∀ a, a < 4 → shr S e9 am a ≤ am := fun a ha => by rcases (show a = 0 ∨ a = 1 ∨ a = 2 ∨ a = 3 by omega) with r | r | r | r <;> subst r <;> omega
  refine lv_aload_n hx hb dX1_sell_12 rfl (lv_at hl 0 rfl) ?_
  refine va_get (D := D) (ci := 1) (v := .ref (G 3)) (C := RX1) (T := TX1) (N := 9) hx hb hts hiX1 hown hK hP (0) rfl rfl 4 (by decide) (hts (.fieldLink RX1 29 "CoauthorText" "signsInEditions" "[[I") (by decide +kernel)) (fun _ h9 => h9) rfl dX1_sell_13 ?_
  refine lv_iload_n hx hb dX1_sell_16 rfl (lv_at hl 1 rfl) ?_
  refine r_aldI hx hb hK hP (3) rfl (by omega) (by decide) dX1_sell_17 ?_
  refine r_topr (a9 := G (10 + e9)) (if_pos he19) ?_
  refine lv_astore_n (lv' := [(3, .ref (G (10 + e9))), (0, .ref (G 0)), (1, .int (nI e9)), (2, .int (nI am))]) hx hb dX1_sell_18 rfl hl (by decide) rfl (fun ls hl => ?_)
  refine lv_iload_n hx hb dX1_sell_19 rfl (lv_at hl 3 rfl) ?_
  refine lv_istore (lv' := [(4, .int (nI am)), (3, .ref (G (10 + e9))), (0, .ref (G 0)), (1, .int (nI e9)), (2, .int (nI am))]) hx hb dX1_sell_20 hl (by decide) rfl (fun ls hl => ?_)
  refine lv_iconst (v := nI 0) hx hb dX1_sell_22 (by decide) ?_
  refine lv_istore (lv' := [(5, .int (nI 0)), (4, .int (nI am)), (3, .ref (G (10 + e9))), (0, .ref (G 0)), (1, .int (nI e9)), (2, .int (nI am))]) hx hb dX1_sell_23 hl (by decide) rfl (fun ls hl => ?_)
  have iter1 : ∀ (a rs : Nat) (v5 : Int32) (H : Heap) (locs : List Loc) (ls : Array Slot), a < 4 → v5 = nI a → shr S e9 am a ≤ rs → va_P D vwCl (CW cy G S hd nx Y) H → va_D A (CW cy G S hd nx Y) → va_S A s.heap H locs → lv_has ls 7 [(5, .int v5), (4, .int (nI rs)), (3, .ref (G (10 + e9))), (0, .ref (G 0)), (1, .int (nI e9)), (2, .int (nI am))] → (∀ (H : Heap) (locs : List Loc) (ls : Array Slot), va_P D vwCl (CW cy G S hd nx Y) H → va_D A (CW cy G S hd nx Y) → va_S A s.heap H locs → lv_has ls 7 [(5, .int (nI (a + 1))), (4, .int (nI (rs - shr S e9 am a))), (3, .ref (G (10 + e9))), (0, .ref (G 0)), (1, .int (nI e9)), (2, .int (nI am))] → W p l e ({ frames := 7, cells := 10, slots := 60, locals := 112 } : Room) s m ([.ref (G 0), .int (nI e9), .int (nI am)] : List Value).toArray below meth c H locs 2 12 (vx_MQ below (va_Qi (fun r w' => (spSell S (nI e9) (nI am)).1 = 0 ∧ r = (spSell S (nI e9) (nI am)).2.1 ∧ w' = CW cy G (spSell S (nI e9) (nI am)).2.2 hd nx Y) (fun w' t => wB D cy A w' t) A) (xQ D cy (fun E => (E = eIOB ∧ (spSell S (nI e9) (nI am)).1 = 1) ∨ (E = eIAE ∧ (spSell S (nI e9) (nI am)).1 = 2)) (CW cy G S hd nx Y) A) ([.ref (G 0), .int (nI e9), .int (nI am)] : List Value).toArray s 10 60 A) (F0 m 25 ls [])) → W p l e ({ frames := 7, cells := 10, slots := 60, locals := 112 } : Room) s m ([.ref (G 0), .int (nI e9), .int (nI am)] : List Value).toArray below meth c H locs 2 12 (vx_MQ below (va_Qi (fun r w' => (spSell S (nI e9) (nI am)).1 = 0 ∧ r = (spSell S (nI e9) (nI am)).2.1 ∧ w' = CW cy G (spSell S (nI e9) (nI am)).2.2 hd nx Y) (fun w' t => wB D cy A w' t) A) (xQ D cy (fun E => (E = eIOB ∧ (spSell S (nI e9) (nI am)).1 = 1) ∨ (E = eIAE ∧ (spSell S (nI e9) (nI am)).1 = 2)) (CW cy G S hd nx Y) A) ([.ref (G 0), .int (nI e9), .int (nI am)] : List Value).toArray s 10 60 A) (F0 m 25 ls []) := by
    intro a rs v5 H locs ls ha hv5 hrs hP hD hS hl kont
    subst hv5
    have hl : lv_has ls 7 [(5, .int (nI a)), (4, .int (nI rs)), (3, .ref (G (10 + e9))), (0, .ref (G 0)), (1, .int (nI e9)), (2, .int (nI am))] := hl
    refine lv_iload hx hb dX1_sell_25 (lv_at hl 0 rfl) ?_
    refine lv_iconst (v := nI 4) hx hb dX1_sell_27 (by decide) ?_
    refine r_icmp_ge (tgt := 50) hx hb dX1_sell_28 (by decide) (by omega) (by decide) (fun c1 => ?_) (fun c1 => ?_)
    · omega
    · refine lv_iload hx hb dX1_sell_31 (lv_at hl 1 rfl) ?_
      refine lv_aload_n hx hb dX1_sell_33 rfl (lv_at hl 3 rfl) ?_
      refine lv_iload hx hb dX1_sell_34 (lv_at hl 0 rfl) ?_
      refine lv_aload_n hx hb dX1_sell_36 rfl (lv_at hl 2 rfl) ?_
      refine lv_iload_n hx hb dX1_sell_37 rfl (lv_at hl 5 rfl) ?_
      refine K_i (va_runV (As := [.int (nI a), .ref (G (10 + e9)), .int (nI am)]) (rest := [.int (nI rs)]) ⟨hx, hb, hml, hown, hts⟩ (c_X1_shareOf l hI.R.2.2.1 h9 he19 hall.1 ha ham.2 _) (cwV 3 hts gX1_sell_X1_shareOf rfl rfl rfl (by decide +kernel) ⟨Nat.le_of_ble_eq_true rfl, Nat.le_of_ble_eq_true rfl⟩) (pV hP hK hD hS hA hX (va_recv hK hP (ci := 1) (q0 := 0) rfl rfl)) rfl rfl hl.1 rfl (lv_room (Nat.le_of_ble_eq_true rfl)) dX1_sell_38 ⟨Nat.le_of_ble_eq_true rfl, Nat.le_of_ble_eq_true rfl⟩) hD hS hA (fun r w'  H locs hp hP hD hS => ?_)
      obtain ⟨rfl, rfl⟩ := hp
      refine r_isub hx hb dX1_sell_41 (by exact hrs) ?_
      refine lv_istore (lv' := [(4, .int (nI (rs - (shr S e9 am a)))), (5, .int (nI a)), (3, .ref (G (10 + e9))), (0, .ref (G 0)), (1, .int (nI e9)), (2, .int (nI am))]) hx hb dX1_sell_42 hl (by decide) rfl (fun ls hl => ?_)
      refine lv_iinc (v := nI (a + 1)) (lv' := [(5, .int (nI (a + 1))), (4, .int (nI (rs - (shr S e9 am a)))), (3, .ref (G (10 + e9))), (0, .ref (G 0)), (1, .int (nI e9)), (2, .int (nI am))]) hx hb dX1_sell_44 hl (k := 1) rfl (nI_inc _) (by decide) rfl (fun ls hl => ?_)
      refine lv_goto (tgt := 25) hx hb dX1_sell_47 (by decide) ?_
      exact kont _ _ ls hP hD hS (lv_sub hl [0, 1, 2, 3, 4, 5] rfl)
  refine iter1 0 (am) (nI 0) _ _ ls (by decide) rfl (by omega) hP hD hS (lv_sub hl [0, 1, 2, 3, 4, 5] rfl) (fun H locs ls hP hD hS hl => ?_)
  refine iter1 1 (am - shr S e9 am 0) (nI 1) _ _ ls (by decide) rfl (by omega) hP hD hS hl (fun H locs ls hP hD hS hl => ?_)
  refine iter1 2 ((am - shr S e9 am 0) - shr S e9 am 1) (nI 2) _ _ ls (by decide) rfl (by omega) hP hD hS hl (fun H locs ls hP hD hS hl => ?_)
  refine iter1 3 (((am - shr S e9 am 0) - shr S e9 am 1) - shr S e9 am 2) (nI 3) _ _ ls (by decide) rfl (by omega) hP hD hS hl (fun H locs ls hP hD hS hl => ?_)
  have ers : (((am - shr S e9 am 0) - shr S e9 am 1) - shr S e9 am 2) - shr S e9 am 3 = slR S e9 am := by omega
  rw [ers] at hl
  refine lv_iload hx hb dX1_sell_25 (lv_at hl 0 rfl) ?_
  refine lv_iconst (v := nI 4) hx hb dX1_sell_27 (by decide) ?_
  refine r_icmp_ge (tgt := 50) hx hb dX1_sell_28 (by decide) (by decide) (by decide) (fun c2 => ?_) (fun c2 => ?_)
  · refine lv_iconst (v := nI 0) hx hb dX1_sell_50 (by decide) ?_
    refine lv_istore (lv' := [(5, .int (nI 0)), (4, .int (nI (slR S e9 am))), (3, .ref (G (10 + e9))), (0, .ref (G 0)), (1, .int (nI e9)), (2, .int (nI am))]) hx hb dX1_sell_51 hl (by decide) rfl (fun ls hl => ?_)
    refine lv_iconst (v := nI 0) hx hb dX1_sell_53 (by decide) ?_
    refine lv_istore (lv' := [(6, .int (nI 0)), (5, .int (nI 0)), (4, .int (nI (slR S e9 am))), (3, .ref (G (10 + e9))), (0, .ref (G 0)), (1, .int (nI e9)), (2, .int (nI am))]) hx hb dX1_sell_54 hl (by decide) rfl (fun ls hl => ?_)
    have hsp0 : slR S e9 am = if slI S e9 < 0 then 0 else slR S e9 am := by rw [if_neg (Nat.not_lt_zero _)]
    have iter2 : ∀ (a pn sq : Nat) (v6 : Int32) (Sj : Nat → Nat → Nat) (H : Heap) (locs : List Loc) (ls : Array Slot), a < 4 → v6 = nI a → sq = (if slI S e9 < a then 0 else slR S e9 am) → Sj 9 = S 9 → Sj 0 = S 0 → Sj 10 a = S 10 a → Sj 11 a = S 11 a → va_P D vwCl (CW cy G Sj hd nx Y) H → va_D A (CW cy G Sj hd nx Y) → va_S A s.heap H locs → lv_has ls 7 [(6, .int v6), (5, .int (nI pn)), (4, .int (nI sq)), (3, .ref (G (10 + e9))), (0, .ref (G 0)), (1, .int (nI e9)), (2, .int (nI am))] → (∀ (H : Heap) (locs : List Loc) (ls : Array Slot), va_P D vwCl (CW cy G (up2 (up2 Sj 10 a (S 10 a - slH S e9 am a)) 11 a (S 11 a + (slG S e9 am a - slH S e9 am a))) hd nx Y) H → va_D A (CW cy G (up2 (up2 Sj 10 a (S 10 a - slH S e9 am a)) 11 a (S 11 a + (slG S e9 am a - slH S e9 am a))) hd nx Y) → va_S A s.heap H locs → lv_has ls 7 [(6, .int (nI (a + 1))), (5, .int (nI (pn + (slG S e9 am a - slH S e9 am a)))), (4, .int (nI (if slI S e9 < a + 1 then 0 else slR S e9 am))), (3, .ref (G (10 + e9))), (0, .ref (G 0)), (1, .int (nI e9)), (2, .int (nI am))] → W p l e ({ frames := 7, cells := 10, slots := 60, locals := 112 } : Room) s m ([.ref (G 0), .int (nI e9), .int (nI am)] : List Value).toArray below meth c H locs 2 12 (vx_MQ below (va_Qi (fun r w' => (spSell S (nI e9) (nI am)).1 = 0 ∧ r = (spSell S (nI e9) (nI am)).2.1 ∧ w' = CW cy G (spSell S (nI e9) (nI am)).2.2 hd nx Y) (fun w' t => wB D cy A w' t) A) (xQ D cy (fun E => (E = eIOB ∧ (spSell S (nI e9) (nI am)).1 = 1) ∨ (E = eIAE ∧ (spSell S (nI e9) (nI am)).1 = 2)) (CW cy G S hd nx Y) A) ([.ref (G 0), .int (nI e9), .int (nI am)] : List Value).toArray s 10 60 A) (F0 m 56 ls [])) → W p l e ({ frames := 7, cells := 10, slots := 60, locals := 112 } : Room) s m ([.ref (G 0), .int (nI e9), .int (nI am)] : List Value).toArray below meth c H locs 2 12 (vx_MQ below (va_Qi (fun r w' => (spSell S (nI e9) (nI am)).1 = 0 ∧ r = (spSell S (nI e9) (nI am)).2.1 ∧ w' = CW cy G (spSell S (nI e9) (nI am)).2.2 hd nx Y) (fun w' t => wB D cy A w' t) A) (xQ D cy (fun E => (E = eIOB ∧ (spSell S (nI e9) (nI am)).1 = 1) ∨ (E = eIAE ∧ (spSell S (nI e9) (nI am)).1 = 2)) (CW cy G S hd nx Y) A) ([.ref (G 0), .int (nI e9), .int (nI am)] : List Value).toArray s 10 60 A) (F0 m 56 ls []) := by
      intro a pn sq v6 Sj H locs ls ha hv6 hsq e9s e0s e10 e11 hP hD hS hl kont
      subst hv6
      have hl : lv_has ls 7 [(6, .int (nI a)), (5, .int (nI pn)), (4, .int (nI sq)), (3, .ref (G (10 + e9))), (0, .ref (G 0)), (1, .int (nI e9)), (2, .int (nI am))] := hl
      have h9a := h9 (4 * e9 + a)
      refine lv_iload hx hb dX1_sell_56 (lv_at hl 0 rfl) ?_
      refine lv_iconst (v := nI 4) hx hb dX1_sell_58 (by decide) ?_
      refine r_icmp_ge (tgt := 100) hx hb dX1_sell_59 (by decide) (by omega) (by decide) (fun c3 => ?_) (fun c3 => ?_)
      · omega
      · refine lv_aload_n hx hb dX1_sell_62 rfl (lv_at hl 3 rfl) ?_
        refine lv_iload hx hb dX1_sell_63 (lv_at hl 0 rfl) ?_
        refine r_iald hx hb hK hP (6 + e9) (CW_rw he19) (by omega) (by decide) dX1_sell_65 ?_
        refine lv_topi (fun y9 ey9 => ?_)
        obtain rfl : y9 = nI (S 9 (4 * e9 + a)) := ey9.trans (by rw [rwV, if_pos ha, e9s])
        refine r_if_le (tgt := 94) hx hb dX1_sell_66 (by decide) (by omega) (fun cH => ?_) (fun cH => ?_)
        · refine lv_iinc (v := nI (a + 1)) (lv' := [(6, .int (nI (a + 1))), (5, .int (nI pn)), (4, .int (nI sq)), (3, .ref (G (10 + e9))), (0, .ref (G 0)), (1, .int (nI e9)), (2, .int (nI am))]) hx hb dX1_sell_94 hl (k := 0) rfl (nI_inc _) (by decide) rfl (fun ls hl => ?_)
          refine lv_goto (tgt := 56) hx hb dX1_sell_97 (by decide) ?_
          have hne : a ≠ slI S e9 := fun h => by rw [← h] at hi2; omega
          have hG : slG S e9 am a = 0 := by rw [slG, slP_0 cH, if_pos cH, if_neg hne]
          have hH : slH S e9 am a = 0 := by rw [slH, hG, Nat.zero_min]
          refine kont _ _ ls (?_ : va_P D vwCl (CW cy G (up2 (up2 Sj 10 a (S 10 a - slH S e9 am a)) 11 a (S 11 a + (slG S e9 am a - slH S e9 am a))) hd nx Y) H) (?_ : va_D A (CW cy G (up2 (up2 Sj 10 a (S 10 a - slH S e9 am a)) 11 a (S 11 a + (slG S e9 am a - slH S e9 am a))) hd nx Y)) hS ?_
          · rw [hG, hH, Nat.sub_zero, Nat.sub_zero, Nat.add_zero, ← e10, ← e11, up2_same, up2_same]; exact hP
          · rw [hG, hH, Nat.sub_zero, Nat.sub_zero, Nat.add_zero, ← e10, ← e11, up2_same, up2_same]; exact hD
          · rw [hG, hH, show (if slI S e9 < a + 1 then 0 else slR S e9 am) = sq from by rw [hsq]; by_cases h : slI S e9 < a; rw [if_pos h, if_pos (by omega)]; rw [if_neg h, if_neg (by omega)]]; exact lv_sub hl [0, 1, 2, 3, 4, 5, 6] rfl
        · have hle := hi3 a ha cH
          refine lv_iload hx hb dX1_sell_69 (lv_at hl 1 rfl) ?_
          refine lv_aload_n hx hb dX1_sell_71 rfl (lv_at hl 4 rfl) ?_
          refine lv_iload hx hb dX1_sell_72 (lv_at hl 0 rfl) ?_
          refine lv_aload_n hx hb dX1_sell_74 rfl (lv_at hl 4 rfl) ?_
          refine lv_iload hx hb dX1_sell_75 (lv_at hl 0 rfl) ?_
          refine lv_aload_n hx hb dX1_sell_77 rfl (lv_at hl 3 rfl) ?_
          refine lv_iload_n hx hb dX1_sell_78 rfl (lv_at hl 6 rfl) ?_
          refine K_i (va_runV (As := [.int (nI a), .ref (G (10 + e9)), .int (nI am)]) (rest := [.int (nI a), .ref (G 0), .int (nI pn)]) ⟨hx, hb, hml, hown, hts⟩ (c_X1_shareOf (S := Sj) l (by rw [e0s]; exact hI.R.2.2.1) (by rw [e9s]; exact h9) he19 (by rw [slA_congr e9s]; exact hall.1) ha ham.2 _) (cwV 3 hts gX1_sell_X1_shareOf rfl rfl rfl (by decide +kernel) ⟨Nat.le_of_ble_eq_true rfl, Nat.le_of_ble_eq_true rfl⟩) (pV hP hK hD hS hA hX (va_recv hK hP (ci := 1) (q0 := 0) rfl rfl)) rfl rfl hl.1 rfl (lv_room (Nat.le_of_ble_eq_true rfl)) dX1_sell_79 ⟨Nat.le_of_ble_eq_true rfl, Nat.le_of_ble_eq_true rfl⟩) hD hS hA (fun r w'  H locs hp hP hD hS => ?_)
          obtain ⟨hr9, rfl⟩ := hp
          rw [shr_congr e9s e0s] at hr9
          subst hr9
          refine lv_iload hx hb dX1_sell_82 (lv_at hl 2 rfl) ?_
          refine r_iadd hx hb dX1_sell_84 ?_
          refine lv_topi (fun y9 ey9 => ?_)
          obtain rfl : y9 = nI (slG S e9 am a) := ey9.trans (by rw [shr, if_neg (show ¬ S 9 (4 * e9 + a) = 0 by omega), hsq, slG, if_neg (show ¬ S 9 (4 * e9 + a) = 0 by omega)]; congr 1; by_cases h : slI S e9 < a; rw [if_pos h, if_neg (by omega)]; omega; rw [if_neg h, if_pos (by omega)]; omega)
          have hGm : slG S e9 am a ≤ 3000000 := by have h1 := hshm a ha; rw [shr, if_neg (show ¬ S 9 (4 * e9 + a) = 0 by omega)] at h1; unfold slG; rw [if_neg (show ¬ S 9 (4 * e9 + a) = 0 by omega)]; split <;> omega
          refine K_i (va_runV (As := [.int (nI a), .int (nI (slG S e9 am a))]) (rest := [.int (nI pn)]) ⟨hx, hb, hml, hown, hts⟩ (c_X1_credit (S := Sj) l ha (x9 := slG S e9 am a) (by omega) (by rw [e10]; exact h10 a) _) (cwV 2 hts gX1_sell_X1_credit rfl rfl rfl (by decide +kernel) ⟨Nat.le_of_ble_eq_true rfl, Nat.le_of_ble_eq_true rfl⟩) (pV hP hK hD hS hA hX (va_recv hK hP (ci := 1) (q0 := 0) rfl rfl)) rfl rfl hl.1 rfl (lv_room (Nat.le_of_ble_eq_true rfl)) dX1_sell_85 ⟨Nat.le_of_ble_eq_true rfl, Nat.le_of_ble_eq_true rfl⟩) hD hS hA (fun r w'  H locs hp hP hD hS => ?_)
          rw [e10, e11] at hp
          obtain ⟨rfl, rfl⟩ := hp
          refine r_iadd hx hb dX1_sell_88 ?_
          refine lv_istore (lv' := [(5, .int (nI (pn + (slG S e9 am a - slH S e9 am a)))), (6, .int (nI a)), (4, .int (nI sq)), (3, .ref (G (10 + e9))), (0, .ref (G 0)), (1, .int (nI e9)), (2, .int (nI am))]) hx hb dX1_sell_89 hl (by decide) rfl (fun ls hl => ?_)
          refine lv_iconst (v := nI 0) hx hb dX1_sell_91 (by decide) ?_
          refine lv_istore (lv' := [(4, .int (nI 0)), (5, .int (nI (pn + (slG S e9 am a - slH S e9 am a)))), (6, .int (nI a)), (3, .ref (G (10 + e9))), (0, .ref (G 0)), (1, .int (nI e9)), (2, .int (nI am))]) hx hb dX1_sell_92 hl (by decide) rfl (fun ls hl => ?_)
          refine lv_iinc (v := nI (a + 1)) (lv' := [(6, .int (nI (a + 1))), (4, .int (nI 0)), (5, .int (nI (pn + (slG S e9 am a - slH S e9 am a)))), (3, .ref (G (10 + e9))), (0, .ref (G 0)), (1, .int (nI e9)), (2, .int (nI am))]) hx hb dX1_sell_94 hl (k := 2) rfl (nI_inc _) (by decide) rfl (fun ls hl => ?_)
          refine lv_goto (tgt := 56) hx hb dX1_sell_97 (by decide) ?_
          exact kont _ _ ls hP hD hS (by rw [if_pos (by omega)]; exact lv_sub hl [0, 2, 1, 3, 4, 5, 6] rfl)
    refine iter2 0 (0) _ (nI 0) (S) _ _ ls (by decide) rfl hsp0 rfl rfl rfl rfl hP hD hS (lv_sub hl [0, 1, 2, 3, 4, 5, 6] rfl) (fun H locs ls hP hD hS hl => ?_)
    refine iter2 1 (0 + (slG S e9 am 0 - slH S e9 am 0)) _ (nI 1) (up2 (up2 S 10 0 (S 10 0 - slH S e9 am 0)) 11 0 (S 11 0 + (slG S e9 am 0 - slH S e9 am 0))) _ _ ls (by decide) rfl rfl rfl rfl rfl rfl hP hD hS hl (fun H locs ls hP hD hS hl => ?_)
    refine iter2 2 ((0 + (slG S e9 am 0 - slH S e9 am 0)) + (slG S e9 am 1 - slH S e9 am 1)) _ (nI 2) (up2 (up2 (up2 (up2 S 10 0 (S 10 0 - slH S e9 am 0)) 11 0 (S 11 0 + (slG S e9 am 0 - slH S e9 am 0))) 10 1 (S 10 1 - slH S e9 am 1)) 11 1 (S 11 1 + (slG S e9 am 1 - slH S e9 am 1))) _ _ ls (by decide) rfl rfl rfl rfl rfl rfl hP hD hS hl (fun H locs ls hP hD hS hl => ?_)
    refine iter2 3 (((0 + (slG S e9 am 0 - slH S e9 am 0)) + (slG S e9 am 1 - slH S e9 am 1)) + (slG S e9 am 2 - slH S e9 am 2)) _ (nI 3) (up2 (up2 (up2 (up2 (up2 (up2 S 10 0 (S 10 0 - slH S e9 am 0)) 11 0 (S 11 0 + (slG S e9 am 0 - slH S e9 am 0))) 10 1 (S 10 1 - slH S e9 am 1)) 11 1 (S 11 1 + (slG S e9 am 1 - slH S e9 am 1))) 10 2 (S 10 2 - slH S e9 am 2)) 11 2 (S 11 2 + (slG S e9 am 2 - slH S e9 am 2))) _ _ ls (by decide) rfl rfl rfl rfl rfl rfl hP hD hS hl (fun H locs ls hP hD hS hl => ?_)
    refine lv_iload hx hb dX1_sell_56 (lv_at hl 0 rfl) ?_
    refine lv_iconst (v := nI 4) hx hb dX1_sell_58 (by decide) ?_
    refine r_icmp_ge (tgt := 100) hx hb dX1_sell_59 (by decide) (by decide) (by decide) (fun c4 => ?_) (fun c4 => ?_)
    · refine lv_iload hx hb dX1_sell_100 (lv_at hl 1 rfl) ?_
      exact vx_ret (C_iret hx hb hr hlocks hS hP hK hD (Nat.le_of_ble_eq_true rfl) (Nat.le_of_ble_eq_true rfl) dX1_sell_102 (by rw [show spSell S (nI e9) (nI am) = (0, nI (s4 (fun a => slG S e9 am a - slH S e9 am a)), slS S e9 am 4) from by simp only [spSell, hU, hV, ee, eb, Bool.true_eq_false, if_false]]; exact ⟨rfl, by rw [s4, Nat.zero_add], by rw [sl_4]⟩))
    · omega
  · omega
