/-! ===== the reference: what only reads, floors and advances ===== -/
set_option maxHeartbeats 4000000 in
set_option maxRecDepth 100000 in
theorem c_X2_length (l : Launch) {D : va_G} {cy : Nat → ClassId} {B : Nat → Nat} {S T : Nat → Nat → Nat} {Y : va_W} {O : List Nat} (hI : Inv S O) (p0 : Int32) : CI l yX2_length wsX2_length ({ frames := 4, cells := 0, slots := 0, locals := 82 } : Room) D cy [.ref (B 0), .int p0] (MW cy B S T Y) (fun r w' => ∃ T' : Nat → Nat → Nat, T' 0 2 = (spLength S O p0).1 ∧ w' = MW cy B (spLength S O p0).2.2 T' Y ∧ ((spLength S O p0).1 = 0 → r = (spLength S O p0).2.1)) 0 0 := by
  refine CI.of (cc := cX2_length) (maxL := 2) (ret := (some .int)) (by decide) rfl (Nat.le_of_ble_eq_true rfl) ?_
  intro p e s m below meth c A ls E0 hl
  obtain ⟨hx, hb, hml, hown, hts, hr, hlocks, hA, hS, hP, hK, hD, hX⟩ := E0
  have hiX2 : ∀ w ∈ u_ws RX2 TX2 19, w ∈ wsX2_length := by decide +kernel
  have hl : lv_has ls 2 [(0, .ref (B 0)), (1, .int p0)] := hl
  refine lv_aload_n hx hb dX2_length_0 rfl (lv_at hl 0 rfl) ?_
  refine lv_iload_n hx hb dX2_length_1 rfl (lv_at hl 1 rfl) ?_
  refine K_i (va_runV (As := [.int p0]) (rest := []) ⟨hx, hb, hml, hown, hts⟩ (c_X2_asks l p0 _) (cwV 1 hts gX2_length_X2_asks rfl rfl rfl (by decide +kernel) ⟨Nat.le_of_ble_eq_true rfl, Nat.le_of_ble_eq_true rfl⟩) (pV hP hK hD hS hA hX (va_recv hK hP (ci := 2) (q0 := 0) rfl rfl)) rfl rfl hl.1 rfl (lv_room (Nat.le_of_ble_eq_true rfl)) dX2_length_2 ⟨Nat.le_of_ble_eq_true rfl, Nat.le_of_ble_eq_true rfl⟩) hD hS hA (fun r w'  H locs hp hP hD hS => ?_)
  obtain ⟨rfl, rfl⟩ := hp
  refine r_if_ne (tgt := 10) hx hb dX2_length_5 (by decide) (Nat.lt_trans (bN_lt _) (by decide)) (fun c1 => ?_) (fun c1 => ?_)
  · have hU := bN_1.mp c1
    obtain ⟨a, ha, rfl⟩ := isA_n hU
    refine lv_aload_n hx hb dX2_length_10 rfl (lv_at hl 0 rfl) ?_
    refine lv_iload_n hx hb dX2_length_11 rfl (lv_at hl 1 rfl) ?_
    refine K_v (va_runV (As := [.int (nI a)]) (rest := []) ⟨hx, hb, hml, hown, hts⟩ (c_X2_laysText l hI.R hI.g (a := a) ha (hI.lay ha) _) (cwV 1 hts gX2_length_X2_laysText rfl rfl rfl (by decide +kernel) ⟨Nat.le_of_ble_eq_true rfl, Nat.le_of_ble_eq_true rfl⟩) (pV hP hK hD hS hA hX (va_recv hK hP (ci := 2) (q0 := 0) rfl rfl)) rfl rfl hl.1 rfl (lv_room (Nat.le_of_ble_eq_true rfl)) dX2_length_12 ⟨Nat.le_of_ble_eq_true rfl, Nat.le_of_ble_eq_true rfl⟩) hD hS hA (fun w'  H locs hp hP hD hS => ?_)
    obtain ⟨T2, rfl, h2, ht⟩ := hp
    rw [lay_txt] at ht
    refine lv_aload_n hx hb dX2_length_15 rfl (lv_at hl 0 rfl) ?_
    refine va_get (D := D) (ci := 2) (v := .int (nI (T2 0 0))) (C := RX2) (T := TX2) (N := 19) hx hb hts hiX2 hown hK hP (0) rfl rfl 16 (by decide) (hts (.fieldLink RX2 76 "CoauthorTextModel" "length" "I") (by decide +kernel)) (fun _ h9 => h9) rfl dX2_length_16 ?_
    exact C_iret hx hb hr hlocks hS hP hK hD (Nat.le_of_ble_eq_true rfl) (Nat.le_of_ble_eq_true rfl) dX2_length_19 (by rw [show spLength S O (nI a) = (0, nI (txL S O a).length, S) from by simp [spLength, hU, aN_n (show a < 2 ^ 31 by omega)]]; exact ⟨T2, by rw [h2, hU]; rfl, rfl, fun _ => by rw [ht.1]⟩)
  · have hU := bN_0.mp c1
    refine lv_iconst (v := nI 0) hx hb dX2_length_8 (by decide) ?_
    exact C_iret hx hb hr hlocks hS hP hK hD (Nat.le_of_ble_eq_true rfl) (Nat.le_of_ble_eq_true rfl) dX2_length_9 (by rw [show spLength S O p0 = (1, 0, S) from by simp [spLength, hU]]; exact ⟨_, (by rw [hU]; rfl), rfl, fun h => absurd (show (1 : Nat) = 0 from h) (by decide)⟩)

set_option maxHeartbeats 4000000 in
set_option maxRecDepth 100000 in
theorem c_X2_signs (l : Launch) {D : va_G} {cy : Nat → ClassId} {B : Nat → Nat} {S T : Nat → Nat → Nat} {Y : va_W} : CI l yX2_signs wsX2_signs ({ frames := 1, cells := 0, slots := 0, locals := 12 } : Room) D cy [.ref (B 0)] (MW cy B S T Y) (fun r w' => ∃ T' : Nat → Nat → Nat, T' 0 2 = 0 ∧ w' = MW cy B S T' Y ∧ r = nI (S 0 0)) 0 0 := by
  refine CI.of (cc := cX2_signs) (maxL := 1) (ret := (some .int)) (by decide) rfl (Nat.le_of_ble_eq_true rfl) ?_
  intro p e s m below meth c A ls E0 hl
  obtain ⟨hx, hb, hml, hown, hts, hr, hlocks, hA, hS, hP, hK, hD, hX⟩ := E0
  have hiX2 : ∀ w ∈ u_ws RX2 TX2 19, w ∈ wsX2_signs := by decide +kernel
  have hl : lv_has ls 1 [(0, .ref (B 0))] := hl
  refine lv_aload_n hx hb dX2_signs_0 rfl (lv_at hl 0 rfl) ?_
  refine lv_iconst (v := nI 0) hx hb dX2_signs_1 (by decide) ?_
  refine r_put (w' := MW cy B S (up2 T 0 2 0) Y) (own := RX2) (C := RX2) (T := TX2) (N := 19) (ci := 2) (q0 := 0) (k := 18) (index := 51) (ty := .int) hx hb hts hiX2 tyX2_ok nmX2 hown hK hP hD hS rfl rfl (by decide) (by decide +kernel) rfl (by decide +kernel) rfl rfl (Nat.le_of_ble_eq_true rfl) dX2_signs_2 rfl (fun H locs hP hD hS => ?_)
  refine lv_aload_n hx hb dX2_signs_5 rfl (lv_at hl 0 rfl) ?_
  refine va_get (D := D) (ci := 2) (v := .int (nI (S 0 0))) (C := RX2) (T := TX2) (N := 19) hx hb hts hiX2 hown hK hP (0) rfl rfl 0 (by decide) (hts (.fieldLink RX2 59 "CoauthorTextModel" "signs" "I") (by decide +kernel)) (fun _ h9 => h9) rfl dX2_signs_6 ?_
  exact C_iret hx hb hr hlocks hS hP hK hD (Nat.le_of_ble_eq_true rfl) (Nat.le_of_ble_eq_true rfl) dX2_signs_9 ⟨_, up2_s _ _ _ _, rfl, rfl⟩

def apC (S : Nat → Nat → Nat) (O : List Nat) (p0 p1 : Int32) : Nat := if isA p0 = false then 1 else if inS p1 (txL S O (aN p0)).length = false then 2 else 0

set_option maxHeartbeats 4000000 in
set_option maxRecDepth 100000 in
theorem c_X2_asksPlace (l : Launch) {D : va_G} {cy : Nat → ClassId} {B : Nat → Nat} {S T : Nat → Nat → Nat} {Y : va_W} {O : List Nat} (hI : Inv S O) (p0 p1 : Int32) : CI l yX2_asksPlace wsX2_asksPlace ({ frames := 4, cells := 0, slots := 0, locals := 82 } : Room) D cy [.ref (B 0), .int p0, .int p1] (MW cy B S T Y) (fun r w' => ∃ T' : Nat → Nat → Nat, w' = MW cy B S T' Y ∧ T' 0 2 = apC S O p0 p1 ∧ r = nI (bN (decide (apC S O p0 p1 = 0))) ∧ (apC S O p0 p1 = 0 → txtP T' (txL S O (aN p0)))) 0 0 := by
  refine CI.of (cc := cX2_asksPlace) (maxL := 3) (ret := (some .boolean)) (by decide) rfl (Nat.le_of_ble_eq_true rfl) ?_
  intro p e s m below meth c A ls E0 hl
  obtain ⟨hx, hb, hml, hown, hts, hr, hlocks, hA, hS, hP, hK, hD, hX⟩ := E0
  have hiX2 : ∀ w ∈ u_ws RX2 TX2 19, w ∈ wsX2_asksPlace := by decide +kernel
  have hl : lv_has ls 3 [(0, .ref (B 0)), (1, .int p0), (2, .int p1)] := hl
  refine lv_aload_n hx hb dX2_asksPlace_0 rfl (lv_at hl 0 rfl) ?_
  refine lv_iload_n hx hb dX2_asksPlace_1 rfl (lv_at hl 1 rfl) ?_
  refine K_i (va_runV (As := [.int p0]) (rest := []) ⟨hx, hb, hml, hown, hts⟩ (c_X2_asks l p0 _) (cwV 1 hts gX2_asksPlace_X2_asks rfl rfl rfl (by decide +kernel) ⟨Nat.le_of_ble_eq_true rfl, Nat.le_of_ble_eq_true rfl⟩) (pV hP hK hD hS hA hX (va_recv hK hP (ci := 2) (q0 := 0) rfl rfl)) rfl rfl hl.1 rfl (lv_room (Nat.le_of_ble_eq_true rfl)) dX2_asksPlace_2 ⟨Nat.le_of_ble_eq_true rfl, Nat.le_of_ble_eq_true rfl⟩) hD hS hA (fun r w'  H locs hp hP hD hS => ?_)
  obtain ⟨rfl, rfl⟩ := hp
  refine r_if_ne (tgt := 10) hx hb dX2_asksPlace_5 (by decide) (Nat.lt_trans (bN_lt _) (by decide)) (fun c1 => ?_) (fun c1 => ?_)
  · have hU := bN_1.mp c1
    obtain ⟨a, ha, rfl⟩ := isA_n hU
    refine lv_aload_n hx hb dX2_asksPlace_10 rfl (lv_at hl 0 rfl) ?_
    refine lv_iload_n hx hb dX2_asksPlace_11 rfl (lv_at hl 1 rfl) ?_
    refine K_v (va_runV (As := [.int (nI a)]) (rest := []) ⟨hx, hb, hml, hown, hts⟩ (c_X2_laysText l hI.R hI.g (a := a) ha (hI.lay ha) _) (cwV 1 hts gX2_asksPlace_X2_laysText rfl rfl rfl (by decide +kernel) ⟨Nat.le_of_ble_eq_true rfl, Nat.le_of_ble_eq_true rfl⟩) (pV hP hK hD hS hA hX (va_recv hK hP (ci := 2) (q0 := 0) rfl rfl)) rfl rfl hl.1 rfl (lv_room (Nat.le_of_ble_eq_true rfl)) dX2_asksPlace_12 ⟨Nat.le_of_ble_eq_true rfl, Nat.le_of_ble_eq_true rfl⟩) hD hS hA (fun w'  H locs hp hP hD hS => ?_)
    obtain ⟨T2, rfl, h2, ht⟩ := hp
    rw [lay_txt] at ht
    refine lv_aload_n hx hb dX2_asksPlace_15 rfl (lv_at hl 0 rfl) ?_
    refine lv_iload_n hx hb dX2_asksPlace_16 rfl (lv_at hl 2 rfl) ?_
    refine lv_iconst (v := nI 0) hx hb dX2_asksPlace_17 (by decide) ?_
    refine lv_aload_n hx hb dX2_asksPlace_18 rfl (lv_at hl 0 rfl) ?_
    refine va_get (D := D) (ci := 2) (v := .int (nI (T2 0 0))) (C := RX2) (T := TX2) (N := 19) hx hb hts hiX2 hown hK hP (0) rfl rfl 16 (by decide) (hts (.fieldLink RX2 76 "CoauthorTextModel" "length" "I") (by decide +kernel)) (fun _ h9 => h9) rfl dX2_asksPlace_19 ?_
    refine lv_iconst (v := nI 1) hx hb dX2_asksPlace_22 (by decide) ?_
    refine lv_isub hx hb dX2_asksPlace_23 ?_
    refine K_i (va_runS (As := [.int p1, .int (nI 0), .int (bI (T2 0 0))]) (rest := [.ref (B 0)]) ⟨hx, hb, hml, hown, hts⟩ (c_X2_isIn l p1 (nI 0) (bI (T2 0 0)) _) (va_cwS 3 hts gX2_asksPlace_X2_isIn rfl rfl rfl (by decide +kernel) ⟨Nat.le_of_ble_eq_true rfl, Nat.le_of_ble_eq_true rfl⟩) (pS hP hK hD hS hA hX) rfl rfl hl.1 rfl (lv_room (Nat.le_of_ble_eq_true rfl)) dX2_asksPlace_24 ⟨Nat.le_of_ble_eq_true rfl, Nat.le_of_ble_eq_true rfl⟩) hD hS hA (fun r w'  H locs hp hP hD hS => ?_)
    obtain ⟨rfl, hw9⟩ := hp
    rw [hw9] at hP hD
    refine r_if_eq (tgt := 34) hx hb dX2_asksPlace_27 (by decide) (Nat.lt_trans (bN_lt _) (by decide)) (fun c2 => ?_) (fun c2 => ?_)
    · have hV : inS p1 (txL S O a).length = false := by rw [← ht.1]; exact bN_0.mp c2
      refine lv_iconst (v := nI 2) hx hb dX2_asksPlace_34 (by decide) ?_
      refine K_i (va_runV (As := [.int (nI 2)]) (rest := []) ⟨hx, hb, hml, hown, hts⟩ (c_X2_goes l (k := 2) (by decide) _) (cwV 1 hts gX2_asksPlace_X2_goes rfl rfl rfl (by decide +kernel) ⟨Nat.le_of_ble_eq_true rfl, Nat.le_of_ble_eq_true rfl⟩) (pV hP hK hD hS hA hX (va_recv hK hP (ci := 2) (q0 := 0) rfl rfl)) rfl rfl hl.1 rfl (lv_room (Nat.le_of_ble_eq_true rfl)) dX2_asksPlace_35 ⟨Nat.le_of_ble_eq_true rfl, Nat.le_of_ble_eq_true rfl⟩) hD hS hA (fun r w'  H locs hp hP hD hS => ?_)
      obtain ⟨hr9, rfl⟩ := hp
      obtain rfl : r = nI 0 := hr9
      exact C_zret hx hb hr hlocks hS hP hK hD (Nat.le_of_ble_eq_true rfl) (Nat.le_of_ble_eq_true rfl) dX2_asksPlace_38 rfl ⟨_, rfl, by rw [show apC S O (nI a) p1 = 2 from by simp [apC, hU, hV, aN_n (show a < 2 ^ 31 by omega)]]; exact up2_s _ _ _ _, by rw [show apC S O (nI a) p1 = 2 from by simp [apC, hU, hV, aN_n (show a < 2 ^ 31 by omega)]]; rfl, fun h => by rw [show apC S O (nI a) p1 = 2 from by simp [apC, hU, hV, aN_n (show a < 2 ^ 31 by omega)]] at h; exact absurd h (by decide)⟩
    · have hV : inS p1 (txL S O a).length = true := by rw [← ht.1]; exact bN_1.mp c2
      refine lv_iconst (v := nI 0) hx hb dX2_asksPlace_30 (by decide) ?_
      refine lv_goto (tgt := 35) hx hb dX2_asksPlace_31 (by decide) ?_
      refine K_i (va_runV (As := [.int (nI 0)]) (rest := []) ⟨hx, hb, hml, hown, hts⟩ (c_X2_goes l (k := 0) (by decide) _) (cwV 1 hts gX2_asksPlace_X2_goes rfl rfl rfl (by decide +kernel) ⟨Nat.le_of_ble_eq_true rfl, Nat.le_of_ble_eq_true rfl⟩) (pV hP hK hD hS hA hX (va_recv hK hP (ci := 2) (q0 := 0) rfl rfl)) rfl rfl hl.1 rfl (lv_room (Nat.le_of_ble_eq_true rfl)) dX2_asksPlace_35 ⟨Nat.le_of_ble_eq_true rfl, Nat.le_of_ble_eq_true rfl⟩) hD hS hA (fun r w'  H locs hp hP hD hS => ?_)
      obtain ⟨hr9, rfl⟩ := hp
      obtain rfl : r = nI 1 := hr9
      exact C_zret hx hb hr hlocks hS hP hK hD (Nat.le_of_ble_eq_true rfl) (Nat.le_of_ble_eq_true rfl) dX2_asksPlace_38 rfl ⟨_, rfl, by rw [show apC S O (nI a) p1 = 0 from by simp [apC, hU, hV, aN_n (show a < 2 ^ 31 by omega)]]; exact up2_s _ _ _ _, by rw [show apC S O (nI a) p1 = 0 from by simp [apC, hU, hV, aN_n (show a < 2 ^ 31 by omega)]]; rfl, fun _ => by rw [aN_n (show a < 2 ^ 31 by omega)]; exact txtP_same ht rfl rfl⟩
  · have hU := bN_0.mp c1
    refine lv_iconst (v := nI 0) hx hb dX2_asksPlace_8 (by decide) ?_
    exact C_zret hx hb hr hlocks hS hP hK hD (Nat.le_of_ble_eq_true rfl) (Nat.le_of_ble_eq_true rfl) dX2_asksPlace_9 rfl ⟨_, rfl, by rw [show apC S O p0 p1 = 1 from by simp [apC, hU], hU]; rfl, by rw [show apC S O p0 p1 = 1 from by simp [apC, hU]]; rfl, fun h => by rw [show apC S O p0 p1 = 1 from by simp [apC, hU]] at h; exact absurd h (by decide)⟩

theorem apC_0 {S : Nat → Nat → Nat} {O : List Nat} {p0 p1 : Int32} (hl : ∀ a, (txL S O a).length ≤ 60) (h : apC S O p0 p1 = 0) : ∃ a k : Nat, a < 4 ∧ p0 = nI a ∧ k < (txL S O a).length ∧ p1 = nI k ∧ isA p0 = true ∧ inS p1 (txL S O (aN p0)).length = true := by
  unfold apC at h
  by_cases hU : isA p0 = false
  · rw [if_pos hU] at h; omega
  · rw [if_neg hU] at h
    by_cases hV : inS p1 (txL S O (aN p0)).length = false
    · rw [if_pos hV] at h; omega
    · have hU := (Bool.not_eq_false _).mp hU
      have hV := (Bool.not_eq_false _).mp hV
      obtain ⟨a, ha, rfl⟩ := isA_n hU
      have := hl (aN (nI a))
      obtain ⟨k, hk, rfl⟩ := inS_n (by omega) hV
      rw [aN_n (by omega)] at hk
      exact ⟨a, k, ha, rfl, hk, rfl, hU, hV⟩
theorem apC_n {S : Nat → Nat → Nat} {O : List Nat} {p0 p1 : Int32} (h : apC S O p0 p1 ≠ 0) : (isA p0 = false ∧ apC S O p0 p1 = 1) ∨ (isA p0 = true ∧ inS p1 (txL S O (aN p0)).length = false ∧ apC S O p0 p1 = 2) := by
  unfold apC at h ⊢
  by_cases hU : isA p0 = false
  · exact Or.inl ⟨hU, if_pos hU⟩
  · by_cases hV : inS p1 (txL S O (aN p0)).length = false
    · exact Or.inr ⟨(Bool.not_eq_false _).mp hU, hV, by rw [if_neg hU, if_pos hV]⟩
    · rw [if_neg hU, if_neg hV] at h
      exact absurd rfl h

set_option maxHeartbeats 4000000 in
set_option maxRecDepth 100000 in
theorem c_X2_signAt (l : Launch) {D : va_G} {cy : Nat → ClassId} {B : Nat → Nat} {S T : Nat → Nat → Nat} {Y : va_W} {O : List Nat} (hI : Inv S O) (p0 p1 : Int32) : CI l yX2_signAt wsX2_signAt ({ frames := 5, cells := 0, slots := 0, locals := 104 } : Room) D cy [.ref (B 0), .int p0, .int p1] (MW cy B S T Y) (fun r w' => ∃ T' : Nat → Nat → Nat, T' 0 2 = (spSignAt S O p0 p1).1 ∧ w' = MW cy B (spSignAt S O p0 p1).2.2 T' Y ∧ ((spSignAt S O p0 p1).1 = 0 → r = (spSignAt S O p0 p1).2.1)) 0 0 := by
  refine CI.of (cc := cX2_signAt) (maxL := 3) (ret := (some .int)) (by decide) rfl (Nat.le_of_ble_eq_true rfl) ?_
  intro p e s m below meth c A ls E0 hl
  obtain ⟨hx, hb, hml, hown, hts, hr, hlocks, hA, hS, hP, hK, hD, hX⟩ := E0
  have hiX2 : ∀ w ∈ u_ws RX2 TX2 19, w ∈ wsX2_signAt := by decide +kernel
  have hl : lv_has ls 3 [(0, .ref (B 0)), (1, .int p0), (2, .int p1)] := hl
  refine lv_aload_n hx hb dX2_signAt_0 rfl (lv_at hl 0 rfl) ?_
  refine lv_iload_n hx hb dX2_signAt_1 rfl (lv_at hl 1 rfl) ?_
  refine lv_iload_n hx hb dX2_signAt_2 rfl (lv_at hl 2 rfl) ?_
  refine K_i (va_runV (As := [.int p0, .int p1]) (rest := []) ⟨hx, hb, hml, hown, hts⟩ (c_X2_asksPlace l hI p0 p1 _) (cwV 2 hts gX2_signAt_X2_asksPlace rfl rfl rfl (by decide +kernel) ⟨Nat.le_of_ble_eq_true rfl, Nat.le_of_ble_eq_true rfl⟩) (pV hP hK hD hS hA hX (va_recv hK hP (ci := 2) (q0 := 0) rfl rfl)) rfl rfl hl.1 rfl (lv_room (Nat.le_of_ble_eq_true rfl)) dX2_signAt_3 ⟨Nat.le_of_ble_eq_true rfl, Nat.le_of_ble_eq_true rfl⟩) hD hS hA (fun r w'  H locs hp hP hD hS => ?_)
  obtain ⟨T2, rfl, h2, rfl, ht⟩ := hp
  refine r_if_eq (tgt := 18) hx hb dX2_signAt_6 (by decide) (Nat.lt_trans (bN_lt _) (by decide)) (fun c1 => ?_) (fun c1 => ?_)
  · have h0 : apC S O p0 p1 ≠ 0 := of_decide_eq_false (bN_0.mp c1)
    refine lv_iconst (v := nI 0) hx hb dX2_signAt_18 (by decide) ?_
    rcases apC_n h0 with ⟨hU, e⟩ | ⟨hU, hV, e⟩
    · exact C_iret hx hb hr hlocks hS hP hK hD (Nat.le_of_ble_eq_true rfl) (Nat.le_of_ble_eq_true rfl) dX2_signAt_19 (by rw [show spSignAt S O p0 p1 = (1, 0, S) from by simp [spSignAt, hU]]; exact ⟨T2, (by rw [h2, e]), rfl, fun h => absurd (show (1 : Nat) = 0 from h) (by decide)⟩)
    · exact C_iret hx hb hr hlocks hS hP hK hD (Nat.le_of_ble_eq_true rfl) (Nat.le_of_ble_eq_true rfl) dX2_signAt_19 (by rw [show spSignAt S O p0 p1 = (2, 0, S) from by simp [spSignAt, hU, hV]]; exact ⟨T2, (by rw [h2, e]), rfl, fun h => absurd (show (2 : Nat) = 0 from h) (by decide)⟩)
  · have h0 : apC S O p0 p1 = 0 := of_decide_eq_true (bN_1.mp c1)
    have ht3 := ht h0
    rw [h0] at h2
    obtain ⟨a, k, ha, rfl, hk, rfl, hU, hV⟩ := apC_0 hI.len h0
    have hl60 := hI.len a
    rw [aN_n (show a < 2 ^ 31 by omega)] at ht3 hV
    have hk1 := txt_at ht3 hk
    have hm := txL_mem hI (getD_mem hk)
    have hn60 := hI.R.1
    refine lv_aload_n hx hb dX2_signAt_9 rfl (lv_at hl 0 rfl) ?_
    refine va_get (D := D) (ci := 2) (v := .ref (B 12)) (C := RX2) (T := TX2) (N := 19) hx hb hts hiX2 hown hK hP (0) rfl rfl 14 (by decide) (hts (.fieldLink RX2 45 "CoauthorTextModel" "text" "[I") (by decide +kernel)) (fun _ h9 => h9) rfl dX2_signAt_10 ?_
    refine lv_iload_n hx hb dX2_signAt_13 rfl (lv_at hl 2 rfl) ?_
    refine r_iald hx hb hK hP (12) rfl (by omega) (by decide) dX2_signAt_14 ?_
    refine lv_goto (tgt := 19) hx hb dX2_signAt_15 (by decide) ?_
    exact C_iret hx hb hr hlocks hS hP hK hD (Nat.le_of_ble_eq_true rfl) (Nat.le_of_ble_eq_true rfl) dX2_signAt_19 (by rw [show spSignAt S O (nI a) (nI k) = (0, nI ((txL S O a).getD k 0), S) from by simp [spSignAt, hU, hV, aN_n (show a < 2 ^ 31 by omega), aN_n (show k < 2 ^ 31 by omega)]]; exact ⟨T2, h2, rfl, fun _ => by rw [hk1]⟩)

set_option maxHeartbeats 4000000 in
set_option maxRecDepth 100000 in
theorem c_X2_letterAt (l : Launch) {D : va_G} {cy : Nat → ClassId} {B : Nat → Nat} {S T : Nat → Nat → Nat} {Y : va_W} {O : List Nat} (hI : Inv S O) (p0 p1 : Int32) : CI l yX2_letterAt wsX2_letterAt ({ frames := 5, cells := 0, slots := 0, locals := 104 } : Room) D cy [.ref (B 0), .int p0, .int p1] (MW cy B S T Y) (fun r w' => ∃ T' : Nat → Nat → Nat, T' 0 2 = (spLetterAt S O p0 p1).1 ∧ w' = MW cy B (spLetterAt S O p0 p1).2.2 T' Y ∧ ((spLetterAt S O p0 p1).1 = 0 → r = (spLetterAt S O p0 p1).2.1)) 0 0 := by
  refine CI.of (cc := cX2_letterAt) (maxL := 3) (ret := (some .int)) (by decide) rfl (Nat.le_of_ble_eq_true rfl) ?_
  intro p e s m below meth c A ls E0 hl
  obtain ⟨hx, hb, hml, hown, hts, hr, hlocks, hA, hS, hP, hK, hD, hX⟩ := E0
  have hiX2 : ∀ w ∈ u_ws RX2 TX2 19, w ∈ wsX2_letterAt := by decide +kernel
  have hl : lv_has ls 3 [(0, .ref (B 0)), (1, .int p0), (2, .int p1)] := hl
  refine lv_aload_n hx hb dX2_letterAt_0 rfl (lv_at hl 0 rfl) ?_
  refine lv_iload_n hx hb dX2_letterAt_1 rfl (lv_at hl 1 rfl) ?_
  refine lv_iload_n hx hb dX2_letterAt_2 rfl (lv_at hl 2 rfl) ?_
  refine K_i (va_runV (As := [.int p0, .int p1]) (rest := []) ⟨hx, hb, hml, hown, hts⟩ (c_X2_asksPlace l hI p0 p1 _) (cwV 2 hts gX2_letterAt_X2_asksPlace rfl rfl rfl (by decide +kernel) ⟨Nat.le_of_ble_eq_true rfl, Nat.le_of_ble_eq_true rfl⟩) (pV hP hK hD hS hA hX (va_recv hK hP (ci := 2) (q0 := 0) rfl rfl)) rfl rfl hl.1 rfl (lv_room (Nat.le_of_ble_eq_true rfl)) dX2_letterAt_3 ⟨Nat.le_of_ble_eq_true rfl, Nat.le_of_ble_eq_true rfl⟩) hD hS hA (fun r w'  H locs hp hP hD hS => ?_)
  obtain ⟨T2, rfl, h2, rfl, ht⟩ := hp
  refine r_if_eq (tgt := 23) hx hb dX2_letterAt_6 (by decide) (Nat.lt_trans (bN_lt _) (by decide)) (fun c1 => ?_) (fun c1 => ?_)
  · have h0 : apC S O p0 p1 ≠ 0 := of_decide_eq_false (bN_0.mp c1)
    refine lv_iconst (v := nI 0) hx hb dX2_letterAt_23 (by decide) ?_
    rcases apC_n h0 with ⟨hU, e⟩ | ⟨hU, hV, e⟩
    · exact C_iret hx hb hr hlocks hS hP hK hD (Nat.le_of_ble_eq_true rfl) (Nat.le_of_ble_eq_true rfl) dX2_letterAt_24 (by rw [show spLetterAt S O p0 p1 = (1, 0, S) from by simp [spLetterAt, hU]]; exact ⟨T2, (by rw [h2, e]), rfl, fun h => absurd (show (1 : Nat) = 0 from h) (by decide)⟩)
    · exact C_iret hx hb hr hlocks hS hP hK hD (Nat.le_of_ble_eq_true rfl) (Nat.le_of_ble_eq_true rfl) dX2_letterAt_24 (by rw [show spLetterAt S O p0 p1 = (2, 0, S) from by simp [spLetterAt, hU, hV]]; exact ⟨T2, (by rw [h2, e]), rfl, fun h => absurd (show (2 : Nat) = 0 from h) (by decide)⟩)
  · have h0 : apC S O p0 p1 = 0 := of_decide_eq_true (bN_1.mp c1)
    have ht3 := ht h0
    rw [h0] at h2
    obtain ⟨a, k, ha, rfl, hk, rfl, hU, hV⟩ := apC_0 hI.len h0
    have hl60 := hI.len a
    rw [aN_n (show a < 2 ^ 31 by omega)] at ht3 hV
    have hk1 := txt_at ht3 hk
    have hm := txL_mem hI (getD_mem hk)
    have hn60 := hI.R.1
    refine lv_aload_n hx hb dX2_letterAt_9 rfl (lv_at hl 0 rfl) ?_
    refine va_get (D := D) (ci := 2) (v := .ref (B 2)) (C := RX2) (T := TX2) (N := 19) hx hb hts hiX2 hown hK hP (0) rfl rfl 2 (by decide) (hts (.fieldLink RX2 13 "CoauthorTextModel" "letters" "[I") (by decide +kernel)) (fun _ h9 => h9) rfl dX2_letterAt_10 ?_
    refine lv_aload_n hx hb dX2_letterAt_13 rfl (lv_at hl 0 rfl) ?_
    refine va_get (D := D) (ci := 2) (v := .ref (B 12)) (C := RX2) (T := TX2) (N := 19) hx hb hts hiX2 hown hK hP (0) rfl rfl 14 (by decide) (hts (.fieldLink RX2 45 "CoauthorTextModel" "text" "[I") (by decide +kernel)) (fun _ h9 => h9) rfl dX2_letterAt_14 ?_
    refine lv_iload_n hx hb dX2_letterAt_17 rfl (lv_at hl 2 rfl) ?_
    refine r_iald hx hb hK hP (12) rfl (by omega) (by decide) dX2_letterAt_18 ?_
    refine r_iald hx hb hK hP (2) rfl (by rw [hk1]; omega) (by decide) dX2_letterAt_19 ?_
    refine lv_goto (tgt := 24) hx hb dX2_letterAt_20 (by decide) ?_
    exact C_iret hx hb hr hlocks hS hP hK hD (Nat.le_of_ble_eq_true rfl) (Nat.le_of_ble_eq_true rfl) dX2_letterAt_24 (by rw [show spLetterAt S O (nI a) (nI k) = (0, nI (S 2 ((txL S O a).getD k 0)), S) from by simp [spLetterAt, hU, hV, aN_n (show a < 2 ^ 31 by omega), aN_n (show k < 2 ^ 31 by omega)]]; exact ⟨T2, h2, rfl, fun _ => by rw [hk1]⟩)

set_option maxHeartbeats 4000000 in
set_option maxRecDepth 100000 in
theorem c_X2_authorOf (l : Launch) {D : va_G} {cy : Nat → ClassId} {B : Nat → Nat} {S T : Nat → Nat → Nat} {Y : va_W} {O : List Nat} (hI : Inv S O) (p0 : Int32) : CI l yX2_authorOf wsX2_authorOf ({ frames := 3, cells := 0, slots := 0, locals := 55 } : Room) D cy [.ref (B 0), .int p0] (MW cy B S T Y) (fun r w' => ∃ T' : Nat → Nat → Nat, T' 0 2 = (spAuthorOf S p0).1 ∧ w' = MW cy B (spAuthorOf S p0).2.2 T' Y ∧ ((spAuthorOf S p0).1 = 0 → r = (spAuthorOf S p0).2.1)) 0 0 := by
  refine CI.of (cc := cX2_authorOf) (maxL := 2) (ret := (some .int)) (by decide) rfl (Nat.le_of_ble_eq_true rfl) ?_
  intro p e s m below meth c A ls E0 hl
  obtain ⟨hx, hb, hml, hown, hts, hr, hlocks, hA, hS, hP, hK, hD, hX⟩ := E0
  have hiX2 : ∀ w ∈ u_ws RX2 TX2 19, w ∈ wsX2_authorOf := by decide +kernel
  have hl : lv_has ls 2 [(0, .ref (B 0)), (1, .int p0)] := hl
  refine lv_aload_n hx hb dX2_authorOf_0 rfl (lv_at hl 0 rfl) ?_
  refine lv_aload_n hx hb dX2_authorOf_1 rfl (lv_at hl 0 rfl) ?_
  refine lv_iload_n hx hb dX2_authorOf_2 rfl (lv_at hl 1 rfl) ?_
  refine K_i (va_runV (As := [.int p0]) (rest := [.ref (B 0)]) ⟨hx, hb, hml, hown, hts⟩ (c_X2_isSign l p0 _) (cwV 1 hts gX2_authorOf_X2_isSign rfl rfl rfl (by decide +kernel) ⟨Nat.le_of_ble_eq_true rfl, Nat.le_of_ble_eq_true rfl⟩) (pV hP hK hD hS hA hX (va_recv hK hP (ci := 2) (q0 := 0) rfl rfl)) rfl rfl hl.1 rfl (lv_room (Nat.le_of_ble_eq_true rfl)) dX2_authorOf_3 ⟨Nat.le_of_ble_eq_true rfl, Nat.le_of_ble_eq_true rfl⟩) hD hS hA (fun r w'  H locs hp hP hD hS => ?_)
  obtain ⟨rfl, rfl⟩ := hp
  refine r_if_eq (tgt := 13) hx hb dX2_authorOf_6 (by decide) (Nat.lt_trans (bN_lt _) (by decide)) (fun c1 => ?_) (fun c1 => ?_)
  · have hV := bN_0.mp c1
    refine lv_iconst (v := nI 1) hx hb dX2_authorOf_13 (by decide) ?_
    refine K_i (va_runV (As := [.int (nI 1)]) (rest := []) ⟨hx, hb, hml, hown, hts⟩ (c_X2_goes l (k := 1) (by decide) _) (cwV 1 hts gX2_authorOf_X2_goes rfl rfl rfl (by decide +kernel) ⟨Nat.le_of_ble_eq_true rfl, Nat.le_of_ble_eq_true rfl⟩) (pV hP hK hD hS hA hX (va_recv hK hP (ci := 2) (q0 := 0) rfl rfl)) rfl rfl hl.1 rfl (lv_room (Nat.le_of_ble_eq_true rfl)) dX2_authorOf_14 ⟨Nat.le_of_ble_eq_true rfl, Nat.le_of_ble_eq_true rfl⟩) hD hS hA (fun r w'  H locs hp hP hD hS => ?_)
    obtain ⟨hr9, rfl⟩ := hp
    obtain rfl : r = nI 0 := hr9
    refine r_if_eq (tgt := 29) hx hb dX2_authorOf_17 (by decide) (by decide) (fun c2 => ?_) (fun c2 => ?_)
    · refine lv_iconst (v := nI 0) hx hb dX2_authorOf_29 (by decide) ?_
      exact C_iret hx hb hr hlocks hS hP hK hD (Nat.le_of_ble_eq_true rfl) (Nat.le_of_ble_eq_true rfl) dX2_authorOf_30 (by rw [show spAuthorOf S p0 = (1, 0, S) from by simp [spAuthorOf, hV]]; exact ⟨_, up2_s _ _ _ _, rfl, fun h => absurd (show (1 : Nat) = 0 from h) (by decide)⟩)
    · omega
  · have hV := bN_1.mp c1
    refine lv_iconst (v := nI 0) hx hb dX2_authorOf_9 (by decide) ?_
    refine lv_goto (tgt := 14) hx hb dX2_authorOf_10 (by decide) ?_
    refine K_i (va_runV (As := [.int (nI 0)]) (rest := []) ⟨hx, hb, hml, hown, hts⟩ (c_X2_goes l (k := 0) (by decide) _) (cwV 1 hts gX2_authorOf_X2_goes rfl rfl rfl (by decide +kernel) ⟨Nat.le_of_ble_eq_true rfl, Nat.le_of_ble_eq_true rfl⟩) (pV hP hK hD hS hA hX (va_recv hK hP (ci := 2) (q0 := 0) rfl rfl)) rfl rfl hl.1 rfl (lv_room (Nat.le_of_ble_eq_true rfl)) dX2_authorOf_14 ⟨Nat.le_of_ble_eq_true rfl, Nat.le_of_ble_eq_true rfl⟩) hD hS hA (fun r w'  H locs hp hP hD hS => ?_)
    obtain ⟨hr9, rfl⟩ := hp
    obtain rfl : r = nI 1 := hr9
    refine r_if_eq (tgt := 29) hx hb dX2_authorOf_17 (by decide) (by decide) (fun c3 => ?_) (fun c3 => ?_)
    · omega
    · have hn60 := hI.R.1
      obtain ⟨i, hi, rfl⟩ := inS_n (by omega) hV
      refine lv_aload_n hx hb dX2_authorOf_20 rfl (lv_at hl 0 rfl) ?_
      refine va_get (D := D) (ci := 2) (v := .ref (B 1)) (C := RX2) (T := TX2) (N := 19) hx hb hts hiX2 hown hK hP (0) rfl rfl 1 (by decide) (hts (.fieldLink RX2 7 "CoauthorTextModel" "authors" "[I") (by decide +kernel)) (fun _ h9 => h9) rfl dX2_authorOf_21 ?_
      refine lv_iload_n hx hb dX2_authorOf_24 rfl (lv_at hl 1 rfl) ?_
      refine r_iald hx hb hK hP (1) rfl (by omega) (by decide) dX2_authorOf_25 ?_
      refine lv_goto (tgt := 30) hx hb dX2_authorOf_26 (by decide) ?_
      exact C_iret hx hb hr hlocks hS hP hK hD (Nat.le_of_ble_eq_true rfl) (Nat.le_of_ble_eq_true rfl) dX2_authorOf_30 (by rw [show spAuthorOf S (nI i) = (0, nI (S 1 i), S) from by simp [spAuthorOf, hV, aN_n (show i < 2 ^ 31 by omega)]]; exact ⟨_, up2_s _ _ _ _, rfl, fun h => rfl⟩)

set_option maxHeartbeats 4000000 in
set_option maxRecDepth 100000 in
theorem c_X2_behind (l : Launch) {D : va_G} {cy : Nat → ClassId} {B : Nat → Nat} {S T : Nat → Nat → Nat} {Y : va_W} {O : List Nat} (hI : Inv S O) (p0 : Int32) : CI l yX2_behind wsX2_behind ({ frames := 3, cells := 0, slots := 0, locals := 55 } : Room) D cy [.ref (B 0), .int p0] (MW cy B S T Y) (fun r w' => ∃ T' : Nat → Nat → Nat, T' 0 2 = (spBehind S p0).1 ∧ w' = MW cy B (spBehind S p0).2.2 T' Y ∧ ((spBehind S p0).1 = 0 → r = (spBehind S p0).2.1)) 0 0 := by
  refine CI.of (cc := cX2_behind) (maxL := 2) (ret := (some .int)) (by decide) rfl (Nat.le_of_ble_eq_true rfl) ?_
  intro p e s m below meth c A ls E0 hl
  obtain ⟨hx, hb, hml, hown, hts, hr, hlocks, hA, hS, hP, hK, hD, hX⟩ := E0
  have hiX2 : ∀ w ∈ u_ws RX2 TX2 19, w ∈ wsX2_behind := by decide +kernel
  have hl : lv_has ls 2 [(0, .ref (B 0)), (1, .int p0)] := hl
  refine lv_aload_n hx hb dX2_behind_0 rfl (lv_at hl 0 rfl) ?_
  refine lv_aload_n hx hb dX2_behind_1 rfl (lv_at hl 0 rfl) ?_
  refine lv_iload_n hx hb dX2_behind_2 rfl (lv_at hl 1 rfl) ?_
  refine K_i (va_runV (As := [.int p0]) (rest := [.ref (B 0)]) ⟨hx, hb, hml, hown, hts⟩ (c_X2_isSign l p0 _) (cwV 1 hts gX2_behind_X2_isSign rfl rfl rfl (by decide +kernel) ⟨Nat.le_of_ble_eq_true rfl, Nat.le_of_ble_eq_true rfl⟩) (pV hP hK hD hS hA hX (va_recv hK hP (ci := 2) (q0 := 0) rfl rfl)) rfl rfl hl.1 rfl (lv_room (Nat.le_of_ble_eq_true rfl)) dX2_behind_3 ⟨Nat.le_of_ble_eq_true rfl, Nat.le_of_ble_eq_true rfl⟩) hD hS hA (fun r w'  H locs hp hP hD hS => ?_)
  obtain ⟨rfl, rfl⟩ := hp
  refine r_if_eq (tgt := 13) hx hb dX2_behind_6 (by decide) (Nat.lt_trans (bN_lt _) (by decide)) (fun c1 => ?_) (fun c1 => ?_)
  · have hV := bN_0.mp c1
    refine lv_iconst (v := nI 1) hx hb dX2_behind_13 (by decide) ?_
    refine K_i (va_runV (As := [.int (nI 1)]) (rest := []) ⟨hx, hb, hml, hown, hts⟩ (c_X2_goes l (k := 1) (by decide) _) (cwV 1 hts gX2_behind_X2_goes rfl rfl rfl (by decide +kernel) ⟨Nat.le_of_ble_eq_true rfl, Nat.le_of_ble_eq_true rfl⟩) (pV hP hK hD hS hA hX (va_recv hK hP (ci := 2) (q0 := 0) rfl rfl)) rfl rfl hl.1 rfl (lv_room (Nat.le_of_ble_eq_true rfl)) dX2_behind_14 ⟨Nat.le_of_ble_eq_true rfl, Nat.le_of_ble_eq_true rfl⟩) hD hS hA (fun r w'  H locs hp hP hD hS => ?_)
    obtain ⟨hr9, rfl⟩ := hp
    obtain rfl : r = nI 0 := hr9
    refine r_if_eq (tgt := 29) hx hb dX2_behind_17 (by decide) (by decide) (fun c2 => ?_) (fun c2 => ?_)
    · refine lv_iconst (v := nI 0) hx hb dX2_behind_29 (by decide) ?_
      exact C_iret hx hb hr hlocks hS hP hK hD (Nat.le_of_ble_eq_true rfl) (Nat.le_of_ble_eq_true rfl) dX2_behind_30 (by rw [show spBehind S p0 = (1, 0, S) from by simp [spBehind, hV]]; exact ⟨_, up2_s _ _ _ _, rfl, fun h => absurd (show (1 : Nat) = 0 from h) (by decide)⟩)
    · omega
  · have hV := bN_1.mp c1
    refine lv_iconst (v := nI 0) hx hb dX2_behind_9 (by decide) ?_
    refine lv_goto (tgt := 14) hx hb dX2_behind_10 (by decide) ?_
    refine K_i (va_runV (As := [.int (nI 0)]) (rest := []) ⟨hx, hb, hml, hown, hts⟩ (c_X2_goes l (k := 0) (by decide) _) (cwV 1 hts gX2_behind_X2_goes rfl rfl rfl (by decide +kernel) ⟨Nat.le_of_ble_eq_true rfl, Nat.le_of_ble_eq_true rfl⟩) (pV hP hK hD hS hA hX (va_recv hK hP (ci := 2) (q0 := 0) rfl rfl)) rfl rfl hl.1 rfl (lv_room (Nat.le_of_ble_eq_true rfl)) dX2_behind_14 ⟨Nat.le_of_ble_eq_true rfl, Nat.le_of_ble_eq_true rfl⟩) hD hS hA (fun r w'  H locs hp hP hD hS => ?_)
    obtain ⟨hr9, rfl⟩ := hp
    obtain rfl : r = nI 1 := hr9
    refine r_if_eq (tgt := 29) hx hb dX2_behind_17 (by decide) (by decide) (fun c3 => ?_) (fun c3 => ?_)
    · omega
    · have hn60 := hI.R.1
      obtain ⟨i, hi, rfl⟩ := inS_n (by omega) hV
      refine lv_aload_n hx hb dX2_behind_20 rfl (lv_at hl 0 rfl) ?_
      refine va_get (D := D) (ci := 2) (v := .ref (B 4)) (C := RX2) (T := TX2) (N := 19) hx hb hts hiX2 hown hK hP (0) rfl rfl 4 (by decide) (hts (.fieldLink RX2 19 "CoauthorTextModel" "behinds" "[I") (by decide +kernel)) (fun _ h9 => h9) rfl dX2_behind_21 ?_
      refine lv_iload_n hx hb dX2_behind_24 rfl (lv_at hl 1 rfl) ?_
      refine r_iald hx hb hK hP (4) rfl (by omega) (by decide) dX2_behind_25 ?_
      refine lv_goto (tgt := 30) hx hb dX2_behind_26 (by decide) ?_
      exact C_iret hx hb hr hlocks hS hP hK hD (Nat.le_of_ble_eq_true rfl) (Nat.le_of_ble_eq_true rfl) dX2_behind_30 (by rw [show spBehind S (nI i) = (0, bI (S 4 i), S) from by simp [spBehind, hV, aN_n (show i < 2 ^ 31 by omega)]]; exact ⟨_, up2_s _ _ _ _, rfl, fun h => rfl⟩)

set_option maxHeartbeats 4000000 in
set_option maxRecDepth 100000 in
theorem c_X2_clock (l : Launch) {D : va_G} {cy : Nat → ClassId} {B : Nat → Nat} {S T : Nat → Nat → Nat} {Y : va_W} (p0 : Int32) : CI l yX2_clock wsX2_clock ({ frames := 4, cells := 0, slots := 0, locals := 75 } : Room) D cy [.ref (B 0), .int p0] (MW cy B S T Y) (fun r w' => ∃ T' : Nat → Nat → Nat, T' 0 2 = (spClock S p0).1 ∧ w' = MW cy B (spClock S p0).2.2 T' Y ∧ ((spClock S p0).1 = 0 → r = (spClock S p0).2.1)) 0 0 := by
  refine CI.of (cc := cX2_clock) (maxL := 2) (ret := (some .int)) (by decide) rfl (Nat.le_of_ble_eq_true rfl) ?_
  intro p e s m below meth c A ls E0 hl
  obtain ⟨hx, hb, hml, hown, hts, hr, hlocks, hA, hS, hP, hK, hD, hX⟩ := E0
  have hiX2 : ∀ w ∈ u_ws RX2 TX2 19, w ∈ wsX2_clock := by decide +kernel
  have hl : lv_has ls 2 [(0, .ref (B 0)), (1, .int p0)] := hl
  refine lv_aload_n hx hb dX2_clock_0 rfl (lv_at hl 0 rfl) ?_
  refine lv_iload_n hx hb dX2_clock_1 rfl (lv_at hl 1 rfl) ?_
  refine K_i (va_runV (As := [.int p0]) (rest := []) ⟨hx, hb, hml, hown, hts⟩ (c_X2_asks l p0 _) (cwV 1 hts gX2_clock_X2_asks rfl rfl rfl (by decide +kernel) ⟨Nat.le_of_ble_eq_true rfl, Nat.le_of_ble_eq_true rfl⟩) (pV hP hK hD hS hA hX (va_recv hK hP (ci := 2) (q0 := 0) rfl rfl)) rfl rfl hl.1 rfl (lv_room (Nat.le_of_ble_eq_true rfl)) dX2_clock_2 ⟨Nat.le_of_ble_eq_true rfl, Nat.le_of_ble_eq_true rfl⟩) hD hS hA (fun r w'  H locs hp hP hD hS => ?_)
  obtain ⟨rfl, rfl⟩ := hp
  refine r_if_eq (tgt := 17) hx hb dX2_clock_5 (by decide) (Nat.lt_trans (bN_lt _) (by decide)) (fun c1 => ?_) (fun c1 => ?_)
  · have hU := bN_0.mp c1
    refine lv_iconst (v := nI 0) hx hb dX2_clock_17 (by decide) ?_
    exact C_iret hx hb hr hlocks hS hP hK hD (Nat.le_of_ble_eq_true rfl) (Nat.le_of_ble_eq_true rfl) dX2_clock_18 (by rw [show spClock S p0 = (1, 0, S) from by simp [spClock, hU]]; exact ⟨_, (by rw [hU]; rfl), rfl, fun h => absurd (show (1 : Nat) = 0 from h) (by decide)⟩)
  · have hU := bN_1.mp c1
    obtain ⟨a, ha, rfl⟩ := isA_n hU
    refine lv_aload_n hx hb dX2_clock_8 rfl (lv_at hl 0 rfl) ?_
    refine va_get (D := D) (ci := 2) (v := .ref (B 8)) (C := RX2) (T := TX2) (N := 19) hx hb hts hiX2 hown hK hP (0) rfl rfl 8 (by decide) (hts (.fieldLink RX2 32 "CoauthorTextModel" "clocks" "[I") (by decide +kernel)) (fun _ h9 => h9) rfl dX2_clock_9 ?_
    refine lv_iload_n hx hb dX2_clock_12 rfl (lv_at hl 1 rfl) ?_
    refine r_iald hx hb hK hP (8) rfl (by omega) (by decide) dX2_clock_13 ?_
    refine lv_goto (tgt := 18) hx hb dX2_clock_14 (by decide) ?_
    exact C_iret hx hb hr hlocks hS hP hK hD (Nat.le_of_ble_eq_true rfl) (Nat.le_of_ble_eq_true rfl) dX2_clock_18 (by rw [show spClock S (nI a) = (0, nI (S 8 a), S) from by simp [spClock, hU, aN_n (show a < 2 ^ 31 by omega)]]; exact ⟨_, (by rw [hU]; rfl), rfl, fun h => rfl⟩)

set_option maxHeartbeats 4000000 in
set_option maxRecDepth 100000 in
theorem c_X2_left (l : Launch) {D : va_G} {cy : Nat → ClassId} {B : Nat → Nat} {S T : Nat → Nat → Nat} {Y : va_W} (p0 : Int32) : CI l yX2_left wsX2_left ({ frames := 4, cells := 0, slots := 0, locals := 75 } : Room) D cy [.ref (B 0), .int p0] (MW cy B S T Y) (fun r w' => ∃ T' : Nat → Nat → Nat, T' 0 2 = (spLeft S p0).1 ∧ w' = MW cy B (spLeft S p0).2.2 T' Y ∧ ((spLeft S p0).1 = 0 → r = (spLeft S p0).2.1)) 0 0 := by
  refine CI.of (cc := cX2_left) (maxL := 2) (ret := (some .int)) (by decide) rfl (Nat.le_of_ble_eq_true rfl) ?_
  intro p e s m below meth c A ls E0 hl
  obtain ⟨hx, hb, hml, hown, hts, hr, hlocks, hA, hS, hP, hK, hD, hX⟩ := E0
  have hiX2 : ∀ w ∈ u_ws RX2 TX2 19, w ∈ wsX2_left := by decide +kernel
  have hl : lv_has ls 2 [(0, .ref (B 0)), (1, .int p0)] := hl
  refine lv_aload_n hx hb dX2_left_0 rfl (lv_at hl 0 rfl) ?_
  refine lv_iload_n hx hb dX2_left_1 rfl (lv_at hl 1 rfl) ?_
  refine K_i (va_runV (As := [.int p0]) (rest := []) ⟨hx, hb, hml, hown, hts⟩ (c_X2_asks l p0 _) (cwV 1 hts gX2_left_X2_asks rfl rfl rfl (by decide +kernel) ⟨Nat.le_of_ble_eq_true rfl, Nat.le_of_ble_eq_true rfl⟩) (pV hP hK hD hS hA hX (va_recv hK hP (ci := 2) (q0 := 0) rfl rfl)) rfl rfl hl.1 rfl (lv_room (Nat.le_of_ble_eq_true rfl)) dX2_left_2 ⟨Nat.le_of_ble_eq_true rfl, Nat.le_of_ble_eq_true rfl⟩) hD hS hA (fun r w'  H locs hp hP hD hS => ?_)
  obtain ⟨rfl, rfl⟩ := hp
  refine r_if_eq (tgt := 17) hx hb dX2_left_5 (by decide) (Nat.lt_trans (bN_lt _) (by decide)) (fun c1 => ?_) (fun c1 => ?_)
  · have hU := bN_0.mp c1
    refine lv_iconst (v := nI 0) hx hb dX2_left_17 (by decide) ?_
    exact C_iret hx hb hr hlocks hS hP hK hD (Nat.le_of_ble_eq_true rfl) (Nat.le_of_ble_eq_true rfl) dX2_left_18 (by rw [show spLeft S p0 = (1, 0, S) from by simp [spLeft, hU]]; exact ⟨_, (by rw [hU]; rfl), rfl, fun h => absurd (show (1 : Nat) = 0 from h) (by decide)⟩)
  · have hU := bN_1.mp c1
    obtain ⟨a, ha, rfl⟩ := isA_n hU
    refine lv_aload_n hx hb dX2_left_8 rfl (lv_at hl 0 rfl) ?_
    refine va_get (D := D) (ci := 2) (v := .ref (B 10)) (C := RX2) (T := TX2) (N := 19) hx hb hts hiX2 hown hK hP (0) rfl rfl 12 (by decide) (hts (.fieldLink RX2 38 "CoauthorTextModel" "advances" "[I") (by decide +kernel)) (fun _ h9 => h9) rfl dX2_left_9 ?_
    refine lv_iload_n hx hb dX2_left_12 rfl (lv_at hl 1 rfl) ?_
    refine r_iald hx hb hK hP (10) rfl (by omega) (by decide) dX2_left_13 ?_
    refine lv_goto (tgt := 18) hx hb dX2_left_14 (by decide) ?_
    exact C_iret hx hb hr hlocks hS hP hK hD (Nat.le_of_ble_eq_true rfl) (Nat.le_of_ble_eq_true rfl) dX2_left_18 (by rw [show spLeft S (nI a) = (0, nI (S 10 a), S) from by simp [spLeft, hU, aN_n (show a < 2 ^ 31 by omega)]]; exact ⟨_, (by rw [hU]; rfl), rfl, fun h => rfl⟩)

set_option maxHeartbeats 4000000 in
set_option maxRecDepth 100000 in
theorem c_X2_paid (l : Launch) {D : va_G} {cy : Nat → ClassId} {B : Nat → Nat} {S T : Nat → Nat → Nat} {Y : va_W} (p0 : Int32) : CL l yX2_paid wsX2_paid ({ frames := 4, cells := 0, slots := 0, locals := 75 } : Room) D cy [.ref (B 0), .int p0] (MW cy B S T Y) (fun r w' => ∃ T' : Nat → Nat → Nat, T' 0 2 = cPaid p0 ∧ w' = MW cy B S T' Y ∧ (cPaid p0 = 0 → r = lN (S 11 (aN p0)))) 0 0 := by
  refine CL.of (cc := cX2_paid) (maxL := 2) (ret := (some .long)) (by decide) rfl (Nat.le_of_ble_eq_true rfl) ?_
  intro p e s m below meth c A ls E0 hl
  obtain ⟨hx, hb, hml, hown, hts, hr, hlocks, hA, hS, hP, hK, hD, hX⟩ := E0
  have hiX2 : ∀ w ∈ u_ws RX2 TX2 19, w ∈ wsX2_paid := by decide +kernel
  have hl : lv_has ls 2 [(0, .ref (B 0)), (1, .int p0)] := hl
  refine lv_aload_n hx hb dX2_paid_0 rfl (lv_at hl 0 rfl) ?_
  refine lv_iload_n hx hb dX2_paid_1 rfl (lv_at hl 1 rfl) ?_
  refine K_i (va_runV (As := [.int p0]) (rest := []) ⟨hx, hb, hml, hown, hts⟩ (c_X2_asks l p0 _) (cwV 1 hts gX2_paid_X2_asks rfl rfl rfl (by decide +kernel) ⟨Nat.le_of_ble_eq_true rfl, Nat.le_of_ble_eq_true rfl⟩) (pV hP hK hD hS hA hX (va_recv hK hP (ci := 2) (q0 := 0) rfl rfl)) rfl rfl hl.1 rfl (lv_room (Nat.le_of_ble_eq_true rfl)) dX2_paid_2 ⟨Nat.le_of_ble_eq_true rfl, Nat.le_of_ble_eq_true rfl⟩) hD hS hA (fun r w'  H locs hp hP hD hS => ?_)
  obtain ⟨rfl, rfl⟩ := hp
  refine r_if_eq (tgt := 17) hx hb dX2_paid_5 (by decide) (Nat.lt_trans (bN_lt _) (by decide)) (fun c1 => ?_) (fun c1 => ?_)
  · have hU := bN_0.mp c1
    refine lv_lconst (v := lN 0) hx hb dX2_paid_17 (by decide) ?_
    exact C_lret hx hb hr hlocks hS hP hK hD (Nat.le_of_ble_eq_true rfl) (Nat.le_of_ble_eq_true rfl) dX2_paid_18 ⟨_, by rw [show cPaid p0 = 1 from by simp [cPaid, hU], hU]; rfl, rfl, fun h => by rw [show cPaid p0 = 1 from by simp [cPaid, hU]] at h; exact absurd h (by decide)⟩
  · have hU := bN_1.mp c1
    obtain ⟨a, ha, rfl⟩ := isA_n hU
    refine lv_aload_n hx hb dX2_paid_8 rfl (lv_at hl 0 rfl) ?_
    refine va_get (D := D) (ci := 2) (v := .ref (B 11)) (C := RX2) (T := TX2) (N := 19) hx hb hts hiX2 hown hK hP (0) rfl rfl 13 (by decide) (hts (.fieldLink RX2 41 "CoauthorTextModel" "paid" "[J") (by decide +kernel)) (fun _ h9 => h9) rfl dX2_paid_9 ?_
    refine lv_iload_n hx hb dX2_paid_12 rfl (lv_at hl 1 rfl) ?_
    refine r_lald hx hb hK hP (11) rfl (by omega) (by decide) dX2_paid_13 ?_
    refine lv_goto (tgt := 18) hx hb dX2_paid_14 (by decide) ?_
    exact C_lret hx hb hr hlocks hS hP hK hD (Nat.le_of_ble_eq_true rfl) (Nat.le_of_ble_eq_true rfl) dX2_paid_18 ⟨_, by rw [show cPaid (nI a) = 0 from by simp [cPaid, hU], hU]; rfl, rfl, fun h => by rw [aN_n (show a < 2 ^ 31 by omega)]⟩

set_option maxHeartbeats 4000000 in
set_option maxRecDepth 100000 in
theorem c_X2_printed (l : Launch) {D : va_G} {cy : Nat → ClassId} {B : Nat → Nat} {S T : Nat → Nat → Nat} {Y : va_W} {O : List Nat} (hI : Inv S O) (p0 p1 : Int32) : CI l yX2_printed wsX2_printed ({ frames := 3, cells := 0, slots := 0, locals := 55 } : Room) D cy [.ref (B 0), .int p0, .int p1] (MW cy B S T Y) (fun r w' => ∃ T' : Nat → Nat → Nat, T' 0 2 = (spPrinted S p0 p1).1 ∧ w' = MW cy B (spPrinted S p0 p1).2.2 T' Y ∧ ((spPrinted S p0 p1).1 = 0 → r = (spPrinted S p0 p1).2.1)) 0 0 := by
  refine CI.of (cc := cX2_printed) (maxL := 3) (ret := (some .int)) (by decide) rfl (Nat.le_of_ble_eq_true rfl) ?_
  intro p e s m below meth c A ls E0 hl
  obtain ⟨hx, hb, hml, hown, hts, hr, hlocks, hA, hS, hP, hK, hD, hX⟩ := E0
  have hiX2 : ∀ w ∈ u_ws RX2 TX2 19, w ∈ wsX2_printed := by decide +kernel
  have hl : lv_has ls 3 [(0, .ref (B 0)), (1, .int p0), (2, .int p1)] := hl
  refine lv_aload_n hx hb dX2_printed_0 rfl (lv_at hl 0 rfl) ?_
  refine lv_aload_n hx hb dX2_printed_1 rfl (lv_at hl 0 rfl) ?_
  refine lv_iload_n hx hb dX2_printed_2 rfl (lv_at hl 1 rfl) ?_
  refine K_i (va_runV (As := [.int p0]) (rest := [.ref (B 0)]) ⟨hx, hb, hml, hown, hts⟩ (c_X2_isEdition l p0 _) (cwV 1 hts gX2_printed_X2_isEdition rfl rfl rfl (by decide +kernel) ⟨Nat.le_of_ble_eq_true rfl, Nat.le_of_ble_eq_true rfl⟩) (pV hP hK hD hS hA hX (va_recv hK hP (ci := 2) (q0 := 0) rfl rfl)) rfl rfl hl.1 rfl (lv_room (Nat.le_of_ble_eq_true rfl)) dX2_printed_3 ⟨Nat.le_of_ble_eq_true rfl, Nat.le_of_ble_eq_true rfl⟩) hD hS hA (fun r w'  H locs hp hP hD hS => ?_)
  obtain ⟨rfl, rfl⟩ := hp
  refine r_if_ne (tgt := 13) hx hb dX2_printed_6 (by decide) (Nat.lt_trans (bN_lt _) (by decide)) (fun c1 => ?_) (fun c1 => ?_)
  · have hV := bN_1.mp c1
    refine lv_iload_n hx hb dX2_printed_13 rfl (lv_at hl 2 rfl) ?_
    refine K_i (va_runS (As := [.int p1]) (rest := [.ref (B 0)]) ⟨hx, hb, hml, hown, hts⟩ (c_X2_isAuthor l p1 _) (va_cwS 1 hts gX2_printed_X2_isAuthor rfl rfl rfl (by decide +kernel) ⟨Nat.le_of_ble_eq_true rfl, Nat.le_of_ble_eq_true rfl⟩) (pS hP hK hD hS hA hX) rfl rfl hl.1 rfl (lv_room (Nat.le_of_ble_eq_true rfl)) dX2_printed_14 ⟨Nat.le_of_ble_eq_true rfl, Nat.le_of_ble_eq_true rfl⟩) hD hS hA (fun r w'  H locs hp hP hD hS => ?_)
    obtain ⟨rfl, hw9⟩ := hp
    rw [hw9] at hP hD
    refine r_if_eq (tgt := 24) hx hb dX2_printed_17 (by decide) (Nat.lt_trans (bN_lt _) (by decide)) (fun c2 => ?_) (fun c2 => ?_)
    · have hU := bN_0.mp c2
      refine lv_iconst (v := nI 2) hx hb dX2_printed_24 (by decide) ?_
      refine K_i (va_runV (As := [.int (nI 2)]) (rest := []) ⟨hx, hb, hml, hown, hts⟩ (c_X2_goes l (k := 2) (by decide) _) (cwV 1 hts gX2_printed_X2_goes rfl rfl rfl (by decide +kernel) ⟨Nat.le_of_ble_eq_true rfl, Nat.le_of_ble_eq_true rfl⟩) (pV hP hK hD hS hA hX (va_recv hK hP (ci := 2) (q0 := 0) rfl rfl)) rfl rfl hl.1 rfl (lv_room (Nat.le_of_ble_eq_true rfl)) dX2_printed_25 ⟨Nat.le_of_ble_eq_true rfl, Nat.le_of_ble_eq_true rfl⟩) hD hS hA (fun r w'  H locs hp hP hD hS => ?_)
      obtain ⟨hr9, rfl⟩ := hp
      obtain rfl : r = nI 0 := hr9
      refine r_if_eq (tgt := 44) hx hb dX2_printed_28 (by decide) (by decide) (fun c3 => ?_) (fun c3 => ?_)
      · refine lv_iconst (v := nI 0) hx hb dX2_printed_44 (by decide) ?_
        exact C_iret hx hb hr hlocks hS hP hK hD (Nat.le_of_ble_eq_true rfl) (Nat.le_of_ble_eq_true rfl) dX2_printed_45 (by rw [show spPrinted S p0 p1 = (2, 0, S) from by simp [spPrinted, hV, hU]]; exact ⟨_, up2_s _ _ _ _, rfl, fun h => absurd (show (2 : Nat) = 0 from h) (by decide)⟩)
      · omega
    · have hU := bN_1.mp c2
      refine lv_iconst (v := nI 0) hx hb dX2_printed_20 (by decide) ?_
      refine lv_goto (tgt := 25) hx hb dX2_printed_21 (by decide) ?_
      refine K_i (va_runV (As := [.int (nI 0)]) (rest := []) ⟨hx, hb, hml, hown, hts⟩ (c_X2_goes l (k := 0) (by decide) _) (cwV 1 hts gX2_printed_X2_goes rfl rfl rfl (by decide +kernel) ⟨Nat.le_of_ble_eq_true rfl, Nat.le_of_ble_eq_true rfl⟩) (pV hP hK hD hS hA hX (va_recv hK hP (ci := 2) (q0 := 0) rfl rfl)) rfl rfl hl.1 rfl (lv_room (Nat.le_of_ble_eq_true rfl)) dX2_printed_25 ⟨Nat.le_of_ble_eq_true rfl, Nat.le_of_ble_eq_true rfl⟩) hD hS hA (fun r w'  H locs hp hP hD hS => ?_)
      obtain ⟨hr9, rfl⟩ := hp
      obtain rfl : r = nI 1 := hr9
      refine r_if_eq (tgt := 44) hx hb dX2_printed_28 (by decide) (by decide) (fun c4 => ?_) (fun c4 => ?_)
      · omega
      · have he20 := hI.R.2.1
        obtain ⟨e9, he9, rfl⟩ := inS_n (by omega) hV
        obtain ⟨a, ha, rfl⟩ := isA_n hU
        refine lv_aload_n hx hb dX2_printed_31 rfl (lv_at hl 0 rfl) ?_
        refine va_get (D := D) (ci := 2) (v := .ref (B 9)) (C := RX2) (T := TX2) (N := 19) hx hb hts hiX2 hown hK hP (0) rfl rfl 10 (by decide) (hts (.fieldLink RX2 35 "CoauthorTextModel" "printed" "[I") (by decide +kernel)) (fun _ h9 => h9) rfl dX2_printed_32 ?_
        refine lv_iconst (v := nI 4) hx hb dX2_printed_35 (by decide) ?_
        refine lv_iload_n hx hb dX2_printed_36 rfl (lv_at hl 1 rfl) ?_
        refine r_imul hx hb dX2_printed_37 ?_
        refine lv_iload_n hx hb dX2_printed_38 rfl (lv_at hl 2 rfl) ?_
        refine r_iadd hx hb dX2_printed_39 ?_
        refine r_iald hx hb hK hP (9) rfl (by omega) (by decide) dX2_printed_40 ?_
        refine lv_goto (tgt := 45) hx hb dX2_printed_41 (by decide) ?_
        exact C_iret hx hb hr hlocks hS hP hK hD (Nat.le_of_ble_eq_true rfl) (Nat.le_of_ble_eq_true rfl) dX2_printed_45 (by rw [show spPrinted S (nI e9) (nI a) = (0, nI (S 9 (4 * e9 + a)), S) from by simp [spPrinted, hV, hU, aN_n (show e9 < 2 ^ 31 by omega), aN_n (show a < 2 ^ 31 by omega)]]; exact ⟨_, up2_s _ _ _ _, rfl, fun h => rfl⟩)
  · have hV := bN_0.mp c1
    refine lv_iconst (v := nI 1) hx hb dX2_printed_9 (by decide) ?_
    refine lv_goto (tgt := 25) hx hb dX2_printed_10 (by decide) ?_
    refine K_i (va_runV (As := [.int (nI 1)]) (rest := []) ⟨hx, hb, hml, hown, hts⟩ (c_X2_goes l (k := 1) (by decide) _) (cwV 1 hts gX2_printed_X2_goes rfl rfl rfl (by decide +kernel) ⟨Nat.le_of_ble_eq_true rfl, Nat.le_of_ble_eq_true rfl⟩) (pV hP hK hD hS hA hX (va_recv hK hP (ci := 2) (q0 := 0) rfl rfl)) rfl rfl hl.1 rfl (lv_room (Nat.le_of_ble_eq_true rfl)) dX2_printed_25 ⟨Nat.le_of_ble_eq_true rfl, Nat.le_of_ble_eq_true rfl⟩) hD hS hA (fun r w'  H locs hp hP hD hS => ?_)
    obtain ⟨hr9, rfl⟩ := hp
    obtain rfl : r = nI 0 := hr9
    refine r_if_eq (tgt := 44) hx hb dX2_printed_28 (by decide) (by decide) (fun c5 => ?_) (fun c5 => ?_)
    · refine lv_iconst (v := nI 0) hx hb dX2_printed_44 (by decide) ?_
      exact C_iret hx hb hr hlocks hS hP hK hD (Nat.le_of_ble_eq_true rfl) (Nat.le_of_ble_eq_true rfl) dX2_printed_45 (by rw [show spPrinted S p0 p1 = (1, 0, S) from by simp [spPrinted, hV]]; exact ⟨_, up2_s _ _ _ _, rfl, fun h => absurd (show (1 : Nat) = 0 from h) (by decide)⟩)
    · omega

set_option maxHeartbeats 4000000 in
set_option maxRecDepth 100000 in
theorem c_X2_setFloor (l : Launch) {D : va_G} {cy : Nat → ClassId} {B : Nat → Nat} {S T : Nat → Nat → Nat} {Y : va_W} (p0 : Int32) : CI l yX2_setFloor wsX2_setFloor ({ frames := 2, cells := 0, slots := 0, locals := 34 } : Room) D cy [.ref (B 0), .int p0] (MW cy B S T Y) (fun r w' => ∃ T' : Nat → Nat → Nat, T' 0 2 = (spSetFloor S p0).1 ∧ w' = MW cy B (spSetFloor S p0).2.2 T' Y ∧ ((spSetFloor S p0).1 = 0 → r = (spSetFloor S p0).2.1)) 0 0 := by
  refine CI.of (cc := cX2_setFloor) (maxL := 3) (ret := (some .int)) (by decide) rfl (Nat.le_of_ble_eq_true rfl) ?_
  intro p e s m below meth c A ls E0 hl
  obtain ⟨hx, hb, hml, hown, hts, hr, hlocks, hA, hS, hP, hK, hD, hX⟩ := E0
  have hiX2 : ∀ w ∈ u_ws RX2 TX2 19, w ∈ wsX2_setFloor := by decide +kernel
  have hl : lv_has ls 3 [(0, .ref (B 0)), (1, .int p0)] := hl
  refine lv_aload_n hx hb dX2_setFloor_0 rfl (lv_at hl 0 rfl) ?_
  refine lv_iload_n hx hb dX2_setFloor_1 rfl (lv_at hl 1 rfl) ?_
  refine lv_iconst (v := nI 0) hx hb dX2_setFloor_2 (by decide) ?_
  refine lv_bipush (v := nI 25) hx hb dX2_setFloor_3 (by decide) ?_
  refine K_i (va_runS (As := [.int p0, .int (nI 0), .int (nI 25)]) (rest := [.ref (B 0)]) ⟨hx, hb, hml, hown, hts⟩ (c_X2_isIn l p0 (nI 0) (nI 25) _) (va_cwS 3 hts gX2_setFloor_X2_isIn rfl rfl rfl (by decide +kernel) ⟨Nat.le_of_ble_eq_true rfl, Nat.le_of_ble_eq_true rfl⟩) (pS hP hK hD hS hA hX) rfl rfl hl.1 rfl (lv_room (Nat.le_of_ble_eq_true rfl)) dX2_setFloor_5 ⟨Nat.le_of_ble_eq_true rfl, Nat.le_of_ble_eq_true rfl⟩) hD hS hA (fun r w'  H locs hp hP hD hS => ?_)
  obtain ⟨rfl, hw9⟩ := hp
  rw [hw9] at hP hD
  refine r_if_eq (tgt := 15) hx hb dX2_setFloor_8 (by decide) (Nat.lt_trans (bN_lt _) (by decide)) (fun c1 => ?_) (fun c1 => ?_)
  · have hV : inB p0 0 25 = false := bN_0.mp c1
    refine lv_iconst (v := nI 1) hx hb dX2_setFloor_15 (by decide) ?_
    refine K_i (va_runV (As := [.int (nI 1)]) (rest := []) ⟨hx, hb, hml, hown, hts⟩ (c_X2_goes l (k := 1) (by decide) _) (cwV 1 hts gX2_setFloor_X2_goes rfl rfl rfl (by decide +kernel) ⟨Nat.le_of_ble_eq_true rfl, Nat.le_of_ble_eq_true rfl⟩) (pV hP hK hD hS hA hX (va_recv hK hP (ci := 2) (q0 := 0) rfl rfl)) rfl rfl hl.1 rfl (lv_room (Nat.le_of_ble_eq_true rfl)) dX2_setFloor_16 ⟨Nat.le_of_ble_eq_true rfl, Nat.le_of_ble_eq_true rfl⟩) hD hS hA (fun r w'  H locs hp hP hD hS => ?_)
    obtain ⟨hr9, rfl⟩ := hp
    obtain rfl : r = nI 0 := hr9
    refine r_if_ne (tgt := 24) hx hb dX2_setFloor_19 (by decide) (by decide) (fun c2 => ?_) (fun c2 => ?_)
    · omega
    · refine lv_iconst (v := nI 0) hx hb dX2_setFloor_22 (by decide) ?_
      exact C_iret hx hb hr hlocks hS hP hK hD (Nat.le_of_ble_eq_true rfl) (Nat.le_of_ble_eq_true rfl) dX2_setFloor_23 (by rw [show spSetFloor S p0 = (1, 0, S) from by simp [spSetFloor, hV]]; exact ⟨_, up2_s _ _ _ _, rfl, fun h => absurd (show (1 : Nat) = 0 from h) (by decide)⟩)
  · have hV : inB p0 0 25 = true := bN_1.mp c1
    refine lv_iconst (v := nI 0) hx hb dX2_setFloor_11 (by decide) ?_
    refine lv_goto (tgt := 16) hx hb dX2_setFloor_12 (by decide) ?_
    refine K_i (va_runV (As := [.int (nI 0)]) (rest := []) ⟨hx, hb, hml, hown, hts⟩ (c_X2_goes l (k := 0) (by decide) _) (cwV 1 hts gX2_setFloor_X2_goes rfl rfl rfl (by decide +kernel) ⟨Nat.le_of_ble_eq_true rfl, Nat.le_of_ble_eq_true rfl⟩) (pV hP hK hD hS hA hX (va_recv hK hP (ci := 2) (q0 := 0) rfl rfl)) rfl rfl hl.1 rfl (lv_room (Nat.le_of_ble_eq_true rfl)) dX2_setFloor_16 ⟨Nat.le_of_ble_eq_true rfl, Nat.le_of_ble_eq_true rfl⟩) hD hS hA (fun r w'  H locs hp hP hD hS => ?_)
    obtain ⟨hr9, rfl⟩ := hp
    obtain rfl : r = nI 1 := hr9
    refine r_if_ne (tgt := 24) hx hb dX2_setFloor_19 (by decide) (by decide) (fun c3 => ?_) (fun c3 => ?_)
    · obtain ⟨v, hv, rfl⟩ := inB_n (k := 25) (by decide) hV
      refine lv_aload_n hx hb dX2_setFloor_24 rfl (lv_at hl 0 rfl) ?_
      refine va_get (D := D) (ci := 2) (v := .int (nI (S 0 2))) (C := RX2) (T := TX2) (N := 19) hx hb hts hiX2 hown hK hP (0) rfl rfl 11 (by decide) (hts (.fieldLink RX2 113 "CoauthorTextModel" "floor" "I") (by decide +kernel)) (fun _ h9 => h9) rfl dX2_setFloor_25 ?_
      refine lv_istore_n (lv' := [(2, .int (nI (S 0 2))), (0, .ref (B 0)), (1, .int (nI v))]) hx hb dX2_setFloor_28 rfl hl (by decide) rfl (fun ls hl => ?_)
      refine lv_aload_n hx hb dX2_setFloor_29 rfl (lv_at hl 1 rfl) ?_
      refine lv_iload_n hx hb dX2_setFloor_30 rfl (lv_at hl 2 rfl) ?_
      refine r_put (w' := MW cy B (up2 S 0 2 v) (up2 T 0 2 0) Y) (own := RX2) (C := RX2) (T := TX2) (N := 19) (ci := 2) (q0 := 0) (k := 11) (index := 113) (ty := .int) hx hb hts hiX2 tyX2_ok nmX2 hown hK hP hD hS rfl rfl (by decide) (by decide +kernel) rfl (by decide +kernel) rfl rfl (Nat.le_of_ble_eq_true rfl) dX2_setFloor_31 rfl (fun H locs hP hD hS => ?_)
      refine lv_iload_n hx hb dX2_setFloor_34 rfl (lv_at hl 0 rfl) ?_
      exact C_iret hx hb hr hlocks hS hP hK hD (Nat.le_of_ble_eq_true rfl) (Nat.le_of_ble_eq_true rfl) dX2_setFloor_35 (by rw [show spSetFloor S (nI v) = (0, nI (S 0 2), up2 S 0 2 v) from by simp [spSetFloor, hV, aN_n (show v < 2 ^ 31 by omega)]]; exact ⟨_, up2_s _ _ _ _, rfl, fun h => rfl⟩)
    · omega

theorem inB_1 {v : Int32} {k : Nat} (hk : k < 2 ^ 31) (h : inB v 1 (nI k) = true) : ∃ a : Nat, (1 ≤ a ∧ a ≤ k) ∧ v = nI a := by
  simp only [inB, Bool.and_eq_true, decide_eq_true_eq] at h
  have h0 : (0 : Int32) ≤ v := Int32.le_trans (by decide) h.1
  obtain ⟨a, h1, rfl⟩ := nI_of2 (nI_toInt hk) (by rw [Int32.not_lt]; exact h0) h.2
  have h2 : nI 1 ≤ nI a := h.1
  rw [nI_leI (by decide) (by omega)] at h2
  exact ⟨a, ⟨h2, h1⟩, rfl⟩

set_option maxHeartbeats 4000000 in
set_option maxRecDepth 100000 in
theorem c_X2_advance (l : Launch) {D : va_G} {cy : Nat → ClassId} {B : Nat → Nat} {S T : Nat → Nat → Nat} {Y : va_W} (p0 p1 : Int32) : CI l yX2_advance wsX2_advance ({ frames := 3, cells := 0, slots := 0, locals := 54 } : Room) D cy [.ref (B 0), .int p0, .int p1] (MW cy B S T Y) (fun r w' => ∃ T' : Nat → Nat → Nat, T' 0 2 = (spAdvance S p0 p1).1 ∧ w' = MW cy B (spAdvance S p0 p1).2.2 T' Y ∧ ((spAdvance S p0 p1).1 = 0 → r = (spAdvance S p0 p1).2.1)) 0 0 := by
  refine CI.of (cc := cX2_advance) (maxL := 3) (ret := (some .int)) (by decide) rfl (Nat.le_of_ble_eq_true rfl) ?_
  intro p e s m below meth c A ls E0 hl
  obtain ⟨hx, hb, hml, hown, hts, hr, hlocks, hA, hS, hP, hK, hD, hX⟩ := E0
  have hiX2 : ∀ w ∈ u_ws RX2 TX2 19, w ∈ wsX2_advance := by decide +kernel
  have hl : lv_has ls 3 [(0, .ref (B 0)), (1, .int p0), (2, .int p1)] := hl
  refine lv_aload_n hx hb dX2_advance_0 rfl (lv_at hl 0 rfl) ?_
  refine lv_iload_n hx hb dX2_advance_1 rfl (lv_at hl 1 rfl) ?_
  refine K_i (va_runS (As := [.int p0]) (rest := [.ref (B 0)]) ⟨hx, hb, hml, hown, hts⟩ (c_X2_isAuthor l p0 _) (va_cwS 1 hts gX2_advance_X2_isAuthor rfl rfl rfl (by decide +kernel) ⟨Nat.le_of_ble_eq_true rfl, Nat.le_of_ble_eq_true rfl⟩) (pS hP hK hD hS hA hX) rfl rfl hl.1 rfl (lv_room (Nat.le_of_ble_eq_true rfl)) dX2_advance_2 ⟨Nat.le_of_ble_eq_true rfl, Nat.le_of_ble_eq_true rfl⟩) hD hS hA (fun r w'  H locs hp hP hD hS => ?_)
  obtain ⟨rfl, hw9⟩ := hp
  rw [hw9] at hP hD
  refine r_if_eq (tgt := 22) hx hb dX2_advance_5 (by decide) (Nat.lt_trans (bN_lt _) (by decide)) (fun c1 => ?_) (fun c1 => ?_)
  · have hU := bN_0.mp c1
    refine lv_iconst (v := nI 1) hx hb dX2_advance_22 (by decide) ?_
    refine K_i (va_runV (As := [.int (nI 1)]) (rest := []) ⟨hx, hb, hml, hown, hts⟩ (c_X2_goes l (k := 1) (by decide) _) (cwV 1 hts gX2_advance_X2_goes rfl rfl rfl (by decide +kernel) ⟨Nat.le_of_ble_eq_true rfl, Nat.le_of_ble_eq_true rfl⟩) (pV hP hK hD hS hA hX (va_recv hK hP (ci := 2) (q0 := 0) rfl rfl)) rfl rfl hl.1 rfl (lv_room (Nat.le_of_ble_eq_true rfl)) dX2_advance_23 ⟨Nat.le_of_ble_eq_true rfl, Nat.le_of_ble_eq_true rfl⟩) hD hS hA (fun r w'  H locs hp hP hD hS => ?_)
    obtain ⟨hr9, rfl⟩ := hp
    obtain rfl : r = nI 0 := hr9
    refine r_if_ne (tgt := 31) hx hb dX2_advance_26 (by decide) (by decide) (fun c2 => ?_) (fun c2 => ?_)
    · omega
    · refine lv_iconst (v := nI 0) hx hb dX2_advance_29 (by decide) ?_
      exact C_iret hx hb hr hlocks hS hP hK hD (Nat.le_of_ble_eq_true rfl) (Nat.le_of_ble_eq_true rfl) dX2_advance_30 (by rw [show spAdvance S p0 p1 = (1, 0, S) from by simp [spAdvance, hU]]; exact ⟨_, up2_s _ _ _ _, rfl, fun h => absurd (show (1 : Nat) = 0 from h) (by decide)⟩)
  · have hU := bN_1.mp c1
    refine lv_iload_n hx hb dX2_advance_8 rfl (lv_at hl 2 rfl) ?_
    refine lv_iconst (v := nI 1) hx hb dX2_advance_9 (by decide) ?_
    refine lv_ldc (v := nI 100000) hx hb hown (hts (.constant RX2 116 (100000)) (by decide +kernel)) dX2_advance_10 ?_
    refine K_i (va_runS (As := [.int p1, .int (nI 1), .int (nI 100000)]) (rest := [.ref (B 0)]) ⟨hx, hb, hml, hown, hts⟩ (c_X2_isIn l p1 (nI 1) (nI 100000) _) (va_cwS 3 hts gX2_advance_X2_isIn rfl rfl rfl (by decide +kernel) ⟨Nat.le_of_ble_eq_true rfl, Nat.le_of_ble_eq_true rfl⟩) (pS hP hK hD hS hA hX) rfl rfl hl.1 rfl (lv_room (Nat.le_of_ble_eq_true rfl)) dX2_advance_12 ⟨Nat.le_of_ble_eq_true rfl, Nat.le_of_ble_eq_true rfl⟩) hD hS hA (fun r w'  H locs hp hP hD hS => ?_)
    obtain ⟨rfl, hw9⟩ := hp
    rw [hw9] at hP hD
    refine r_if_eq (tgt := 22) hx hb dX2_advance_15 (by decide) (Nat.lt_trans (bN_lt _) (by decide)) (fun cB => ?_) (fun cB => ?_)
    · have hV : inB p1 1 100000 = false := bN_0.mp cB
      refine lv_iconst (v := nI 1) hx hb dX2_advance_22 (by decide) ?_
      refine K_i (va_runV (As := [.int (nI 1)]) (rest := []) ⟨hx, hb, hml, hown, hts⟩ (c_X2_goes l (k := 1) (by decide) _) (cwV 1 hts gX2_advance_X2_goes rfl rfl rfl (by decide +kernel) ⟨Nat.le_of_ble_eq_true rfl, Nat.le_of_ble_eq_true rfl⟩) (pV hP hK hD hS hA hX (va_recv hK hP (ci := 2) (q0 := 0) rfl rfl)) rfl rfl hl.1 rfl (lv_room (Nat.le_of_ble_eq_true rfl)) dX2_advance_23 ⟨Nat.le_of_ble_eq_true rfl, Nat.le_of_ble_eq_true rfl⟩) hD hS hA (fun r w'  H locs hp hP hD hS => ?_)
      obtain ⟨hr9, rfl⟩ := hp
      obtain rfl : r = nI 0 := hr9
      refine r_if_ne (tgt := 31) hx hb dX2_advance_26 (by decide) (by decide) (fun c3 => ?_) (fun c3 => ?_)
      · omega
      · refine lv_iconst (v := nI 0) hx hb dX2_advance_29 (by decide) ?_
        exact C_iret hx hb hr hlocks hS hP hK hD (Nat.le_of_ble_eq_true rfl) (Nat.le_of_ble_eq_true rfl) dX2_advance_30 (by rw [show spAdvance S p0 p1 = (1, 0, S) from by simp [spAdvance, hU, hV]]; exact ⟨_, up2_s _ _ _ _, rfl, fun h => absurd (show (1 : Nat) = 0 from h) (by decide)⟩)
    · have hV : inB p1 1 100000 = true := bN_1.mp cB
      refine lv_iconst (v := nI 0) hx hb dX2_advance_18 (by decide) ?_
      refine lv_goto (tgt := 23) hx hb dX2_advance_19 (by decide) ?_
      refine K_i (va_runV (As := [.int (nI 0)]) (rest := []) ⟨hx, hb, hml, hown, hts⟩ (c_X2_goes l (k := 0) (by decide) _) (cwV 1 hts gX2_advance_X2_goes rfl rfl rfl (by decide +kernel) ⟨Nat.le_of_ble_eq_true rfl, Nat.le_of_ble_eq_true rfl⟩) (pV hP hK hD hS hA hX (va_recv hK hP (ci := 2) (q0 := 0) rfl rfl)) rfl rfl hl.1 rfl (lv_room (Nat.le_of_ble_eq_true rfl)) dX2_advance_23 ⟨Nat.le_of_ble_eq_true rfl, Nat.le_of_ble_eq_true rfl⟩) hD hS hA (fun r w'  H locs hp hP hD hS => ?_)
      obtain ⟨hr9, rfl⟩ := hp
      obtain rfl : r = nI 1 := hr9
      refine r_if_ne (tgt := 31) hx hb dX2_advance_26 (by decide) (by decide) (fun c4 => ?_) (fun c4 => ?_)
      · obtain ⟨v, hv, rfl⟩ := inB_1 (k := 100000) (by decide) hV
        obtain ⟨a, ha, rfl⟩ := isA_n hU
        refine lv_aload_n hx hb dX2_advance_31 rfl (lv_at hl 0 rfl) ?_
        refine va_get (D := D) (ci := 2) (v := .ref (B 10)) (C := RX2) (T := TX2) (N := 19) hx hb hts hiX2 hown hK hP (0) rfl rfl 12 (by decide) (hts (.fieldLink RX2 38 "CoauthorTextModel" "advances" "[I") (by decide +kernel)) (fun _ h9 => h9) rfl dX2_advance_32 ?_
        refine lv_iload_n hx hb dX2_advance_35 rfl (lv_at hl 1 rfl) ?_
        refine lv_dup2_11 hx hb dX2_advance_36 rfl rfl ?_
        refine r_iald hx hb hK hP (10) rfl (by omega) (by decide) dX2_advance_37 ?_
        refine lv_iload_n hx hb dX2_advance_38 rfl (lv_at hl 2 rfl) ?_
        refine r_iadd hx hb dX2_advance_39 ?_
        refine r_iast (w' := MW cy B (up2 S 10 a (S 10 a + v)) (up2 T 0 2 0) Y) hx hb hK hP hD hS (10) rfl (by omega) (by decide) dX2_advance_40 (by rw [show upd (fun j => nI (S 10 j)) a (nI (S 10 a + v)) = fun j => nI (up2 S 10 a (S 10 a + v) 10 j) from upd_n S 10 a _]; rfl) (fun H locs hP hD hS => ?_)
        refine lv_aload_n hx hb dX2_advance_41 rfl (lv_at hl 0 rfl) ?_
        refine va_get (D := D) (ci := 2) (v := .ref (B 10)) (C := RX2) (T := TX2) (N := 19) hx hb hts hiX2 hown hK hP (0) rfl rfl 12 (by decide) (hts (.fieldLink RX2 38 "CoauthorTextModel" "advances" "[I") (by decide +kernel)) (fun _ h9 => h9) rfl dX2_advance_42 ?_
        refine lv_iload_n hx hb dX2_advance_45 rfl (lv_at hl 1 rfl) ?_
        refine r_iald hx hb hK hP (10) rfl (by omega) (by decide) dX2_advance_46 ?_
        exact C_iret hx hb hr hlocks hS hP hK hD (Nat.le_of_ble_eq_true rfl) (Nat.le_of_ble_eq_true rfl) dX2_advance_47 (by rw [show spAdvance S (nI a) (nI v) = (0, nI (S 10 a + v), up2 S 10 a (S 10 a + v)) from by simp [spAdvance, hU, hV, aN_n (show a < 2 ^ 31 by omega), aN_n (show v < 2 ^ 31 by omega)]]; exact ⟨_, up2_s _ _ _ _, rfl, fun _ => by rw [up2_s]⟩)
      · omega
