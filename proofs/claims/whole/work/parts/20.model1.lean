/-! ===== the reference: small methods ===== -/
set_option maxHeartbeats 4000000 in
set_option maxRecDepth 100000 in
theorem c_X2_thrown (l : Launch) {D : va_G} {cy : Nat → ClassId} {B : Nat → Nat} {S T : Nat → Nat → Nat} {Y : va_W} : CI l yX2_thrown wsX2_thrown ({ frames := 1, cells := 0, slots := 0, locals := 12 } : Room) D cy [.ref (B 0)] (MW cy B S T Y) (fun r w' => r = nI (T 0 2) ∧ w' = MW cy B S T Y) 0 0 := by
  refine CI.of (cc := cX2_thrown) (maxL := 1) (ret := (some .int)) (by decide) rfl (Nat.le_of_ble_eq_true rfl) ?_
  intro p e s m below meth c A ls E0 hl
  obtain ⟨hx, hb, hml, hown, hts, hr, hlocks, hA, hS, hP, hK, hD, hX⟩ := E0
  have hiX2 : ∀ w ∈ u_ws RX2 TX2 19, w ∈ wsX2_thrown := by decide +kernel
  have hl : lv_has ls 1 [(0, .ref (B 0))] := hl
  refine lv_aload_n hx hb dX2_thrown_0 rfl (lv_at hl 0 rfl) ?_
  refine va_get (D := D) (ci := 2) (v := .int (nI (T 0 2))) (C := RX2) (T := TX2) (N := 19) hx hb hts hiX2 hown hK hP (0) rfl rfl 18 (by decide) (hts (.fieldLink RX2 51 "CoauthorTextModel" "thrown" "I") (by decide +kernel)) (fun _ h9 => h9) rfl dX2_thrown_1 ?_
  exact C_iret hx hb hr hlocks hS hP hK hD (Nat.le_of_ble_eq_true rfl) (Nat.le_of_ble_eq_true rfl) dX2_thrown_4 ⟨rfl, rfl⟩

set_option maxHeartbeats 4000000 in
set_option maxRecDepth 100000 in
theorem c_X2_goes (l : Launch) {D : va_G} {cy : Nat → ClassId} {B : Nat → Nat} {S T : Nat → Nat → Nat} {Y : va_W} {k : Nat} (hk : k < 2 ^ 31) : CI l yX2_goes wsX2_goes ({ frames := 1, cells := 0, slots := 0, locals := 12 } : Room) D cy [.ref (B 0), .int (nI k)] (MW cy B S T Y) (fun r w' => r = nI (bN (decide (k = 0))) ∧ w' = MW cy B S (up2 T 0 2 k) Y) 0 0 := by
  refine CI.of (cc := cX2_goes) (maxL := 2) (ret := (some .boolean)) (by decide) rfl (Nat.le_of_ble_eq_true rfl) ?_
  intro p e s m below meth c A ls E0 hl
  obtain ⟨hx, hb, hml, hown, hts, hr, hlocks, hA, hS, hP, hK, hD, hX⟩ := E0
  have hiX2 : ∀ w ∈ u_ws RX2 TX2 19, w ∈ wsX2_goes := by decide +kernel
  have hl : lv_has ls 2 [(0, .ref (B 0)), (1, .int (nI k))] := hl
  refine lv_aload_n hx hb dX2_goes_0 rfl (lv_at hl 0 rfl) ?_
  refine lv_iload_n hx hb dX2_goes_1 rfl (lv_at hl 1 rfl) ?_
  refine r_put (w' := MW cy B S (up2 T 0 2 k) Y) (own := RX2) (C := RX2) (T := TX2) (N := 19) (ci := 2) (q0 := 0) (k := 18) (index := 51) (ty := .int) hx hb hts hiX2 tyX2_ok nmX2 hown hK hP hD hS rfl rfl (by decide) (by decide +kernel) rfl (by decide +kernel) rfl rfl (Nat.le_of_ble_eq_true rfl) dX2_goes_2 rfl (fun H locs hP hD hS => ?_)
  refine lv_iload_n hx hb dX2_goes_5 rfl (lv_at hl 1 rfl) ?_
  refine r_if_ne (tgt := 13) hx hb dX2_goes_6 (by decide) (by omega) (fun c1 => ?_) (fun c1 => ?_)
  · refine lv_iconst (v := nI 0) hx hb dX2_goes_13 (by decide) ?_
    exact C_zret hx hb hr hlocks hS hP hK hD (Nat.le_of_ble_eq_true rfl) (Nat.le_of_ble_eq_true rfl) dX2_goes_14 rfl ⟨by rw [decide_eq_false (by omega)]; rfl, rfl⟩
  · refine lv_iconst (v := nI 1) hx hb dX2_goes_9 (by decide) ?_
    refine lv_goto (tgt := 14) hx hb dX2_goes_10 (by decide) ?_
    exact C_zret hx hb hr hlocks hS hP hK hD (Nat.le_of_ble_eq_true rfl) (Nat.le_of_ble_eq_true rfl) dX2_goes_14 rfl ⟨by rw [decide_eq_true (by omega)]; rfl, rfl⟩

set_option maxHeartbeats 4000000 in
set_option maxRecDepth 100000 in
theorem c_X2_isIn (l : Launch) {D : va_G} {cy : Nat → ClassId} {w : va_W} (v lo hi : Int32) : CI l yX2_isIn wsX2_isIn ({ frames := 1, cells := 0, slots := 0, locals := 12 } : Room) D cy [.int v, .int lo, .int hi] (w) (fun r w' => r = nI (bN (inB v lo hi)) ∧ w' = w) 0 0 := by
  refine CI.of (cc := cX2_isIn) (maxL := 3) (ret := (some .boolean)) (by decide) rfl (Nat.le_of_ble_eq_true rfl) ?_
  intro p e s m below meth c A ls E0 hl
  obtain ⟨hx, hb, hml, hown, hts, hr, hlocks, hA, hS, hP, hK, hD, hX⟩ := E0
  have hl : lv_has ls 3 [(0, .int v), (1, .int lo), (2, .int hi)] := hl
  refine lv_iload_n hx hb dX2_isIn_0 rfl (lv_at hl 0 rfl) ?_
  refine lv_iload_n hx hb dX2_isIn_1 rfl (lv_at hl 1 rfl) ?_
  refine lv_icmp_lt (tgt := 14) hx hb dX2_isIn_2 (by decide) (fun c1 => ?_) (fun c1 => ?_)
  · refine lv_iconst (v := nI 0) hx hb dX2_isIn_14 (by decide) ?_
    exact C_zret hx hb hr hlocks hS hP hK hD (Nat.le_of_ble_eq_true rfl) (Nat.le_of_ble_eq_true rfl) dX2_isIn_15 rfl ⟨by rw [show inB v lo hi = false by simp only [inB, Bool.and_eq_false_iff, decide_eq_false_iff_not]; exact Or.inl (Int32.not_le.mpr c1)]; rfl, rfl⟩
  · refine lv_iload_n hx hb dX2_isIn_5 rfl (lv_at hl 0 rfl) ?_
    refine lv_iload_n hx hb dX2_isIn_6 rfl (lv_at hl 2 rfl) ?_
    refine lv_icmp_gt (tgt := 14) hx hb dX2_isIn_7 (by decide) (fun c2 => ?_) (fun c2 => ?_)
    · refine lv_iconst (v := nI 0) hx hb dX2_isIn_14 (by decide) ?_
      exact C_zret hx hb hr hlocks hS hP hK hD (Nat.le_of_ble_eq_true rfl) (Nat.le_of_ble_eq_true rfl) dX2_isIn_15 rfl ⟨by rw [show inB v lo hi = false by simp only [inB, Bool.and_eq_false_iff, decide_eq_false_iff_not]; exact Or.inr (Int32.not_le.mpr c2)]; rfl, rfl⟩
    · refine lv_iconst (v := nI 1) hx hb dX2_isIn_10 (by decide) ?_
      refine lv_goto (tgt := 15) hx hb dX2_isIn_11 (by decide) ?_
      exact C_zret hx hb hr hlocks hS hP hK hD (Nat.le_of_ble_eq_true rfl) (Nat.le_of_ble_eq_true rfl) dX2_isIn_15 rfl ⟨by rw [show inB v lo hi = true by simp only [inB, Bool.and_eq_true, decide_eq_true_eq]; exact ⟨Int32.not_lt.mp c1, Int32.not_lt.mp c2⟩]; rfl, rfl⟩

set_option maxHeartbeats 4000000 in
set_option maxRecDepth 100000 in
theorem c_X2_isAuthor (l : Launch) {D : va_G} {cy : Nat → ClassId} {w : va_W} (v : Int32) : CI l yX2_isAuthor wsX2_isAuthor ({ frames := 2, cells := 0, slots := 0, locals := 34 } : Room) D cy [.int v] (w) (fun r w' => r = nI (bN (isA v)) ∧ w' = w) 0 0 := by
  refine CI.of (cc := cX2_isAuthor) (maxL := 1) (ret := (some .boolean)) (by decide) rfl (Nat.le_of_ble_eq_true rfl) ?_
  intro p e s m below meth c A ls E0 hl
  obtain ⟨hx, hb, hml, hown, hts, hr, hlocks, hA, hS, hP, hK, hD, hX⟩ := E0
  have hl : lv_has ls 1 [(0, .int v)] := hl
  refine lv_iload_n hx hb dX2_isAuthor_0 rfl (lv_at hl 0 rfl) ?_
  refine lv_iconst (v := nI 0) hx hb dX2_isAuthor_1 (by decide) ?_
  refine lv_iconst (v := nI 3) hx hb dX2_isAuthor_2 (by decide) ?_
  refine K_i (va_runS (As := [.int v, .int (nI 0), .int (nI 3)]) (rest := []) ⟨hx, hb, hml, hown, hts⟩ (c_X2_isIn l v (nI 0) (nI 3) _) (va_cwS 3 hts gX2_isAuthor_X2_isIn rfl rfl rfl (by decide +kernel) ⟨Nat.le_of_ble_eq_true rfl, Nat.le_of_ble_eq_true rfl⟩) (pS hP hK hD hS hA hX) rfl rfl hl.1 rfl (lv_room (Nat.le_of_ble_eq_true rfl)) dX2_isAuthor_3 ⟨Nat.le_of_ble_eq_true rfl, Nat.le_of_ble_eq_true rfl⟩) hD hS hA (fun r w'  H locs hp hP hD hS => ?_)
  obtain ⟨rfl, hw9⟩ := hp
  rw [hw9] at hP hD
  exact C_zret hx hb hr hlocks hS hP hK hD (Nat.le_of_ble_eq_true rfl) (Nat.le_of_ble_eq_true rfl) dX2_isAuthor_6 (nw_b _) ⟨rfl, rfl⟩

set_option maxHeartbeats 4000000 in
set_option maxRecDepth 100000 in
theorem c_X2_isSign (l : Launch) {D : va_G} {cy : Nat → ClassId} {B : Nat → Nat} {S T : Nat → Nat → Nat} {Y : va_W} (v : Int32) : CI l yX2_isSign wsX2_isSign ({ frames := 2, cells := 0, slots := 0, locals := 34 } : Room) D cy [.ref (B 0), .int v] (MW cy B S T Y) (fun r w' => r = nI (bN (inS v (S 0 0))) ∧ w' = MW cy B S T Y) 0 0 := by
  refine CI.of (cc := cX2_isSign) (maxL := 2) (ret := (some .boolean)) (by decide) rfl (Nat.le_of_ble_eq_true rfl) ?_
  intro p e s m below meth c A ls E0 hl
  obtain ⟨hx, hb, hml, hown, hts, hr, hlocks, hA, hS, hP, hK, hD, hX⟩ := E0
  have hiX2 : ∀ w ∈ u_ws RX2 TX2 19, w ∈ wsX2_isSign := by decide +kernel
  have hl : lv_has ls 2 [(0, .ref (B 0)), (1, .int v)] := hl
  refine lv_iload_n hx hb dX2_isSign_0 rfl (lv_at hl 1 rfl) ?_
  refine lv_iconst (v := nI 0) hx hb dX2_isSign_1 (by decide) ?_
  refine lv_aload_n hx hb dX2_isSign_2 rfl (lv_at hl 0 rfl) ?_
  refine va_get (D := D) (ci := 2) (v := .int (nI (S 0 0))) (C := RX2) (T := TX2) (N := 19) hx hb hts hiX2 hown hK hP (0) rfl rfl 0 (by decide) (hts (.fieldLink RX2 59 "CoauthorTextModel" "signs" "I") (by decide +kernel)) (fun _ h9 => h9) rfl dX2_isSign_3 ?_
  refine lv_iconst (v := nI 1) hx hb dX2_isSign_6 (by decide) ?_
  refine lv_isub hx hb dX2_isSign_7 ?_
  refine K_i (va_runS (As := [.int v, .int (nI 0), .int (bI (S 0 0))]) (rest := []) ⟨hx, hb, hml, hown, hts⟩ (c_X2_isIn l v (nI 0) (bI (S 0 0)) _) (va_cwS 3 hts gX2_isSign_X2_isIn rfl rfl rfl (by decide +kernel) ⟨Nat.le_of_ble_eq_true rfl, Nat.le_of_ble_eq_true rfl⟩) (pS hP hK hD hS hA hX) rfl rfl hl.1 rfl (lv_room (Nat.le_of_ble_eq_true rfl)) dX2_isSign_8 ⟨Nat.le_of_ble_eq_true rfl, Nat.le_of_ble_eq_true rfl⟩) hD hS hA (fun r w'  H locs hp hP hD hS => ?_)
  obtain ⟨rfl, rfl⟩ := hp
  exact C_zret hx hb hr hlocks hS hP hK hD (Nat.le_of_ble_eq_true rfl) (Nat.le_of_ble_eq_true rfl) dX2_isSign_11 (nw_b _) ⟨rfl, rfl⟩

set_option maxHeartbeats 4000000 in
set_option maxRecDepth 100000 in
theorem c_X2_isEdition (l : Launch) {D : va_G} {cy : Nat → ClassId} {B : Nat → Nat} {S T : Nat → Nat → Nat} {Y : va_W} (v : Int32) : CI l yX2_isEdition wsX2_isEdition ({ frames := 2, cells := 0, slots := 0, locals := 34 } : Room) D cy [.ref (B 0), .int v] (MW cy B S T Y) (fun r w' => r = nI (bN (inS v (S 0 1))) ∧ w' = MW cy B S T Y) 0 0 := by
  refine CI.of (cc := cX2_isEdition) (maxL := 2) (ret := (some .boolean)) (by decide) rfl (Nat.le_of_ble_eq_true rfl) ?_
  intro p e s m below meth c A ls E0 hl
  obtain ⟨hx, hb, hml, hown, hts, hr, hlocks, hA, hS, hP, hK, hD, hX⟩ := E0
  have hiX2 : ∀ w ∈ u_ws RX2 TX2 19, w ∈ wsX2_isEdition := by decide +kernel
  have hl : lv_has ls 2 [(0, .ref (B 0)), (1, .int v)] := hl
  refine lv_iload_n hx hb dX2_isEdition_0 rfl (lv_at hl 1 rfl) ?_
  refine lv_iconst (v := nI 0) hx hb dX2_isEdition_1 (by decide) ?_
  refine lv_aload_n hx hb dX2_isEdition_2 rfl (lv_at hl 0 rfl) ?_
  refine va_get (D := D) (ci := 2) (v := .int (nI (S 0 1))) (C := RX2) (T := TX2) (N := 19) hx hb hts hiX2 hown hK hP (0) rfl rfl 9 (by decide) (hts (.fieldLink RX2 62 "CoauthorTextModel" "editions" "I") (by decide +kernel)) (fun _ h9 => h9) rfl dX2_isEdition_3 ?_
  refine lv_iconst (v := nI 1) hx hb dX2_isEdition_6 (by decide) ?_
  refine lv_isub hx hb dX2_isEdition_7 ?_
  refine K_i (va_runS (As := [.int v, .int (nI 0), .int (bI (S 0 1))]) (rest := []) ⟨hx, hb, hml, hown, hts⟩ (c_X2_isIn l v (nI 0) (bI (S 0 1)) _) (va_cwS 3 hts gX2_isEdition_X2_isIn rfl rfl rfl (by decide +kernel) ⟨Nat.le_of_ble_eq_true rfl, Nat.le_of_ble_eq_true rfl⟩) (pS hP hK hD hS hA hX) rfl rfl hl.1 rfl (lv_room (Nat.le_of_ble_eq_true rfl)) dX2_isEdition_8 ⟨Nat.le_of_ble_eq_true rfl, Nat.le_of_ble_eq_true rfl⟩) hD hS hA (fun r w'  H locs hp hP hD hS => ?_)
  obtain ⟨rfl, rfl⟩ := hp
  exact C_zret hx hb hr hlocks hS hP hK hD (Nat.le_of_ble_eq_true rfl) (Nat.le_of_ble_eq_true rfl) dX2_isEdition_11 (nw_b _) ⟨rfl, rfl⟩

set_option maxHeartbeats 4000000 in
set_option maxRecDepth 100000 in
theorem c_X2_at (l : Launch) {D : va_G} {cy : Nat → ClassId} {w : va_W} (a i : Nat) : CI l yX2_at wsX2_at ({ frames := 1, cells := 0, slots := 0, locals := 12 } : Room) D cy [.int (nI a), .int (nI i)] (w) (fun r w' => r = nI (60 * a + i) ∧ w' = w) 0 0 := by
  refine CI.of (cc := cX2_at) (maxL := 2) (ret := (some .int)) (by decide) rfl (Nat.le_of_ble_eq_true rfl) ?_
  intro p e s m below meth c A ls E0 hl
  obtain ⟨hx, hb, hml, hown, hts, hr, hlocks, hA, hS, hP, hK, hD, hX⟩ := E0
  have hl : lv_has ls 2 [(0, .int (nI a)), (1, .int (nI i))] := hl
  refine lv_bipush (v := nI 60) hx hb dX2_at_0 (by decide) ?_
  refine lv_iload_n hx hb dX2_at_2 rfl (lv_at hl 0 rfl) ?_
  refine r_imul hx hb dX2_at_3 ?_
  refine lv_iload_n hx hb dX2_at_4 rfl (lv_at hl 1 rfl) ?_
  refine r_iadd hx hb dX2_at_5 ?_
  exact C_iret hx hb hr hlocks hS hP hK hD (Nat.le_of_ble_eq_true rfl) (Nat.le_of_ble_eq_true rfl) dX2_at_6 ⟨rfl, rfl⟩

set_option maxHeartbeats 4000000 in
set_option maxRecDepth 100000 in
theorem c_X2_key (l : Launch) {D : va_G} {cy : Nat → ClassId} {B : Nat → Nat} {S T : Nat → Nat → Nat} {Y : va_W} {i : Nat} (hi : i < 60) : CI l yX2_key wsX2_key ({ frames := 1, cells := 0, slots := 0, locals := 12 } : Room) D cy [.ref (B 0), .int (nI i)] (MW cy B S T Y) (fun r w' => r = nI (4 * S 3 i + S 1 i) ∧ w' = MW cy B S T Y) 0 0 := by
  refine CI.of (cc := cX2_key) (maxL := 2) (ret := (some .int)) (by decide) rfl (Nat.le_of_ble_eq_true rfl) ?_
  intro p e s m below meth c A ls E0 hl
  obtain ⟨hx, hb, hml, hown, hts, hr, hlocks, hA, hS, hP, hK, hD, hX⟩ := E0
  have hiX2 : ∀ w ∈ u_ws RX2 TX2 19, w ∈ wsX2_key := by decide +kernel
  have hl : lv_has ls 2 [(0, .ref (B 0)), (1, .int (nI i))] := hl
  refine lv_iconst (v := nI 4) hx hb dX2_key_0 (by decide) ?_
  refine lv_aload_n hx hb dX2_key_1 rfl (lv_at hl 0 rfl) ?_
  refine va_get (D := D) (ci := 2) (v := .ref (B 3)) (C := RX2) (T := TX2) (N := 19) hx hb hts hiX2 hown hK hP (0) rfl rfl 3 (by decide) (hts (.fieldLink RX2 16 "CoauthorTextModel" "clocksOf" "[I") (by decide +kernel)) (fun _ h9 => h9) rfl dX2_key_2 ?_
  refine lv_iload_n hx hb dX2_key_5 rfl (lv_at hl 1 rfl) ?_
  refine r_iald hx hb hK hP (3) rfl (by omega) (by decide) dX2_key_6 ?_
  refine r_imul hx hb dX2_key_7 ?_
  refine lv_aload_n hx hb dX2_key_8 rfl (lv_at hl 0 rfl) ?_
  refine va_get (D := D) (ci := 2) (v := .ref (B 1)) (C := RX2) (T := TX2) (N := 19) hx hb hts hiX2 hown hK hP (0) rfl rfl 1 (by decide) (hts (.fieldLink RX2 7 "CoauthorTextModel" "authors" "[I") (by decide +kernel)) (fun _ h9 => h9) rfl dX2_key_9 ?_
  refine lv_iload_n hx hb dX2_key_12 rfl (lv_at hl 1 rfl) ?_
  refine r_iald hx hb hK hP (1) rfl (by omega) (by decide) dX2_key_13 ?_
  refine r_iadd hx hb dX2_key_14 ?_
  exact C_iret hx hb hr hlocks hS hP hK hD (Nat.le_of_ble_eq_true rfl) (Nat.le_of_ble_eq_true rfl) dX2_key_15 ⟨rfl, rfl⟩

set_option maxHeartbeats 4000000 in
set_option maxRecDepth 100000 in
theorem c_X2_stamp (l : Launch) {D : va_G} {cy : Nat → ClassId} {B : Nat → Nat} {S T : Nat → Nat → Nat} {Y : va_W} {a : Nat} (ha : a < 4) : CI l yX2_stamp wsX2_stamp ({ frames := 1, cells := 0, slots := 0, locals := 12 } : Room) D cy [.ref (B 0), .int (nI a)] (MW cy B S T Y) (fun r w' => r = nI (4 * (S 8 a + 1) + a) ∧ w' = MW cy B (up2 S 8 a (S 8 a + 1)) T Y) 0 0 := by
  refine CI.of (cc := cX2_stamp) (maxL := 2) (ret := (some .int)) (by decide) rfl (Nat.le_of_ble_eq_true rfl) ?_
  intro p e s m below meth c A ls E0 hl
  obtain ⟨hx, hb, hml, hown, hts, hr, hlocks, hA, hS, hP, hK, hD, hX⟩ := E0
  have hiX2 : ∀ w ∈ u_ws RX2 TX2 19, w ∈ wsX2_stamp := by decide +kernel
  have hl : lv_has ls 2 [(0, .ref (B 0)), (1, .int (nI a))] := hl
  refine lv_aload_n hx hb dX2_stamp_0 rfl (lv_at hl 0 rfl) ?_
  refine va_get (D := D) (ci := 2) (v := .ref (B 8)) (C := RX2) (T := TX2) (N := 19) hx hb hts hiX2 hown hK hP (0) rfl rfl 8 (by decide) (hts (.fieldLink RX2 32 "CoauthorTextModel" "clocks" "[I") (by decide +kernel)) (fun _ h9 => h9) rfl dX2_stamp_1 ?_
  refine lv_iload_n hx hb dX2_stamp_4 rfl (lv_at hl 1 rfl) ?_
  refine lv_dup2_11 hx hb dX2_stamp_5 rfl rfl ?_
  refine r_iald hx hb hK hP (8) rfl (by omega) (by decide) dX2_stamp_6 ?_
  refine lv_iconst (v := nI 1) hx hb dX2_stamp_7 (by decide) ?_
  refine r_iadd hx hb dX2_stamp_8 ?_
  refine r_iast (w' := MW cy B (up2 S 8 a (S 8 a + 1)) T Y) hx hb hK hP hD hS (8) rfl (by omega) (by decide) dX2_stamp_9 (by rw [show upd (fun j => nI (S 8 j)) a (nI (S 8 a + 1)) = fun j => nI (up2 S 8 a (S 8 a + 1) 8 j) from upd_n S 8 a _]; rfl) (fun H locs hP hD hS => ?_)
  refine lv_iconst (v := nI 4) hx hb dX2_stamp_10 (by decide) ?_
  refine lv_aload_n hx hb dX2_stamp_11 rfl (lv_at hl 0 rfl) ?_
  refine va_get (D := D) (ci := 2) (v := .ref (B 8)) (C := RX2) (T := TX2) (N := 19) hx hb hts hiX2 hown hK hP (0) rfl rfl 8 (by decide) (hts (.fieldLink RX2 32 "CoauthorTextModel" "clocks" "[I") (by decide +kernel)) (fun _ h9 => h9) rfl dX2_stamp_12 ?_
  refine lv_iload_n hx hb dX2_stamp_15 rfl (lv_at hl 1 rfl) ?_
  refine r_iald hx hb hK hP (8) rfl (by omega) (by decide) dX2_stamp_16 ?_
  refine r_imul hx hb dX2_stamp_17 ?_
  refine lv_iload_n hx hb dX2_stamp_18 rfl (lv_at hl 1 rfl) ?_
  refine r_iadd hx hb dX2_stamp_19 ?_
  exact C_iret hx hb hr hlocks hS hP hK hD (Nat.le_of_ble_eq_true rfl) (Nat.le_of_ble_eq_true rfl) dX2_stamp_20 ⟨by rw [up2_s], rfl⟩

set_option maxHeartbeats 4000000 in
set_option maxRecDepth 100000 in
theorem c_X2_asks (l : Launch) {D : va_G} {cy : Nat → ClassId} {B : Nat → Nat} {S T : Nat → Nat → Nat} {Y : va_W} (v : Int32) : CI l yX2_asks wsX2_asks ({ frames := 3, cells := 0, slots := 0, locals := 54 } : Room) D cy [.ref (B 0), .int v] (MW cy B S T Y) (fun r w' => r = nI (bN (isA v)) ∧ w' = MW cy B S (up2 T 0 2 (bN (!isA v))) Y) 0 0 := by
  refine CI.of (cc := cX2_asks) (maxL := 2) (ret := (some .boolean)) (by decide) rfl (Nat.le_of_ble_eq_true rfl) ?_
  intro p e s m below meth c A ls E0 hl
  obtain ⟨hx, hb, hml, hown, hts, hr, hlocks, hA, hS, hP, hK, hD, hX⟩ := E0
  have hiX2 : ∀ w ∈ u_ws RX2 TX2 19, w ∈ wsX2_asks := by decide +kernel
  have hl : lv_has ls 2 [(0, .ref (B 0)), (1, .int v)] := hl
  refine lv_aload_n hx hb dX2_asks_0 rfl (lv_at hl 0 rfl) ?_
  refine lv_iload_n hx hb dX2_asks_1 rfl (lv_at hl 1 rfl) ?_
  refine K_i (va_runS (As := [.int v]) (rest := [.ref (B 0)]) ⟨hx, hb, hml, hown, hts⟩ (c_X2_isAuthor l v _) (va_cwS 1 hts gX2_asks_X2_isAuthor rfl rfl rfl (by decide +kernel) ⟨Nat.le_of_ble_eq_true rfl, Nat.le_of_ble_eq_true rfl⟩) (pS hP hK hD hS hA hX) rfl rfl hl.1 rfl (lv_room (Nat.le_of_ble_eq_true rfl)) dX2_asks_2 ⟨Nat.le_of_ble_eq_true rfl, Nat.le_of_ble_eq_true rfl⟩) hD hS hA (fun r w'  H locs hp hP hD hS => ?_)
  obtain ⟨rfl, rfl⟩ := hp
  refine r_if_eq (tgt := 12) hx hb dX2_asks_5 (by decide) (Nat.lt_trans (bN_lt _) (by decide)) (fun c1 => ?_) (fun c1 => ?_)
  · refine lv_iconst (v := nI 1) hx hb dX2_asks_12 (by decide) ?_
    refine K_i (va_runV (As := [.int (nI 1)]) (rest := []) ⟨hx, hb, hml, hown, hts⟩ (c_X2_goes l (k := 1) (by decide) _) (cwV 1 hts gX2_asks_X2_goes rfl rfl rfl (by decide +kernel) ⟨Nat.le_of_ble_eq_true rfl, Nat.le_of_ble_eq_true rfl⟩) (pV hP hK hD hS hA hX (va_recv hK hP (ci := 2) (q0 := 0) rfl rfl)) rfl rfl hl.1 rfl (lv_room (Nat.le_of_ble_eq_true rfl)) dX2_asks_13 ⟨Nat.le_of_ble_eq_true rfl, Nat.le_of_ble_eq_true rfl⟩) hD hS hA (fun r w'  H locs hp hP hD hS => ?_)
    obtain ⟨rfl, rfl⟩ := hp
    exact C_zret hx hb hr hlocks hS hP hK hD (Nat.le_of_ble_eq_true rfl) (Nat.le_of_ble_eq_true rfl) dX2_asks_16 (nw_b _) ⟨by rw [show isA v = false by rcases h : isA v with _ | _ <;> simp_all [bN]]; rfl, by rw [show isA v = false by rcases h : isA v with _ | _ <;> simp_all [bN]]; rfl⟩
  · refine lv_iconst (v := nI 0) hx hb dX2_asks_8 (by decide) ?_
    refine lv_goto (tgt := 13) hx hb dX2_asks_9 (by decide) ?_
    refine K_i (va_runV (As := [.int (nI 0)]) (rest := []) ⟨hx, hb, hml, hown, hts⟩ (c_X2_goes l (k := 0) (by decide) _) (cwV 1 hts gX2_asks_X2_goes rfl rfl rfl (by decide +kernel) ⟨Nat.le_of_ble_eq_true rfl, Nat.le_of_ble_eq_true rfl⟩) (pV hP hK hD hS hA hX (va_recv hK hP (ci := 2) (q0 := 0) rfl rfl)) rfl rfl hl.1 rfl (lv_room (Nat.le_of_ble_eq_true rfl)) dX2_asks_13 ⟨Nat.le_of_ble_eq_true rfl, Nat.le_of_ble_eq_true rfl⟩) hD hS hA (fun r w'  H locs hp hP hD hS => ?_)
    obtain ⟨rfl, rfl⟩ := hp
    exact C_zret hx hb hr hlocks hS hP hK hD (Nat.le_of_ble_eq_true rfl) (Nat.le_of_ble_eq_true rfl) dX2_asks_16 (nw_b _) ⟨by rw [show isA v = true by rcases h : isA v with _ | _ <;> simp_all [bN]]; rfl, by rw [show isA v = true by rcases h : isA v with _ | _ <;> simp_all [bN]]; rfl⟩
