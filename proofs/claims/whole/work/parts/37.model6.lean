/-! ===== the reference: areAlike, learn ===== -/
theorem alB_s (S : Nat → Nat → Nat) (a b j : Nat) : alB S a b (j + 1) = (alB S a b j && (vsb S a j == vsb S b j)) := by
  simp [alB, List.range_succ]
theorem vsb_0 {S : Nat → Nat → Nat} {a j : Nat} (h : S 5 (60 * a + j) = 0) : vsb S a j = false := by simp [vsb, h]
theorem vsb_r {S : Nat → Nat → Nat} {a j : Nat} (h : 0 < S 6 (60 * a + j)) : vsb S a j = false := by
  have : ¬ S 6 (60 * a + j) = 0 := by omega
  simp [vsb, this]
theorem vsb_1 {S : Nat → Nat → Nat} {a j : Nat} (h : 0 < S 5 (60 * a + j)) (h2 : S 5 (60 * a + j) < 2) (h6 : S 6 (60 * a + j) = 0) : vsb S a j = true := by
  have : S 5 (60 * a + j) = 1 := by omega
  simp [vsb, this, h6]
theorem nar_b {x : Nat} (h : x < 2) : vp_nar .boolean (nI x) = nI x := by
  rcases (show x = 0 ∨ x = 1 by omega) with rfl | rfl <;> rfl
theorem bN_eq {x y : Bool} : bN x = bN y ↔ x = y := by cases x <;> cases y <;> decide

set_option maxHeartbeats 4000000 in
set_option maxRecDepth 100000 in
theorem c_X2_areAlike (l : Launch) {D : va_G} {cy : Nat → ClassId} {B : Nat → Nat} {S T : Nat → Nat → Nat} {Y : va_W} {O : List Nat} (hI : Inv S O) (p0 p1 : Int32) : CI l yX2_areAlike wsX2_areAlike ({ frames := 3, cells := 0, slots := 0, locals := 54 } : Room) D cy [.ref (B 0), .int p0, .int p1] (MW cy B S T Y) (fun r w' => ∃ T' : Nat → Nat → Nat, T' 0 2 = (spAreAlike S p0 p1).1 ∧ w' = MW cy B (spAreAlike S p0 p1).2.2 T' Y ∧ ((spAreAlike S p0 p1).1 = 0 → r = (spAreAlike S p0 p1).2.1)) 0 0 := by
  refine CI.of (cc := cX2_areAlike) (maxL := 7) (ret := (some .boolean)) (by decide) rfl (Nat.le_of_ble_eq_true rfl) ?_
  intro p e s m below meth c A ls E0 hl
  obtain ⟨hx, hb, hml, hown, hts, hr, hlocks, hA, hS, hP, hK, hD, hX⟩ := E0
  have hiX2 : ∀ w ∈ u_ws RX2 TX2 19, w ∈ wsX2_areAlike := by decide +kernel
  have hl : lv_has ls 7 [(0, .ref (B 0)), (1, .int p0), (2, .int p1)] := hl
  refine lv_aload_n hx hb dX2_areAlike_0 rfl (lv_at hl 0 rfl) ?_
  refine lv_iload_n hx hb dX2_areAlike_1 rfl (lv_at hl 1 rfl) ?_
  refine K_i (va_runS (As := [.int p0]) (rest := [.ref (B 0)]) ⟨hx, hb, hml, hown, hts⟩ (c_X2_isAuthor l p0 _) (va_cwS 1 hts gX2_areAlike_X2_isAuthor rfl rfl rfl (by decide +kernel) ⟨Nat.le_of_ble_eq_true rfl, Nat.le_of_ble_eq_true rfl⟩) (pS hP hK hD hS hA hX) rfl rfl hl.1 rfl (lv_room (Nat.le_of_ble_eq_true rfl)) dX2_areAlike_2 ⟨Nat.le_of_ble_eq_true rfl, Nat.le_of_ble_eq_true rfl⟩) hD hS hA (fun r w'  H locs hp hP hD hS => ?_)
  obtain ⟨rfl, hw9⟩ := hp
  rw [hw9] at hP hD
  refine r_if_eq (tgt := 19) hx hb dX2_areAlike_5 (by decide) (Nat.lt_trans (bN_lt _) (by decide)) (fun cA => ?_) (fun cA => ?_)
  · have hU := bN_0.mp cA
    refine lv_iconst (v := nI 1) hx hb dX2_areAlike_19 (by decide) ?_
    refine K_i (va_runV (As := [.int (nI 1)]) (rest := []) ⟨hx, hb, hml, hown, hts⟩ (c_X2_goes l (k := 1) (by decide) _) (cwV 1 hts gX2_areAlike_X2_goes rfl rfl rfl (by decide +kernel) ⟨Nat.le_of_ble_eq_true rfl, Nat.le_of_ble_eq_true rfl⟩) (pV hP hK hD hS hA hX (va_recv hK hP (ci := 2) (q0 := 0) rfl rfl)) rfl rfl hl.1 rfl (lv_room (Nat.le_of_ble_eq_true rfl)) dX2_areAlike_20 ⟨Nat.le_of_ble_eq_true rfl, Nat.le_of_ble_eq_true rfl⟩) hD hS hA (fun r w'  H locs hp hP hD hS => ?_)
    obtain ⟨hr9, rfl⟩ := hp
    obtain rfl : r = nI 0 := hr9
    refine r_if_ne (tgt := 28) hx hb dX2_areAlike_23 (by decide) (by decide) (fun c1 => ?_) (fun c1 => ?_)
    · omega
    · refine lv_iconst (v := nI 0) hx hb dX2_areAlike_26 (by decide) ?_
      exact C_zret hx hb hr hlocks hS hP hK hD (Nat.le_of_ble_eq_true rfl) (Nat.le_of_ble_eq_true rfl) dX2_areAlike_27 rfl (by rw [show spAreAlike S p0 p1 = (1, 0, S) from by simp [spAreAlike, hU]]; exact ⟨_, up2_s _ _ _ _, rfl, fun h => absurd (show (1 : Nat) = 0 from h) (by decide)⟩)
  · have hU := bN_1.mp cA
    refine lv_iload_n hx hb dX2_areAlike_8 rfl (lv_at hl 2 rfl) ?_
    refine K_i (va_runS (As := [.int p1]) (rest := [.ref (B 0)]) ⟨hx, hb, hml, hown, hts⟩ (c_X2_isAuthor l p1 _) (va_cwS 1 hts gX2_areAlike_X2_isAuthor rfl rfl rfl (by decide +kernel) ⟨Nat.le_of_ble_eq_true rfl, Nat.le_of_ble_eq_true rfl⟩) (pS hP hK hD hS hA hX) rfl rfl hl.1 rfl (lv_room (Nat.le_of_ble_eq_true rfl)) dX2_areAlike_9 ⟨Nat.le_of_ble_eq_true rfl, Nat.le_of_ble_eq_true rfl⟩) hD hS hA (fun r w'  H locs hp hP hD hS => ?_)
    obtain ⟨rfl, hw9⟩ := hp
    rw [hw9] at hP hD
    refine r_if_eq (tgt := 19) hx hb dX2_areAlike_12 (by decide) (Nat.lt_trans (bN_lt _) (by decide)) (fun cB => ?_) (fun cB => ?_)
    · have hV := bN_0.mp cB
      refine lv_iconst (v := nI 1) hx hb dX2_areAlike_19 (by decide) ?_
      refine K_i (va_runV (As := [.int (nI 1)]) (rest := []) ⟨hx, hb, hml, hown, hts⟩ (c_X2_goes l (k := 1) (by decide) _) (cwV 1 hts gX2_areAlike_X2_goes rfl rfl rfl (by decide +kernel) ⟨Nat.le_of_ble_eq_true rfl, Nat.le_of_ble_eq_true rfl⟩) (pV hP hK hD hS hA hX (va_recv hK hP (ci := 2) (q0 := 0) rfl rfl)) rfl rfl hl.1 rfl (lv_room (Nat.le_of_ble_eq_true rfl)) dX2_areAlike_20 ⟨Nat.le_of_ble_eq_true rfl, Nat.le_of_ble_eq_true rfl⟩) hD hS hA (fun r w'  H locs hp hP hD hS => ?_)
      obtain ⟨hr9, rfl⟩ := hp
      obtain rfl : r = nI 0 := hr9
      refine r_if_ne (tgt := 28) hx hb dX2_areAlike_23 (by decide) (by decide) (fun c2 => ?_) (fun c2 => ?_)
      · omega
      · refine lv_iconst (v := nI 0) hx hb dX2_areAlike_26 (by decide) ?_
        exact C_zret hx hb hr hlocks hS hP hK hD (Nat.le_of_ble_eq_true rfl) (Nat.le_of_ble_eq_true rfl) dX2_areAlike_27 rfl (by rw [show spAreAlike S p0 p1 = (1, 0, S) from by simp [spAreAlike, hU, hV]]; exact ⟨_, up2_s _ _ _ _, rfl, fun h => absurd (show (1 : Nat) = 0 from h) (by decide)⟩)
    · have hV := bN_1.mp cB
      refine lv_iconst (v := nI 0) hx hb dX2_areAlike_15 (by decide) ?_
      refine lv_goto (tgt := 20) hx hb dX2_areAlike_16 (by decide) ?_
      refine K_i (va_runV (As := [.int (nI 0)]) (rest := []) ⟨hx, hb, hml, hown, hts⟩ (c_X2_goes l (k := 0) (by decide) _) (cwV 1 hts gX2_areAlike_X2_goes rfl rfl rfl (by decide +kernel) ⟨Nat.le_of_ble_eq_true rfl, Nat.le_of_ble_eq_true rfl⟩) (pV hP hK hD hS hA hX (va_recv hK hP (ci := 2) (q0 := 0) rfl rfl)) rfl rfl hl.1 rfl (lv_room (Nat.le_of_ble_eq_true rfl)) dX2_areAlike_20 ⟨Nat.le_of_ble_eq_true rfl, Nat.le_of_ble_eq_true rfl⟩) hD hS hA (fun r w'  H locs hp hP hD hS => ?_)
      obtain ⟨hr9, rfl⟩ := hp
      obtain rfl : r = nI 1 := hr9
      refine r_if_ne (tgt := 28) hx hb dX2_areAlike_23 (by decide) (by decide) (fun c3 => ?_) (fun c3 => ?_)
      · obtain ⟨a, ha, rfl⟩ := isA_n hU
        obtain ⟨f, hf, rfl⟩ := isA_n hV
        have hn60 := hI.R.1
        have ea := aN_n (show a < 2 ^ 31 by omega)
        have ef := aN_n (show f < 2 ^ 31 by omega)
        have h5 := hI.R.2.2.2.2.2.2.2.1
        have h6 := hI.R.2.2.2.2.2.2.2.2.1
        refine lv_iconst (v := nI 1) hx hb dX2_areAlike_28 (by decide) ?_
        refine lv_istore_n (lv' := [(3, .int (nI 1)), (0, .ref (B 0)), (1, .int (nI a)), (2, .int (nI f))]) hx hb dX2_areAlike_29 rfl hl (by decide) rfl (fun ls hl => ?_)
        refine lv_iconst (v := nI 0) hx hb dX2_areAlike_30 (by decide) ?_
        refine lv_istore (lv' := [(4, .int (nI 0)), (3, .int (nI 1)), (0, .ref (B 0)), (1, .int (nI a)), (2, .int (nI f))]) hx hb dX2_areAlike_31 hl (by decide) rfl (fun ls hl => ?_)
        have loop : ∀ (q j : Nat) (H : Heap) (locs : List Loc) (ls : Array Slot), j + q = S 0 0 + 1 → j ≤ S 0 0 → va_P D vwCl (MW cy B S (up2 T 0 2 0) Y) H → va_D A (MW cy B S (up2 T 0 2 0) Y) → va_S A s.heap H locs → lv_has ls 7 [(4, .int (nI j)), (3, .int (nI (bN (alB S a f j)))), (0, .ref (B 0)), (1, .int (nI a)), (2, .int (nI f))] → W p l e ({ frames := 3, cells := 0, slots := 0, locals := 54 } : Room) s m ([.ref (B 0), .int (nI a), .int (nI f)] : List Value).toArray below meth c H locs 0 0 (MQ below (va_Qi (fun r w' => ∃ T' : Nat → Nat → Nat, T' 0 2 = (spAreAlike S (nI a) (nI f)).1 ∧ w' = MW cy B (spAreAlike S (nI a) (nI f)).2.2 T' Y ∧ ((spAreAlike S (nI a) (nI f)).1 = 0 → r = (spAreAlike S (nI a) (nI f)).2.1)) (fun w' t => wB D cy A w' t) A) ([.ref (B 0), .int (nI a), .int (nI f)] : List Value).toArray s 0 0 A) (F0 m 33 ls []) := by
          intro q
          induction q with
          | zero => intro j H locs ls hq; omega
          | succ q ih =>
            intro j H locs ls hq hj hP hD hS hl
            refine lv_iload hx hb dX2_areAlike_33 (lv_at hl 0 rfl) ?_
            refine lv_aload_n hx hb dX2_areAlike_35 rfl (lv_at hl 2 rfl) ?_
            refine va_get (D := D) (ci := 2) (v := .int (nI (S 0 0))) (C := RX2) (T := TX2) (N := 19) hx hb hts hiX2 hown hK hP (0) rfl rfl 0 (by decide) (hts (.fieldLink RX2 59 "CoauthorTextModel" "signs" "I") (by decide +kernel)) (fun _ h9 => h9) rfl dX2_areAlike_36 ?_
            refine r_icmp_ge (tgt := 135) hx hb dX2_areAlike_39 (by decide) (by omega) (by omega) (fun c4 => ?_) (fun c4 => ?_)
            · have ej : j = S 0 0 := by omega
              subst ej
              refine lv_iload_n hx hb dX2_areAlike_135 rfl (lv_at hl 1 rfl) ?_
              exact C_zret hx hb hr hlocks hS hP hK hD (Nat.le_of_ble_eq_true rfl) (Nat.le_of_ble_eq_true rfl) dX2_areAlike_136 (nw_b _) (by rw [show spAreAlike S (nI a) (nI f) = (0, nI (bN (alB S a f (S 0 0))), S) from by simp [spAreAlike, hU, hV, ea, ef]]; exact ⟨_, up2_s _ _ _ _, rfl, fun _ => rfl⟩)
            · have join75 : ∀ (H : Heap) (locs : List Loc) (ls : Array Slot), va_P D vwCl (MW cy B S (up2 T 0 2 0) Y) H → va_D A (MW cy B S (up2 T 0 2 0) Y) → va_S A s.heap H locs → lv_has ls 7 [(4, .int (nI j)), (3, .int (nI (bN (alB S a f j)))), (0, .ref (B 0)), (1, .int (nI a)), (2, .int (nI f))] → W p l e ({ frames := 3, cells := 0, slots := 0, locals := 54 } : Room) s m ([.ref (B 0), .int (nI a), .int (nI f)] : List Value).toArray below meth c H locs 0 0 (MQ below (va_Qi (fun r w' => ∃ T' : Nat → Nat → Nat, T' 0 2 = (spAreAlike S (nI a) (nI f)).1 ∧ w' = MW cy B (spAreAlike S (nI a) (nI f)).2.2 T' Y ∧ ((spAreAlike S (nI a) (nI f)).1 = 0 → r = (spAreAlike S (nI a) (nI f)).2.1)) (fun w' t => wB D cy A w' t) A) ([.ref (B 0), .int (nI a), .int (nI f)] : List Value).toArray s 0 0 A) (F0 m 75 ls [.int (nI (bN (vsb S a j)))]) := by
                intro H locs ls hP hD hS hl
                refine lv_istore (lv' := [(5, .int (nI (bN (vsb S a j)))), (4, .int (nI j)), (3, .int (nI (bN (alB S a f j)))), (0, .ref (B 0)), (1, .int (nI a)), (2, .int (nI f))]) hx hb dX2_areAlike_75 hl (by decide) rfl (fun ls hl => ?_)
                have join110 : ∀ (H : Heap) (locs : List Loc) (ls : Array Slot), va_P D vwCl (MW cy B S (up2 T 0 2 0) Y) H → va_D A (MW cy B S (up2 T 0 2 0) Y) → va_S A s.heap H locs → lv_has ls 7 [(5, .int (nI (bN (vsb S a j)))), (4, .int (nI j)), (3, .int (nI (bN (alB S a f j)))), (0, .ref (B 0)), (1, .int (nI a)), (2, .int (nI f))] → W p l e ({ frames := 3, cells := 0, slots := 0, locals := 54 } : Room) s m ([.ref (B 0), .int (nI a), .int (nI f)] : List Value).toArray below meth c H locs 0 0 (MQ below (va_Qi (fun r w' => ∃ T' : Nat → Nat → Nat, T' 0 2 = (spAreAlike S (nI a) (nI f)).1 ∧ w' = MW cy B (spAreAlike S (nI a) (nI f)).2.2 T' Y ∧ ((spAreAlike S (nI a) (nI f)).1 = 0 → r = (spAreAlike S (nI a) (nI f)).2.1)) (fun w' t => wB D cy A w' t) A) ([.ref (B 0), .int (nI a), .int (nI f)] : List Value).toArray s 0 0 A) (F0 m 110 ls [.int (nI (bN (vsb S f j)))]) := by
                  intro H locs ls hP hD hS hl
                  refine lv_istore (lv' := [(6, .int (nI (bN (vsb S f j)))), (5, .int (nI (bN (vsb S a j)))), (4, .int (nI j)), (3, .int (nI (bN (alB S a f j)))), (0, .ref (B 0)), (1, .int (nI a)), (2, .int (nI f))]) hx hb dX2_areAlike_110 hl (by decide) rfl (fun ls hl => ?_)
                  refine lv_iload_n hx hb dX2_areAlike_112 rfl (lv_at hl 3 rfl) ?_
                  refine r_if_eq (tgt := 127) hx hb dX2_areAlike_113 (by decide) (Nat.lt_trans (bN_lt _) (by decide)) (fun cL => ?_) (fun cL => ?_)
                  · refine lv_iconst (v := nI 0) hx hb dX2_areAlike_127 (by decide) ?_
                    refine lv_topi (fun y9 ey9 => ?_)
                    obtain rfl : y9 = nI (bN (alB S a f (j + 1))) := ey9.trans (by rw [alB_s, bN_0.mp cL]; rfl)
                    refine lv_istore_n (lv' := [(3, .int (nI (bN (alB S a f (j + 1))))), (6, .int (nI (bN (vsb S f j)))), (5, .int (nI (bN (vsb S a j)))), (4, .int (nI j)), (0, .ref (B 0)), (1, .int (nI a)), (2, .int (nI f))]) hx hb dX2_areAlike_128 rfl hl (by decide) rfl (fun ls hl => ?_)
                    refine lv_iinc (v := nI (j + 1)) (lv' := [(4, .int (nI (j + 1))), (3, .int (nI (bN (alB S a f (j + 1))))), (6, .int (nI (bN (vsb S f j)))), (5, .int (nI (bN (vsb S a j)))), (0, .ref (B 0)), (1, .int (nI a)), (2, .int (nI f))]) hx hb dX2_areAlike_129 hl (k := 3) rfl (nI_inc _) (by decide) rfl (fun ls hl => ?_)
                    refine lv_goto (tgt := 33) hx hb dX2_areAlike_132 (by decide) ?_
                    exact ih (j + 1) _ _ ls (by omega) (by omega) hP hD hS (lv_sub hl [0, 1, 4, 5, 6] rfl)
                  · refine lv_iload hx hb dX2_areAlike_116 (lv_at hl 1 rfl) ?_
                    refine lv_iload hx hb dX2_areAlike_118 (lv_at hl 0 rfl) ?_
                    refine r_icmp_ne (tgt := 127) hx hb dX2_areAlike_120 (by decide) (Nat.lt_trans (bN_lt _) (by decide)) (Nat.lt_trans (bN_lt _) (by decide)) (fun cM => ?_) (fun cM => ?_)
                    · refine lv_iconst (v := nI 0) hx hb dX2_areAlike_127 (by decide) ?_
                      refine lv_topi (fun y9 ey9 => ?_)
                      obtain rfl : y9 = nI (bN (alB S a f (j + 1))) := ey9.trans (by rw [alB_s, bN_1.mp cL, show (vsb S a j == vsb S f j) = false from beq_false_of_ne (fun h => cM (by rw [h]))]; rfl)
                      refine lv_istore_n (lv' := [(3, .int (nI (bN (alB S a f (j + 1))))), (6, .int (nI (bN (vsb S f j)))), (5, .int (nI (bN (vsb S a j)))), (4, .int (nI j)), (0, .ref (B 0)), (1, .int (nI a)), (2, .int (nI f))]) hx hb dX2_areAlike_128 rfl hl (by decide) rfl (fun ls hl => ?_)
                      refine lv_iinc (v := nI (j + 1)) (lv' := [(4, .int (nI (j + 1))), (3, .int (nI (bN (alB S a f (j + 1))))), (6, .int (nI (bN (vsb S f j)))), (5, .int (nI (bN (vsb S a j)))), (0, .ref (B 0)), (1, .int (nI a)), (2, .int (nI f))]) hx hb dX2_areAlike_129 hl (k := 3) rfl (nI_inc _) (by decide) rfl (fun ls hl => ?_)
                      refine lv_goto (tgt := 33) hx hb dX2_areAlike_132 (by decide) ?_
                      exact ih (j + 1) _ _ ls (by omega) (by omega) hP hD hS (lv_sub hl [0, 1, 4, 5, 6] rfl)
                    · refine lv_iconst (v := nI 1) hx hb dX2_areAlike_123 (by decide) ?_
                      refine lv_goto (tgt := 128) hx hb dX2_areAlike_124 (by decide) ?_
                      refine lv_topi (fun y9 ey9 => ?_)
                      obtain rfl : y9 = nI (bN (alB S a f (j + 1))) := ey9.trans (by rw [alB_s, bN_1.mp cL, show (vsb S a j == vsb S f j) = true from beq_iff_eq.mpr (bN_eq.mp cM)]; rfl)
                      refine lv_istore_n (lv' := [(3, .int (nI (bN (alB S a f (j + 1))))), (6, .int (nI (bN (vsb S f j)))), (5, .int (nI (bN (vsb S a j)))), (4, .int (nI j)), (0, .ref (B 0)), (1, .int (nI a)), (2, .int (nI f))]) hx hb dX2_areAlike_128 rfl hl (by decide) rfl (fun ls hl => ?_)
                      refine lv_iinc (v := nI (j + 1)) (lv' := [(4, .int (nI (j + 1))), (3, .int (nI (bN (alB S a f (j + 1))))), (6, .int (nI (bN (vsb S f j)))), (5, .int (nI (bN (vsb S a j)))), (0, .ref (B 0)), (1, .int (nI a)), (2, .int (nI f))]) hx hb dX2_areAlike_129 hl (k := 3) rfl (nI_inc _) (by decide) rfl (fun ls hl => ?_)
                      refine lv_goto (tgt := 33) hx hb dX2_areAlike_132 (by decide) ?_
                      exact ih (j + 1) _ _ ls (by omega) (by omega) hP hD hS (lv_sub hl [0, 1, 4, 5, 6] rfl)
                refine lv_aload_n hx hb dX2_areAlike_77 rfl (lv_at hl 3 rfl) ?_
                refine va_get (D := D) (ci := 2) (v := .ref (B 5)) (C := RX2) (T := TX2) (N := 19) hx hb hts hiX2 hown hK hP (0) rfl rfl 5 (by decide) (hts (.fieldLink RX2 22 "CoauthorTextModel" "knows" "[Z") (by decide +kernel)) (fun _ h9 => h9) rfl dX2_areAlike_78 ?_
                refine lv_iload_n hx hb dX2_areAlike_81 rfl (lv_at hl 5 rfl) ?_
                refine lv_iload hx hb dX2_areAlike_82 (lv_at hl 1 rfl) ?_
                refine K_i (va_runS (As := [.int (nI f), .int (nI j)]) (rest := [.ref (B 5)]) ⟨hx, hb, hml, hown, hts⟩ (c_X2_at l f j _) (va_cwS 2 hts gX2_areAlike_X2_at rfl rfl rfl (by decide +kernel) ⟨Nat.le_of_ble_eq_true rfl, Nat.le_of_ble_eq_true rfl⟩) (pS hP hK hD hS hA hX) rfl rfl hl.1 rfl (lv_room (Nat.le_of_ble_eq_true rfl)) dX2_areAlike_84 ⟨Nat.le_of_ble_eq_true rfl, Nat.le_of_ble_eq_true rfl⟩) hD hS hA (fun r w'  H locs hp hP hD hS => ?_)
                obtain ⟨rfl, hw9⟩ := hp
                rw [hw9] at hP hD
                refine r_zald hx hb hK hP (5) rfl (by omega) (by decide) dX2_areAlike_87 ?_
                refine r_if_eq (tgt := 109) hx hb dX2_areAlike_88 (by decide) (by have := h5 (60 * f + j); omega) (fun cK => ?_) (fun cK => ?_)
                · refine lv_iconst (v := nI 0) hx hb dX2_areAlike_109 (by decide) ?_
                  refine lv_topi (fun y9 ey9 => ?_)
                  obtain rfl : y9 = nI (bN (vsb S f j)) := ey9.trans (by rw [vsb_0 cK]; rfl)
                  exact join110 _ _ ls hP hD hS hl
                · refine lv_aload_n hx hb dX2_areAlike_91 rfl (lv_at hl 3 rfl) ?_
                  refine va_get (D := D) (ci := 2) (v := .ref (B 6)) (C := RX2) (T := TX2) (N := 19) hx hb hts hiX2 hown hK hP (0) rfl rfl 6 (by decide) (hts (.fieldLink RX2 26 "CoauthorTextModel" "isRemoved" "[Z") (by decide +kernel)) (fun _ h9 => h9) rfl dX2_areAlike_92 ?_
                  refine lv_iload_n hx hb dX2_areAlike_95 rfl (lv_at hl 5 rfl) ?_
                  refine lv_iload hx hb dX2_areAlike_96 (lv_at hl 1 rfl) ?_
                  refine K_i (va_runS (As := [.int (nI f), .int (nI j)]) (rest := [.ref (B 6)]) ⟨hx, hb, hml, hown, hts⟩ (c_X2_at l f j _) (va_cwS 2 hts gX2_areAlike_X2_at rfl rfl rfl (by decide +kernel) ⟨Nat.le_of_ble_eq_true rfl, Nat.le_of_ble_eq_true rfl⟩) (pS hP hK hD hS hA hX) rfl rfl hl.1 rfl (lv_room (Nat.le_of_ble_eq_true rfl)) dX2_areAlike_98 ⟨Nat.le_of_ble_eq_true rfl, Nat.le_of_ble_eq_true rfl⟩) hD hS hA (fun r w'  H locs hp hP hD hS => ?_)
                  obtain ⟨rfl, hw9⟩ := hp
                  rw [hw9] at hP hD
                  refine r_zald hx hb hK hP (6) rfl (by omega) (by decide) dX2_areAlike_101 ?_
                  refine r_if_ne (tgt := 109) hx hb dX2_areAlike_102 (by decide) (by have := h6 (60 * f + j); omega) (fun cR => ?_) (fun cR => ?_)
                  · refine lv_iconst (v := nI 0) hx hb dX2_areAlike_109 (by decide) ?_
                    refine lv_topi (fun y9 ey9 => ?_)
                    obtain rfl : y9 = nI (bN (vsb S f j)) := ey9.trans (by rw [vsb_r cR]; rfl)
                    exact join110 _ _ ls hP hD hS hl
                  · refine lv_iconst (v := nI 1) hx hb dX2_areAlike_105 (by decide) ?_
                    refine lv_goto (tgt := 110) hx hb dX2_areAlike_106 (by decide) ?_
                    refine lv_topi (fun y9 ey9 => ?_)
                    obtain rfl : y9 = nI (bN (vsb S f j)) := ey9.trans (by rw [vsb_1 cK (h5 _) cR]; rfl)
                    exact join110 _ _ ls hP hD hS hl
              refine lv_aload_n hx hb dX2_areAlike_42 rfl (lv_at hl 2 rfl) ?_
              refine va_get (D := D) (ci := 2) (v := .ref (B 5)) (C := RX2) (T := TX2) (N := 19) hx hb hts hiX2 hown hK hP (0) rfl rfl 5 (by decide) (hts (.fieldLink RX2 22 "CoauthorTextModel" "knows" "[Z") (by decide +kernel)) (fun _ h9 => h9) rfl dX2_areAlike_43 ?_
              refine lv_iload_n hx hb dX2_areAlike_46 rfl (lv_at hl 3 rfl) ?_
              refine lv_iload hx hb dX2_areAlike_47 (lv_at hl 0 rfl) ?_
              refine K_i (va_runS (As := [.int (nI a), .int (nI j)]) (rest := [.ref (B 5)]) ⟨hx, hb, hml, hown, hts⟩ (c_X2_at l a j _) (va_cwS 2 hts gX2_areAlike_X2_at rfl rfl rfl (by decide +kernel) ⟨Nat.le_of_ble_eq_true rfl, Nat.le_of_ble_eq_true rfl⟩) (pS hP hK hD hS hA hX) rfl rfl hl.1 rfl (lv_room (Nat.le_of_ble_eq_true rfl)) dX2_areAlike_49 ⟨Nat.le_of_ble_eq_true rfl, Nat.le_of_ble_eq_true rfl⟩) hD hS hA (fun r w'  H locs hp hP hD hS => ?_)
              obtain ⟨rfl, hw9⟩ := hp
              rw [hw9] at hP hD
              refine r_zald hx hb hK hP (5) rfl (by omega) (by decide) dX2_areAlike_52 ?_
              refine r_if_eq (tgt := 74) hx hb dX2_areAlike_53 (by decide) (by have := h5 (60 * a + j); omega) (fun cK => ?_) (fun cK => ?_)
              · refine lv_iconst (v := nI 0) hx hb dX2_areAlike_74 (by decide) ?_
                refine lv_topi (fun y9 ey9 => ?_)
                obtain rfl : y9 = nI (bN (vsb S a j)) := ey9.trans (by rw [vsb_0 cK]; rfl)
                exact join75 _ _ ls hP hD hS hl
              · refine lv_aload_n hx hb dX2_areAlike_56 rfl (lv_at hl 2 rfl) ?_
                refine va_get (D := D) (ci := 2) (v := .ref (B 6)) (C := RX2) (T := TX2) (N := 19) hx hb hts hiX2 hown hK hP (0) rfl rfl 6 (by decide) (hts (.fieldLink RX2 26 "CoauthorTextModel" "isRemoved" "[Z") (by decide +kernel)) (fun _ h9 => h9) rfl dX2_areAlike_57 ?_
                refine lv_iload_n hx hb dX2_areAlike_60 rfl (lv_at hl 3 rfl) ?_
                refine lv_iload hx hb dX2_areAlike_61 (lv_at hl 0 rfl) ?_
                refine K_i (va_runS (As := [.int (nI a), .int (nI j)]) (rest := [.ref (B 6)]) ⟨hx, hb, hml, hown, hts⟩ (c_X2_at l a j _) (va_cwS 2 hts gX2_areAlike_X2_at rfl rfl rfl (by decide +kernel) ⟨Nat.le_of_ble_eq_true rfl, Nat.le_of_ble_eq_true rfl⟩) (pS hP hK hD hS hA hX) rfl rfl hl.1 rfl (lv_room (Nat.le_of_ble_eq_true rfl)) dX2_areAlike_63 ⟨Nat.le_of_ble_eq_true rfl, Nat.le_of_ble_eq_true rfl⟩) hD hS hA (fun r w'  H locs hp hP hD hS => ?_)
                obtain ⟨rfl, hw9⟩ := hp
                rw [hw9] at hP hD
                refine r_zald hx hb hK hP (6) rfl (by omega) (by decide) dX2_areAlike_66 ?_
                refine r_if_ne (tgt := 74) hx hb dX2_areAlike_67 (by decide) (by have := h6 (60 * a + j); omega) (fun cR => ?_) (fun cR => ?_)
                · refine lv_iconst (v := nI 0) hx hb dX2_areAlike_74 (by decide) ?_
                  refine lv_topi (fun y9 ey9 => ?_)
                  obtain rfl : y9 = nI (bN (vsb S a j)) := ey9.trans (by rw [vsb_r cR]; rfl)
                  exact join75 _ _ ls hP hD hS hl
                · refine lv_iconst (v := nI 1) hx hb dX2_areAlike_70 (by decide) ?_
                  refine lv_goto (tgt := 75) hx hb dX2_areAlike_71 (by decide) ?_
                  refine lv_topi (fun y9 ey9 => ?_)
                  obtain rfl : y9 = nI (bN (vsb S a j)) := ey9.trans (by rw [vsb_1 cK (h5 _) cR]; rfl)
                  exact join75 _ _ ls hP hD hS hl
        exact loop (S 0 0 + 1) 0 _ _ ls (by omega) (Nat.zero_le _) hP hD hS (lv_sub hl [0, 1, 2, 3, 4] rfl)
      · omega

theorem lr_its {S : Nat → Nat → Nat} {a f j : Nat} {P : Nat → Bool} (hne : a ≠ f) (hj : j < 60) (k : Nat) : lrP S a f P k (60 * f + j) = S k (60 * f + j) := by
  have h : ¬ (60 * a ≤ 60 * f + j ∧ 60 * f + j < 60 * a + 60) := by omega
  unfold lrP
  by_cases h5 : k = 5
  · subst h5
    rw [if_pos rfl, if_neg (fun g => h ⟨g.1, g.2.1⟩)]
  · by_cases h6 : k = 6
    · subst h6
      rw [if_neg h5, if_pos rfl, if_neg (fun g => h ⟨g.1, g.2.1⟩)]
    · by_cases h7 : k = 7
      · subst h7
        rw [if_neg h5, if_neg h6, if_pos rfl, if_neg (fun g => h ⟨g.1, g.2.1⟩)]
      · rw [if_neg h5, if_neg h6, if_neg h7]
theorem lr_mine {S : Nat → Nat → Nat} {a f j : Nat} {P : Nat → Bool} (hP : P j = false) (k : Nat) : lrP S a f P k (60 * a + j) = S k (60 * a + j) := by
  have h : (P (60 * a + j - 60 * a) && lrB S a f (60 * a + j - 60 * a)) = false := by rw [Nat.add_sub_cancel_left, hP]; rfl
  unfold lrP
  simp only [h, Bool.false_eq_true, and_false, if_false]
  by_cases h5 : k = 5
  · subst h5; rfl
  · by_cases h6 : k = 6
    · subst h6; rfl
    · by_cases h7 : k = 7
      · subst h7; rfl
      · rw [if_neg h5, if_neg h6, if_neg h7]
/-- P with j added: nothing new if j has nothing to be learned -/
theorem lr_skip {S : Nat → Nat → Nat} {a f j : Nat} {P P' : Nat → Bool} (hPP : ∀ i, i ≠ j → P' i = P i) (hb : lrB S a f j = false) : lrP S a f P' = lrP S a f P := by
  have h : ∀ x, (P' x && lrB S a f x) = (P x && lrB S a f x) := fun x => by
    by_cases e : x = j
    · subst e; rw [hb, Bool.and_false, Bool.and_false]
    · rw [hPP x e]
  funext k i
  simp only [lrP, h]
theorem lr_add {S : Nat → Nat → Nat} {a f j : Nat} {P P' : Nat → Bool} (hj : j < 60) (hPP : ∀ i, i ≠ j → P' i = P i) (h1 : P' j = true) (hb : lrB S a f j = true) :
    up2 (up2 (up2 (lrP S a f P) 5 (60 * a + j) 1) 6 (60 * a + j) (S 6 (60 * f + j))) 7 (60 * a + j) (S 7 (60 * f + j)) = lrP S a f P' := by
  funext k i
  by_cases e : i = 60 * a + j
  · subst e
    have hr : 60 * a ≤ 60 * a + j ∧ 60 * a + j < 60 * a + 60 ∧ (P' (60 * a + j - 60 * a) && lrB S a f (60 * a + j - 60 * a)) = true := ⟨by omega, by omega, by rw [Nat.add_sub_cancel_left, h1, hb]; rfl⟩
    by_cases h7 : k = 7
    · subst h7; rw [up2_s]; unfold lrP; rw [if_neg (by decide), if_neg (by decide), if_pos rfl, if_pos hr, Nat.add_sub_cancel_left]
    · rw [up2_k _ h7]
      by_cases h6 : k = 6
      · subst h6; rw [up2_s]; unfold lrP; rw [if_neg (by decide), if_pos rfl, if_pos hr, Nat.add_sub_cancel_left]
      · rw [up2_k _ h6]
        by_cases h5 : k = 5
        · subst h5; rw [up2_s]; unfold lrP; rw [if_pos rfl, if_pos hr]
        · rw [up2_k _ h5]; unfold lrP; rw [if_neg h5, if_neg h6, if_neg h7, if_neg h5, if_neg h6, if_neg h7]
  · have hk : ∀ (F : Nat → Nat → Nat) (κ v : Nat), up2 F κ (60 * a + j) v k i = F k i := fun F κ v => by
      by_cases h : k = κ
      · subst h; exact up2_i _ e
      · exact up2_k _ h i
    rw [hk, hk, hk]
    have h : ∀ (hr : 60 * a ≤ i), (P' (i - 60 * a) && lrB S a f (i - 60 * a)) = (P (i - 60 * a) && lrB S a f (i - 60 * a)) := fun hr => by rw [hPP (i - 60 * a) (by omega)]
    by_cases hr : 60 * a ≤ i
    · simp only [lrP, h hr]
    · simp only [lrP, hr, false_and, if_false]
theorem lr_0 (S : Nat → Nat → Nat) (a f : Nat) : lrP S a f (fun i => decide (i < 0)) = S := by
  funext k j
  simp only [lrP, Nat.not_lt_zero, decide_false, Bool.false_and, Bool.false_eq_true, and_false, if_false]
  by_cases h5 : k = 5
  · subst h5; rfl
  · by_cases h6 : k = 6
    · subst h6; rfl
    · by_cases h7 : k = 7
      · subst h7; rfl
      · rw [if_neg h5, if_neg h6, if_neg h7]
theorem lt_dec {i j : Nat} (h : i ≠ j) : decide (i < j + 1) = decide (i < j) := by
  have : i < j + 1 ↔ i < j := by omega
  simp [this]
theorem cnt_s (p : Nat → Bool) (j : Nat) : (List.range (j + 1)).countP p = (List.range j).countP p + bN (p j) := by
  rw [List.range_succ, List.countP_append]
  cases h : p j <;> simp [h, bN]

set_option maxHeartbeats 4000000 in
set_option maxRecDepth 100000 in
theorem c_X2_learn (l : Launch) {D : va_G} {cy : Nat → ClassId} {B : Nat → Nat} {S T : Nat → Nat → Nat} {Y : va_W} {O : List Nat} (hI : Inv S O) (p0 p1 : Int32) : CI l yX2_learn wsX2_learn ({ frames := 3, cells := 0, slots := 0, locals := 54 } : Room) D cy [.ref (B 0), .int p0, .int p1] (MW cy B S T Y) (fun r w' => ∃ T' : Nat → Nat → Nat, T' 0 2 = (spLearn S p0 p1).1 ∧ w' = MW cy B (spLearn S p0 p1).2.2 T' Y ∧ ((spLearn S p0 p1).1 = 0 → r = (spLearn S p0 p1).2.1)) 0 0 := by
  refine CI.of (cc := cX2_learn) (maxL := 7) (ret := (some .int)) (by decide) rfl (Nat.le_of_ble_eq_true rfl) ?_
  intro p e s m below meth c A ls E0 hl
  obtain ⟨hx, hb, hml, hown, hts, hr, hlocks, hA, hS, hP, hK, hD, hX⟩ := E0
  have hiX2 : ∀ w ∈ u_ws RX2 TX2 19, w ∈ wsX2_learn := by decide +kernel
  have hl : lv_has ls 7 [(0, .ref (B 0)), (1, .int p0), (2, .int p1)] := hl
  refine lv_aload_n hx hb dX2_learn_0 rfl (lv_at hl 0 rfl) ?_
  refine lv_iload_n hx hb dX2_learn_1 rfl (lv_at hl 1 rfl) ?_
  refine K_i (va_runS (As := [.int p0]) (rest := [.ref (B 0)]) ⟨hx, hb, hml, hown, hts⟩ (c_X2_isAuthor l p0 _) (va_cwS 1 hts gX2_learn_X2_isAuthor rfl rfl rfl (by decide +kernel) ⟨Nat.le_of_ble_eq_true rfl, Nat.le_of_ble_eq_true rfl⟩) (pS hP hK hD hS hA hX) rfl rfl hl.1 rfl (lv_room (Nat.le_of_ble_eq_true rfl)) dX2_learn_2 ⟨Nat.le_of_ble_eq_true rfl, Nat.le_of_ble_eq_true rfl⟩) hD hS hA (fun r w'  H locs hp hP hD hS => ?_)
  obtain ⟨rfl, hw9⟩ := hp
  rw [hw9] at hP hD
  refine r_if_eq (tgt := 24) hx hb dX2_learn_5 (by decide) (Nat.lt_trans (bN_lt _) (by decide)) (fun cA => ?_) (fun cA => ?_)
  · have hU := bN_0.mp cA
    refine lv_iconst (v := nI 1) hx hb dX2_learn_24 (by decide) ?_
    refine K_i (va_runV (As := [.int (nI 1)]) (rest := []) ⟨hx, hb, hml, hown, hts⟩ (c_X2_goes l (k := 1) (by decide) _) (cwV 1 hts gX2_learn_X2_goes rfl rfl rfl (by decide +kernel) ⟨Nat.le_of_ble_eq_true rfl, Nat.le_of_ble_eq_true rfl⟩) (pV hP hK hD hS hA hX (va_recv hK hP (ci := 2) (q0 := 0) rfl rfl)) rfl rfl hl.1 rfl (lv_room (Nat.le_of_ble_eq_true rfl)) dX2_learn_25 ⟨Nat.le_of_ble_eq_true rfl, Nat.le_of_ble_eq_true rfl⟩) hD hS hA (fun r w'  H locs hp hP hD hS => ?_)
    obtain ⟨hr9, rfl⟩ := hp
    obtain rfl : r = nI 0 := hr9
    refine r_if_ne (tgt := 33) hx hb dX2_learn_28 (by decide) (by decide) (fun c1 => ?_) (fun c1 => ?_)
    · omega
    · refine lv_iconst (v := nI 0) hx hb dX2_learn_31 (by decide) ?_
      exact C_iret hx hb hr hlocks hS hP hK hD (Nat.le_of_ble_eq_true rfl) (Nat.le_of_ble_eq_true rfl) dX2_learn_32 (by rw [show spLearn S p0 p1 = (1, 0, S) from by simp [spLearn, hU]]; exact ⟨_, up2_s _ _ _ _, rfl, fun h => absurd (show (1 : Nat) = 0 from h) (by decide)⟩)
  · have hU := bN_1.mp cA
    refine lv_iload_n hx hb dX2_learn_8 rfl (lv_at hl 2 rfl) ?_
    refine K_i (va_runS (As := [.int p1]) (rest := [.ref (B 0)]) ⟨hx, hb, hml, hown, hts⟩ (c_X2_isAuthor l p1 _) (va_cwS 1 hts gX2_learn_X2_isAuthor rfl rfl rfl (by decide +kernel) ⟨Nat.le_of_ble_eq_true rfl, Nat.le_of_ble_eq_true rfl⟩) (pS hP hK hD hS hA hX) rfl rfl hl.1 rfl (lv_room (Nat.le_of_ble_eq_true rfl)) dX2_learn_9 ⟨Nat.le_of_ble_eq_true rfl, Nat.le_of_ble_eq_true rfl⟩) hD hS hA (fun r w'  H locs hp hP hD hS => ?_)
    obtain ⟨rfl, hw9⟩ := hp
    rw [hw9] at hP hD
    refine r_if_eq (tgt := 24) hx hb dX2_learn_12 (by decide) (Nat.lt_trans (bN_lt _) (by decide)) (fun cB => ?_) (fun cB => ?_)
    · have hV := bN_0.mp cB
      refine lv_iconst (v := nI 1) hx hb dX2_learn_24 (by decide) ?_
      refine K_i (va_runV (As := [.int (nI 1)]) (rest := []) ⟨hx, hb, hml, hown, hts⟩ (c_X2_goes l (k := 1) (by decide) _) (cwV 1 hts gX2_learn_X2_goes rfl rfl rfl (by decide +kernel) ⟨Nat.le_of_ble_eq_true rfl, Nat.le_of_ble_eq_true rfl⟩) (pV hP hK hD hS hA hX (va_recv hK hP (ci := 2) (q0 := 0) rfl rfl)) rfl rfl hl.1 rfl (lv_room (Nat.le_of_ble_eq_true rfl)) dX2_learn_25 ⟨Nat.le_of_ble_eq_true rfl, Nat.le_of_ble_eq_true rfl⟩) hD hS hA (fun r w'  H locs hp hP hD hS => ?_)
      obtain ⟨hr9, rfl⟩ := hp
      obtain rfl : r = nI 0 := hr9
      refine r_if_ne (tgt := 33) hx hb dX2_learn_28 (by decide) (by decide) (fun c2 => ?_) (fun c2 => ?_)
      · omega
      · refine lv_iconst (v := nI 0) hx hb dX2_learn_31 (by decide) ?_
        exact C_iret hx hb hr hlocks hS hP hK hD (Nat.le_of_ble_eq_true rfl) (Nat.le_of_ble_eq_true rfl) dX2_learn_32 (by rw [show spLearn S p0 p1 = (1, 0, S) from by simp [spLearn, hU, hV]]; exact ⟨_, up2_s _ _ _ _, rfl, fun h => absurd (show (1 : Nat) = 0 from h) (by decide)⟩)
    · have hV := bN_1.mp cB
      refine lv_iload_n hx hb dX2_learn_15 rfl (lv_at hl 1 rfl) ?_
      refine lv_iload_n hx hb dX2_learn_16 rfl (lv_at hl 2 rfl) ?_
      refine lv_icmp_eq (tgt := 24) hx hb dX2_learn_17 (by decide) (fun cC => ?_) (fun cC => ?_)
      · refine lv_iconst (v := nI 1) hx hb dX2_learn_24 (by decide) ?_
        refine K_i (va_runV (As := [.int (nI 1)]) (rest := []) ⟨hx, hb, hml, hown, hts⟩ (c_X2_goes l (k := 1) (by decide) _) (cwV 1 hts gX2_learn_X2_goes rfl rfl rfl (by decide +kernel) ⟨Nat.le_of_ble_eq_true rfl, Nat.le_of_ble_eq_true rfl⟩) (pV hP hK hD hS hA hX (va_recv hK hP (ci := 2) (q0 := 0) rfl rfl)) rfl rfl hl.1 rfl (lv_room (Nat.le_of_ble_eq_true rfl)) dX2_learn_25 ⟨Nat.le_of_ble_eq_true rfl, Nat.le_of_ble_eq_true rfl⟩) hD hS hA (fun r w'  H locs hp hP hD hS => ?_)
        obtain ⟨hr9, rfl⟩ := hp
        obtain rfl : r = nI 0 := hr9
        refine r_if_ne (tgt := 33) hx hb dX2_learn_28 (by decide) (by decide) (fun c3 => ?_) (fun c3 => ?_)
        · omega
        · refine lv_iconst (v := nI 0) hx hb dX2_learn_31 (by decide) ?_
          exact C_iret hx hb hr hlocks hS hP hK hD (Nat.le_of_ble_eq_true rfl) (Nat.le_of_ble_eq_true rfl) dX2_learn_32 (by rw [show spLearn S p0 p1 = (1, 0, S) from by simp [spLearn, hU, hV, cC]]; exact ⟨_, up2_s _ _ _ _, rfl, fun h => absurd (show (1 : Nat) = 0 from h) (by decide)⟩)
      · refine lv_iconst (v := nI 0) hx hb dX2_learn_20 (by decide) ?_
        refine lv_goto (tgt := 25) hx hb dX2_learn_21 (by decide) ?_
        refine K_i (va_runV (As := [.int (nI 0)]) (rest := []) ⟨hx, hb, hml, hown, hts⟩ (c_X2_goes l (k := 0) (by decide) _) (cwV 1 hts gX2_learn_X2_goes rfl rfl rfl (by decide +kernel) ⟨Nat.le_of_ble_eq_true rfl, Nat.le_of_ble_eq_true rfl⟩) (pV hP hK hD hS hA hX (va_recv hK hP (ci := 2) (q0 := 0) rfl rfl)) rfl rfl hl.1 rfl (lv_room (Nat.le_of_ble_eq_true rfl)) dX2_learn_25 ⟨Nat.le_of_ble_eq_true rfl, Nat.le_of_ble_eq_true rfl⟩) hD hS hA (fun r w'  H locs hp hP hD hS => ?_)
        obtain ⟨hr9, rfl⟩ := hp
        obtain rfl : r = nI 1 := hr9
        refine r_if_ne (tgt := 33) hx hb dX2_learn_28 (by decide) (by decide) (fun c4 => ?_) (fun c4 => ?_)
        · obtain ⟨a, ha, rfl⟩ := isA_n hU
          obtain ⟨f, hf, rfl⟩ := isA_n hV
          have hn60 := hI.R.1
          have ea := aN_n (show a < 2 ^ 31 by omega)
          have ef := aN_n (show f < 2 ^ 31 by omega)
          have haf : a ≠ f := fun e => cC (by rw [e])
          have h5 := hI.R.2.2.2.2.2.2.2.1
          have h6 := hI.R.2.2.2.2.2.2.2.2.1
          have h7 := hI.R.2.2.2.2.2.2.2.2.2.1
          have h8 := hI.R.2.2.2.2.2.2.2.2.2.2.1
          refine lv_iconst (v := nI 0) hx hb dX2_learn_33 (by decide) ?_
          refine lv_istore_n (lv' := [(3, .int (nI 0)), (0, .ref (B 0)), (1, .int (nI a)), (2, .int (nI f))]) hx hb dX2_learn_34 rfl hl (by decide) rfl (fun ls hl => ?_)
          refine lv_iconst (v := nI 0) hx hb dX2_learn_35 (by decide) ?_
          refine lv_istore (lv' := [(4, .int (nI 0)), (3, .int (nI 0)), (0, .ref (B 0)), (1, .int (nI a)), (2, .int (nI f))]) hx hb dX2_learn_36 hl (by decide) rfl (fun ls hl => ?_)
          have loop : ∀ (q j : Nat) (Sj : Nat → Nat → Nat) (H : Heap) (locs : List Loc) (ls : Array Slot), j + q = S 0 0 + 1 → j ≤ S 0 0 → Sj = lrP S a f (fun i => decide (i < j)) → va_P D vwCl (MW cy B Sj (up2 T 0 2 0) Y) H → va_D A (MW cy B Sj (up2 T 0 2 0) Y) → va_S A s.heap H locs → lv_has ls 7 [(4, .int (nI j)), (3, .int (nI ((List.range j).countP (nwB S a f)))), (0, .ref (B 0)), (1, .int (nI a)), (2, .int (nI f))] → W p l e ({ frames := 3, cells := 0, slots := 0, locals := 54 } : Room) s m ([.ref (B 0), .int (nI a), .int (nI f)] : List Value).toArray below meth c H locs 0 0 (MQ below (va_Qi (fun r w' => ∃ T' : Nat → Nat → Nat, T' 0 2 = (spLearn S (nI a) (nI f)).1 ∧ w' = MW cy B (spLearn S (nI a) (nI f)).2.2 T' Y ∧ ((spLearn S (nI a) (nI f)).1 = 0 → r = (spLearn S (nI a) (nI f)).2.1)) (fun w' t => wB D cy A w' t) A) ([.ref (B 0), .int (nI a), .int (nI f)] : List Value).toArray s 0 0 A) (F0 m 38 ls []) := by
            intro q
            induction q with
            | zero => intro j Sj H locs ls hq; omega
            | succ q ih =>
              intro j Sj H locs ls hq hj hSj hP hD hS hl
              have e0 : Sj 0 = S 0 := by rw [hSj]; rfl
              have e8 : Sj 8 = S 8 := by rw [hSj]; rfl
              refine lv_iload hx hb dX2_learn_38 (lv_at hl 0 rfl) ?_
              refine lv_aload_n hx hb dX2_learn_40 rfl (lv_at hl 2 rfl) ?_
              refine va_get (D := D) (ci := 2) (v := .int (nI (Sj 0 0))) (C := RX2) (T := TX2) (N := 19) hx hb hts hiX2 hown hK hP (0) rfl rfl 0 (by decide) (hts (.fieldLink RX2 59 "CoauthorTextModel" "signs" "I") (by decide +kernel)) (fun _ h9 => h9) rfl dX2_learn_41 ?_
              refine lv_topi (fun y9 ey9 => ?_)
              obtain rfl : y9 = nI (S 0 0) := ey9.trans (by rw [e0])
              refine r_icmp_ge (tgt := 170) hx hb dX2_learn_44 (by decide) (by omega) (by omega) (fun c5 => ?_) (fun c5 => ?_)
              · have ej : j = S 0 0 := by omega
                refine lv_aload_n hx hb dX2_learn_170 rfl (lv_at hl 2 rfl) ?_
                refine va_get (D := D) (ci := 2) (v := .ref (B 8)) (C := RX2) (T := TX2) (N := 19) hx hb hts hiX2 hown hK hP (0) rfl rfl 8 (by decide) (hts (.fieldLink RX2 32 "CoauthorTextModel" "clocks" "[I") (by decide +kernel)) (fun _ h9 => h9) rfl dX2_learn_171 ?_
                refine lv_iload_n hx hb dX2_learn_174 rfl (lv_at hl 3 rfl) ?_
                refine lv_aload_n hx hb dX2_learn_175 rfl (lv_at hl 2 rfl) ?_
                refine va_get (D := D) (ci := 2) (v := .ref (B 8)) (C := RX2) (T := TX2) (N := 19) hx hb hts hiX2 hown hK hP (0) rfl rfl 8 (by decide) (hts (.fieldLink RX2 32 "CoauthorTextModel" "clocks" "[I") (by decide +kernel)) (fun _ h9 => h9) rfl dX2_learn_176 ?_
                refine lv_iload_n hx hb dX2_learn_179 rfl (lv_at hl 4 rfl) ?_
                refine r_iald hx hb hK hP (8) rfl (by omega) (by decide) dX2_learn_180 ?_
                refine lv_aload_n hx hb dX2_learn_181 rfl (lv_at hl 2 rfl) ?_
                refine va_get (D := D) (ci := 2) (v := .ref (B 8)) (C := RX2) (T := TX2) (N := 19) hx hb hts hiX2 hown hK hP (0) rfl rfl 8 (by decide) (hts (.fieldLink RX2 32 "CoauthorTextModel" "clocks" "[I") (by decide +kernel)) (fun _ h9 => h9) rfl dX2_learn_182 ?_
                refine lv_iload_n hx hb dX2_learn_185 rfl (lv_at hl 3 rfl) ?_
                refine r_iald hx hb hK hP (8) rfl (by omega) (by decide) dX2_learn_186 ?_
                refine r_icmp_le (tgt := 199) hx hb dX2_learn_187 (by decide) (by rw [e8]; have := h8 f; omega) (by rw [e8]; have := h8 a; omega) (fun cM => ?_) (fun cM => ?_)
                · refine lv_aload_n hx hb dX2_learn_199 rfl (lv_at hl 2 rfl) ?_
                  refine va_get (D := D) (ci := 2) (v := .ref (B 8)) (C := RX2) (T := TX2) (N := 19) hx hb hts hiX2 hown hK hP (0) rfl rfl 8 (by decide) (hts (.fieldLink RX2 32 "CoauthorTextModel" "clocks" "[I") (by decide +kernel)) (fun _ h9 => h9) rfl dX2_learn_200 ?_
                  refine lv_iload_n hx hb dX2_learn_203 rfl (lv_at hl 3 rfl) ?_
                  refine r_iald hx hb hK hP (8) rfl (by omega) (by decide) dX2_learn_204 ?_
                  refine r_iast (w' := MW cy B (up2 Sj 8 a (Sj 8 a)) (up2 T 0 2 0) Y) hx hb hK hP hD hS (8) rfl (by omega) (by decide) dX2_learn_205 (by rw [show upd (fun x9 => nI (Sj 8 x9)) a (nI (Sj 8 a)) = fun x9 => nI ((up2 Sj 8 a (Sj 8 a)) 8 x9) from upd_n Sj 8 _ _]; rfl) (fun H locs hP hD hS => ?_)
                  refine lv_iload_n hx hb dX2_learn_206 rfl (lv_at hl 1 rfl) ?_
                  exact C_iret hx hb hr hlocks hS hP hK hD (Nat.le_of_ble_eq_true rfl) (Nat.le_of_ble_eq_true rfl) dX2_learn_207 (by rw [show spLearn S (nI a) (nI f) = (0, nI ((List.range (S 0 0)).countP (nwB S a f)), lrS S a f) from by simp [spLearn, hU, hV, ea, ef, cC]]; exact ⟨_, up2_s _ _ _ _, by rw [lrS, show max (S 8 a) (S 8 f) = Sj 8 a from by rw [e8] at *; omega, ← ej, ← hSj], fun _ => by rw [ej]⟩)
                · refine lv_aload_n hx hb dX2_learn_190 rfl (lv_at hl 2 rfl) ?_
                  refine va_get (D := D) (ci := 2) (v := .ref (B 8)) (C := RX2) (T := TX2) (N := 19) hx hb hts hiX2 hown hK hP (0) rfl rfl 8 (by decide) (hts (.fieldLink RX2 32 "CoauthorTextModel" "clocks" "[I") (by decide +kernel)) (fun _ h9 => h9) rfl dX2_learn_191 ?_
                  refine lv_iload_n hx hb dX2_learn_194 rfl (lv_at hl 4 rfl) ?_
                  refine r_iald hx hb hK hP (8) rfl (by omega) (by decide) dX2_learn_195 ?_
                  refine lv_goto (tgt := 205) hx hb dX2_learn_196 (by decide) ?_
                  refine r_iast (w' := MW cy B (up2 Sj 8 a (Sj 8 f)) (up2 T 0 2 0) Y) hx hb hK hP hD hS (8) rfl (by omega) (by decide) dX2_learn_205 (by rw [show upd (fun x9 => nI (Sj 8 x9)) a (nI (Sj 8 f)) = fun x9 => nI ((up2 Sj 8 a (Sj 8 f)) 8 x9) from upd_n Sj 8 _ _]; rfl) (fun H locs hP hD hS => ?_)
                  refine lv_iload_n hx hb dX2_learn_206 rfl (lv_at hl 1 rfl) ?_
                  exact C_iret hx hb hr hlocks hS hP hK hD (Nat.le_of_ble_eq_true rfl) (Nat.le_of_ble_eq_true rfl) dX2_learn_207 (by rw [show spLearn S (nI a) (nI f) = (0, nI ((List.range (S 0 0)).countP (nwB S a f)), lrS S a f) from by simp [spLearn, hU, hV, ea, ef, cC]]; exact ⟨_, up2_s _ _ _ _, by rw [lrS, show max (S 8 a) (S 8 f) = Sj 8 f from by rw [e8] at *; omega, ← ej, ← hSj], fun _ => by rw [ej]⟩)
              · have hj60 : j < 60 := by omega
                have i5 : Sj 5 (60 * f + j) = S 5 (60 * f + j) := by rw [hSj]; exact lr_its haf hj60 5
                have i6 : Sj 6 (60 * f + j) = S 6 (60 * f + j) := by rw [hSj]; exact lr_its haf hj60 6
                have i7 : Sj 7 (60 * f + j) = S 7 (60 * f + j) := by rw [hSj]; exact lr_its haf hj60 7
                have m5 : Sj 5 (60 * a + j) = S 5 (60 * a + j) := by rw [hSj]; exact lr_mine (by simp) 5
                have m7 : Sj 7 (60 * a + j) = S 7 (60 * a + j) := by rw [hSj]; exact lr_mine (by simp) 7
                have g5 := h5 (60 * f + j)
                have g5a := h5 (60 * a + j)
                have g7 := h7 (60 * f + j)
                have g7a := h7 (60 * a + j)
                refine lv_iload_n hx hb dX2_learn_47 rfl (lv_at hl 3 rfl) ?_
                refine lv_iload hx hb dX2_learn_48 (lv_at hl 0 rfl) ?_
                refine K_i (va_runS (As := [.int (nI a), .int (nI j)]) (rest := []) ⟨hx, hb, hml, hown, hts⟩ (c_X2_at l a j _) (va_cwS 2 hts gX2_learn_X2_at rfl rfl rfl (by decide +kernel) ⟨Nat.le_of_ble_eq_true rfl, Nat.le_of_ble_eq_true rfl⟩) (pS hP hK hD hS hA hX) rfl rfl hl.1 rfl (lv_room (Nat.le_of_ble_eq_true rfl)) dX2_learn_50 ⟨Nat.le_of_ble_eq_true rfl, Nat.le_of_ble_eq_true rfl⟩) hD hS hA (fun r w'  H locs hp hP hD hS => ?_)
                obtain ⟨rfl, hw9⟩ := hp
                rw [hw9] at hP hD
                refine lv_istore (lv' := [(5, .int (nI (60 * a + j))), (4, .int (nI j)), (3, .int (nI ((List.range j).countP (nwB S a f)))), (0, .ref (B 0)), (1, .int (nI a)), (2, .int (nI f))]) hx hb dX2_learn_53 hl (by decide) rfl (fun ls hl => ?_)
                refine lv_iload_n hx hb dX2_learn_55 rfl (lv_at hl 5 rfl) ?_
                refine lv_iload hx hb dX2_learn_56 (lv_at hl 1 rfl) ?_
                refine K_i (va_runS (As := [.int (nI f), .int (nI j)]) (rest := []) ⟨hx, hb, hml, hown, hts⟩ (c_X2_at l f j _) (va_cwS 2 hts gX2_learn_X2_at rfl rfl rfl (by decide +kernel) ⟨Nat.le_of_ble_eq_true rfl, Nat.le_of_ble_eq_true rfl⟩) (pS hP hK hD hS hA hX) rfl rfl hl.1 rfl (lv_room (Nat.le_of_ble_eq_true rfl)) dX2_learn_58 ⟨Nat.le_of_ble_eq_true rfl, Nat.le_of_ble_eq_true rfl⟩) hD hS hA (fun r w'  H locs hp hP hD hS => ?_)
                obtain ⟨rfl, hw9⟩ := hp
                rw [hw9] at hP hD
                refine lv_istore (lv' := [(6, .int (nI (60 * f + j))), (5, .int (nI (60 * a + j))), (4, .int (nI j)), (3, .int (nI ((List.range j).countP (nwB S a f)))), (0, .ref (B 0)), (1, .int (nI a)), (2, .int (nI f))]) hx hb dX2_learn_61 hl (by decide) rfl (fun ls hl => ?_)
                refine lv_iload_n hx hb dX2_learn_63 rfl (lv_at hl 3 rfl) ?_
                refine lv_aload_n hx hb dX2_learn_64 rfl (lv_at hl 4 rfl) ?_
                refine va_get (D := D) (ci := 2) (v := .ref (B 5)) (C := RX2) (T := TX2) (N := 19) hx hb hts hiX2 hown hK hP (0) rfl rfl 5 (by decide) (hts (.fieldLink RX2 22 "CoauthorTextModel" "knows" "[Z") (by decide +kernel)) (fun _ h9 => h9) rfl dX2_learn_65 ?_
                refine lv_iload hx hb dX2_learn_68 (lv_at hl 0 rfl) ?_
                refine r_zald hx hb hK hP (5) rfl (by omega) (by decide) dX2_learn_70 ?_
                have join : ∀ (H : Heap) (locs : List Loc) (ls : Array Slot), va_P D vwCl (MW cy B Sj (up2 T 0 2 0) Y) H → va_D A (MW cy B Sj (up2 T 0 2 0) Y) → va_S A s.heap H locs → lv_has ls 7 [(3, .int (nI ((List.range (j + 1)).countP (nwB S a f)))), (6, .int (nI (60 * f + j))), (5, .int (nI (60 * a + j))), (4, .int (nI j)), (0, .ref (B 0)), (1, .int (nI a)), (2, .int (nI f))] → W p l e ({ frames := 3, cells := 0, slots := 0, locals := 54 } : Room) s m ([.ref (B 0), .int (nI a), .int (nI f)] : List Value).toArray below meth c H locs 0 0 (MQ below (va_Qi (fun r w' => ∃ T' : Nat → Nat → Nat, T' 0 2 = (spLearn S (nI a) (nI f)).1 ∧ w' = MW cy B (spLearn S (nI a) (nI f)).2.2 T' Y ∧ ((spLearn S (nI a) (nI f)).1 = 0 → r = (spLearn S (nI a) (nI f)).2.1)) (fun w' t => wB D cy A w' t) A) ([.ref (B 0), .int (nI a), .int (nI f)] : List Value).toArray s 0 0 A) (F0 m 91 ls []) := by
                  intro H locs ls hP hD hS hl
                  refine lv_aload_n hx hb dX2_learn_91 rfl (lv_at hl 4 rfl) ?_
                  refine va_get (D := D) (ci := 2) (v := .ref (B 5)) (C := RX2) (T := TX2) (N := 19) hx hb hts hiX2 hown hK hP (0) rfl rfl 5 (by decide) (hts (.fieldLink RX2 22 "CoauthorTextModel" "knows" "[Z") (by decide +kernel)) (fun _ h9 => h9) rfl dX2_learn_92 ?_
                  refine lv_iload hx hb dX2_learn_95 (lv_at hl 1 rfl) ?_
                  refine r_zald hx hb hK hP (5) rfl (by omega) (by decide) dX2_learn_97 ?_
                  refine r_if_eq (tgt := 164) hx hb dX2_learn_98 (by decide) (by rw [i5]; omega) (fun cQ => ?_) (fun cQ => ?_)
                  · refine lv_iinc (v := nI (j + 1)) (lv' := [(4, .int (nI (j + 1))), (3, .int (nI ((List.range (j + 1)).countP (nwB S a f)))), (6, .int (nI (60 * f + j))), (5, .int (nI (60 * a + j))), (0, .ref (B 0)), (1, .int (nI a)), (2, .int (nI f))]) hx hb dX2_learn_164 hl (k := 3) rfl (nI_inc _) (by decide) rfl (fun ls hl => ?_)
                    refine lv_goto (tgt := 38) hx hb dX2_learn_167 (by decide) ?_
                    exact ih (j + 1) Sj _ _ ls (by omega) (by omega) (by rw [hSj]; exact (lr_skip (j := j) (fun i hi => lt_dec hi) (by simp only [lrB, Bool.and_eq_false_iff, decide_eq_false_iff_not]; omega)).symm) hP hD hS (lv_sub hl [0, 1, 4, 5, 6] rfl)
                  · refine lv_aload_n hx hb dX2_learn_101 rfl (lv_at hl 4 rfl) ?_
                    refine va_get (D := D) (ci := 2) (v := .ref (B 5)) (C := RX2) (T := TX2) (N := 19) hx hb hts hiX2 hown hK hP (0) rfl rfl 5 (by decide) (hts (.fieldLink RX2 22 "CoauthorTextModel" "knows" "[Z") (by decide +kernel)) (fun _ h9 => h9) rfl dX2_learn_102 ?_
                    refine lv_iload hx hb dX2_learn_105 (lv_at hl 2 rfl) ?_
                    refine r_zald hx hb hK hP (5) rfl (by omega) (by decide) dX2_learn_107 ?_
                    refine r_if_eq (tgt := 128) hx hb dX2_learn_108 (by decide) (by rw [m5]; omega) (fun cR => ?_) (fun cR => ?_)
                    · refine lv_aload_n hx hb dX2_learn_128 rfl (lv_at hl 4 rfl) ?_
                      refine va_get (D := D) (ci := 2) (v := .ref (B 5)) (C := RX2) (T := TX2) (N := 19) hx hb hts hiX2 hown hK hP (0) rfl rfl 5 (by decide) (hts (.fieldLink RX2 22 "CoauthorTextModel" "knows" "[Z") (by decide +kernel)) (fun _ h9 => h9) rfl dX2_learn_129 ?_
                      refine lv_iload hx hb dX2_learn_132 (lv_at hl 2 rfl) ?_
                      refine lv_iconst (v := nI 1) hx hb dX2_learn_134 (by decide) ?_
                      refine r_zast (w' := MW cy B (up2 Sj 5 (60 * a + j) 1) (up2 T 0 2 0) Y) hx hb hK hP hD hS (5) rfl (by omega) (by decide) dX2_learn_135 rfl (by rw [show upd (fun x9 => nI (Sj 5 x9)) (60 * a + j) (nI 1) = fun x9 => nI ((up2 Sj 5 (60 * a + j) 1) 5 x9) from upd_n Sj 5 _ _]; rfl) (fun H locs hP hD hS => ?_)
                      refine lv_aload_n hx hb dX2_learn_136 rfl (lv_at hl 4 rfl) ?_
                      refine va_get (D := D) (ci := 2) (v := .ref (B 6)) (C := RX2) (T := TX2) (N := 19) hx hb hts hiX2 hown hK hP (0) rfl rfl 6 (by decide) (hts (.fieldLink RX2 26 "CoauthorTextModel" "isRemoved" "[Z") (by decide +kernel)) (fun _ h9 => h9) rfl dX2_learn_137 ?_
                      refine lv_iload hx hb dX2_learn_140 (lv_at hl 2 rfl) ?_
                      refine lv_aload_n hx hb dX2_learn_142 rfl (lv_at hl 4 rfl) ?_
                      refine va_get (D := D) (ci := 2) (v := .ref (B 6)) (C := RX2) (T := TX2) (N := 19) hx hb hts hiX2 hown hK hP (0) rfl rfl 6 (by decide) (hts (.fieldLink RX2 26 "CoauthorTextModel" "isRemoved" "[Z") (by decide +kernel)) (fun _ h9 => h9) rfl dX2_learn_143 ?_
                      refine lv_iload hx hb dX2_learn_146 (lv_at hl 1 rfl) ?_
                      refine r_zald hx hb hK hP (6) rfl (by omega) (by decide) dX2_learn_148 ?_
                      refine lv_topi (fun y9 ey9 => ?_)
                      obtain rfl : y9 = nI (S 6 (60 * f + j)) := ey9.trans (by show nI (Sj 6 (60 * f + j)) = _; rw [i6])
                      refine r_zast (w' := MW cy B (up2 (up2 Sj 5 (60 * a + j) 1) 6 (60 * a + j) (S 6 (60 * f + j))) (up2 T 0 2 0) Y) hx hb hK hP hD hS (6) rfl (by omega) (by decide) dX2_learn_149 (nar_b (h6 (60 * f + j))) (by rw [show upd (fun x9 => nI ((up2 Sj 5 (60 * a + j) 1) 6 x9)) (60 * a + j) (nI (S 6 (60 * f + j))) = fun x9 => nI ((up2 (up2 Sj 5 (60 * a + j) 1) 6 (60 * a + j) (S 6 (60 * f + j))) 6 x9) from upd_n (up2 Sj 5 (60 * a + j) 1) 6 _ _]; rfl) (fun H locs hP hD hS => ?_)
                      refine lv_aload_n hx hb dX2_learn_150 rfl (lv_at hl 4 rfl) ?_
                      refine va_get (D := D) (ci := 2) (v := .ref (B 7)) (C := RX2) (T := TX2) (N := 19) hx hb hts hiX2 hown hK hP (0) rfl rfl 7 (by decide) (hts (.fieldLink RX2 29 "CoauthorTextModel" "stamps" "[I") (by decide +kernel)) (fun _ h9 => h9) rfl dX2_learn_151 ?_
                      refine lv_iload hx hb dX2_learn_154 (lv_at hl 2 rfl) ?_
                      refine lv_aload_n hx hb dX2_learn_156 rfl (lv_at hl 4 rfl) ?_
                      refine va_get (D := D) (ci := 2) (v := .ref (B 7)) (C := RX2) (T := TX2) (N := 19) hx hb hts hiX2 hown hK hP (0) rfl rfl 7 (by decide) (hts (.fieldLink RX2 29 "CoauthorTextModel" "stamps" "[I") (by decide +kernel)) (fun _ h9 => h9) rfl dX2_learn_157 ?_
                      refine lv_iload hx hb dX2_learn_160 (lv_at hl 1 rfl) ?_
                      refine r_iald hx hb hK hP (7) rfl (by omega) (by decide) dX2_learn_162 ?_
                      refine lv_topi (fun y9 ey9 => ?_)
                      obtain rfl : y9 = nI (S 7 (60 * f + j)) := ey9.trans (by show nI (Sj 7 (60 * f + j)) = _; rw [i7])
                      refine r_iast (w' := MW cy B (up2 (up2 (up2 Sj 5 (60 * a + j) 1) 6 (60 * a + j) (S 6 (60 * f + j))) 7 (60 * a + j) (S 7 (60 * f + j))) (up2 T 0 2 0) Y) hx hb hK hP hD hS (7) rfl (by omega) (by decide) dX2_learn_163 (by rw [show upd (fun x9 => nI ((up2 (up2 Sj 5 (60 * a + j) 1) 6 (60 * a + j) (S 6 (60 * f + j))) 7 x9)) (60 * a + j) (nI (S 7 (60 * f + j))) = fun x9 => nI ((up2 (up2 (up2 Sj 5 (60 * a + j) 1) 6 (60 * a + j) (S 6 (60 * f + j))) 7 (60 * a + j) (S 7 (60 * f + j))) 7 x9) from upd_n (up2 (up2 Sj 5 (60 * a + j) 1) 6 (60 * a + j) (S 6 (60 * f + j))) 7 _ _]; rfl) (fun H locs hP hD hS => ?_)
                      refine lv_iinc (v := nI (j + 1)) (lv' := [(4, .int (nI (j + 1))), (3, .int (nI ((List.range (j + 1)).countP (nwB S a f)))), (6, .int (nI (60 * f + j))), (5, .int (nI (60 * a + j))), (0, .ref (B 0)), (1, .int (nI a)), (2, .int (nI f))]) hx hb dX2_learn_164 hl (k := 3) rfl (nI_inc _) (by decide) rfl (fun ls hl => ?_)
                      refine lv_goto (tgt := 38) hx hb dX2_learn_167 (by decide) ?_
                      exact ih (j + 1) _ _ _ ls (by omega) (by omega) (by rw [hSj]; exact lr_add hj60 (fun i hi => lt_dec hi) (by simp) (by simp only [lrB, Bool.and_eq_true, Bool.or_eq_true, decide_eq_true_eq]; omega)) hP hD hS (lv_sub hl [0, 1, 4, 5, 6] rfl)
                    · refine lv_aload_n hx hb dX2_learn_111 rfl (lv_at hl 4 rfl) ?_
                      refine va_get (D := D) (ci := 2) (v := .ref (B 7)) (C := RX2) (T := TX2) (N := 19) hx hb hts hiX2 hown hK hP (0) rfl rfl 7 (by decide) (hts (.fieldLink RX2 29 "CoauthorTextModel" "stamps" "[I") (by decide +kernel)) (fun _ h9 => h9) rfl dX2_learn_112 ?_
                      refine lv_iload hx hb dX2_learn_115 (lv_at hl 1 rfl) ?_
                      refine r_iald hx hb hK hP (7) rfl (by omega) (by decide) dX2_learn_117 ?_
                      refine lv_aload_n hx hb dX2_learn_118 rfl (lv_at hl 4 rfl) ?_
                      refine va_get (D := D) (ci := 2) (v := .ref (B 7)) (C := RX2) (T := TX2) (N := 19) hx hb hts hiX2 hown hK hP (0) rfl rfl 7 (by decide) (hts (.fieldLink RX2 29 "CoauthorTextModel" "stamps" "[I") (by decide +kernel)) (fun _ h9 => h9) rfl dX2_learn_119 ?_
                      refine lv_iload hx hb dX2_learn_122 (lv_at hl 2 rfl) ?_
                      refine r_iald hx hb hK hP (7) rfl (by omega) (by decide) dX2_learn_124 ?_
                      refine r_icmp_le (tgt := 164) hx hb dX2_learn_125 (by decide) (by rw [i7]; omega) (by rw [m7]; omega) (fun cS => ?_) (fun cS => ?_)
                      · refine lv_iinc (v := nI (j + 1)) (lv' := [(4, .int (nI (j + 1))), (3, .int (nI ((List.range (j + 1)).countP (nwB S a f)))), (6, .int (nI (60 * f + j))), (5, .int (nI (60 * a + j))), (0, .ref (B 0)), (1, .int (nI a)), (2, .int (nI f))]) hx hb dX2_learn_164 hl (k := 3) rfl (nI_inc _) (by decide) rfl (fun ls hl => ?_)
                        refine lv_goto (tgt := 38) hx hb dX2_learn_167 (by decide) ?_
                        exact ih (j + 1) Sj _ _ ls (by omega) (by omega) (by rw [hSj]; exact (lr_skip (j := j) (fun i hi => lt_dec hi) (by simp only [lrB, Bool.and_eq_false_iff, Bool.or_eq_false_iff, decide_eq_false_iff_not]; omega)).symm) hP hD hS (lv_sub hl [0, 1, 4, 5, 6] rfl)
                      · refine lv_aload_n hx hb dX2_learn_128 rfl (lv_at hl 4 rfl) ?_
                        refine va_get (D := D) (ci := 2) (v := .ref (B 5)) (C := RX2) (T := TX2) (N := 19) hx hb hts hiX2 hown hK hP (0) rfl rfl 5 (by decide) (hts (.fieldLink RX2 22 "CoauthorTextModel" "knows" "[Z") (by decide +kernel)) (fun _ h9 => h9) rfl dX2_learn_129 ?_
                        refine lv_iload hx hb dX2_learn_132 (lv_at hl 2 rfl) ?_
                        refine lv_iconst (v := nI 1) hx hb dX2_learn_134 (by decide) ?_
                        refine r_zast (w' := MW cy B (up2 Sj 5 (60 * a + j) 1) (up2 T 0 2 0) Y) hx hb hK hP hD hS (5) rfl (by omega) (by decide) dX2_learn_135 rfl (by rw [show upd (fun x9 => nI (Sj 5 x9)) (60 * a + j) (nI 1) = fun x9 => nI ((up2 Sj 5 (60 * a + j) 1) 5 x9) from upd_n Sj 5 _ _]; rfl) (fun H locs hP hD hS => ?_)
                        refine lv_aload_n hx hb dX2_learn_136 rfl (lv_at hl 4 rfl) ?_
                        refine va_get (D := D) (ci := 2) (v := .ref (B 6)) (C := RX2) (T := TX2) (N := 19) hx hb hts hiX2 hown hK hP (0) rfl rfl 6 (by decide) (hts (.fieldLink RX2 26 "CoauthorTextModel" "isRemoved" "[Z") (by decide +kernel)) (fun _ h9 => h9) rfl dX2_learn_137 ?_
                        refine lv_iload hx hb dX2_learn_140 (lv_at hl 2 rfl) ?_
                        refine lv_aload_n hx hb dX2_learn_142 rfl (lv_at hl 4 rfl) ?_
                        refine va_get (D := D) (ci := 2) (v := .ref (B 6)) (C := RX2) (T := TX2) (N := 19) hx hb hts hiX2 hown hK hP (0) rfl rfl 6 (by decide) (hts (.fieldLink RX2 26 "CoauthorTextModel" "isRemoved" "[Z") (by decide +kernel)) (fun _ h9 => h9) rfl dX2_learn_143 ?_
                        refine lv_iload hx hb dX2_learn_146 (lv_at hl 1 rfl) ?_
                        refine r_zald hx hb hK hP (6) rfl (by omega) (by decide) dX2_learn_148 ?_
                        refine lv_topi (fun y9 ey9 => ?_)
                        obtain rfl : y9 = nI (S 6 (60 * f + j)) := ey9.trans (by show nI (Sj 6 (60 * f + j)) = _; rw [i6])
                        refine r_zast (w' := MW cy B (up2 (up2 Sj 5 (60 * a + j) 1) 6 (60 * a + j) (S 6 (60 * f + j))) (up2 T 0 2 0) Y) hx hb hK hP hD hS (6) rfl (by omega) (by decide) dX2_learn_149 (nar_b (h6 (60 * f + j))) (by rw [show upd (fun x9 => nI ((up2 Sj 5 (60 * a + j) 1) 6 x9)) (60 * a + j) (nI (S 6 (60 * f + j))) = fun x9 => nI ((up2 (up2 Sj 5 (60 * a + j) 1) 6 (60 * a + j) (S 6 (60 * f + j))) 6 x9) from upd_n (up2 Sj 5 (60 * a + j) 1) 6 _ _]; rfl) (fun H locs hP hD hS => ?_)
                        refine lv_aload_n hx hb dX2_learn_150 rfl (lv_at hl 4 rfl) ?_
                        refine va_get (D := D) (ci := 2) (v := .ref (B 7)) (C := RX2) (T := TX2) (N := 19) hx hb hts hiX2 hown hK hP (0) rfl rfl 7 (by decide) (hts (.fieldLink RX2 29 "CoauthorTextModel" "stamps" "[I") (by decide +kernel)) (fun _ h9 => h9) rfl dX2_learn_151 ?_
                        refine lv_iload hx hb dX2_learn_154 (lv_at hl 2 rfl) ?_
                        refine lv_aload_n hx hb dX2_learn_156 rfl (lv_at hl 4 rfl) ?_
                        refine va_get (D := D) (ci := 2) (v := .ref (B 7)) (C := RX2) (T := TX2) (N := 19) hx hb hts hiX2 hown hK hP (0) rfl rfl 7 (by decide) (hts (.fieldLink RX2 29 "CoauthorTextModel" "stamps" "[I") (by decide +kernel)) (fun _ h9 => h9) rfl dX2_learn_157 ?_
                        refine lv_iload hx hb dX2_learn_160 (lv_at hl 1 rfl) ?_
                        refine r_iald hx hb hK hP (7) rfl (by omega) (by decide) dX2_learn_162 ?_
                        refine lv_topi (fun y9 ey9 => ?_)
                        obtain rfl : y9 = nI (S 7 (60 * f + j)) := ey9.trans (by show nI (Sj 7 (60 * f + j)) = _; rw [i7])
                        refine r_iast (w' := MW cy B (up2 (up2 (up2 Sj 5 (60 * a + j) 1) 6 (60 * a + j) (S 6 (60 * f + j))) 7 (60 * a + j) (S 7 (60 * f + j))) (up2 T 0 2 0) Y) hx hb hK hP hD hS (7) rfl (by omega) (by decide) dX2_learn_163 (by rw [show upd (fun x9 => nI ((up2 (up2 Sj 5 (60 * a + j) 1) 6 (60 * a + j) (S 6 (60 * f + j))) 7 x9)) (60 * a + j) (nI (S 7 (60 * f + j))) = fun x9 => nI ((up2 (up2 (up2 Sj 5 (60 * a + j) 1) 6 (60 * a + j) (S 6 (60 * f + j))) 7 (60 * a + j) (S 7 (60 * f + j))) 7 x9) from upd_n (up2 (up2 Sj 5 (60 * a + j) 1) 6 (60 * a + j) (S 6 (60 * f + j))) 7 _ _]; rfl) (fun H locs hP hD hS => ?_)
                        refine lv_iinc (v := nI (j + 1)) (lv' := [(4, .int (nI (j + 1))), (3, .int (nI ((List.range (j + 1)).countP (nwB S a f)))), (6, .int (nI (60 * f + j))), (5, .int (nI (60 * a + j))), (0, .ref (B 0)), (1, .int (nI a)), (2, .int (nI f))]) hx hb dX2_learn_164 hl (k := 3) rfl (nI_inc _) (by decide) rfl (fun ls hl => ?_)
                        refine lv_goto (tgt := 38) hx hb dX2_learn_167 (by decide) ?_
                        exact ih (j + 1) _ _ _ ls (by omega) (by omega) (by rw [hSj]; exact lr_add hj60 (fun i hi => lt_dec hi) (by simp) (by simp only [lrB, Bool.and_eq_true, Bool.or_eq_true, decide_eq_true_eq]; omega)) hP hD hS (lv_sub hl [0, 1, 4, 5, 6] rfl)
                refine r_if_eq (tgt := 88) hx hb dX2_learn_71 (by decide) (by rw [i5]; omega) (fun cX => ?_) (fun cX => ?_)
                · refine lv_iconst (v := nI 0) hx hb dX2_learn_88 (by decide) ?_
                  refine r_iadd hx hb dX2_learn_89 ?_
                  refine lv_topi (fun y9 ey9 => ?_)
                  obtain rfl : y9 = nI ((List.range (j + 1)).countP (nwB S a f)) := ey9.trans (by rw [cnt_s, show nwB S a f j = false from by simp only [nwB, Bool.and_eq_false_iff, decide_eq_false_iff_not]; omega]; rfl)
                  refine lv_istore_n (lv' := [(3, .int (nI ((List.range (j + 1)).countP (nwB S a f)))), (6, .int (nI (60 * f + j))), (5, .int (nI (60 * a + j))), (4, .int (nI j)), (0, .ref (B 0)), (1, .int (nI a)), (2, .int (nI f))]) hx hb dX2_learn_90 rfl hl (by decide) rfl (fun ls hl => ?_)
                  exact join _ _ ls hP hD hS (lv_sub hl [0, 1, 2, 3, 4, 5, 6] rfl)
                · refine lv_aload_n hx hb dX2_learn_74 rfl (lv_at hl 4 rfl) ?_
                  refine va_get (D := D) (ci := 2) (v := .ref (B 5)) (C := RX2) (T := TX2) (N := 19) hx hb hts hiX2 hown hK hP (0) rfl rfl 5 (by decide) (hts (.fieldLink RX2 22 "CoauthorTextModel" "knows" "[Z") (by decide +kernel)) (fun _ h9 => h9) rfl dX2_learn_75 ?_
                  refine lv_iload hx hb dX2_learn_78 (lv_at hl 1 rfl) ?_
                  refine r_zald hx hb hK hP (5) rfl (by omega) (by decide) dX2_learn_80 ?_
                  refine r_if_ne (tgt := 88) hx hb dX2_learn_81 (by decide) (by rw [m5]; omega) (fun cY => ?_) (fun cY => ?_)
                  · refine lv_iconst (v := nI 0) hx hb dX2_learn_88 (by decide) ?_
                    refine r_iadd hx hb dX2_learn_89 ?_
                    refine lv_topi (fun y9 ey9 => ?_)
                    obtain rfl : y9 = nI ((List.range (j + 1)).countP (nwB S a f)) := ey9.trans (by rw [cnt_s, show nwB S a f j = false from by simp only [nwB, Bool.and_eq_false_iff, decide_eq_false_iff_not]; omega]; rfl)
                    refine lv_istore_n (lv' := [(3, .int (nI ((List.range (j + 1)).countP (nwB S a f)))), (6, .int (nI (60 * f + j))), (5, .int (nI (60 * a + j))), (4, .int (nI j)), (0, .ref (B 0)), (1, .int (nI a)), (2, .int (nI f))]) hx hb dX2_learn_90 rfl hl (by decide) rfl (fun ls hl => ?_)
                    exact join _ _ ls hP hD hS (lv_sub hl [0, 1, 2, 3, 4, 5, 6] rfl)
                  · refine lv_iconst (v := nI 1) hx hb dX2_learn_84 (by decide) ?_
                    refine lv_goto (tgt := 89) hx hb dX2_learn_85 (by decide) ?_
                    refine r_iadd hx hb dX2_learn_89 ?_
                    refine lv_topi (fun y9 ey9 => ?_)
                    obtain rfl : y9 = nI ((List.range (j + 1)).countP (nwB S a f)) := ey9.trans (by rw [cnt_s, show nwB S a f j = true from by simp only [nwB, Bool.and_eq_true, decide_eq_true_eq]; omega]; rfl)
                    refine lv_istore_n (lv' := [(3, .int (nI ((List.range (j + 1)).countP (nwB S a f)))), (6, .int (nI (60 * f + j))), (5, .int (nI (60 * a + j))), (4, .int (nI j)), (0, .ref (B 0)), (1, .int (nI a)), (2, .int (nI f))]) hx hb dX2_learn_90 rfl hl (by decide) rfl (fun ls hl => ?_)
                    exact join _ _ ls hP hD hS (lv_sub hl [0, 1, 2, 3, 4, 5, 6] rfl)
          exact loop (S 0 0 + 1) 0 S _ _ ls (by omega) (Nat.zero_le _) (lr_0 S a f).symm hP hD hS (lv_sub hl [0, 1, 2, 3, 4] rfl)
        · omega
