/-! ===== the reference: puts ===== -/
theorem bI_toInt {x : Nat} (h : x < 2 ^ 31) : (bI x).toInt = (x : Int) - 1 := by
  cases x with
  | zero => rw [bI_0]; decide
  | succ x => rw [bI_s, nI_toInt (by omega)]; omega
theorem bI_eq {x y : Nat} (hx : x < 2 ^ 31) (hy : y < 2 ^ 31) : bI x = bI y ↔ x = y := by
  refine ⟨fun h => ?_, fun h => by rw [h]⟩
  have := congrArg Int32.toInt h
  rw [bI_toInt hx, bI_toInt hy] at this
  omega
theorem bI_m1 {x : Nat} (hx : x < 2 ^ 31) : bI x = -1 ↔ x = 0 := by
  rw [← bI_0]; exact bI_eq hx (by decide)
theorem bI_le {k x : Nat} (hk : k < 2 ^ 31) (hx : x < 2 ^ 31) : nI k ≤ bI x ↔ k < x := by
  rw [Int32.le_iff_toInt_le, nI_toInt hk, bI_toInt hx]
  omega

set_option maxHeartbeats 4000000 in
set_option maxRecDepth 100000 in
theorem c_X2_puts (l : Launch) {D : va_G} {cy : Nat → ClassId} {B : Nat → Nat} {S T : Nat → Nat → Nat} {Y : va_W} (hR : Rng S) {a b : Nat} (ha : a < 4) (hb9 : b ≤ 60) {cs : List Nat} (hcs : ascP S a b 0 cs) (hrm0 : T 0 1 + cs.length ≤ 60) : CV l yX2_puts wsX2_puts ({ frames := 2, cells := 0, slots := 0, locals := 33 } : Room) D cy [.ref (B 0), .int (nI a), .int (bI b)] (MW cy B S T Y) (fun w' => w' = MW cy B S (pushL T cs) Y) 0 0 := by
  refine CV.of (cc := cX2_puts) (maxL := 8) (ret := none) (by decide) rfl (Nat.le_of_ble_eq_true rfl) ?_
  intro p e s m below meth c A ls E0 hl
  obtain ⟨hx, hb, hml, hown, hts, hr, hlocks, hA, hS, hP, hK, hD, hX⟩ := E0
  have hiX2 : ∀ w ∈ u_ws RX2 TX2 19, w ∈ wsX2_puts := by decide +kernel
  have hl : lv_has ls 8 [(0, .ref (B 0)), (1, .int (nI a)), (2, .int (bI b))] := hl
  refine lv_iconst (v := bI 0) hx hb dX2_puts_0 (by decide) ?_
  refine lv_istore_n (lv' := [(3, .int (bI 0)), (0, .ref (B 0)), (1, .int (nI a)), (2, .int (bI b))]) hx hb dX2_puts_1 rfl hl (by decide) rfl (fun ls hl => ?_)
  refine lv_iconst (v := nI 1) hx hb dX2_puts_2 (by decide) ?_
  refine lv_istore (lv' := [(4, .int (nI 1)), (3, .int (bI 0)), (0, .ref (B 0)), (1, .int (nI a)), (2, .int (bI b))]) hx hb dX2_puts_3 hl (by decide) rfl (fun ls hl => ?_)
  have hn60 : S 0 0 ≤ 60 := hR.1
  have hkk : ∀ i, 4 * S 3 i + S 1 i < 8388608 := fun i => hR.key i
  have h5 : ∀ i, S 5 i < 2 := hR.2.2.2.2.2.2.2.1
  have h4 : ∀ i, S 4 i ≤ 60 := hR.2.2.2.2.2.2.1
  have outer : ∀ (q : Nat) (rest : List Nat) (lk : Nat) (T1 : Nat → Nat → Nat) (H : Heap) (locs : List Loc) (ls : Array Slot), rest.length < q → ascP S a b lk rest → lk < 8388610 → T1 0 1 + rest.length ≤ 60 → pushL T1 rest = pushL T cs → va_P D vwCl (MW cy B S T1 Y) H → va_D A (MW cy B S T1 Y) → va_S A s.heap H locs → lv_has ls 8 [(4, .int (nI 1)), (3, .int (bI lk)), (0, .ref (B 0)), (1, .int (nI a)), (2, .int (bI b))] → W p l e ({ frames := 2, cells := 0, slots := 0, locals := 33 } : Room) s m ([.ref (B 0), .int (nI a), .int (bI b)] : List Value).toArray below meth c H locs 0 0 (MQ below (va_Qv (fun w' => w' = MW cy B S (pushL T cs) Y) (fun w' t => wB D cy A w' t) A) ([.ref (B 0), .int (nI a), .int (bI b)] : List Value).toArray s 0 0 A) (F0 m 5 ls []) := by
    intro q
    induction q with
    | zero => intro rest lk T1 H locs ls hq; omega
    | succ q ih =>
      intro rest lk T1 H locs ls hq hasc hlk hrm hpush hP hD hS hl
      refine lv_iload hx hb dX2_puts_5 (lv_at hl 0 rfl) ?_
      refine r_if_eq (tgt := 157) hx hb dX2_puts_7 (by decide) (by decide) (fun c1 => ?_) (fun c1 => ?_)
      · omega
      · refine lv_iconst (v := bI 0) hx hb dX2_puts_10 (by decide) ?_
        refine lv_istore (lv' := [(5, .int (bI 0)), (4, .int (nI 1)), (3, .int (bI lk)), (0, .ref (B 0)), (1, .int (nI a)), (2, .int (bI b))]) hx hb dX2_puts_11 hl (by decide) rfl (fun ls hl => ?_)
        refine lv_iconst (v := nI 0) hx hb dX2_puts_13 (by decide) ?_
        refine lv_istore (lv' := [(6, .int (nI 0)), (5, .int (bI 0)), (4, .int (nI 1)), (3, .int (bI lk)), (0, .ref (B 0)), (1, .int (nI a)), (2, .int (bI b))]) hx hb dX2_puts_14 hl (by decide) rfl (fun ls hl => ?_)
        have inner : ∀ (k j f : Nat) (H : Heap) (locs : List Loc) (ls : Array Slot), j + k = S 0 0 + 1 → bestP S a b lk j f → f ≤ 60 → j ≤ S 0 0 → va_P D vwCl (MW cy B S T1 Y) H → va_D A (MW cy B S T1 Y) → va_S A s.heap H locs → lv_has ls 8 [(6, .int (nI j)), (5, .int (bI f)), (4, .int (nI 1)), (3, .int (bI lk)), (0, .ref (B 0)), (1, .int (nI a)), (2, .int (bI b))] → W p l e ({ frames := 2, cells := 0, slots := 0, locals := 33 } : Room) s m ([.ref (B 0), .int (nI a), .int (bI b)] : List Value).toArray below meth c H locs 0 0 (MQ below (va_Qv (fun w' => w' = MW cy B S (pushL T cs) Y) (fun w' t => wB D cy A w' t) A) ([.ref (B 0), .int (nI a), .int (bI b)] : List Value).toArray s 0 0 A) (F0 m 16 ls []) := by
          intro k
          induction k with
          | zero =>
            intro j f H locs ls hj hbest hf hjle hP hD hS hl
            omega
          | succ k ihk =>
            intro j f H locs ls hj hbest hf hjle hP hD hS hl
            refine lv_iload hx hb dX2_puts_16 (lv_at hl 0 rfl) ?_
            refine lv_aload_n hx hb dX2_puts_18 rfl (lv_at hl 4 rfl) ?_
            refine va_get (D := D) (ci := 2) (v := .int (nI (S 0 0))) (C := RX2) (T := TX2) (N := 19) hx hb hts hiX2 hown hK hP (0) rfl rfl 0 (by decide) (hts (.fieldLink RX2 59 "CoauthorTextModel" "signs" "I") (by decide +kernel)) (fun _ h9 => h9) rfl dX2_puts_19 ?_
            refine r_icmp_ge (tgt := 108) hx hb dX2_puts_22 (by decide) (by omega) (by omega) (fun c2 => ?_) (fun c2 => ?_)
            · have hjn : j = S 0 0 := by omega
              subst hjn
              refine lv_iload hx hb dX2_puts_108 (lv_at hl 1 rfl) ?_
              refine lv_iconst (v := (-1)) hx hb dX2_puts_110 (by decide) ?_
              refine lv_icmp_eq (tgt := 118) hx hb dX2_puts_111 (by decide) (fun cz => ?_) (fun cz => ?_)
              · rw [bI_m1 (by omega)] at cz
                subst cz
                have hr0 : rest = [] := by
                  cases rest with
                  | nil => rfl
                  | cons c0 r0 => have := (ascP_cons hasc hbest).1; omega
                subst hr0
                refine lv_iconst (v := nI 0) hx hb dX2_puts_118 (by decide) ?_
                refine lv_istore (lv' := [(4, .int (nI 0)), (6, .int (nI (S 0 0))), (5, .int (bI 0)), (3, .int (bI lk)), (0, .ref (B 0)), (1, .int (nI a)), (2, .int (bI b))]) hx hb dX2_puts_119 hl (by decide) rfl (fun ls hl => ?_)
                refine lv_iload hx hb dX2_puts_121 (lv_at hl 0 rfl) ?_
                refine r_if_eq (tgt := 154) hx hb dX2_puts_123 (by decide) (by decide) (fun c3 => ?_) (fun c3 => ?_)
                · refine lv_goto (tgt := 5) hx hb dX2_puts_154 (by decide) ?_
                  refine lv_iload hx hb dX2_puts_5 (lv_at hl 0 rfl) ?_
                  refine r_if_eq (tgt := 157) hx hb dX2_puts_7 (by decide) (by decide) (fun c4 => ?_) (fun c4 => ?_)
                  · exact C_vret hx hb hr hlocks hS hP hK hD (Nat.le_of_ble_eq_true rfl) (Nat.le_of_ble_eq_true rfl) dX2_puts_157 (by rw [← hpush]; rfl)
                  · omega
                · omega
              · rw [bI_m1 (by omega)] at cz
                obtain ⟨c0, r0, rfl⟩ : ∃ c0 r0, rest = c0 :: r0 := by
                  cases rest with
                  | nil => exact absurd (ascP_nil hasc hbest) cz
                  | cons c0 r0 => exact ⟨c0, r0, rfl⟩
                obtain ⟨hf1, hch, hasc2⟩ := ascP_cons hasc hbest
                subst hf1
                rw [bI_s] at hl
                have hc60 : c0 < 60 := Nat.lt_of_lt_of_le hch.1 hn60
                rw [List.length_cons] at hrm hq
                refine lv_iconst (v := nI 1) hx hb dX2_puts_114 (by decide) ?_
                refine lv_goto (tgt := 119) hx hb dX2_puts_115 (by decide) ?_
                refine lv_istore (lv' := [(4, .int (nI 1)), (6, .int (nI (S 0 0))), (5, .int (nI c0)), (3, .int (bI lk)), (0, .ref (B 0)), (1, .int (nI a)), (2, .int (bI b))]) hx hb dX2_puts_119 hl (by decide) rfl (fun ls hl => ?_)
                refine lv_iload hx hb dX2_puts_121 (lv_at hl 0 rfl) ?_
                refine r_if_eq (tgt := 154) hx hb dX2_puts_123 (by decide) (by decide) (fun c5 => ?_) (fun c5 => ?_)
                · omega
                · refine lv_aload_n hx hb dX2_puts_126 rfl (lv_at hl 4 rfl) ?_
                  refine va_get (D := D) (ci := 2) (v := .ref (B 13)) (C := RX2) (T := TX2) (N := 19) hx hb hts hiX2 hown hK hP (0) rfl rfl 15 (by decide) (hts (.fieldLink RX2 48 "CoauthorTextModel" "stack" "[I") (by decide +kernel)) (fun _ h9 => h9) rfl dX2_puts_127 ?_
                  refine lv_aload_n hx hb dX2_puts_130 rfl (lv_at hl 4 rfl) ?_
                  refine va_get (D := D) (ci := 2) (v := .int (nI (T1 0 1))) (C := RX2) (T := TX2) (N := 19) hx hb hts hiX2 hown hK hP (0) rfl rfl 17 (by decide) (hts (.fieldLink RX2 73 "CoauthorTextModel" "top" "I") (by decide +kernel)) (fun _ h9 => h9) rfl dX2_puts_131 ?_
                  refine lv_iload hx hb dX2_puts_134 (lv_at hl 2 rfl) ?_
                  refine r_iast (w' := MW cy B S (up2 T1 2 (T1 0 1) c0) Y) hx hb hK hP hD hS (13) rfl (by omega) (by decide) dX2_puts_136 (by rw [show upd (fun j => nI (T1 2 j)) (T1 0 1) (nI c0) = fun j => nI (up2 T1 2 (T1 0 1) c0 2 j) from upd_n T1 2 _ _]; rfl) (fun H locs hP hD hS => ?_)
                  refine lv_aload_n hx hb dX2_puts_137 rfl (lv_at hl 4 rfl) ?_
                  refine lv_dup hx hb dX2_puts_138 rfl ?_
                  refine va_get (D := D) (ci := 2) (v := .int (nI ((up2 T1 2 (T1 0 1) c0) 0 1))) (C := RX2) (T := TX2) (N := 19) hx hb hts hiX2 hown hK hP (0) rfl rfl 17 (by decide) (hts (.fieldLink RX2 73 "CoauthorTextModel" "top" "I") (by decide +kernel)) (fun _ h9 => h9) rfl dX2_puts_139 ?_
                  refine lv_iconst (v := nI 1) hx hb dX2_puts_142 (by decide) ?_
                  refine r_iadd hx hb dX2_puts_143 ?_
                  refine r_put (w' := MW cy B S (push1 T1 c0) Y) (own := RX2) (C := RX2) (T := TX2) (N := 19) (ci := 2) (q0 := 0) (k := 17) (index := 73) (ty := .int) hx hb hts hiX2 tyX2_ok nmX2 hown hK hP hD hS rfl rfl (by decide) (by decide +kernel) rfl (by decide +kernel) rfl rfl (Nat.le_of_ble_eq_true rfl) dX2_puts_144 rfl (fun H locs hP hD hS => ?_)
                  refine lv_aload_n hx hb dX2_puts_147 rfl (lv_at hl 4 rfl) ?_
                  refine lv_iload hx hb dX2_puts_148 (lv_at hl 2 rfl) ?_
                  refine K_i (va_runV (As := [.int (nI c0)]) (rest := []) ⟨hx, hb, hml, hown, hts⟩ (c_X2_key l (i := c0) hc60 _) (cwV 1 hts gX2_puts_X2_key rfl rfl rfl (by decide +kernel) ⟨Nat.le_of_ble_eq_true rfl, Nat.le_of_ble_eq_true rfl⟩) (pV hP hK hD hS hA hX (va_recv hK hP (ci := 2) (q0 := 0) rfl rfl)) rfl rfl hl.1 rfl (lv_room (Nat.le_of_ble_eq_true rfl)) dX2_puts_150 ⟨Nat.le_of_ble_eq_true rfl, Nat.le_of_ble_eq_true rfl⟩) hD hS hA (fun r w'  H locs hp hP hD hS => ?_)
                  obtain ⟨rfl, rfl⟩ := hp
                  refine lv_istore_n (lv' := [(3, .int (nI (4 * S 3 c0 + S 1 c0))), (4, .int (nI 1)), (6, .int (nI (S 0 0))), (5, .int (nI c0)), (0, .ref (B 0)), (1, .int (nI a)), (2, .int (bI b))]) hx hb dX2_puts_153 rfl hl (by decide) rfl (fun ls hl => ?_)
                  refine lv_goto (tgt := 5) hx hb dX2_puts_154 (by decide) ?_
                  rw [← bI_s (4 * S 3 c0 + S 1 c0)] at hl
                  exact ih r0 (keyS S c0 + 1) (push1 T1 c0) _ _ ls (by omega) hasc2 (by have := hkk c0; unfold keyS; omega) (by rw [push1_top]; omega) hpush hP hD hS (lv_sub hl [1, 0, 4, 5, 6] rfl)
            · refine lv_aload_n hx hb dX2_puts_25 rfl (lv_at hl 4 rfl) ?_
              refine va_get (D := D) (ci := 2) (v := .ref (B 5)) (C := RX2) (T := TX2) (N := 19) hx hb hts hiX2 hown hK hP (0) rfl rfl 5 (by decide) (hts (.fieldLink RX2 22 "CoauthorTextModel" "knows" "[Z") (by decide +kernel)) (fun _ h9 => h9) rfl dX2_puts_26 ?_
              refine lv_iload_n hx hb dX2_puts_29 rfl (lv_at hl 5 rfl) ?_
              refine lv_iload hx hb dX2_puts_30 (lv_at hl 0 rfl) ?_
              refine K_i (va_runS (As := [.int (nI a), .int (nI j)]) (rest := [.ref (B 5)]) ⟨hx, hb, hml, hown, hts⟩ (c_X2_at l a j _) (va_cwS 2 hts gX2_puts_X2_at rfl rfl rfl (by decide +kernel) ⟨Nat.le_of_ble_eq_true rfl, Nat.le_of_ble_eq_true rfl⟩) (pS hP hK hD hS hA hX) rfl rfl hl.1 rfl (lv_room (Nat.le_of_ble_eq_true rfl)) dX2_puts_32 ⟨Nat.le_of_ble_eq_true rfl, Nat.le_of_ble_eq_true rfl⟩) hD hS hA (fun r w'  H locs hp hP hD hS => ?_)
              obtain ⟨rfl, hw9⟩ := hp
              rw [hw9] at hP hD
              refine r_zald hx hb hK hP (5) rfl (by omega) (by decide) dX2_puts_35 ?_
              have no : ¬ (chP S a b j ∧ lk ≤ keyS S j) → ∀ (H : Heap) (locs : List Loc) (ls : Array Slot), va_P D vwCl (MW cy B S T1 Y) H → va_D A (MW cy B S T1 Y) → va_S A s.heap H locs → lv_has ls 8 [(6, .int (nI j)), (5, .int (bI f)), (4, .int (nI 1)), (3, .int (bI lk)), (0, .ref (B 0)), (1, .int (nI a)), (2, .int (bI b))] → W p l e ({ frames := 2, cells := 0, slots := 0, locals := 33 } : Room) s m ([.ref (B 0), .int (nI a), .int (bI b)] : List Value).toArray below meth c H locs 0 0 (MQ below (va_Qv (fun w' => w' = MW cy B S (pushL T cs) Y) (fun w' t => wB D cy A w' t) A) ([.ref (B 0), .int (nI a), .int (bI b)] : List Value).toArray s 0 0 A) (F0 m 65 ls [.int (nI 0)]) := by
                intro hno H locs ls hP hD hS hl
                refine lv_istore (lv' := [(7, .int (nI 0)), (6, .int (nI j)), (5, .int (bI f)), (4, .int (nI 1)), (3, .int (bI lk)), (0, .ref (B 0)), (1, .int (nI a)), (2, .int (bI b))]) hx hb dX2_puts_65 hl (by decide) rfl (fun ls hl => ?_)
                refine lv_iload hx hb dX2_puts_67 (lv_at hl 0 rfl) ?_
                refine r_if_eq (tgt := 98) hx hb dX2_puts_69 (by decide) (by decide) (fun c6 => ?_) (fun c6 => ?_)
                · refine lv_iload hx hb dX2_puts_98 (lv_at hl 2 rfl) ?_
                  refine lv_istore (lv' := [(5, .int (bI f)), (7, .int (nI 0)), (6, .int (nI j)), (4, .int (nI 1)), (3, .int (bI lk)), (0, .ref (B 0)), (1, .int (nI a)), (2, .int (bI b))]) hx hb dX2_puts_100 hl (by decide) rfl (fun ls hl => ?_)
                  refine lv_iinc (v := nI (j + 1)) (lv' := [(6, .int (nI (j + 1))), (5, .int (bI f)), (7, .int (nI 0)), (4, .int (nI 1)), (3, .int (bI lk)), (0, .ref (B 0)), (1, .int (nI a)), (2, .int (bI b))]) hx hb dX2_puts_102 hl (k := 2) rfl (nI_inc _) (by decide) rfl (fun ls hl => ?_)
                  refine lv_goto (tgt := 16) hx hb dX2_puts_105 (by decide) ?_
                  exact ihk (j + 1) f _ _ ls (by omega) (bestP_no hbest hno) hf (by omega) hP hD hS (lv_sub hl [0, 1, 3, 4, 5, 6, 7] rfl)
                · omega
              refine r_if_eq (tgt := 64) hx hb dX2_puts_36 (by decide) (by have := h5 (60 * a + j); omega) (fun c7 => ?_) (fun c7 => ?_)
              · refine lv_iconst (v := nI 0) hx hb dX2_puts_64 (by decide) ?_
                exact no (fun h => by have := h.1.2.1; omega) _ _ ls hP hD hS hl
              · have hkn : S 5 (60 * a + j) = 1 := by have := h5 (60 * a + j); omega
                refine lv_aload_n hx hb dX2_puts_39 rfl (lv_at hl 4 rfl) ?_
                refine va_get (D := D) (ci := 2) (v := .ref (B 4)) (C := RX2) (T := TX2) (N := 19) hx hb hts hiX2 hown hK hP (0) rfl rfl 4 (by decide) (hts (.fieldLink RX2 19 "CoauthorTextModel" "behinds" "[I") (by decide +kernel)) (fun _ h9 => h9) rfl dX2_puts_40 ?_
                refine lv_iload hx hb dX2_puts_43 (lv_at hl 0 rfl) ?_
                refine r_iald hx hb hK hP (4) rfl (by omega) (by decide) dX2_puts_45 ?_
                refine lv_iload_n hx hb dX2_puts_46 rfl (lv_at hl 6 rfl) ?_
                refine lv_icmp_ne (tgt := 64) hx hb dX2_puts_47 (by decide) (fun cb => ?_) (fun cb => ?_)
                · refine lv_iconst (v := nI 0) hx hb dX2_puts_64 (by decide) ?_
                  exact no (fun h => by have := h.1.2.2; rw [bI_eq (by have := h4 j; omega) (by omega)] at cb; exact cb this) _ _ ls hP hD hS hl
                · rw [bI_eq (by have := h4 j; omega) (by omega)] at cb
                  refine lv_aload_n hx hb dX2_puts_50 rfl (lv_at hl 4 rfl) ?_
                  refine lv_iload hx hb dX2_puts_51 (lv_at hl 0 rfl) ?_
                  refine K_i (va_runV (As := [.int (nI j)]) (rest := []) ⟨hx, hb, hml, hown, hts⟩ (c_X2_key l (i := j) (by omega) _) (cwV 1 hts gX2_puts_X2_key rfl rfl rfl (by decide +kernel) ⟨Nat.le_of_ble_eq_true rfl, Nat.le_of_ble_eq_true rfl⟩) (pV hP hK hD hS hA hX (va_recv hK hP (ci := 2) (q0 := 0) rfl rfl)) rfl rfl hl.1 rfl (lv_room (Nat.le_of_ble_eq_true rfl)) dX2_puts_53 ⟨Nat.le_of_ble_eq_true rfl, Nat.le_of_ble_eq_true rfl⟩) hD hS hA (fun r w'  H locs hp hP hD hS => ?_)
                  obtain ⟨rfl, rfl⟩ := hp
                  refine lv_iload_n hx hb dX2_puts_56 rfl (lv_at hl 3 rfl) ?_
                  refine lv_icmp_le (tgt := 64) hx hb dX2_puts_57 (by decide) (fun cl => ?_) (fun cl => ?_)
                  · rw [bI_le (by have := hkk j; omega) (by omega)] at cl
                    refine lv_iconst (v := nI 0) hx hb dX2_puts_64 (by decide) ?_
                    exact no (fun h => by have := h.2; unfold keyS at this; omega) _ _ ls hP hD hS hl
                  · rw [bI_le (by have := hkk j; omega) (by omega)] at cl
                    have hcj : chP S a b j := ⟨by omega, hkn, cb⟩
                    have hlj : lk ≤ keyS S j := by unfold keyS; omega
                    refine lv_iconst (v := nI 1) hx hb dX2_puts_60 (by decide) ?_
                    refine lv_goto (tgt := 65) hx hb dX2_puts_61 (by decide) ?_
                    refine lv_istore (lv' := [(7, .int (nI 1)), (6, .int (nI j)), (5, .int (bI f)), (4, .int (nI 1)), (3, .int (bI lk)), (0, .ref (B 0)), (1, .int (nI a)), (2, .int (bI b))]) hx hb dX2_puts_65 hl (by decide) rfl (fun ls hl => ?_)
                    refine lv_iload hx hb dX2_puts_67 (lv_at hl 0 rfl) ?_
                    refine r_if_eq (tgt := 98) hx hb dX2_puts_69 (by decide) (by decide) (fun c8 => ?_) (fun c8 => ?_)
                    · omega
                    · refine lv_iload hx hb dX2_puts_72 (lv_at hl 2 rfl) ?_
                      refine lv_iconst (v := (-1)) hx hb dX2_puts_74 (by decide) ?_
                      refine lv_icmp_eq (tgt := 93) hx hb dX2_puts_75 (by decide) (fun cf => ?_) (fun cf => ?_)
                      · rw [bI_m1 (by omega)] at cf
                        refine lv_iload hx hb dX2_puts_93 (lv_at hl 1 rfl) ?_
                        refine lv_goto (tgt := 100) hx hb dX2_puts_95 (by decide) ?_
                        refine lv_istore (lv' := [(5, .int (nI j)), (7, .int (nI 1)), (6, .int (nI j)), (4, .int (nI 1)), (3, .int (bI lk)), (0, .ref (B 0)), (1, .int (nI a)), (2, .int (bI b))]) hx hb dX2_puts_100 hl (by decide) rfl (fun ls hl => ?_)
                        refine lv_iinc (v := nI (j + 1)) (lv' := [(6, .int (nI (j + 1))), (5, .int (nI j)), (7, .int (nI 1)), (4, .int (nI 1)), (3, .int (bI lk)), (0, .ref (B 0)), (1, .int (nI a)), (2, .int (bI b))]) hx hb dX2_puts_102 hl (k := 2) rfl (nI_inc _) (by decide) rfl (fun ls hl => ?_)
                        refine lv_goto (tgt := 16) hx hb dX2_puts_105 (by decide) ?_
                        rw [← bI_s j] at hl
                        exact ihk (j + 1) (j + 1) _ _ ls (by omega) (bestP_new hbest hcj hlj (Or.inl cf)) (by omega) (by omega) hP hD hS (lv_sub hl [0, 1, 3, 4, 5, 6, 7] rfl)
                      · rw [bI_m1 (by omega)] at cf
                        obtain ⟨g0, rfl⟩ : ∃ g0, f = g0 + 1 := ⟨f - 1, by omega⟩
                        rw [bI_s] at hl
                        refine lv_aload_n hx hb dX2_puts_78 rfl (lv_at hl 5 rfl) ?_
                        refine lv_iload hx hb dX2_puts_79 (lv_at hl 1 rfl) ?_
                        refine K_i (va_runV (As := [.int (nI j)]) (rest := []) ⟨hx, hb, hml, hown, hts⟩ (c_X2_key l (i := j) (by omega) _) (cwV 1 hts gX2_puts_X2_key rfl rfl rfl (by decide +kernel) ⟨Nat.le_of_ble_eq_true rfl, Nat.le_of_ble_eq_true rfl⟩) (pV hP hK hD hS hA hX (va_recv hK hP (ci := 2) (q0 := 0) rfl rfl)) rfl rfl hl.1 rfl (lv_room (Nat.le_of_ble_eq_true rfl)) dX2_puts_81 ⟨Nat.le_of_ble_eq_true rfl, Nat.le_of_ble_eq_true rfl⟩) hD hS hA (fun r w'  H locs hp hP hD hS => ?_)
                        obtain ⟨rfl, rfl⟩ := hp
                        refine lv_aload_n hx hb dX2_puts_84 rfl (lv_at hl 5 rfl) ?_
                        refine lv_iload hx hb dX2_puts_85 (lv_at hl 2 rfl) ?_
                        refine K_i (va_runV (As := [.int (nI g0)]) (rest := [.int (nI (4 * S 3 j + S 1 j))]) ⟨hx, hb, hml, hown, hts⟩ (c_X2_key l (i := g0) (by omega) _) (cwV 1 hts gX2_puts_X2_key rfl rfl rfl (by decide +kernel) ⟨Nat.le_of_ble_eq_true rfl, Nat.le_of_ble_eq_true rfl⟩) (pV hP hK hD hS hA hX (va_recv hK hP (ci := 2) (q0 := 0) rfl rfl)) rfl rfl hl.1 rfl (lv_room (Nat.le_of_ble_eq_true rfl)) dX2_puts_87 ⟨Nat.le_of_ble_eq_true rfl, Nat.le_of_ble_eq_true rfl⟩) hD hS hA (fun r w'  H locs hp hP hD hS => ?_)
                        obtain ⟨rfl, rfl⟩ := hp
                        refine r_icmp_ge (tgt := 98) hx hb dX2_puts_90 (by decide) (by have := hkk j; omega) (by have := hkk g0; omega) (fun c9 => ?_) (fun c9 => ?_)
                        · refine lv_iload hx hb dX2_puts_98 (lv_at hl 2 rfl) ?_
                          refine lv_istore (lv' := [(5, .int (nI g0)), (7, .int (nI 1)), (6, .int (nI j)), (4, .int (nI 1)), (3, .int (bI lk)), (0, .ref (B 0)), (1, .int (nI a)), (2, .int (bI b))]) hx hb dX2_puts_100 hl (by decide) rfl (fun ls hl => ?_)
                          refine lv_iinc (v := nI (j + 1)) (lv' := [(6, .int (nI (j + 1))), (5, .int (nI g0)), (7, .int (nI 1)), (4, .int (nI 1)), (3, .int (bI lk)), (0, .ref (B 0)), (1, .int (nI a)), (2, .int (bI b))]) hx hb dX2_puts_102 hl (k := 2) rfl (nI_inc _) (by decide) rfl (fun ls hl => ?_)
                          refine lv_goto (tgt := 16) hx hb dX2_puts_105 (by decide) ?_
                          rw [← bI_s g0] at hl
                          exact ihk (j + 1) (g0 + 1) _ _ ls (by omega) (bestP_old hbest (by unfold keyS; omega)) hf (by omega) hP hD hS (lv_sub hl [0, 1, 3, 4, 5, 6, 7] rfl)
                        · refine lv_iload hx hb dX2_puts_93 (lv_at hl 1 rfl) ?_
                          refine lv_goto (tgt := 100) hx hb dX2_puts_95 (by decide) ?_
                          refine lv_istore (lv' := [(5, .int (nI j)), (7, .int (nI 1)), (6, .int (nI j)), (4, .int (nI 1)), (3, .int (bI lk)), (0, .ref (B 0)), (1, .int (nI a)), (2, .int (bI b))]) hx hb dX2_puts_100 hl (by decide) rfl (fun ls hl => ?_)
                          refine lv_iinc (v := nI (j + 1)) (lv' := [(6, .int (nI (j + 1))), (5, .int (nI j)), (7, .int (nI 1)), (4, .int (nI 1)), (3, .int (bI lk)), (0, .ref (B 0)), (1, .int (nI a)), (2, .int (bI b))]) hx hb dX2_puts_102 hl (k := 2) rfl (nI_inc _) (by decide) rfl (fun ls hl => ?_)
                          refine lv_goto (tgt := 16) hx hb dX2_puts_105 (by decide) ?_
                          rw [← bI_s j] at hl
                          exact ihk (j + 1) (j + 1) _ _ ls (by omega) (bestP_new hbest hcj hlj (Or.inr ⟨g0, rfl, by unfold keyS; omega⟩)) (by omega) (by omega) hP hD hS (lv_sub hl [0, 1, 3, 4, 5, 6, 7] rfl)
        exact inner (S 0 0 + 1) 0 0 _ _ ls (by omega) (bestP_0 S a b lk) (by decide) (Nat.zero_le _) hP hD hS (lv_sub hl [0, 1, 2, 3, 4, 5, 6] rfl)
  exact outer (cs.length + 1) cs 0 T _ _ ls (by omega) hcs (by decide) hrm0 rfl hP hD hS (lv_sub hl [0, 1, 2, 3, 4] rfl)
