/-! ===== the reference: laysText ===== -/
set_option maxHeartbeats 4000000 in
set_option maxRecDepth 100000 in
theorem c_X2_laysText (l : Launch) {D : va_G} {cy : Nat → ClassId} {B : Nat → Nat} {S T : Nat → Nat → Nat} {Y : va_W} (hR : Rng S) (hg : growP S) {a : Nat} (ha : a < 4) {L : List Nat} (hL : layP S a L) : CV l yX2_laysText wsX2_laysText ({ frames := 3, cells := 0, slots := 0, locals := 60 } : Room) D cy [.ref (B 0), .int (nI a)] (MW cy B S T Y) (fun w' => ∃ T' : Nat → Nat → Nat, w' = MW cy B S T' Y ∧ T' 0 2 = T 0 2 ∧ txtP T' (L.filter (visB S a))) 0 0 := by
  refine CV.of (cc := cX2_laysText) (maxL := 3) (ret := none) (by decide) rfl (Nat.le_of_ble_eq_true rfl) ?_
  intro p e s m below meth c A ls E0 hl
  obtain ⟨hx, hb, hml, hown, hts, hr, hlocks, hA, hS, hP, hK, hD, hX⟩ := E0
  have hiX2 : ∀ w ∈ u_ws RX2 TX2 19, w ∈ wsX2_laysText := by decide +kernel
  have hl : lv_has ls 3 [(0, .ref (B 0)), (1, .int (nI a))] := hl
  have hn60 : S 0 0 ≤ 60 := hR.1
  have hlen := layP_len hL
  have h6 : ∀ i, S 6 i < 2 := hR.2.2.2.2.2.2.2.2.1
  refine lv_aload_n hx hb dX2_laysText_0 rfl (lv_at hl 0 rfl) ?_
  refine lv_iconst (v := nI 0) hx hb dX2_laysText_1 (by decide) ?_
  refine r_put (w' := MW cy B S (up2 T 0 0 0) Y) (own := RX2) (C := RX2) (T := TX2) (N := 19) (ci := 2) (q0 := 0) (k := 16) (index := 76) (ty := .int) hx hb hts hiX2 tyX2_ok nmX2 hown hK hP hD hS rfl rfl (by decide) (by decide +kernel) rfl (by decide +kernel) rfl rfl (Nat.le_of_ble_eq_true rfl) dX2_laysText_2 rfl (fun H locs hP hD hS => ?_)
  refine lv_aload_n hx hb dX2_laysText_5 rfl (lv_at hl 0 rfl) ?_
  refine lv_iconst (v := nI 0) hx hb dX2_laysText_6 (by decide) ?_
  obtain ⟨T0, hT0⟩ : ∃ T0, up2 (up2 T 0 0 0) 0 1 0 = T0 := ⟨_, rfl⟩
  refine r_put (w' := MW cy B S T0 Y) (own := RX2) (C := RX2) (T := TX2) (N := 19) (ci := 2) (q0 := 0) (k := 17) (index := 73) (ty := .int) hx hb hts hiX2 tyX2_ok nmX2 hown hK hP hD hS rfl rfl (by decide) (by decide +kernel) rfl (by decide +kernel) rfl rfl (Nat.le_of_ble_eq_true rfl) dX2_laysText_7 (by rw [← hT0]; rfl) (fun H locs hP hD hS => ?_)
  have h00 : T0 0 0 = 0 ∧ T0 0 1 = 0 ∧ T0 0 2 = T 0 2 := by rw [← hT0]; simp [up2]
  refine lv_aload_n hx hb dX2_laysText_10 rfl (lv_at hl 0 rfl) ?_
  refine lv_iload_n hx hb dX2_laysText_11 rfl (lv_at hl 1 rfl) ?_
  refine lv_iconst (v := bI 0) hx hb dX2_laysText_12 (by decide) ?_
  have hk0 : (kidsL S L 0).length ≤ L.length := by rw [kidsL, List.length_reverse]; exact List.length_filter_le _ _
  refine K_v (va_runV (As := [.int (nI a), .int (bI 0)]) (rest := []) ⟨hx, hb, hml, hown, hts⟩ (c_X2_puts l hR ha (b := 0) (by decide) (kids_asc hL) (by omega) _) (cwV 2 hts gX2_laysText_X2_puts rfl rfl rfl (by decide +kernel) ⟨Nat.le_of_ble_eq_true rfl, Nat.le_of_ble_eq_true rfl⟩) (pV hP hK hD hS hA hX (va_recv hK hP (ci := 2) (q0 := 0) rfl rfl)) rfl rfl hl.1 rfl (lv_room (Nat.le_of_ble_eq_true rfl)) dX2_laysText_13 ⟨Nat.le_of_ble_eq_true rfl, Nat.le_of_ble_eq_true rfl⟩) hD hS hA (fun w'  H locs hp hP hD hS => ?_)
  subst hp
  have loop : ∀ (q : Nat) (rp suf : List Nat) (T1 : Nat → Nat → Nat) (H : Heap) (locs : List Loc) (ls : Array Slot), suf.length < q → L = rp.reverse ++ suf → stkP T1 (suf.filter (frP S rp)) → txtP T1 (rp.reverse.filter (visB S a)) → T1 0 2 = T 0 2 → va_P D vwCl (MW cy B S T1 Y) H → va_D A (MW cy B S T1 Y) → va_S A s.heap H locs → lv_has ls 3 [(0, .ref (B 0)), (1, .int (nI a))] → W p l e ({ frames := 3, cells := 0, slots := 0, locals := 60 } : Room) s m ([.ref (B 0), .int (nI a)] : List Value).toArray below meth c H locs 0 0 (MQ below (va_Qv (fun w' => ∃ T' : Nat → Nat → Nat, w' = MW cy B S T' Y ∧ T' 0 2 = T 0 2 ∧ txtP T' (L.filter (visB S a))) (fun w' t => wB D cy A w' t) A) ([.ref (B 0), .int (nI a)] : List Value).toArray s 0 0 A) (F0 m 16 ls []) := by
    intro q
    induction q with
    | zero => intro rp suf T1 H locs ls hq; omega
    | succ q ih =>
      intro rp suf T1 H locs ls hq hsp hstk htx hth hP hD hS hl
      have ho2 : ordP S rp suf := by have := (ord_app _ _ _ (hsp ▸ hL.2.2)).2; simpa using this
      have hsl : suf.length ≤ L.length := by rw [hsp, List.length_append]; omega
      have htop : T1 0 1 ≤ 60 := by rw [hstk.1]; exact Nat.le_trans (List.length_filter_le _ _) (by omega)
      refine lv_aload_n hx hb dX2_laysText_16 rfl (lv_at hl 0 rfl) ?_
      refine va_get (D := D) (ci := 2) (v := .int (nI (T1 0 1))) (C := RX2) (T := TX2) (N := 19) hx hb hts hiX2 hown hK hP (0) rfl rfl 17 (by decide) (hts (.fieldLink RX2 73 "CoauthorTextModel" "top" "I") (by decide +kernel)) (fun _ h9 => h9) rfl dX2_laysText_17 ?_
      refine r_if_le (tgt := 85) hx hb dX2_laysText_20 (by decide) (by omega) (fun c1 => ?_) (fun c1 => ?_)
      · have e0 : suf = [] := fr_head ho2 (List.length_eq_zero_iff.mp (by rw [← hstk.1]; exact c1))
        subst e0
        have e1 : L = rp.reverse := by rw [hsp, List.append_nil]
        exact C_vret hx hb hr hlocks hS hP hK hD (Nat.le_of_ble_eq_true rfl) (Nat.le_of_ble_eq_true rfl) dX2_laysText_85 ⟨T1, rfl, hth, by rw [e1]; exact htx⟩
      · cases suf with
        | nil => have := hstk.1; simp at this; omega
        | cons sg suf =>
          rw [List.filter_cons, if_pos (sees_fr ho2.1)] at hstk
          obtain ⟨p1, p2, p3⟩ := stkP_pop hstk
          have hs60 : sg < 60 := by have := (hL.2.1 sg).mp (by rw [hsp]; exact List.mem_append_right _ List.mem_cons_self); omega
          have hrl : (suf.filter (frP S rp)).length ≤ suf.length := List.length_filter_le _ _
          rw [List.length_cons] at hsl hq
          obtain ⟨T2, hT2⟩ : ∃ T2, up2 T1 0 1 (T1 0 1 - 1) = T2 := ⟨_, rfl⟩
          rw [hT2] at p3
          have q2 : T2 0 0 = T1 0 0 ∧ T2 1 = T1 1 ∧ T2 0 2 = T1 0 2 ∧ T2 2 = T1 2 := by rw [← hT2]; exact ⟨by simp [up2], by funext j; simp [up2], by simp [up2], by funext j; simp [up2]⟩
          have q1 : T2 0 1 = (suf.filter (frP S rp)).length := p3.1
          refine lv_aload_n hx hb dX2_laysText_23 rfl (lv_at hl 0 rfl) ?_
          refine lv_dup hx hb dX2_laysText_24 rfl ?_
          refine va_get (D := D) (ci := 2) (v := .int (nI (T1 0 1))) (C := RX2) (T := TX2) (N := 19) hx hb hts hiX2 hown hK hP (0) rfl rfl 17 (by decide) (hts (.fieldLink RX2 73 "CoauthorTextModel" "top" "I") (by decide +kernel)) (fun _ h9 => h9) rfl dX2_laysText_25 ?_
          refine lv_iconst (v := nI 1) hx hb dX2_laysText_28 (by decide) ?_
          refine r_isub hx hb dX2_laysText_29 (by omega) ?_
          refine r_put (w' := MW cy B S T2 Y) (own := RX2) (C := RX2) (T := TX2) (N := 19) (ci := 2) (q0 := 0) (k := 17) (index := 73) (ty := .int) hx hb hts hiX2 tyX2_ok nmX2 hown hK hP hD hS rfl rfl (by decide) (by decide +kernel) rfl (by decide +kernel) rfl rfl (Nat.le_of_ble_eq_true rfl) dX2_laysText_30 (by rw [← hT2]; rfl) (fun H locs hP hD hS => ?_)
          refine lv_aload_n hx hb dX2_laysText_33 rfl (lv_at hl 0 rfl) ?_
          refine va_get (D := D) (ci := 2) (v := .ref (B 13)) (C := RX2) (T := TX2) (N := 19) hx hb hts hiX2 hown hK hP (0) rfl rfl 15 (by decide) (hts (.fieldLink RX2 48 "CoauthorTextModel" "stack" "[I") (by decide +kernel)) (fun _ h9 => h9) rfl dX2_laysText_34 ?_
          refine lv_aload_n hx hb dX2_laysText_37 rfl (lv_at hl 0 rfl) ?_
          refine va_get (D := D) (ci := 2) (v := .int (nI (T2 0 1))) (C := RX2) (T := TX2) (N := 19) hx hb hts hiX2 hown hK hP (0) rfl rfl 17 (by decide) (hts (.fieldLink RX2 73 "CoauthorTextModel" "top" "I") (by decide +kernel)) (fun _ h9 => h9) rfl dX2_laysText_38 ?_
          refine r_iald hx hb hK hP (13) rfl (by omega) (by decide) dX2_laysText_41 ?_
          refine lv_topi (fun y9 ey9 => ?_)
          obtain rfl : y9 = nI sg := ey9.trans (by show nI (T2 2 (T2 0 1)) = nI sg; rw [q1, q2.2.2.2, p2])
          refine lv_istore_n (lv' := [(2, .int (nI sg)), (0, .ref (B 0)), (1, .int (nI a))]) hx hb dX2_laysText_42 rfl hl (by decide) rfl (fun ls hl => ?_)
          refine lv_aload_n hx hb dX2_laysText_43 rfl (lv_at hl 1 rfl) ?_
          refine va_get (D := D) (ci := 2) (v := .ref (B 6)) (C := RX2) (T := TX2) (N := 19) hx hb hts hiX2 hown hK hP (0) rfl rfl 6 (by decide) (hts (.fieldLink RX2 26 "CoauthorTextModel" "isRemoved" "[Z") (by decide +kernel)) (fun _ h9 => h9) rfl dX2_laysText_44 ?_
          refine lv_iload_n hx hb dX2_laysText_47 rfl (lv_at hl 2 rfl) ?_
          refine lv_iload_n hx hb dX2_laysText_48 rfl (lv_at hl 0 rfl) ?_
          refine K_i (va_runS (As := [.int (nI a), .int (nI sg)]) (rest := [.ref (B 6)]) ⟨hx, hb, hml, hown, hts⟩ (c_X2_at l a sg _) (va_cwS 2 hts gX2_laysText_X2_at rfl rfl rfl (by decide +kernel) ⟨Nat.le_of_ble_eq_true rfl, Nat.le_of_ble_eq_true rfl⟩) (pS hP hK hD hS hA hX) rfl rfl hl.1 rfl (lv_room (Nat.le_of_ble_eq_true rfl)) dX2_laysText_49 ⟨Nat.le_of_ble_eq_true rfl, Nat.le_of_ble_eq_true rfl⟩) hD hS hA (fun r w'  H locs hp hP hD hS => ?_)
          obtain ⟨rfl, hw9⟩ := hp
          rw [hw9] at hP hD
          refine r_zald hx hb hK hP (6) rfl (by omega) (by decide) dX2_laysText_52 ?_
          have join : ∀ (T3 : Nat → Nat → Nat) (H : Heap) (locs : List Loc) (ls : Array Slot), stkP T3 (suf.filter (frP S rp)) → txtP T3 ((sg :: rp).reverse.filter (visB S a)) → T3 0 2 = T 0 2 → va_P D vwCl (MW cy B S T3 Y) H → va_D A (MW cy B S T3 Y) → va_S A s.heap H locs → lv_has ls 3 [(2, .int (nI sg)), (0, .ref (B 0)), (1, .int (nI a))] → W p l e ({ frames := 3, cells := 0, slots := 0, locals := 60 } : Room) s m ([.ref (B 0), .int (nI a)] : List Value).toArray below meth c H locs 0 0 (MQ below (va_Qv (fun w' => ∃ T' : Nat → Nat → Nat, w' = MW cy B S T' Y ∧ T' 0 2 = T 0 2 ∧ txtP T' (L.filter (visB S a))) (fun w' t => wB D cy A w' t) A) ([.ref (B 0), .int (nI a)] : List Value).toArray s 0 0 A) (F0 m 76 ls []) := by
            intro T3 H locs ls h3s h3t h3h hP hD hS hl
            refine lv_aload_n hx hb dX2_laysText_76 rfl (lv_at hl 1 rfl) ?_
            refine lv_iload_n hx hb dX2_laysText_77 rfl (lv_at hl 2 rfl) ?_
            refine lv_iload_n hx hb dX2_laysText_78 rfl (lv_at hl 0 rfl) ?_
            refine lv_topi (fun y9 ey9 => ?_)
            obtain rfl : y9 = bI (sg + 1) := ey9.trans (bI_s sg).symm
            have hstep := stk_step hL hg hsp
            have hlen2 : (kidsL S L (sg + 1)).length + (suf.filter (frP S rp)).length ≤ suf.length := by have := congrArg List.length hstep; rw [List.length_append, List.length_reverse] at this; rw [this]; exact List.length_filter_le _ _
            refine K_v (va_runV (As := [.int (nI a), .int (bI (sg + 1))]) (rest := []) ⟨hx, hb, hml, hown, hts⟩ (c_X2_puts l hR ha (b := sg + 1) (by omega) (kids_asc hL) (by rw [h3s.1]; omega) _) (cwV 2 hts gX2_laysText_X2_puts rfl rfl rfl (by decide +kernel) ⟨Nat.le_of_ble_eq_true rfl, Nat.le_of_ble_eq_true rfl⟩) (pV hP hK hD hS hA hX (va_recv hK hP (ci := 2) (q0 := 0) rfl rfl)) rfl rfl hl.1 rfl (lv_room (Nat.le_of_ble_eq_true rfl)) dX2_laysText_79 ⟨Nat.le_of_ble_eq_true rfl, Nat.le_of_ble_eq_true rfl⟩) hD hS hA (fun w'  H locs hp hP hD hS => ?_)
            subst hp
            refine lv_goto (tgt := 16) hx hb dX2_laysText_82 (by decide) ?_
            obtain ⟨k1, k2, k3, k4, k5⟩ := pushL_keep (kidsL S L (sg + 1)) T3
            exact ih (sg :: rp) suf (pushL T3 (kidsL S L (sg + 1))) _ _ ls (by omega) (by rw [hsp]; simp) (by rw [← hstep]; exact stkP_pushL _ h3s) (txtP_same h3t k2 k4) (by rw [k3, h3h]) hP hD hS (lv_sub hl [1, 2] rfl)
          refine r_if_ne (tgt := 76) hx hb dX2_laysText_53 (by decide) (by have := h6 (60 * a + sg); omega) (fun c2 => ?_) (fun c2 => ?_)
          · exact join T2 _ _ ls p3 (txtP_same (by rw [List.reverse_cons, List.filter_append, List.filter_cons, if_neg (by simp [visB]; omega)]; simpa using htx) q2.1 q2.2.1) (by rw [q2.2.2.1, hth]) hP hD hS hl
          · have htl : T2 0 0 < 60 := by rw [q2.1, htx.1]; have h7 := congrArg List.length hsp; rw [List.length_append, List.length_cons] at h7; have h8 := List.length_filter_le (visB S a) rp.reverse; omega
            refine lv_aload_n hx hb dX2_laysText_56 rfl (lv_at hl 1 rfl) ?_
            refine va_get (D := D) (ci := 2) (v := .ref (B 12)) (C := RX2) (T := TX2) (N := 19) hx hb hts hiX2 hown hK hP (0) rfl rfl 14 (by decide) (hts (.fieldLink RX2 45 "CoauthorTextModel" "text" "[I") (by decide +kernel)) (fun _ h9 => h9) rfl dX2_laysText_57 ?_
            refine lv_aload_n hx hb dX2_laysText_60 rfl (lv_at hl 1 rfl) ?_
            refine va_get (D := D) (ci := 2) (v := .int (nI (T2 0 0))) (C := RX2) (T := TX2) (N := 19) hx hb hts hiX2 hown hK hP (0) rfl rfl 16 (by decide) (hts (.fieldLink RX2 76 "CoauthorTextModel" "length" "I") (by decide +kernel)) (fun _ h9 => h9) rfl dX2_laysText_61 ?_
            refine lv_iload_n hx hb dX2_laysText_64 rfl (lv_at hl 0 rfl) ?_
            refine r_iast (w' := MW cy B S (up2 T2 1 (T2 0 0) sg) Y) hx hb hK hP hD hS (12) rfl (by omega) (by decide) dX2_laysText_65 (by rw [show upd (fun j => nI (T2 1 j)) (T2 0 0) (nI sg) = fun j => nI (up2 T2 1 (T2 0 0) sg 1 j) from upd_n T2 1 _ _]; rfl) (fun H locs hP hD hS => ?_)
            obtain ⟨T3, hT3⟩ : ∃ T3, up2 (up2 T2 1 (T2 0 0) sg) 0 0 (T2 0 0 + 1) = T3 := ⟨_, rfl⟩
            refine lv_aload_n hx hb dX2_laysText_66 rfl (lv_at hl 1 rfl) ?_
            refine lv_dup hx hb dX2_laysText_67 rfl ?_
            refine va_get (D := D) (ci := 2) (v := .int (nI ((up2 T2 1 (T2 0 0) sg) 0 0))) (C := RX2) (T := TX2) (N := 19) hx hb hts hiX2 hown hK hP (0) rfl rfl 16 (by decide) (hts (.fieldLink RX2 76 "CoauthorTextModel" "length" "I") (by decide +kernel)) (fun _ h9 => h9) rfl dX2_laysText_68 ?_
            refine lv_iconst (v := nI 1) hx hb dX2_laysText_71 (by decide) ?_
            refine r_iadd hx hb dX2_laysText_72 ?_
            refine r_put (w' := MW cy B S T3 Y) (own := RX2) (C := RX2) (T := TX2) (N := 19) (ci := 2) (q0 := 0) (k := 16) (index := 76) (ty := .int) hx hb hts hiX2 tyX2_ok nmX2 hown hK hP hD hS rfl rfl (by decide) (by decide +kernel) rfl (by decide +kernel) rfl rfl (Nat.le_of_ble_eq_true rfl) dX2_laysText_73 (by rw [← hT3]; rfl) (fun H locs hP hD hS => ?_)
            have q3 : T3 0 1 = T2 0 1 ∧ T3 2 = T2 2 ∧ T3 0 2 = T2 0 2 := by rw [← hT3]; exact ⟨by simp [up2], by funext j; simp [up2], by simp [up2]⟩
            exact join T3 _ _ ls ⟨by rw [q3.1]; exact p3.1, fun k hk => by rw [q3.2.1]; exact p3.2 k hk⟩ (by rw [List.reverse_cons, List.filter_append, List.filter_cons, if_pos (by simp [visB]; omega), ← hT3]; exact txtP_add (txtP_same htx q2.1 q2.2.1)) (by rw [q3.2.2, q2.2.2.1, hth]) hP hD hS hl
  obtain ⟨k1, k2, k3, k4, k5⟩ := pushL_keep (kidsL S L 0) T0
  exact loop (L.length + 1) [] L (pushL T0 (kidsL S L 0)) _ _ ls (by omega) rfl (by rw [← fr_0]; exact stkP_pushL _ ⟨h00.2.1, fun k hk => absurd hk (Nat.not_lt_zero k)⟩) ⟨by rw [k2, h00.1]; rfl, fun j hj => absurd hj (Nat.not_lt_zero j)⟩ (by rw [k3, h00.2.2]) hP hD hS hl
