/-! ===== the class: what only reads, floors, advances ===== -/
theorem Inv.om {S : Nat → Nat → Nat} {O : List Nat} (h : Inv S O) : ∀ i, i ∈ O → i < S 0 0 := fun i hi => (h.2.2.2.2.1 i).mp hi
theorem Inv.ol {S : Nat → Nat → Nat} {O : List Nat} (h : Inv S O) : O.length ≤ 60 := by
  have h2 : O.length ≤ S 0 0 := nd_len _ O h.2.2.2.1 h.om
  have := h.1.1
  omega

set_option maxHeartbeats 4000000 in
set_option maxRecDepth 100000 in
theorem c_X1_signs (l : Launch) {D : va_G} {cy : Nat → ClassId} {G : Nat → Nat} {S : Nat → Nat → Nat} {hd : Option Nat} {nx : Nat → Option Nat} {Y : va_W} : CI l yX1_signs wsX1_signs ({ frames := 1, cells := 0, slots := 0, locals := 12 } : Room) D cy [.ref (G 0)] (CW cy G S hd nx Y) (fun r w' => r = nI (S 0 0) ∧ w' = CW cy G S hd nx Y) 0 0 := by
  refine CI.of (cc := cX1_signs) (maxL := 1) (ret := (some .int)) (by decide) rfl (Nat.le_of_ble_eq_true rfl) ?_
  intro p e s m below meth c A ls E0 hl
  obtain ⟨hx, hb, hml, hown, hts, hr, hlocks, hA, hS, hP, hK, hD, hX⟩ := E0
  have hiX1 : ∀ w ∈ u_ws RX1 TX1 9, w ∈ wsX1_signs := by decide +kernel
  have hl : lv_has ls 1 [(0, .ref (G 0))] := hl
  refine lv_aload_n hx hb dX1_signs_0 rfl (lv_at hl 0 rfl) ?_
  refine va_get (D := D) (ci := 1) (v := .int (nI (S 0 0))) (C := RX1) (T := TX1) (N := 9) hx hb hts hiX1 hown hK hP (0) rfl rfl 1 (by decide) (hts (.fieldLink RX1 15 "CoauthorText" "signCount" "I") (by decide +kernel)) (fun _ h9 => h9) rfl dX1_signs_1 ?_
  exact C_iret hx hb hr hlocks hS hP hK hD (Nat.le_of_ble_eq_true rfl) (Nat.le_of_ble_eq_true rfl) dX1_signs_4 ⟨rfl, rfl⟩

set_option maxHeartbeats 4000000 in
set_option maxRecDepth 100000 in
theorem c_X1_clock (l : Launch) (hlf : l.stackTraces = false) {D : va_G} {cy : Nat → ClassId} {G : Nat → Nat} {S : Nat → Nat → Nat} {hd : Option Nat} {nx : Nat → Option Nat} {Y : va_W} {O : List Nat} (hI : Inv S O) (hO : ChP nx hd O) (p0 : Int32) : TI l yX1_clock wsX1_clock ({ frames := 8, cells := 10, slots := 60, locals := 132 } : Room) D cy [.ref (G 0), .int p0] (CW cy G S hd nx Y) (fun r w' => (spClock S p0).1 = 0 ∧ r = (spClock S p0).2.1 ∧ w' = CW cy G (spClock S p0).2.2 hd nx Y) (fun E => (E = eIAE ∧ (spClock S p0).1 = 1)) 10 60 := by
  refine TI.of (cc := cX1_clock) (maxL := 2) (ret := (some .int)) (by decide) rfl (Nat.le_of_ble_eq_true rfl) ?_
  intro p e s m below meth c A ls E0 hT0 hl
  obtain ⟨hx, hb, hml, hown, hts, hr, hlocks, hA, hS, hP, hK, hD, hX⟩ := E0
  have hiX1 : ∀ w ∈ u_ws RX1 TX1 9, w ∈ wsX1_clock := by decide +kernel
  have hl : lv_has ls 2 [(0, .ref (G 0)), (1, .int p0)] := hl
  refine lv_iload_n hx hb dX1_clock_0 rfl (lv_at hl 1 rfl) ?_
  refine Y_v (vx_runS (As := [.int p0]) (rest := []) ⟨hx, hb, hml, hown, hts⟩ (c_X1_checkAuthor l hlf p0 _) (va_cwS 1 hts gX1_clock_X1_checkAuthor rfl rfl rfl (by decide +kernel) ⟨Nat.le_of_ble_eq_true rfl, Nat.le_of_ble_eq_true rfl⟩) (pS hP hK hD hS hA hX) rfl rfl hl.1 rfl (lv_room (Nat.le_of_ble_eq_true rfl)) dX1_clock_1 ⟨Nat.le_of_ble_eq_true rfl, Nat.le_of_ble_eq_true rfl⟩) hD hS hA (fun E ce q9 H locs hE hP hS ht => ?_) (fun w'  H locs hp hP hD hS => ?_)
  · exact Y_out hT0 hlocks hP hK hD hS ht (⟨hE.1, by simp [spClock, hE.2]⟩) (Nat.le_of_ble_eq_true rfl) (Nat.le_of_ble_eq_true rfl)
  obtain ⟨hU, hw9⟩ := hp
  rw [hw9] at hP hD
  obtain ⟨a, ha, rfl⟩ := isA_n hU
  have ea := aN_n (show a < 2 ^ 31 by omega)
  refine lv_aload_n hx hb dX1_clock_4 rfl (lv_at hl 0 rfl) ?_
  refine va_get (D := D) (ci := 1) (v := .ref (G 2)) (C := RX1) (T := TX1) (N := 9) hx hb hts hiX1 hown hK hP (0) rfl rfl 3 (by decide) (hts (.fieldLink RX1 23 "CoauthorText" "clocks" "[I") (by decide +kernel)) (fun _ h9 => h9) rfl dX1_clock_5 ?_
  refine lv_iload_n hx hb dX1_clock_8 rfl (lv_at hl 1 rfl) ?_
  refine r_iald hx hb hK hP (2) rfl (by omega) (by decide) dX1_clock_9 ?_
  exact vx_ret (C_iret hx hb hr hlocks hS hP hK hD (Nat.le_of_ble_eq_true rfl) (Nat.le_of_ble_eq_true rfl) dX1_clock_10 (by rw [show spClock S (nI a) = (0, nI (S 8 a), S) from by simp [spClock, hU, ea]]; exact ⟨rfl, rfl, rfl⟩))

set_option maxHeartbeats 4000000 in
set_option maxRecDepth 100000 in
theorem c_X1_left (l : Launch) (hlf : l.stackTraces = false) {D : va_G} {cy : Nat → ClassId} {G : Nat → Nat} {S : Nat → Nat → Nat} {hd : Option Nat} {nx : Nat → Option Nat} {Y : va_W} {O : List Nat} (hI : Inv S O) (hO : ChP nx hd O) (p0 : Int32) : TI l yX1_left wsX1_left ({ frames := 8, cells := 10, slots := 60, locals := 132 } : Room) D cy [.ref (G 0), .int p0] (CW cy G S hd nx Y) (fun r w' => (spLeft S p0).1 = 0 ∧ r = (spLeft S p0).2.1 ∧ w' = CW cy G (spLeft S p0).2.2 hd nx Y) (fun E => (E = eIAE ∧ (spLeft S p0).1 = 1)) 10 60 := by
  refine TI.of (cc := cX1_left) (maxL := 2) (ret := (some .int)) (by decide) rfl (Nat.le_of_ble_eq_true rfl) ?_
  intro p e s m below meth c A ls E0 hT0 hl
  obtain ⟨hx, hb, hml, hown, hts, hr, hlocks, hA, hS, hP, hK, hD, hX⟩ := E0
  have hiX1 : ∀ w ∈ u_ws RX1 TX1 9, w ∈ wsX1_left := by decide +kernel
  have hl : lv_has ls 2 [(0, .ref (G 0)), (1, .int p0)] := hl
  refine lv_iload_n hx hb dX1_left_0 rfl (lv_at hl 1 rfl) ?_
  refine Y_v (vx_runS (As := [.int p0]) (rest := []) ⟨hx, hb, hml, hown, hts⟩ (c_X1_checkAuthor l hlf p0 _) (va_cwS 1 hts gX1_left_X1_checkAuthor rfl rfl rfl (by decide +kernel) ⟨Nat.le_of_ble_eq_true rfl, Nat.le_of_ble_eq_true rfl⟩) (pS hP hK hD hS hA hX) rfl rfl hl.1 rfl (lv_room (Nat.le_of_ble_eq_true rfl)) dX1_left_1 ⟨Nat.le_of_ble_eq_true rfl, Nat.le_of_ble_eq_true rfl⟩) hD hS hA (fun E ce q9 H locs hE hP hS ht => ?_) (fun w'  H locs hp hP hD hS => ?_)
  · exact Y_out hT0 hlocks hP hK hD hS ht (⟨hE.1, by simp [spLeft, hE.2]⟩) (Nat.le_of_ble_eq_true rfl) (Nat.le_of_ble_eq_true rfl)
  obtain ⟨hU, hw9⟩ := hp
  rw [hw9] at hP hD
  obtain ⟨a, ha, rfl⟩ := isA_n hU
  have ea := aN_n (show a < 2 ^ 31 by omega)
  refine lv_aload_n hx hb dX1_left_4 rfl (lv_at hl 0 rfl) ?_
  refine va_get (D := D) (ci := 1) (v := .ref (G 4)) (C := RX1) (T := TX1) (N := 9) hx hb hts hiX1 hown hK hP (0) rfl rfl 7 (by decide) (hts (.fieldLink RX1 38 "CoauthorText" "advancesLeft" "[I") (by decide +kernel)) (fun _ h9 => h9) rfl dX1_left_5 ?_
  refine lv_iload_n hx hb dX1_left_8 rfl (lv_at hl 1 rfl) ?_
  refine r_iald hx hb hK hP (4) rfl (by omega) (by decide) dX1_left_9 ?_
  exact vx_ret (C_iret hx hb hr hlocks hS hP hK hD (Nat.le_of_ble_eq_true rfl) (Nat.le_of_ble_eq_true rfl) dX1_left_10 (by rw [show spLeft S (nI a) = (0, nI (S 10 a), S) from by simp [spLeft, hU, ea]]; exact ⟨rfl, rfl, rfl⟩))

set_option maxHeartbeats 4000000 in
set_option maxRecDepth 100000 in
theorem c_X1_paid (l : Launch) (hlf : l.stackTraces = false) {D : va_G} {cy : Nat → ClassId} {G : Nat → Nat} {S : Nat → Nat → Nat} {hd : Option Nat} {nx : Nat → Option Nat} {Y : va_W} {O : List Nat} (hI : Inv S O) (hO : ChP nx hd O) (p0 : Int32) : TL l yX1_paid wsX1_paid ({ frames := 8, cells := 10, slots := 60, locals := 132 } : Room) D cy [.ref (G 0), .int p0] (CW cy G S hd nx Y) (fun r w' => cPaid p0 = 0 ∧ r = lN (S 11 (aN p0)) ∧ w' = CW cy G S hd nx Y) (fun E => (E = eIAE ∧ cPaid p0 = 1)) 10 60 := by
  refine TL.of (cc := cX1_paid) (maxL := 2) (ret := (some .long)) (by decide) rfl (Nat.le_of_ble_eq_true rfl) ?_
  intro p e s m below meth c A ls E0 hT0 hl
  obtain ⟨hx, hb, hml, hown, hts, hr, hlocks, hA, hS, hP, hK, hD, hX⟩ := E0
  have hiX1 : ∀ w ∈ u_ws RX1 TX1 9, w ∈ wsX1_paid := by decide +kernel
  have hl : lv_has ls 2 [(0, .ref (G 0)), (1, .int p0)] := hl
  refine lv_iload_n hx hb dX1_paid_0 rfl (lv_at hl 1 rfl) ?_
  refine Y_v (vx_runS (As := [.int p0]) (rest := []) ⟨hx, hb, hml, hown, hts⟩ (c_X1_checkAuthor l hlf p0 _) (va_cwS 1 hts gX1_paid_X1_checkAuthor rfl rfl rfl (by decide +kernel) ⟨Nat.le_of_ble_eq_true rfl, Nat.le_of_ble_eq_true rfl⟩) (pS hP hK hD hS hA hX) rfl rfl hl.1 rfl (lv_room (Nat.le_of_ble_eq_true rfl)) dX1_paid_1 ⟨Nat.le_of_ble_eq_true rfl, Nat.le_of_ble_eq_true rfl⟩) hD hS hA (fun E ce q9 H locs hE hP hS ht => ?_) (fun w'  H locs hp hP hD hS => ?_)
  · exact Y_out hT0 hlocks hP hK hD hS ht (⟨hE.1, by simp [cPaid, hE.2]⟩) (Nat.le_of_ble_eq_true rfl) (Nat.le_of_ble_eq_true rfl)
  obtain ⟨hU, hw9⟩ := hp
  rw [hw9] at hP hD
  obtain ⟨a, ha, rfl⟩ := isA_n hU
  have ea := aN_n (show a < 2 ^ 31 by omega)
  refine lv_aload_n hx hb dX1_paid_4 rfl (lv_at hl 0 rfl) ?_
  refine va_get (D := D) (ci := 1) (v := .ref (G 5)) (C := RX1) (T := TX1) (N := 9) hx hb hts hiX1 hown hK hP (0) rfl rfl 8 (by decide) (hts (.fieldLink RX1 41 "CoauthorText" "paidBySales" "[J") (by decide +kernel)) (fun _ h9 => h9) rfl dX1_paid_5 ?_
  refine lv_iload_n hx hb dX1_paid_8 rfl (lv_at hl 1 rfl) ?_
  refine r_lald hx hb hK hP (5) rfl (by omega) (by decide) dX1_paid_9 ?_
  exact vx_ret (C_lret hx hb hr hlocks hS hP hK hD (Nat.le_of_ble_eq_true rfl) (Nat.le_of_ble_eq_true rfl) dX1_paid_10 ⟨by simp [cPaid, hU], by rw [ea], rfl⟩)

set_option maxHeartbeats 4000000 in
set_option maxRecDepth 100000 in
theorem c_X1_authorOf (l : Launch) (hlf : l.stackTraces = false) {D : va_G} {cy : Nat → ClassId} {G : Nat → Nat} {S : Nat → Nat → Nat} {hd : Option Nat} {nx : Nat → Option Nat} {Y : va_W} {O : List Nat} (hI : Inv S O) (hO : ChP nx hd O) (p0 : Int32) : TI l yX1_authorOf wsX1_authorOf ({ frames := 7, cells := 10, slots := 60, locals := 112 } : Room) D cy [.ref (G 0), .int p0] (CW cy G S hd nx Y) (fun r w' => (spAuthorOf S p0).1 = 0 ∧ r = (spAuthorOf S p0).2.1 ∧ w' = CW cy G (spAuthorOf S p0).2.2 hd nx Y) (fun E => (E = eIOB ∧ (spAuthorOf S p0).1 = 1)) 10 60 := by
  refine TI.of (cc := cX1_authorOf) (maxL := 2) (ret := (some .int)) (by decide) rfl (Nat.le_of_ble_eq_true rfl) ?_
  intro p e s m below meth c A ls E0 hT0 hl
  obtain ⟨hx, hb, hml, hown, hts, hr, hlocks, hA, hS, hP, hK, hD, hX⟩ := E0
  have hiX0 : ∀ w ∈ u_ws RX0 TX0 8, w ∈ wsX1_authorOf := by decide +kernel
  have hiX1 : ∀ w ∈ u_ws RX1 TX1 9, w ∈ wsX1_authorOf := by decide +kernel
  have hl : lv_has ls 2 [(0, .ref (G 0)), (1, .int p0)] := hl
  refine lv_aload_n hx hb dX1_authorOf_0 rfl (lv_at hl 0 rfl) ?_
  refine lv_iload_n hx hb dX1_authorOf_1 rfl (lv_at hl 1 rfl) ?_
  refine Y_q (vx_runV (As := [.int p0]) (rest := []) ⟨hx, hb, hml, hown, hts⟩ (c_X1_findByNumber l hlf hI.R p0 _) (cwV 1 hts gX1_authorOf_X1_findByNumber rfl rfl rfl (by decide +kernel) ⟨Nat.le_of_ble_eq_true rfl, Nat.le_of_ble_eq_true rfl⟩) (pV hP hK hD hS hA hX (va_recv hK hP (ci := 1) (q0 := 0) rfl rfl)) rfl rfl hl.1 rfl (lv_room (Nat.le_of_ble_eq_true rfl)) dX1_authorOf_2 ⟨Nat.le_of_ble_eq_true rfl, Nat.le_of_ble_eq_true rfl⟩) hD hS hA (fun E ce q9 H locs hE hP hS ht => ?_) (fun r w'  H locs hp hP hD hS => ?_)
  · exact Y_out hT0 hlocks hP hK hD hS ht (⟨hE.1, by simp [spAuthorOf, hE.2]⟩) (Nat.le_of_ble_eq_true rfl) (Nat.le_of_ble_eq_true rfl)
  obtain ⟨⟨i, hi, hvi, rfl⟩, hV, hw9⟩ := hp
  rw [hw9] at hP hD
  subst hvi
  have hn60 := hI.R.1
  have ei := aN_n (show i < 2 ^ 31 by omega)
  refine r_topr (a9 := G (100 + 3 * i)) rfl ?_
  refine va_getN (D := D) (ci := 0) (v := .int (nI (S 1 i))) (C := RX0) (T := TX0) (N := 8) (host := RX1) hx hb hts hiX0 hown hK hP (6 + (20 + i)) (CW_sg hi) rfl 1 (by decide) (va_Nw.use rfl hX.2.2.2.2.2.1.2.2.1) (fun _ h9 => h9) rfl dX1_authorOf_5 ?_
  exact vx_ret (C_iret hx hb hr hlocks hS hP hK hD (Nat.le_of_ble_eq_true rfl) (Nat.le_of_ble_eq_true rfl) dX1_authorOf_8 (by rw [show spAuthorOf S (nI i) = (0, nI (S 1 i), S) from by simp [spAuthorOf, hV, ei]]; exact ⟨rfl, rfl, rfl⟩))

set_option maxHeartbeats 4000000 in
set_option maxRecDepth 100000 in
theorem c_X1_behind (l : Launch) (hlf : l.stackTraces = false) {D : va_G} {cy : Nat → ClassId} {G : Nat → Nat} {S : Nat → Nat → Nat} {hd : Option Nat} {nx : Nat → Option Nat} {Y : va_W} {O : List Nat} (hI : Inv S O) (hO : ChP nx hd O) (p0 : Int32) : TI l yX1_behind wsX1_behind ({ frames := 7, cells := 10, slots := 60, locals := 112 } : Room) D cy [.ref (G 0), .int p0] (CW cy G S hd nx Y) (fun r w' => (spBehind S p0).1 = 0 ∧ r = (spBehind S p0).2.1 ∧ w' = CW cy G (spBehind S p0).2.2 hd nx Y) (fun E => (E = eIOB ∧ (spBehind S p0).1 = 1)) 10 60 := by
  refine TI.of (cc := cX1_behind) (maxL := 3) (ret := (some .int)) (by decide) rfl (Nat.le_of_ble_eq_true rfl) ?_
  intro p e s m below meth c A ls E0 hT0 hl
  obtain ⟨hx, hb, hml, hown, hts, hr, hlocks, hA, hS, hP, hK, hD, hX⟩ := E0
  have hiX0 : ∀ w ∈ u_ws RX0 TX0 8, w ∈ wsX1_behind := by decide +kernel
  have hiX1 : ∀ w ∈ u_ws RX1 TX1 9, w ∈ wsX1_behind := by decide +kernel
  have hl : lv_has ls 3 [(0, .ref (G 0)), (1, .int p0)] := hl
  refine lv_aload_n hx hb dX1_behind_0 rfl (lv_at hl 0 rfl) ?_
  refine lv_iload_n hx hb dX1_behind_1 rfl (lv_at hl 1 rfl) ?_
  refine Y_q (vx_runV (As := [.int p0]) (rest := []) ⟨hx, hb, hml, hown, hts⟩ (c_X1_findByNumber l hlf hI.R p0 _) (cwV 1 hts gX1_behind_X1_findByNumber rfl rfl rfl (by decide +kernel) ⟨Nat.le_of_ble_eq_true rfl, Nat.le_of_ble_eq_true rfl⟩) (pV hP hK hD hS hA hX (va_recv hK hP (ci := 1) (q0 := 0) rfl rfl)) rfl rfl hl.1 rfl (lv_room (Nat.le_of_ble_eq_true rfl)) dX1_behind_2 ⟨Nat.le_of_ble_eq_true rfl, Nat.le_of_ble_eq_true rfl⟩) hD hS hA (fun E ce q9 H locs hE hP hS ht => ?_) (fun r w'  H locs hp hP hD hS => ?_)
  · exact Y_out hT0 hlocks hP hK hD hS ht (⟨hE.1, by simp [spBehind, hE.2]⟩) (Nat.le_of_ble_eq_true rfl) (Nat.le_of_ble_eq_true rfl)
  obtain ⟨⟨i, hi, hvi, rfl⟩, hV, hw9⟩ := hp
  rw [hw9] at hP hD
  subst hvi
  have hn60 := hI.R.1
  have ei := aN_n (show i < 2 ^ 31 by omega)
  refine r_topr (a9 := G (100 + 3 * i)) rfl ?_
  refine va_getN (D := D) (ci := 0) (v := va_rf (if S 4 i = 0 then none else some (G (100 + 3 * (S 4 i - 1))))) (C := RX0) (T := TX0) (N := 8) (host := RX1) hx hb hts hiX0 hown hK hP (6 + (20 + i)) (CW_sg hi) rfl 4 (by decide) (va_Nw.use rfl hX.2.2.2.2.2.1.2.2.2.1) (fun _ h9 => h9) rfl dX1_behind_5 ?_
  have hgr := hI.g i hi
  by_cases hb0 : S 4 i = 0
  · refine r_topn (if_pos hb0) ?_
    refine lv_astore_nN (lv' := [(2, .null), (0, .ref (G 0)), (1, .int (nI i))]) hx hb dX1_behind_8 rfl hl (by decide) rfl (fun ls hl => ?_)
    refine lv_aload_nN hx hb dX1_behind_9 rfl (lv_at hl 0 rfl) ?_
    refine lv_ifnonnullN hx hb dX1_behind_10 ?_
    refine lv_iconst (v := (-1)) hx hb dX1_behind_13 (by decide) ?_
    refine lv_goto (tgt := 21) hx hb dX1_behind_14 (by decide) ?_
    exact vx_ret (C_iret hx hb hr hlocks hS hP hK hD (Nat.le_of_ble_eq_true rfl) (Nat.le_of_ble_eq_true rfl) dX1_behind_21 (by rw [show spBehind S (nI i) = (0, bI (S 4 i), S) from by simp [spBehind, hV, ei]]; exact ⟨rfl, by rw [hb0]; rfl, rfl⟩))
  · obtain ⟨y, ey⟩ : ∃ y, S 4 i = y + 1 := ⟨S 4 i - 1, by omega⟩
    rw [ey] at hgr
    have hy : y < S 0 0 := by omega
    refine r_topr (a9 := G (100 + 3 * y)) (by rw [if_neg hb0, ey, Nat.add_sub_cancel]) ?_
    refine lv_astore_n (lv' := [(2, .ref (G (100 + 3 * y))), (0, .ref (G 0)), (1, .int (nI i))]) hx hb dX1_behind_8 rfl hl (by decide) rfl (fun ls hl => ?_)
    refine lv_aload_n hx hb dX1_behind_9 rfl (lv_at hl 0 rfl) ?_
    refine lv_ifnonnull (tgt := 17) hx hb dX1_behind_10 (by decide) ?_
    refine lv_aload_n hx hb dX1_behind_17 rfl (lv_at hl 0 rfl) ?_
    refine va_getN (D := D) (ci := 0) (v := .int (nI y)) (C := RX0) (T := TX0) (N := 8) (host := RX1) hx hb hts hiX0 hown hK hP (6 + (20 + y)) (CW_sg hy) rfl 0 (by decide) (va_Nw.use rfl hX.2.2.2.2.2.1.2.2.2.2.2) (fun _ h9 => h9) rfl dX1_behind_18 ?_
    exact vx_ret (C_iret hx hb hr hlocks hS hP hK hD (Nat.le_of_ble_eq_true rfl) (Nat.le_of_ble_eq_true rfl) dX1_behind_21 (by rw [show spBehind S (nI i) = (0, bI (S 4 i), S) from by simp [spBehind, hV, ei]]; exact ⟨rfl, by rw [ey, bI_s], rfl⟩))

set_option maxHeartbeats 4000000 in
set_option maxRecDepth 100000 in
theorem c_X1_length (l : Launch) (hlf : l.stackTraces = false) {D : va_G} {cy : Nat → ClassId} {G : Nat → Nat} {S : Nat → Nat → Nat} {hd : Option Nat} {nx : Nat → Option Nat} {Y : va_W} {O : List Nat} (hI : Inv S O) (hO : ChP nx hd O) (p0 : Int32) : TI l yX1_length wsX1_length ({ frames := 8, cells := 10, slots := 60, locals := 132 } : Room) D cy [.ref (G 0), .int p0] (CW cy G S hd nx Y) (fun r w' => (spLength S O p0).1 = 0 ∧ r = (spLength S O p0).2.1 ∧ w' = CW cy G (spLength S O p0).2.2 hd nx Y) (fun E => (E = eIAE ∧ (spLength S O p0).1 = 1)) 10 60 := by
  refine TI.of (cc := cX1_length) (maxL := 2) (ret := (some .int)) (by decide) rfl (Nat.le_of_ble_eq_true rfl) ?_
  intro p e s m below meth c A ls E0 hT0 hl
  obtain ⟨hx, hb, hml, hown, hts, hr, hlocks, hA, hS, hP, hK, hD, hX⟩ := E0
  have hiX0 : ∀ w ∈ u_ws RX0 TX0 8, w ∈ wsX1_length := by decide +kernel
  have hiX1 : ∀ w ∈ u_ws RX1 TX1 9, w ∈ wsX1_length := by decide +kernel
  have hl : lv_has ls 2 [(0, .ref (G 0)), (1, .int p0)] := hl
  refine lv_iload_n hx hb dX1_length_0 rfl (lv_at hl 1 rfl) ?_
  refine Y_v (vx_runS (As := [.int p0]) (rest := []) ⟨hx, hb, hml, hown, hts⟩ (c_X1_checkAuthor l hlf p0 _) (va_cwS 1 hts gX1_length_X1_checkAuthor rfl rfl rfl (by decide +kernel) ⟨Nat.le_of_ble_eq_true rfl, Nat.le_of_ble_eq_true rfl⟩) (pS hP hK hD hS hA hX) rfl rfl hl.1 rfl (lv_room (Nat.le_of_ble_eq_true rfl)) dX1_length_1 ⟨Nat.le_of_ble_eq_true rfl, Nat.le_of_ble_eq_true rfl⟩) hD hS hA (fun E ce q9 H locs hE hP hS ht => ?_) (fun w'  H locs hp hP hD hS => ?_)
  · exact Y_out hT0 hlocks hP hK hD hS ht (⟨hE.1, by simp [spLength, hE.2]⟩) (Nat.le_of_ble_eq_true rfl) (Nat.le_of_ble_eq_true rfl)
  obtain ⟨hU, hw9⟩ := hp
  rw [hw9] at hP hD
  obtain ⟨a, ha, rfl⟩ := isA_n hU
  have ea := aN_n (show a < 2 ^ 31 by omega)
  refine lv_aload_n hx hb dX1_length_4 rfl (lv_at hl 0 rfl) ?_
  refine lv_iload_n hx hb dX1_length_5 rfl (lv_at hl 1 rfl) ?_
  refine lv_null hx hb dX1_length_6 ?_
  refine K_i (va_runV (As := [.int (nI a), .null]) (rest := []) ⟨hx, hb, hml, hown, hts⟩ (c_X1_countAheadOf_none l hI.R hO hI.om hI.ol ha _) (cwV 2 hts gX1_length_X1_countAheadOf rfl rfl rfl (by decide +kernel) ⟨Nat.le_of_ble_eq_true rfl, Nat.le_of_ble_eq_true rfl⟩) (pV hP hK hD hS hA hX (va_recv hK hP (ci := 1) (q0 := 0) rfl rfl)) rfl rfl hl.1 rfl (lv_room (Nat.le_of_ble_eq_true rfl)) dX1_length_7 ⟨Nat.le_of_ble_eq_true rfl, Nat.le_of_ble_eq_true rfl⟩) hD hS hA (fun r w'  H locs hp hP hD hS => ?_)
  obtain ⟨rfl, rfl⟩ := hp
  exact vx_ret (C_iret hx hb hr hlocks hS hP hK hD (Nat.le_of_ble_eq_true rfl) (Nat.le_of_ble_eq_true rfl) dX1_length_10 (by rw [show spLength S O (nI a) = (0, nI (txL S O a).length, S) from by simp [spLength, hU, ea]]; exact ⟨rfl, by rw [cntE_none], rfl⟩))

set_option maxHeartbeats 4000000 in
set_option maxRecDepth 100000 in
theorem c_X1_signAt (l : Launch) (hlf : l.stackTraces = false) {D : va_G} {cy : Nat → ClassId} {G : Nat → Nat} {S : Nat → Nat → Nat} {hd : Option Nat} {nx : Nat → Option Nat} {Y : va_W} {O : List Nat} (hI : Inv S O) (hO : ChP nx hd O) (p0 p1 : Int32) : TI l yX1_signAt wsX1_signAt ({ frames := 8, cells := 10, slots := 60, locals := 132 } : Room) D cy [.ref (G 0), .int p0, .int p1] (CW cy G S hd nx Y) (fun r w' => (spSignAt S O p0 p1).1 = 0 ∧ r = (spSignAt S O p0 p1).2.1 ∧ w' = CW cy G (spSignAt S O p0 p1).2.2 hd nx Y) (fun E => (E = eIAE ∧ (spSignAt S O p0 p1).1 = 1) ∨ (E = eIOB ∧ (spSignAt S O p0 p1).1 = 2)) 10 60 := by
  refine TI.of (cc := cX1_signAt) (maxL := 3) (ret := (some .int)) (by decide) rfl (Nat.le_of_ble_eq_true rfl) ?_
  intro p e s m below meth c A ls E0 hT0 hl
  obtain ⟨hx, hb, hml, hown, hts, hr, hlocks, hA, hS, hP, hK, hD, hX⟩ := E0
  have hiX0 : ∀ w ∈ u_ws RX0 TX0 8, w ∈ wsX1_signAt := by decide +kernel
  have hiX1 : ∀ w ∈ u_ws RX1 TX1 9, w ∈ wsX1_signAt := by decide +kernel
  have hl : lv_has ls 3 [(0, .ref (G 0)), (1, .int p0), (2, .int p1)] := hl
  refine lv_iload_n hx hb dX1_signAt_0 rfl (lv_at hl 1 rfl) ?_
  refine Y_v (vx_runS (As := [.int p0]) (rest := []) ⟨hx, hb, hml, hown, hts⟩ (c_X1_checkAuthor l hlf p0 _) (va_cwS 1 hts gX1_signAt_X1_checkAuthor rfl rfl rfl (by decide +kernel) ⟨Nat.le_of_ble_eq_true rfl, Nat.le_of_ble_eq_true rfl⟩) (pS hP hK hD hS hA hX) rfl rfl hl.1 rfl (lv_room (Nat.le_of_ble_eq_true rfl)) dX1_signAt_1 ⟨Nat.le_of_ble_eq_true rfl, Nat.le_of_ble_eq_true rfl⟩) hD hS hA (fun E ce q9 H locs hE hP hS ht => ?_) (fun w'  H locs hp hP hD hS => ?_)
  · exact Y_out hT0 hlocks hP hK hD hS ht (Or.inl (⟨hE.1, by simp [spSignAt, hE.2]⟩)) (Nat.le_of_ble_eq_true rfl) (Nat.le_of_ble_eq_true rfl)
  obtain ⟨hU, hw9⟩ := hp
  rw [hw9] at hP hD
  obtain ⟨a, ha, rfl⟩ := isA_n hU
  have ea := aN_n (show a < 2 ^ 31 by omega)
  refine lv_aload_n hx hb dX1_signAt_4 rfl (lv_at hl 0 rfl) ?_
  refine lv_iload_n hx hb dX1_signAt_5 rfl (lv_at hl 1 rfl) ?_
  refine lv_iload_n hx hb dX1_signAt_6 rfl (lv_at hl 2 rfl) ?_
  refine Y_q (vx_runV (As := [.int (nI a), .int p1]) (rest := []) ⟨hx, hb, hml, hown, hts⟩ (c_X1_findAtPlace l hlf hI.R hO hI.om hI.ol ha p1 _) (cwV 2 hts gX1_signAt_X1_findAtPlace rfl rfl rfl (by decide +kernel) ⟨Nat.le_of_ble_eq_true rfl, Nat.le_of_ble_eq_true rfl⟩) (pV hP hK hD hS hA hX (va_recv hK hP (ci := 1) (q0 := 0) rfl rfl)) rfl rfl hl.1 rfl (lv_room (Nat.le_of_ble_eq_true rfl)) dX1_signAt_7 ⟨Nat.le_of_ble_eq_true rfl, Nat.le_of_ble_eq_true rfl⟩) hD hS hA (fun E ce q9 H locs hE hP hS ht => ?_) (fun r w'  H locs hp hP hD hS => ?_)
  · exact Y_out hT0 hlocks hP hK hD hS ht (Or.inr (⟨hE.1, by simp [spSignAt, hU, hE.2, ea]⟩)) (Nat.le_of_ble_eq_true rfl) (Nat.le_of_ble_eq_true rfl)
  obtain ⟨hV, rfl, hw9⟩ := hp
  rw [hw9] at hP hD
  have hl60 := hI.len a
  obtain ⟨k, hk, rfl⟩ := inS_n (by omega) hV
  have ek := aN_n (show k < 2 ^ 31 by omega)
  rw [ek]
  obtain ⟨i, hik⟩ : ∃ i, (txL S O a).getD k 0 = i := ⟨_, rfl⟩
  have hm := txL_mem hI (getD_mem hk)
  rw [hik] at hm
  rw [hik]
  have hi := hm.1
  refine r_topr (a9 := G (100 + 3 * i)) rfl ?_
  refine va_getN (D := D) (ci := 0) (v := .int (nI i)) (C := RX0) (T := TX0) (N := 8) (host := RX1) hx hb hts hiX0 hown hK hP (6 + (20 + i)) (CW_sg hi) rfl 0 (by decide) (va_Nw.use rfl hX.2.2.2.2.2.1.2.2.2.2.2) (fun _ h9 => h9) rfl dX1_signAt_10 ?_
  exact vx_ret (C_iret hx hb hr hlocks hS hP hK hD (Nat.le_of_ble_eq_true rfl) (Nat.le_of_ble_eq_true rfl) dX1_signAt_13 (by rw [show spSignAt S O (nI a) (nI k) = (0, nI i, S) from by simp [spSignAt, hU, hV, ea, ek, hik, - List.getD_eq_getElem?_getD]]; exact ⟨rfl, rfl, rfl⟩))

set_option maxHeartbeats 4000000 in
set_option maxRecDepth 100000 in
theorem c_X1_letterAt (l : Launch) (hlf : l.stackTraces = false) {D : va_G} {cy : Nat → ClassId} {G : Nat → Nat} {S : Nat → Nat → Nat} {hd : Option Nat} {nx : Nat → Option Nat} {Y : va_W} {O : List Nat} (hI : Inv S O) (hO : ChP nx hd O) (p0 p1 : Int32) : TI l yX1_letterAt wsX1_letterAt ({ frames := 8, cells := 10, slots := 60, locals := 132 } : Room) D cy [.ref (G 0), .int p0, .int p1] (CW cy G S hd nx Y) (fun r w' => (spLetterAt S O p0 p1).1 = 0 ∧ r = (spLetterAt S O p0 p1).2.1 ∧ w' = CW cy G (spLetterAt S O p0 p1).2.2 hd nx Y) (fun E => (E = eIAE ∧ (spLetterAt S O p0 p1).1 = 1) ∨ (E = eIOB ∧ (spLetterAt S O p0 p1).1 = 2)) 10 60 := by
  refine TI.of (cc := cX1_letterAt) (maxL := 3) (ret := (some .int)) (by decide) rfl (Nat.le_of_ble_eq_true rfl) ?_
  intro p e s m below meth c A ls E0 hT0 hl
  obtain ⟨hx, hb, hml, hown, hts, hr, hlocks, hA, hS, hP, hK, hD, hX⟩ := E0
  have hiX0 : ∀ w ∈ u_ws RX0 TX0 8, w ∈ wsX1_letterAt := by decide +kernel
  have hiX1 : ∀ w ∈ u_ws RX1 TX1 9, w ∈ wsX1_letterAt := by decide +kernel
  have hl : lv_has ls 3 [(0, .ref (G 0)), (1, .int p0), (2, .int p1)] := hl
  refine lv_iload_n hx hb dX1_letterAt_0 rfl (lv_at hl 1 rfl) ?_
  refine Y_v (vx_runS (As := [.int p0]) (rest := []) ⟨hx, hb, hml, hown, hts⟩ (c_X1_checkAuthor l hlf p0 _) (va_cwS 1 hts gX1_letterAt_X1_checkAuthor rfl rfl rfl (by decide +kernel) ⟨Nat.le_of_ble_eq_true rfl, Nat.le_of_ble_eq_true rfl⟩) (pS hP hK hD hS hA hX) rfl rfl hl.1 rfl (lv_room (Nat.le_of_ble_eq_true rfl)) dX1_letterAt_1 ⟨Nat.le_of_ble_eq_true rfl, Nat.le_of_ble_eq_true rfl⟩) hD hS hA (fun E ce q9 H locs hE hP hS ht => ?_) (fun w'  H locs hp hP hD hS => ?_)
  · exact Y_out hT0 hlocks hP hK hD hS ht (Or.inl (⟨hE.1, by simp [spLetterAt, hE.2]⟩)) (Nat.le_of_ble_eq_true rfl) (Nat.le_of_ble_eq_true rfl)
  obtain ⟨hU, hw9⟩ := hp
  rw [hw9] at hP hD
  obtain ⟨a, ha, rfl⟩ := isA_n hU
  have ea := aN_n (show a < 2 ^ 31 by omega)
  refine lv_aload_n hx hb dX1_letterAt_4 rfl (lv_at hl 0 rfl) ?_
  refine lv_iload_n hx hb dX1_letterAt_5 rfl (lv_at hl 1 rfl) ?_
  refine lv_iload_n hx hb dX1_letterAt_6 rfl (lv_at hl 2 rfl) ?_
  refine Y_q (vx_runV (As := [.int (nI a), .int p1]) (rest := []) ⟨hx, hb, hml, hown, hts⟩ (c_X1_findAtPlace l hlf hI.R hO hI.om hI.ol ha p1 _) (cwV 2 hts gX1_letterAt_X1_findAtPlace rfl rfl rfl (by decide +kernel) ⟨Nat.le_of_ble_eq_true rfl, Nat.le_of_ble_eq_true rfl⟩) (pV hP hK hD hS hA hX (va_recv hK hP (ci := 1) (q0 := 0) rfl rfl)) rfl rfl hl.1 rfl (lv_room (Nat.le_of_ble_eq_true rfl)) dX1_letterAt_7 ⟨Nat.le_of_ble_eq_true rfl, Nat.le_of_ble_eq_true rfl⟩) hD hS hA (fun E ce q9 H locs hE hP hS ht => ?_) (fun r w'  H locs hp hP hD hS => ?_)
  · exact Y_out hT0 hlocks hP hK hD hS ht (Or.inr (⟨hE.1, by simp [spLetterAt, hU, hE.2, ea]⟩)) (Nat.le_of_ble_eq_true rfl) (Nat.le_of_ble_eq_true rfl)
  obtain ⟨hV, rfl, hw9⟩ := hp
  rw [hw9] at hP hD
  have hl60 := hI.len a
  obtain ⟨k, hk, rfl⟩ := inS_n (by omega) hV
  have ek := aN_n (show k < 2 ^ 31 by omega)
  rw [ek]
  obtain ⟨i, hik⟩ : ∃ i, (txL S O a).getD k 0 = i := ⟨_, rfl⟩
  have hm := txL_mem hI (getD_mem hk)
  rw [hik] at hm
  rw [hik]
  have hi := hm.1
  refine r_topr (a9 := G (100 + 3 * i)) rfl ?_
  refine va_getN (D := D) (ci := 0) (v := .int (nI (S 2 i))) (C := RX0) (T := TX0) (N := 8) (host := RX1) hx hb hts hiX0 hown hK hP (6 + (20 + i)) (CW_sg hi) rfl 2 (by decide) (va_Nw.use rfl hX.2.2.2.2.2.1.2.1) (fun _ h9 => h9) rfl dX1_letterAt_10 ?_
  exact vx_ret (C_iret hx hb hr hlocks hS hP hK hD (Nat.le_of_ble_eq_true rfl) (Nat.le_of_ble_eq_true rfl) dX1_letterAt_13 (by rw [show spLetterAt S O (nI a) (nI k) = (0, nI (S 2 i), S) from by simp [spLetterAt, hU, hV, ea, ek, hik, - List.getD_eq_getElem?_getD]]; exact ⟨rfl, rfl, rfl⟩))

set_option maxHeartbeats 4000000 in
set_option maxRecDepth 100000 in
theorem c_X1_printed (l : Launch) (hlf : l.stackTraces = false) {D : va_G} {cy : Nat → ClassId} {G : Nat → Nat} {S : Nat → Nat → Nat} {hd : Option Nat} {nx : Nat → Option Nat} {Y : va_W} {O : List Nat} (hI : Inv S O) (hO : ChP nx hd O) (p0 p1 : Int32) : TI l yX1_printed wsX1_printed ({ frames := 8, cells := 10, slots := 60, locals := 132 } : Room) D cy [.ref (G 0), .int p0, .int p1] (CW cy G S hd nx Y) (fun r w' => (spPrinted S p0 p1).1 = 0 ∧ r = (spPrinted S p0 p1).2.1 ∧ w' = CW cy G (spPrinted S p0 p1).2.2 hd nx Y) (fun E => (E = eIOB ∧ (spPrinted S p0 p1).1 = 1) ∨ (E = eIAE ∧ (spPrinted S p0 p1).1 = 2)) 10 60 := by
  refine TI.of (cc := cX1_printed) (maxL := 3) (ret := (some .int)) (by decide) rfl (Nat.le_of_ble_eq_true rfl) ?_
  intro p e s m below meth c A ls E0 hT0 hl
  obtain ⟨hx, hb, hml, hown, hts, hr, hlocks, hA, hS, hP, hK, hD, hX⟩ := E0
  have hiX1 : ∀ w ∈ u_ws RX1 TX1 9, w ∈ wsX1_printed := by decide +kernel
  have hl : lv_has ls 3 [(0, .ref (G 0)), (1, .int p0), (2, .int p1)] := hl
  refine lv_aload_n hx hb dX1_printed_0 rfl (lv_at hl 0 rfl) ?_
  refine lv_iload_n hx hb dX1_printed_1 rfl (lv_at hl 1 rfl) ?_
  refine Y_v (vx_runV (As := [.int p0]) (rest := []) ⟨hx, hb, hml, hown, hts⟩ (c_X1_checkEdition l hlf hI.R p0 _) (cwV 1 hts gX1_printed_X1_checkEdition rfl rfl rfl (by decide +kernel) ⟨Nat.le_of_ble_eq_true rfl, Nat.le_of_ble_eq_true rfl⟩) (pV hP hK hD hS hA hX (va_recv hK hP (ci := 1) (q0 := 0) rfl rfl)) rfl rfl hl.1 rfl (lv_room (Nat.le_of_ble_eq_true rfl)) dX1_printed_2 ⟨Nat.le_of_ble_eq_true rfl, Nat.le_of_ble_eq_true rfl⟩) hD hS hA (fun E ce q9 H locs hE hP hS ht => ?_) (fun w'  H locs hp hP hD hS => ?_)
  · exact Y_out hT0 hlocks hP hK hD hS ht (Or.inl (⟨hE.1, by simp [spPrinted, hE.2]⟩)) (Nat.le_of_ble_eq_true rfl) (Nat.le_of_ble_eq_true rfl)
  obtain ⟨hV, hw9⟩ := hp
  rw [hw9] at hP hD
  refine lv_iload_n hx hb dX1_printed_5 rfl (lv_at hl 2 rfl) ?_
  refine Y_v (vx_runS (As := [.int p1]) (rest := []) ⟨hx, hb, hml, hown, hts⟩ (c_X1_checkAuthor l hlf p1 _) (va_cwS 1 hts gX1_printed_X1_checkAuthor rfl rfl rfl (by decide +kernel) ⟨Nat.le_of_ble_eq_true rfl, Nat.le_of_ble_eq_true rfl⟩) (pS hP hK hD hS hA hX) rfl rfl hl.1 rfl (lv_room (Nat.le_of_ble_eq_true rfl)) dX1_printed_6 ⟨Nat.le_of_ble_eq_true rfl, Nat.le_of_ble_eq_true rfl⟩) hD hS hA (fun E ce q9 H locs hE hP hS ht => ?_) (fun w'  H locs hp hP hD hS => ?_)
  · exact Y_out hT0 hlocks hP hK hD hS ht (Or.inr (⟨hE.1, by simp [spPrinted, hV, hE.2]⟩)) (Nat.le_of_ble_eq_true rfl) (Nat.le_of_ble_eq_true rfl)
  obtain ⟨hU, hw9⟩ := hp
  rw [hw9] at hP hD
  obtain ⟨a, ha, rfl⟩ := isA_n hU
  have ea := aN_n (show a < 2 ^ 31 by omega)
  have he20 := hI.R.2.1
  obtain ⟨e9, he9, rfl⟩ := inS_n (by omega) hV
  have ee := aN_n (show e9 < 2 ^ 31 by omega)
  have he19 : e9 < 20 := by omega
  refine lv_aload_n hx hb dX1_printed_9 rfl (lv_at hl 0 rfl) ?_
  refine va_get (D := D) (ci := 1) (v := .ref (G 3)) (C := RX1) (T := TX1) (N := 9) hx hb hts hiX1 hown hK hP (0) rfl rfl 4 (by decide) (hts (.fieldLink RX1 29 "CoauthorText" "signsInEditions" "[[I") (by decide +kernel)) (fun _ h9 => h9) rfl dX1_printed_10 ?_
  refine lv_iload_n hx hb dX1_printed_13 rfl (lv_at hl 1 rfl) ?_
  refine r_aldI hx hb hK hP (3) rfl (by omega) (by decide) dX1_printed_14 ?_
  refine r_topr (a9 := G (10 + e9)) (if_pos he19) ?_
  refine lv_iload_n hx hb dX1_printed_15 rfl (lv_at hl 2 rfl) ?_
  refine r_iald hx hb hK hP (6 + e9) (CW_rw he19) (by omega) (by decide) dX1_printed_16 ?_
  refine lv_topi (fun y9 ey9 => ?_)
  obtain rfl : y9 = nI (S 9 (4 * e9 + a)) := ey9.trans (by rw [rwV, if_pos ha])
  exact vx_ret (C_iret hx hb hr hlocks hS hP hK hD (Nat.le_of_ble_eq_true rfl) (Nat.le_of_ble_eq_true rfl) dX1_printed_17 (by rw [show spPrinted S (nI e9) (nI a) = (0, nI (S 9 (4 * e9 + a)), S) from by simp [spPrinted, hU, hV, ea, ee]]; exact ⟨rfl, rfl, rfl⟩))

set_option maxHeartbeats 4000000 in
set_option maxRecDepth 100000 in
theorem c_X1_setFloor (l : Launch) (hlf : l.stackTraces = false) {D : va_G} {cy : Nat → ClassId} {G : Nat → Nat} {S : Nat → Nat → Nat} {hd : Option Nat} {nx : Nat → Option Nat} {Y : va_W} {O : List Nat} (hI : Inv S O) (hO : ChP nx hd O) (p0 : Int32) : TI l yX1_setFloor wsX1_setFloor ({ frames := 7, cells := 10, slots := 60, locals := 112 } : Room) D cy [.ref (G 0), .int p0] (CW cy G S hd nx Y) (fun r w' => (spSetFloor S p0).1 = 0 ∧ r = (spSetFloor S p0).2.1 ∧ w' = CW cy G (spSetFloor S p0).2.2 hd nx Y) (fun E => (E = eIAE ∧ (spSetFloor S p0).1 = 1)) 10 60 := by
  refine TI.of (cc := cX1_setFloor) (maxL := 3) (ret := (some .int)) (by decide) rfl (Nat.le_of_ble_eq_true rfl) ?_
  intro p e s m below meth c A ls E0 hT0 hl
  obtain ⟨hx, hb, hml, hown, hts, hr, hlocks, hA, hS, hP, hK, hD, hX⟩ := E0
  have hiX1 : ∀ w ∈ u_ws RX1 TX1 9, w ∈ wsX1_setFloor := by decide +kernel
  have hl : lv_has ls 3 [(0, .ref (G 0)), (1, .int p0)] := hl
  refine lv_iload_n hx hb dX1_setFloor_0 rfl (lv_at hl 1 rfl) ?_
  refine lv_iconst (v := nI 0) hx hb dX1_setFloor_1 (by decide) ?_
  refine lv_bipush (v := nI 25) hx hb dX1_setFloor_2 (by decide) ?_
  refine Y_v (vx_runS (As := [.int p0, .int (nI 0), .int (nI 25)]) (rest := []) ⟨hx, hb, hml, hown, hts⟩ (c_X1_checkRange l hlf p0 (nI 0) (nI 25) _) (va_cwS 3 hts gX1_setFloor_X1_checkRange rfl rfl rfl (by decide +kernel) ⟨Nat.le_of_ble_eq_true rfl, Nat.le_of_ble_eq_true rfl⟩) (pS hP hK hD hS hA hX) rfl rfl hl.1 rfl (lv_room (Nat.le_of_ble_eq_true rfl)) dX1_setFloor_4 ⟨Nat.le_of_ble_eq_true rfl, Nat.le_of_ble_eq_true rfl⟩) hD hS hA (fun E ce q9 H locs hE hP hS ht => ?_) (fun w'  H locs hp hP hD hS => ?_)
  · have hE2 : inB p0 0 25 = false := hE.2
    exact Y_out hT0 hlocks hP hK hD hS ht (⟨hE.1, by simp [spSetFloor, hE2]⟩) (Nat.le_of_ble_eq_true rfl) (Nat.le_of_ble_eq_true rfl)
  obtain ⟨hV0, hw9⟩ := hp
  rw [hw9] at hP hD
  have hV : inB p0 0 25 = true := hV0
  obtain ⟨v, hv, rfl⟩ := inB_n (k := 25) (by decide) hV
  have ev := aN_n (show v < 2 ^ 31 by omega)
  refine lv_aload_n hx hb dX1_setFloor_7 rfl (lv_at hl 0 rfl) ?_
  refine va_get (D := D) (ci := 1) (v := .int (nI (S 0 2))) (C := RX1) (T := TX1) (N := 9) hx hb hts hiX1 hown hK hP (0) rfl rfl 6 (by decide) (hts (.fieldLink RX1 35 "CoauthorText" "floorPercent" "I") (by decide +kernel)) (fun _ h9 => h9) rfl dX1_setFloor_8 ?_
  refine lv_istore_n (lv' := [(2, .int (nI (S 0 2))), (0, .ref (G 0)), (1, .int (nI v))]) hx hb dX1_setFloor_11 rfl hl (by decide) rfl (fun ls hl => ?_)
  refine lv_aload_n hx hb dX1_setFloor_12 rfl (lv_at hl 1 rfl) ?_
  refine lv_iload_n hx hb dX1_setFloor_13 rfl (lv_at hl 2 rfl) ?_
  refine r_put (w' := CW cy G (up2 S 0 2 v) hd nx Y) (own := RX1) (C := RX1) (T := TX1) (N := 9) (ci := 1) (q0 := 0) (k := 6) (index := 35) (ty := .int) hx hb hts hiX1 tyX1_ok nmX1 hown hK hP hD hS rfl rfl (by decide) (by decide +kernel) rfl (by decide +kernel) rfl rfl (Nat.le_of_ble_eq_true rfl) dX1_setFloor_14 rfl (fun H locs hP hD hS => ?_)
  refine lv_iload_n hx hb dX1_setFloor_17 rfl (lv_at hl 0 rfl) ?_
  exact vx_ret (C_iret hx hb hr hlocks hS hP hK hD (Nat.le_of_ble_eq_true rfl) (Nat.le_of_ble_eq_true rfl) dX1_setFloor_18 (by rw [show spSetFloor S (nI v) = (0, nI (S 0 2), up2 S 0 2 v) from by simp [spSetFloor, hV, ev]]; exact ⟨rfl, rfl, rfl⟩))

set_option maxHeartbeats 4000000 in
set_option maxRecDepth 100000 in
theorem c_X1_advance (l : Launch) (hlf : l.stackTraces = false) {D : va_G} {cy : Nat → ClassId} {G : Nat → Nat} {S : Nat → Nat → Nat} {hd : Option Nat} {nx : Nat → Option Nat} {Y : va_W} {O : List Nat} (hI : Inv S O) (hO : ChP nx hd O) (p0 p1 : Int32) : TI l yX1_advance wsX1_advance ({ frames := 8, cells := 10, slots := 60, locals := 132 } : Room) D cy [.ref (G 0), .int p0, .int p1] (CW cy G S hd nx Y) (fun r w' => (spAdvance S p0 p1).1 = 0 ∧ r = (spAdvance S p0 p1).2.1 ∧ w' = CW cy G (spAdvance S p0 p1).2.2 hd nx Y) (fun E => (E = eIAE ∧ (spAdvance S p0 p1).1 = 1)) 10 60 := by
  refine TI.of (cc := cX1_advance) (maxL := 3) (ret := (some .int)) (by decide) rfl (Nat.le_of_ble_eq_true rfl) ?_
  intro p e s m below meth c A ls E0 hT0 hl
  obtain ⟨hx, hb, hml, hown, hts, hr, hlocks, hA, hS, hP, hK, hD, hX⟩ := E0
  have hiX1 : ∀ w ∈ u_ws RX1 TX1 9, w ∈ wsX1_advance := by decide +kernel
  have hl : lv_has ls 3 [(0, .ref (G 0)), (1, .int p0), (2, .int p1)] := hl
  refine lv_iload_n hx hb dX1_advance_0 rfl (lv_at hl 1 rfl) ?_
  refine Y_v (vx_runS (As := [.int p0]) (rest := []) ⟨hx, hb, hml, hown, hts⟩ (c_X1_checkAuthor l hlf p0 _) (va_cwS 1 hts gX1_advance_X1_checkAuthor rfl rfl rfl (by decide +kernel) ⟨Nat.le_of_ble_eq_true rfl, Nat.le_of_ble_eq_true rfl⟩) (pS hP hK hD hS hA hX) rfl rfl hl.1 rfl (lv_room (Nat.le_of_ble_eq_true rfl)) dX1_advance_1 ⟨Nat.le_of_ble_eq_true rfl, Nat.le_of_ble_eq_true rfl⟩) hD hS hA (fun E ce q9 H locs hE hP hS ht => ?_) (fun w'  H locs hp hP hD hS => ?_)
  · exact Y_out hT0 hlocks hP hK hD hS ht (⟨hE.1, by simp [spAdvance, hE.2]⟩) (Nat.le_of_ble_eq_true rfl) (Nat.le_of_ble_eq_true rfl)
  obtain ⟨hU, hw9⟩ := hp
  rw [hw9] at hP hD
  refine lv_iload_n hx hb dX1_advance_4 rfl (lv_at hl 2 rfl) ?_
  refine lv_iconst (v := nI 1) hx hb dX1_advance_5 (by decide) ?_
  refine lv_ldc (v := nI 100000) hx hb hown (hts (.constant RX1 144 (100000)) (by decide +kernel)) dX1_advance_6 ?_
  refine Y_v (vx_runS (As := [.int p1, .int (nI 1), .int (nI 100000)]) (rest := []) ⟨hx, hb, hml, hown, hts⟩ (c_X1_checkRange l hlf p1 (nI 1) (nI 100000) _) (va_cwS 3 hts gX1_advance_X1_checkRange rfl rfl rfl (by decide +kernel) ⟨Nat.le_of_ble_eq_true rfl, Nat.le_of_ble_eq_true rfl⟩) (pS hP hK hD hS hA hX) rfl rfl hl.1 rfl (lv_room (Nat.le_of_ble_eq_true rfl)) dX1_advance_8 ⟨Nat.le_of_ble_eq_true rfl, Nat.le_of_ble_eq_true rfl⟩) hD hS hA (fun E ce q9 H locs hE hP hS ht => ?_) (fun w'  H locs hp hP hD hS => ?_)
  · have hE2 : inB p1 1 100000 = false := hE.2
    exact Y_out hT0 hlocks hP hK hD hS ht (⟨hE.1, by simp [spAdvance, hU, hE2]⟩) (Nat.le_of_ble_eq_true rfl) (Nat.le_of_ble_eq_true rfl)
  obtain ⟨hV0, hw9⟩ := hp
  rw [hw9] at hP hD
  have hV : inB p1 1 100000 = true := hV0
  obtain ⟨v, hv, rfl⟩ := inB_1 (k := 100000) (by decide) hV
  have ev := aN_n (show v < 2 ^ 31 by omega)
  obtain ⟨a, ha, rfl⟩ := isA_n hU
  have ea := aN_n (show a < 2 ^ 31 by omega)
  refine lv_aload_n hx hb dX1_advance_11 rfl (lv_at hl 0 rfl) ?_
  refine va_get (D := D) (ci := 1) (v := .ref (G 4)) (C := RX1) (T := TX1) (N := 9) hx hb hts hiX1 hown hK hP (0) rfl rfl 7 (by decide) (hts (.fieldLink RX1 38 "CoauthorText" "advancesLeft" "[I") (by decide +kernel)) (fun _ h9 => h9) rfl dX1_advance_12 ?_
  refine lv_iload_n hx hb dX1_advance_15 rfl (lv_at hl 1 rfl) ?_
  refine lv_dup2_11 hx hb dX1_advance_16 rfl rfl ?_
  refine r_iald hx hb hK hP (4) rfl (by omega) (by decide) dX1_advance_17 ?_
  refine lv_iload_n hx hb dX1_advance_18 rfl (lv_at hl 2 rfl) ?_
  refine r_iadd hx hb dX1_advance_19 ?_
  refine r_iast (w' := CW cy G (up2 S 10 a (S 10 a + v)) hd nx Y) hx hb hK hP hD hS (4) rfl (by omega) (by decide) dX1_advance_20 (by rw [show upd (fun x9 => nI (S 10 x9)) a (nI (S 10 a + v)) = fun x9 => nI (up2 S 10 a (S 10 a + v) 10 x9) from upd_n S 10 _ _]; rfl) (fun H locs hP hD hS => ?_)
  refine lv_aload_n hx hb dX1_advance_21 rfl (lv_at hl 0 rfl) ?_
  refine va_get (D := D) (ci := 1) (v := .ref (G 4)) (C := RX1) (T := TX1) (N := 9) hx hb hts hiX1 hown hK hP (0) rfl rfl 7 (by decide) (hts (.fieldLink RX1 38 "CoauthorText" "advancesLeft" "[I") (by decide +kernel)) (fun _ h9 => h9) rfl dX1_advance_22 ?_
  refine lv_iload_n hx hb dX1_advance_25 rfl (lv_at hl 1 rfl) ?_
  refine r_iald hx hb hK hP (4) rfl (by omega) (by decide) dX1_advance_26 ?_
  exact vx_ret (C_iret hx hb hr hlocks hS hP hK hD (Nat.le_of_ble_eq_true rfl) (Nat.le_of_ble_eq_true rfl) dX1_advance_27 (by rw [show spAdvance S (nI a) (nI v) = (0, nI (S 10 a + v), up2 S 10 a (S 10 a + v)) from by simp [spAdvance, hU, hV, ea, ev]]; exact ⟨rfl, by rw [up2_s], rfl⟩))

theorem alB_iff {S : Nat → Nat → Nat} {O : List Nat} (h : Inv S O) (a b : Nat) : alB S a b (S 0 0) = O.all (fun i => vsb S a i == vsb S b i) := by
  rw [Bool.eq_iff_iff, alB, List.all_eq_true, List.all_eq_true]
  exact ⟨fun g i hi => g i (List.mem_range.mpr (h.om i hi)), fun g i hi => g i ((h.2.2.2.2.1 i).mpr (List.mem_range.mp hi))⟩

set_option maxHeartbeats 4000000 in
set_option maxRecDepth 100000 in
theorem c_X1_areAlike (l : Launch) (hlf : l.stackTraces = false) {D : va_G} {cy : Nat → ClassId} {G : Nat → Nat} {S : Nat → Nat → Nat} {hd : Option Nat} {nx : Nat → Option Nat} {Y : va_W} {O : List Nat} (hI : Inv S O) (hO : ChP nx hd O) (p0 p1 : Int32) : TI l yX1_areAlike wsX1_areAlike ({ frames := 8, cells := 10, slots := 60, locals := 132 } : Room) D cy [.ref (G 0), .int p0, .int p1] (CW cy G S hd nx Y) (fun r w' => (spAreAlike S p0 p1).1 = 0 ∧ r = (spAreAlike S p0 p1).2.1 ∧ w' = CW cy G (spAreAlike S p0 p1).2.2 hd nx Y) (fun E => (E = eIAE ∧ (spAreAlike S p0 p1).1 = 1)) 10 60 := by
  refine TI.of (cc := cX1_areAlike) (maxL := 4) (ret := (some .boolean)) (by decide) rfl (Nat.le_of_ble_eq_true rfl) ?_
  intro p e s m below meth c A ls E0 hT0 hl
  obtain ⟨hx, hb, hml, hown, hts, hr, hlocks, hA, hS, hP, hK, hD, hX⟩ := E0
  have hiX0 : ∀ w ∈ u_ws RX0 TX0 8, w ∈ wsX1_areAlike := by decide +kernel
  have hiX1 : ∀ w ∈ u_ws RX1 TX1 9, w ∈ wsX1_areAlike := by decide +kernel
  have hl : lv_has ls 4 [(0, .ref (G 0)), (1, .int p0), (2, .int p1)] := hl
  refine lv_iload_n hx hb dX1_areAlike_0 rfl (lv_at hl 1 rfl) ?_
  refine Y_v (vx_runS (As := [.int p0]) (rest := []) ⟨hx, hb, hml, hown, hts⟩ (c_X1_checkAuthor l hlf p0 _) (va_cwS 1 hts gX1_areAlike_X1_checkAuthor rfl rfl rfl (by decide +kernel) ⟨Nat.le_of_ble_eq_true rfl, Nat.le_of_ble_eq_true rfl⟩) (pS hP hK hD hS hA hX) rfl rfl hl.1 rfl (lv_room (Nat.le_of_ble_eq_true rfl)) dX1_areAlike_1 ⟨Nat.le_of_ble_eq_true rfl, Nat.le_of_ble_eq_true rfl⟩) hD hS hA (fun E ce q9 H locs hE hP hS ht => ?_) (fun w'  H locs hp hP hD hS => ?_)
  · exact Y_out hT0 hlocks hP hK hD hS ht (⟨hE.1, by simp [spAreAlike, hE.2]⟩) (Nat.le_of_ble_eq_true rfl) (Nat.le_of_ble_eq_true rfl)
  obtain ⟨hU, hw9⟩ := hp
  rw [hw9] at hP hD
  refine lv_iload_n hx hb dX1_areAlike_4 rfl (lv_at hl 2 rfl) ?_
  refine Y_v (vx_runS (As := [.int p1]) (rest := []) ⟨hx, hb, hml, hown, hts⟩ (c_X1_checkAuthor l hlf p1 _) (va_cwS 1 hts gX1_areAlike_X1_checkAuthor rfl rfl rfl (by decide +kernel) ⟨Nat.le_of_ble_eq_true rfl, Nat.le_of_ble_eq_true rfl⟩) (pS hP hK hD hS hA hX) rfl rfl hl.1 rfl (lv_room (Nat.le_of_ble_eq_true rfl)) dX1_areAlike_5 ⟨Nat.le_of_ble_eq_true rfl, Nat.le_of_ble_eq_true rfl⟩) hD hS hA (fun E ce q9 H locs hE hP hS ht => ?_) (fun w'  H locs hp hP hD hS => ?_)
  · exact Y_out hT0 hlocks hP hK hD hS ht (⟨hE.1, by simp [spAreAlike, hU, hE.2]⟩) (Nat.le_of_ble_eq_true rfl) (Nat.le_of_ble_eq_true rfl)
  obtain ⟨hV, hw9⟩ := hp
  rw [hw9] at hP hD
  obtain ⟨a, ha, rfl⟩ := isA_n hU
  have ea := aN_n (show a < 2 ^ 31 by omega)
  obtain ⟨f, hf, rfl⟩ := isA_n hV
  have ef := aN_n (show f < 2 ^ 31 by omega)
  refine lv_aload_n hx hb dX1_areAlike_8 rfl (lv_at hl 0 rfl) ?_
  refine va_get (D := D) (ci := 1) (v := va_rf (hd.map fun j => G (100 + 3 * j))) (C := RX1) (T := TX1) (N := 9) hx hb hts hiX1 hown hK hP (0) rfl rfl 2 (by decide) (hts (.fieldLink RX1 19 "CoauthorText" "firstInOrder" "LCoauthorText$Sign;") (by decide +kernel)) (fun _ h9 => h9) rfl dX1_areAlike_9 ?_
  refine r_astore_nq (lv' := [(3, va_rf (hd.map fun j => G (100 + 3 * j))), (0, .ref (G 0)), (1, .int (nI a)), (2, .int (nI f))]) hx hb dX1_areAlike_12 rfl hl (by decide) rfl (fun ls hl => ?_)
  have loop : ∀ (r : List Nat) (o : Option Nat) (H : Heap) (locs : List Loc) (ls : Array Slot), ChP nx o r → (∀ i, i ∈ r → i < S 0 0) → O.all (fun i => vsb S a i == vsb S f i) = r.all (fun i => vsb S a i == vsb S f i) → va_P D vwCl (CW cy G S hd nx Y) H → va_D A (CW cy G S hd nx Y) → va_S A s.heap H locs → lv_has ls 4 [(3, va_rf (o.map fun j => G (100 + 3 * j))), (0, .ref (G 0)), (1, .int (nI a)), (2, .int (nI f))] → W p l e ({ frames := 8, cells := 10, slots := 60, locals := 132 } : Room) s m ([.ref (G 0), .int (nI a), .int (nI f)] : List Value).toArray below meth c H locs 2 12 (vx_MQ below (va_Qi (fun r w' => (spAreAlike S (nI a) (nI f)).1 = 0 ∧ r = (spAreAlike S (nI a) (nI f)).2.1 ∧ w' = CW cy G (spAreAlike S (nI a) (nI f)).2.2 hd nx Y) (fun w' t => wB D cy A w' t) A) (xQ D cy (fun E => (E = eIAE ∧ (spAreAlike S (nI a) (nI f)).1 = 1)) (CW cy G S hd nx Y) A) ([.ref (G 0), .int (nI a), .int (nI f)] : List Value).toArray s 10 60 A) (F0 m 13 ls []) := by
    intro r
    induction r with
    | nil =>
      intro o H locs ls ho hm hall hP hD hS hl
      have ho : o = none := ho
      subst ho
      have hl : lv_has ls 4 [(3, .null), (0, .ref (G 0)), (1, .int (nI a)), (2, .int (nI f))] := hl
      refine lv_aload_nN hx hb dX1_areAlike_13 rfl (lv_at hl 0 rfl) ?_
      refine lv_ifnullN (tgt := 40) hx hb dX1_areAlike_14 (by decide) ?_
      refine lv_iconst (v := nI 1) hx hb dX1_areAlike_40 (by decide) ?_
      exact vx_ret (C_zret hx hb hr hlocks hS hP hK hD (Nat.le_of_ble_eq_true rfl) (Nat.le_of_ble_eq_true rfl) dX1_areAlike_41 rfl (by rw [show spAreAlike S (nI a) (nI f) = (0, nI 1, S) from by simp only [spAreAlike, hU, hV, ea, ef, alB_iff hI, hall]; rfl]; exact ⟨rfl, rfl, rfl⟩))
    | cons x r ih =>
      intro o H locs ls ho hm hall hP hD hS hl
      obtain ⟨ho, ho2⟩ := ho
      subst ho
      have hx9 := hm x List.mem_cons_self
      have hl : lv_has ls 4 [(3, .ref (G (100 + 3 * x))), (0, .ref (G 0)), (1, .int (nI a)), (2, .int (nI f))] := hl
      refine lv_aload_n hx hb dX1_areAlike_13 rfl (lv_at hl 0 rfl) ?_
      refine lv_ifnull hx hb dX1_areAlike_14 ?_
      refine lv_aload_n hx hb dX1_areAlike_17 rfl (lv_at hl 0 rfl) ?_
      refine lv_iload_n hx hb dX1_areAlike_18 rfl (lv_at hl 2 rfl) ?_
      refine K_i (va_runVN (As := [.int (nI a)]) (rest := []) ⟨hx, hb, hml, hown, hts⟩ (c_X0_isInTextOf l hI.R hx9 ha _) ⟨va_cnB 1 hts gX1_areAlike_X0_isInTextOf_n125 rfl rfl rfl hX.2.2.2.2.2.2.1.1 (hts (.initialized RX0) (by decide +kernel)) (by decide +kernel) ⟨Nat.le_of_ble_eq_true rfl, Nat.le_of_ble_eq_true rfl⟩, hts (.instanceMethod yX0_isInTextOf) (by decide +kernel), hts (.selects RX0 yX0_isInTextOf yX0_isInTextOf) (by decide +kernel)⟩ (pV hP hK hD hS hA hX (va_recv hK hP (ci := 0) (q0 := 6 + (20 + x)) rfl (CW_sg hx9))) rfl rfl hl.1 rfl (lv_room (Nat.le_of_ble_eq_true rfl)) dX1_areAlike_19 ⟨Nat.le_of_ble_eq_true rfl, Nat.le_of_ble_eq_true rfl⟩) hD hS hA (fun r w'  H locs hp hP hD hS => ?_)
      obtain ⟨rfl, rfl⟩ := hp
      refine lv_aload_n hx hb dX1_areAlike_22 rfl (lv_at hl 0 rfl) ?_
      refine lv_iload_n hx hb dX1_areAlike_23 rfl (lv_at hl 3 rfl) ?_
      refine K_i (va_runVN (As := [.int (nI f)]) (rest := [.int (nI (bN (vsb S a x)))]) ⟨hx, hb, hml, hown, hts⟩ (c_X0_isInTextOf l hI.R hx9 hf _) ⟨va_cnB 1 hts gX1_areAlike_X0_isInTextOf_n125 rfl rfl rfl hX.2.2.2.2.2.2.1.1 (hts (.initialized RX0) (by decide +kernel)) (by decide +kernel) ⟨Nat.le_of_ble_eq_true rfl, Nat.le_of_ble_eq_true rfl⟩, hts (.instanceMethod yX0_isInTextOf) (by decide +kernel), hts (.selects RX0 yX0_isInTextOf yX0_isInTextOf) (by decide +kernel)⟩ (pV hP hK hD hS hA hX (va_recv hK hP (ci := 0) (q0 := 6 + (20 + x)) rfl (CW_sg hx9))) rfl rfl hl.1 rfl (lv_room (Nat.le_of_ble_eq_true rfl)) dX1_areAlike_24 ⟨Nat.le_of_ble_eq_true rfl, Nat.le_of_ble_eq_true rfl⟩) hD hS hA (fun r w'  H locs hp hP hD hS => ?_)
      obtain ⟨rfl, rfl⟩ := hp
      rw [List.all_cons] at hall
      refine r_icmp_eq (tgt := 32) hx hb dX1_areAlike_27 (by decide) (Nat.lt_trans (bN_lt _) (by decide)) (Nat.lt_trans (bN_lt _) (by decide)) (fun cE => ?_) (fun cE => ?_)
      · rw [show (vsb S a x == vsb S f x) = true from beq_iff_eq.mpr (bN_eq.mp cE), Bool.true_and] at hall
        refine lv_aload_n hx hb dX1_areAlike_32 rfl (lv_at hl 0 rfl) ?_
        refine va_getN (D := D) (ci := 0) (v := va_rf ((nx x).map fun j => G (100 + 3 * j))) (C := RX0) (T := TX0) (N := 8) (host := RX1) hx hb hts hiX0 hown hK hP (6 + (20 + x)) (CW_sg hx9) rfl 5 (by decide) (va_Nw.use rfl hX.2.2.2.2.2.1.1) (fun _ h9 => h9) rfl dX1_areAlike_33 ?_
        refine r_astore_nq (lv' := [(3, va_rf ((nx x).map fun j => G (100 + 3 * j))), (0, .ref (G 0)), (1, .int (nI a)), (2, .int (nI f))]) hx hb dX1_areAlike_36 rfl hl (by decide) rfl (fun ls hl => ?_)
        refine lv_goto (tgt := 13) hx hb dX1_areAlike_37 (by decide) ?_
        exact ih (nx x) _ _ ls ho2 (fun i hi => hm i (List.mem_cons_of_mem _ hi)) hall hP hD hS (lv_sub hl [0, 1, 2, 3] rfl)
      · rw [show (vsb S a x == vsb S f x) = false from beq_false_of_ne (fun h => cE (by rw [h])), Bool.false_and] at hall
        refine lv_iconst (v := nI 0) hx hb dX1_areAlike_30 (by decide) ?_
        exact vx_ret (C_zret hx hb hr hlocks hS hP hK hD (Nat.le_of_ble_eq_true rfl) (Nat.le_of_ble_eq_true rfl) dX1_areAlike_31 rfl (by rw [show spAreAlike S (nI a) (nI f) = (0, nI 0, S) from by simp only [spAreAlike, hU, hV, ea, ef, alB_iff hI, hall]; rfl]; exact ⟨rfl, rfl, rfl⟩))
  exact loop O hd _ _ ls hO hI.om rfl hP hD hS (lv_sub hl [0, 1, 2, 3] rfl)
