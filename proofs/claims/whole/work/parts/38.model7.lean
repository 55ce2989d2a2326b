/-! ===== the reference: print, sell ===== -/
section ROWSL
variable {p : Program} {l : Launch} {e : Env} {R : Room} {s : State} {m : MethodId} {args : Array Value} {below : List Frame} {meth : Method} {c : Code} {H : Heap} {locs : List Loc} {cells slots : Nat} {Q : State → Prop}
variable {cc : ByteArray} {pc : Nat} {ls : Array Slot} {rest : List Value} {D : va_G} {cy : Nat → ClassId} {A : Nat → Prop} {w w' : va_W} {a : Nat} {Ts : List Cond}
theorem r_ladd {x y : Nat} (hx : p.tables.exec = Jvm.exec) (hb : c.code = cc) (hdg : decode cc pc = .ok (.ladd, 1)) (k : W p l e R s m args below meth c H locs cells slots Q (F0 m (pc + 1) ls (.long (lN (x + y)) :: rest))) : W p l e R s m args below meth c H locs cells slots Q (F0 m pc ls (.long (lN y) :: .long (lN x) :: rest)) := lv_ladd hx hb hdg (by rw [lN_add]; exact k)
end ROWSL
theorem row_0 {S : Nat → Nat → Nat} {f : Nat → Nat} (h : ∀ a, a < 4 → S 9 (4 * S 0 1 + a) = f a) : rowS S f = S := by
  funext k j
  unfold rowS
  by_cases h9 : k = 9
  · subst h9
    rw [if_pos rfl]
    by_cases hr : 4 * S 0 1 ≤ j ∧ j < 4 * S 0 1 + 4
    · rw [if_pos hr, ← h (j - 4 * S 0 1) (by omega)]
      congr 1
      omega
    · rw [if_neg hr]
  · rw [if_neg h9]
theorem row_s {S : Nat → Nat → Nat} {f g : Nat → Nat} {a : Nat} (ha : a < 4) (hg : ∀ b, b ≠ a → g b = f b) (hga : g a = f a + 1) : up2 (rowS S f) 9 (4 * S 0 1 + a) (f a + 1) = rowS S g := by
  funext k j
  by_cases h9 : k = 9
  · subst h9
    by_cases e : j = 4 * S 0 1 + a
    · subst e
      rw [up2_s, rowS, if_pos rfl, if_pos ⟨by omega, by omega⟩, Nat.add_sub_cancel_left, hga]
    · rw [up2_i _ e]
      simp only [rowS, if_true]
      by_cases hr : 4 * S 0 1 ≤ j ∧ j < 4 * S 0 1 + 4
      · rw [if_pos hr, if_pos hr, hg (j - 4 * S 0 1) (by omega)]
      · rw [if_neg hr, if_neg hr]
  · rw [up2_k _ h9]
    simp only [rowS, if_neg h9]
theorem row_at {S : Nat → Nat → Nat} {f : Nat → Nat} {a : Nat} (ha : a < 4) : rowS S f 9 (4 * S 0 1 + a) = f a := by
  rw [rowS, if_pos rfl, if_pos ⟨by omega, by omega⟩, Nat.add_sub_cancel_left]
theorem cnt_take (S : Nat → Nat → Nat) (L : List Nat) (a : Nat) {j : Nat} (hj : j < L.length) : cntA S (L.take (j + 1)) a = cntA S (L.take j) a + if S 1 (L.getD j 0) = a then 1 else 0 := by
  rw [List.take_succ, List.getElem?_eq_getElem hj, cntA, cntA, List.countP_append, getD_lt hj]
  simp [List.countP_cons]
theorem cnt_le (S : Nat → Nat → Nat) (L : List Nat) (a : Nat) : cntA S L a ≤ L.length := List.countP_le_length

set_option maxHeartbeats 4000000 in
set_option maxRecDepth 100000 in
theorem c_X2_print (l : Launch) {D : va_G} {cy : Nat → ClassId} {B : Nat → Nat} {S T : Nat → Nat → Nat} {Y : va_W} {O : List Nat} (hI : Inv S O) (p0 : Int32) : CI l yX2_print wsX2_print ({ frames := 4, cells := 0, slots := 0, locals := 82 } : Room) D cy [.ref (B 0), .int p0] (MW cy B S T Y) (fun r w' => ∃ T' : Nat → Nat → Nat, T' 0 2 = (spPrint S O p0).1 ∧ w' = MW cy B (spPrint S O p0).2.2 T' Y ∧ ((spPrint S O p0).1 = 0 → r = (spPrint S O p0).2.1)) 0 0 := by
  refine CI.of (cc := cX2_print) (maxL := 3) (ret := (some .int)) (by decide) rfl (Nat.le_of_ble_eq_true rfl) ?_
  intro p e s m below meth c A ls E0 hl
  obtain ⟨hx, hb, hml, hown, hts, hr, hlocks, hA, hS, hP, hK, hD, hX⟩ := E0
  have hiX2 : ∀ w ∈ u_ws RX2 TX2 19, w ∈ wsX2_print := by decide +kernel
  have hl : lv_has ls 3 [(0, .ref (B 0)), (1, .int p0)] := hl
  refine lv_aload_n hx hb dX2_print_0 rfl (lv_at hl 0 rfl) ?_
  refine lv_iload_n hx hb dX2_print_1 rfl (lv_at hl 1 rfl) ?_
  refine K_i (va_runV (As := [.int p0]) (rest := []) ⟨hx, hb, hml, hown, hts⟩ (c_X2_asks l p0 _) (cwV 1 hts gX2_print_X2_asks rfl rfl rfl (by decide +kernel) ⟨Nat.le_of_ble_eq_true rfl, Nat.le_of_ble_eq_true rfl⟩) (pV hP hK hD hS hA hX (va_recv hK hP (ci := 2) (q0 := 0) rfl rfl)) rfl rfl hl.1 rfl (lv_room (Nat.le_of_ble_eq_true rfl)) dX2_print_2 ⟨Nat.le_of_ble_eq_true rfl, Nat.le_of_ble_eq_true rfl⟩) hD hS hA (fun r w'  H locs hp hP hD hS => ?_)
  obtain ⟨rfl, rfl⟩ := hp
  refine r_if_ne (tgt := 10) hx hb dX2_print_5 (by decide) (Nat.lt_trans (bN_lt _) (by decide)) (fun cA => ?_) (fun cA => ?_)
  · have hU := bN_1.mp cA
    obtain ⟨a, ha, rfl⟩ := isA_n hU
    have ea := aN_n (show a < 2 ^ 31 by omega)
    have he20 := hI.R.2.1
    have hl60 := hI.len a
    refine lv_aload_n hx hb dX2_print_10 rfl (lv_at hl 0 rfl) ?_
    refine lv_iload_n hx hb dX2_print_11 rfl (lv_at hl 1 rfl) ?_
    refine K_v (va_runV (As := [.int (nI a)]) (rest := []) ⟨hx, hb, hml, hown, hts⟩ (c_X2_laysText l hI.R hI.g (a := a) ha (hI.lay ha) _) (cwV 1 hts gX2_print_X2_laysText rfl rfl rfl (by decide +kernel) ⟨Nat.le_of_ble_eq_true rfl, Nat.le_of_ble_eq_true rfl⟩) (pV hP hK hD hS hA hX (va_recv hK hP (ci := 2) (q0 := 0) rfl rfl)) rfl rfl hl.1 rfl (lv_room (Nat.le_of_ble_eq_true rfl)) dX2_print_12 ⟨Nat.le_of_ble_eq_true rfl, Nat.le_of_ble_eq_true rfl⟩) hD hS hA (fun w'  H locs hp hP hD hS => ?_)
    obtain ⟨T2, rfl, h2, ht⟩ := hp
    rw [lay_txt] at ht
    have htl := ht.1
    refine lv_aload_n hx hb dX2_print_15 rfl (lv_at hl 0 rfl) ?_
    refine lv_aload_n hx hb dX2_print_16 rfl (lv_at hl 0 rfl) ?_
    refine va_get (D := D) (ci := 2) (v := .int (nI (T2 0 0))) (C := RX2) (T := TX2) (N := 19) hx hb hts hiX2 hown hK hP (0) rfl rfl 16 (by decide) (hts (.fieldLink RX2 76 "CoauthorTextModel" "length" "I") (by decide +kernel)) (fun _ h9 => h9) rfl dX2_print_17 ?_
    refine r_if_eq (tgt := 32) hx hb dX2_print_20 (by decide) (by omega) (fun cB => ?_) (fun cB => ?_)
    · have hz : (txL S O a).length = 0 := by rw [← htl]; exact cB
      refine lv_iconst (v := nI 2) hx hb dX2_print_32 (by decide) ?_
      refine lv_goto (tgt := 37) hx hb dX2_print_33 (by decide) ?_
      refine K_i (va_runV (As := [.int (nI 2)]) (rest := []) ⟨hx, hb, hml, hown, hts⟩ (c_X2_goes l (k := 2) (by decide) _) (cwV 1 hts gX2_print_X2_goes rfl rfl rfl (by decide +kernel) ⟨Nat.le_of_ble_eq_true rfl, Nat.le_of_ble_eq_true rfl⟩) (pV hP hK hD hS hA hX (va_recv hK hP (ci := 2) (q0 := 0) rfl rfl)) rfl rfl hl.1 rfl (lv_room (Nat.le_of_ble_eq_true rfl)) dX2_print_37 ⟨Nat.le_of_ble_eq_true rfl, Nat.le_of_ble_eq_true rfl⟩) hD hS hA (fun r w'  H locs hp hP hD hS => ?_)
      obtain ⟨hr9, rfl⟩ := hp
      obtain rfl : r = nI 0 := hr9
      refine r_if_ne (tgt := 45) hx hb dX2_print_40 (by decide) (by decide) (fun c1 => ?_) (fun c1 => ?_)
      · omega
      · refine lv_iconst (v := nI 0) hx hb dX2_print_43 (by decide) ?_
        exact C_iret hx hb hr hlocks hS hP hK hD (Nat.le_of_ble_eq_true rfl) (Nat.le_of_ble_eq_true rfl) dX2_print_44 (by rw [show spPrint S O (nI a) = (2, 0, S) from by simp [spPrint, hU, ea, hz]]; exact ⟨_, up2_s _ _ _ _, rfl, fun h => absurd (show (2 : Nat) = 0 from h) (by decide)⟩)
    · refine lv_aload_n hx hb dX2_print_23 rfl (lv_at hl 0 rfl) ?_
      refine va_get (D := D) (ci := 2) (v := .int (nI (S 0 1))) (C := RX2) (T := TX2) (N := 19) hx hb hts hiX2 hown hK hP (0) rfl rfl 9 (by decide) (hts (.fieldLink RX2 62 "CoauthorTextModel" "editions" "I") (by decide +kernel)) (fun _ h9 => h9) rfl dX2_print_24 ?_
      refine lv_bipush (v := nI 20) hx hb dX2_print_27 (by decide) ?_
      refine r_icmp_ne (tgt := 36) hx hb dX2_print_29 (by decide) (by omega) (by omega) (fun cC => ?_) (fun cC => ?_)
      · refine lv_iconst (v := nI 0) hx hb dX2_print_36 (by decide) ?_
        refine K_i (va_runV (As := [.int (nI 0)]) (rest := []) ⟨hx, hb, hml, hown, hts⟩ (c_X2_goes l (k := 0) (by decide) _) (cwV 1 hts gX2_print_X2_goes rfl rfl rfl (by decide +kernel) ⟨Nat.le_of_ble_eq_true rfl, Nat.le_of_ble_eq_true rfl⟩) (pV hP hK hD hS hA hX (va_recv hK hP (ci := 2) (q0 := 0) rfl rfl)) rfl rfl hl.1 rfl (lv_room (Nat.le_of_ble_eq_true rfl)) dX2_print_37 ⟨Nat.le_of_ble_eq_true rfl, Nat.le_of_ble_eq_true rfl⟩) hD hS hA (fun r w'  H locs hp hP hD hS => ?_)
        obtain ⟨hr9, rfl⟩ := hp
        obtain rfl : r = nI 1 := hr9
        refine r_if_ne (tgt := 45) hx hb dX2_print_40 (by decide) (by decide) (fun c2 => ?_) (fun c2 => ?_)
        · have hspec : spPrint S O (nI a) = (0, nI (S 0 1), prS S (txL S O a)) := by
            have hz : ¬ (txL S O a).length = 0 := by omega
            simp only [spPrint, hU, ea, hz, cC, Bool.true_eq_false, if_false, or_self]
          refine lv_iconst (v := nI 0) hx hb dX2_print_45 (by decide) ?_
          refine lv_istore_n (lv' := [(2, .int (nI 0)), (0, .ref (B 0)), (1, .int (nI a))]) hx hb dX2_print_46 rfl hl (by decide) rfl (fun ls hl => ?_)
          have loop : ∀ (q j : Nat) (Sj : Nat → Nat → Nat) (H : Heap) (locs : List Loc) (ls : Array Slot), j + q = (txL S O a).length + 1 → j ≤ (txL S O a).length → Sj = rowS S (cntA S ((txL S O a).take j)) → va_P D vwCl (MW cy B Sj (up2 T2 0 2 0) Y) H → va_D A (MW cy B Sj (up2 T2 0 2 0) Y) → va_S A s.heap H locs → lv_has ls 3 [(2, .int (nI j)), (0, .ref (B 0)), (1, .int (nI a))] → W p l e ({ frames := 4, cells := 0, slots := 0, locals := 82 } : Room) s m ([.ref (B 0), .int (nI a)] : List Value).toArray below meth c H locs 0 0 (MQ below (va_Qi (fun r w' => ∃ T' : Nat → Nat → Nat, T' 0 2 = (spPrint S O (nI a)).1 ∧ w' = MW cy B (spPrint S O (nI a)).2.2 T' Y ∧ ((spPrint S O (nI a)).1 = 0 → r = (spPrint S O (nI a)).2.1)) (fun w' t => wB D cy A w' t) A) ([.ref (B 0), .int (nI a)] : List Value).toArray s 0 0 A) (F0 m 47 ls []) := by
            intro q
            induction q with
            | zero => intro j Sj H locs ls hq; omega
            | succ q ih =>
              intro j Sj H locs ls hq hj hSj hP hD hS hl
              have e0 : Sj 0 = S 0 := by rw [hSj]; rfl
              have e1 : Sj 1 = S 1 := by rw [hSj]; rfl
              refine lv_iload_n hx hb dX2_print_47 rfl (lv_at hl 0 rfl) ?_
              refine lv_aload_n hx hb dX2_print_48 rfl (lv_at hl 1 rfl) ?_
              refine va_get (D := D) (ci := 2) (v := .int (nI (T2 0 0))) (C := RX2) (T := TX2) (N := 19) hx hb hts hiX2 hown hK hP (0) rfl rfl 16 (by decide) (hts (.fieldLink RX2 76 "CoauthorTextModel" "length" "I") (by decide +kernel)) (fun _ h9 => h9) rfl dX2_print_49 ?_
              refine r_icmp_ge (tgt := 88) hx hb dX2_print_52 (by decide) (by omega) (by omega) (fun c3 => ?_) (fun c3 => ?_)
              · have ej : j = (txL S O a).length := by omega
                rw [ej, List.take_length] at hSj
                refine lv_aload_n hx hb dX2_print_88 rfl (lv_at hl 1 rfl) ?_
                refine lv_dup hx hb dX2_print_89 rfl ?_
                refine va_get (D := D) (ci := 2) (v := .int (nI (Sj 0 1))) (C := RX2) (T := TX2) (N := 19) hx hb hts hiX2 hown hK hP (0) rfl rfl 9 (by decide) (hts (.fieldLink RX2 62 "CoauthorTextModel" "editions" "I") (by decide +kernel)) (fun _ h9 => h9) rfl dX2_print_90 ?_
                refine lv_topi (fun y9 ey9 => ?_)
                obtain rfl : y9 = nI (S 0 1) := ey9.trans (by rw [e0])
                refine lv_iconst (v := nI 1) hx hb dX2_print_93 (by decide) ?_
                refine r_iadd hx hb dX2_print_94 ?_
                refine r_put (w' := MW cy B (prS S (txL S O a)) (up2 T2 0 2 0) Y) (own := RX2) (C := RX2) (T := TX2) (N := 19) (ci := 2) (q0 := 0) (k := 9) (index := 62) (ty := .int) hx hb hts hiX2 tyX2_ok nmX2 hown hK hP hD hS rfl rfl (by decide) (by decide +kernel) rfl (by decide +kernel) rfl rfl (Nat.le_of_ble_eq_true rfl) dX2_print_95 (by rw [prS, ← hSj]; rfl) (fun H locs hP hD hS => ?_)
                refine lv_aload_n hx hb dX2_print_98 rfl (lv_at hl 1 rfl) ?_
                refine va_get (D := D) (ci := 2) (v := .int (nI (S 0 1 + 1))) (C := RX2) (T := TX2) (N := 19) hx hb hts hiX2 hown hK hP (0) rfl rfl 9 (by decide) (hts (.fieldLink RX2 62 "CoauthorTextModel" "editions" "I") (by decide +kernel)) (fun _ h9 => h9) rfl dX2_print_99 ?_
                refine lv_iconst (v := nI 1) hx hb dX2_print_102 (by decide) ?_
                refine r_isub hx hb dX2_print_103 (by omega) ?_
                exact C_iret hx hb hr hlocks hS hP hK hD (Nat.le_of_ble_eq_true rfl) (Nat.le_of_ble_eq_true rfl) dX2_print_104 (by rw [hspec]; exact ⟨_, up2_s _ _ _ _, rfl, fun _ => by rw [Nat.add_sub_cancel]⟩)
              · have hjl : j < (txL S O a).length := by omega
                obtain ⟨i, ei⟩ : ∃ i, (txL S O a).getD j 0 = i := ⟨_, rfl⟩
                have hm := txL_mem hI (getD_mem hjl)
                rw [ei] at hm
                have hn60 := hI.R.1
                have h1 := hI.R.2.2.2.1 i
                have hT1 : T2 1 j = i := by rw [txt_at ht hjl, ei]
                refine lv_aload_n hx hb dX2_print_55 rfl (lv_at hl 1 rfl) ?_
                refine va_get (D := D) (ci := 2) (v := .ref (B 9)) (C := RX2) (T := TX2) (N := 19) hx hb hts hiX2 hown hK hP (0) rfl rfl 10 (by decide) (hts (.fieldLink RX2 35 "CoauthorTextModel" "printed" "[I") (by decide +kernel)) (fun _ h9 => h9) rfl dX2_print_56 ?_
                refine lv_iconst (v := nI 4) hx hb dX2_print_59 (by decide) ?_
                refine lv_aload_n hx hb dX2_print_60 rfl (lv_at hl 1 rfl) ?_
                refine va_get (D := D) (ci := 2) (v := .int (nI (Sj 0 1))) (C := RX2) (T := TX2) (N := 19) hx hb hts hiX2 hown hK hP (0) rfl rfl 9 (by decide) (hts (.fieldLink RX2 62 "CoauthorTextModel" "editions" "I") (by decide +kernel)) (fun _ h9 => h9) rfl dX2_print_61 ?_
                refine lv_topi (fun y9 ey9 => ?_)
                obtain rfl : y9 = nI (S 0 1) := ey9.trans (by rw [e0])
                refine r_imul hx hb dX2_print_64 ?_
                refine lv_aload_n hx hb dX2_print_65 rfl (lv_at hl 1 rfl) ?_
                refine va_get (D := D) (ci := 2) (v := .ref (B 1)) (C := RX2) (T := TX2) (N := 19) hx hb hts hiX2 hown hK hP (0) rfl rfl 1 (by decide) (hts (.fieldLink RX2 7 "CoauthorTextModel" "authors" "[I") (by decide +kernel)) (fun _ h9 => h9) rfl dX2_print_66 ?_
                refine lv_aload_n hx hb dX2_print_69 rfl (lv_at hl 1 rfl) ?_
                refine va_get (D := D) (ci := 2) (v := .ref (B 12)) (C := RX2) (T := TX2) (N := 19) hx hb hts hiX2 hown hK hP (0) rfl rfl 14 (by decide) (hts (.fieldLink RX2 45 "CoauthorTextModel" "text" "[I") (by decide +kernel)) (fun _ h9 => h9) rfl dX2_print_70 ?_
                refine lv_iload_n hx hb dX2_print_73 rfl (lv_at hl 0 rfl) ?_
                refine r_iald hx hb hK hP (12) rfl (by omega) (by decide) dX2_print_74 ?_
                refine lv_topi (fun y9 ey9 => ?_)
                obtain rfl : y9 = nI i := ey9.trans (by show nI (T2 1 j) = _; rw [hT1])
                refine r_iald hx hb hK hP (1) rfl (by omega) (by decide) dX2_print_75 ?_
                refine lv_topi (fun y9 ey9 => ?_)
                obtain rfl : y9 = nI (S 1 i) := ey9.trans (by show nI (Sj 1 i) = _; rw [e1])
                have hrow : Sj 9 (4 * S 0 1 + S 1 i) = cntA S ((txL S O a).take j) (S 1 i) := by rw [hSj]; exact row_at h1
                refine r_iadd hx hb dX2_print_76 ?_
                refine lv_dup2_11 hx hb dX2_print_77 rfl rfl ?_
                refine r_iald hx hb hK hP (9) rfl (by omega) (by decide) dX2_print_78 ?_
                refine lv_topi (fun y9 ey9 => ?_)
                obtain rfl : y9 = nI (cntA S ((txL S O a).take j) (S 1 i)) := ey9.trans (by show nI (Sj 9 _) = _; rw [hrow])
                refine lv_iconst (v := nI 1) hx hb dX2_print_79 (by decide) ?_
                refine r_iadd hx hb dX2_print_80 ?_
                refine r_iast (w' := MW cy B (up2 Sj 9 ((4 * (S 0 1)) + (S 1 i)) ((cntA S ((txL S O a).take j) (S 1 i)) + 1)) (up2 T2 0 2 0) Y) hx hb hK hP hD hS (9) rfl (by omega) (by decide) dX2_print_81 (by rw [show upd (fun x9 => nI (Sj 9 x9)) ((4 * (S 0 1)) + (S 1 i)) (nI ((cntA S ((txL S O a).take j) (S 1 i)) + 1)) = fun x9 => nI ((up2 Sj 9 ((4 * (S 0 1)) + (S 1 i)) ((cntA S ((txL S O a).take j) (S 1 i)) + 1)) 9 x9) from upd_n Sj 9 _ _]; rfl) (fun H locs hP hD hS => ?_)
                refine lv_iinc (v := nI (j + 1)) (lv' := [(2, .int (nI (j + 1))), (0, .ref (B 0)), (1, .int (nI a))]) hx hb dX2_print_82 hl (k := 0) rfl (nI_inc _) (by decide) rfl (fun ls hl => ?_)
                refine lv_goto (tgt := 47) hx hb dX2_print_85 (by decide) ?_
                exact ih (j + 1) _ _ _ ls (by omega) (by omega) (by rw [hSj]; exact row_s h1 (fun b hb => by rw [cnt_take S _ b hjl, ei, if_neg (fun h => hb h.symm)]; rfl) (by rw [cnt_take S _ _ hjl, ei, if_pos rfl])) hP hD hS (lv_sub hl [0, 1, 2] rfl)
          exact loop ((txL S O a).length + 1) 0 S _ _ ls (by omega) (Nat.zero_le _) (row_0 (fun b hb => by rw [hI.2.2.2.2.2.2.2.2.1 _ b (Nat.le_refl _) hb]; rfl)).symm hP hD hS (lv_sub hl [0, 1, 2] rfl)
        · omega
      · refine lv_iconst (v := nI 2) hx hb dX2_print_32 (by decide) ?_
        refine lv_goto (tgt := 37) hx hb dX2_print_33 (by decide) ?_
        refine K_i (va_runV (As := [.int (nI 2)]) (rest := []) ⟨hx, hb, hml, hown, hts⟩ (c_X2_goes l (k := 2) (by decide) _) (cwV 1 hts gX2_print_X2_goes rfl rfl rfl (by decide +kernel) ⟨Nat.le_of_ble_eq_true rfl, Nat.le_of_ble_eq_true rfl⟩) (pV hP hK hD hS hA hX (va_recv hK hP (ci := 2) (q0 := 0) rfl rfl)) rfl rfl hl.1 rfl (lv_room (Nat.le_of_ble_eq_true rfl)) dX2_print_37 ⟨Nat.le_of_ble_eq_true rfl, Nat.le_of_ble_eq_true rfl⟩) hD hS hA (fun r w'  H locs hp hP hD hS => ?_)
        obtain ⟨hr9, rfl⟩ := hp
        obtain rfl : r = nI 0 := hr9
        refine r_if_ne (tgt := 45) hx hb dX2_print_40 (by decide) (by decide) (fun c4 => ?_) (fun c4 => ?_)
        · omega
        · refine lv_iconst (v := nI 0) hx hb dX2_print_43 (by decide) ?_
          exact C_iret hx hb hr hlocks hS hP hK hD (Nat.le_of_ble_eq_true rfl) (Nat.le_of_ble_eq_true rfl) dX2_print_44 (by rw [show spPrint S O (nI a) = (2, 0, S) from by simp [spPrint, hU, ea, cC]]; exact ⟨_, up2_s _ _ _ _, rfl, fun h => absurd (show (2 : Nat) = 0 from h) (by decide)⟩)
  · have hU := bN_0.mp cA
    refine lv_iconst (v := nI 0) hx hb dX2_print_8 (by decide) ?_
    exact C_iret hx hb hr hlocks hS hP hK hD (Nat.le_of_ble_eq_true rfl) (Nat.le_of_ble_eq_true rfl) dX2_print_9 (by rw [show spPrint S O p0 = (1, 0, S) from by simp [spPrint, hU]]; exact ⟨_, (by rw [hU]; rfl), rfl, fun h => absurd (show (1 : Nat) = 0 from h) (by decide)⟩)

theorem nI_dec (a : Nat) : nI a + Int32.ofInt (-1) = bI a := by
  rw [bI, Int32.sub_eq_add_neg]
  rfl
theorem s4_le {f g : Nat → Nat} (h : ∀ a, f a ≤ g a) : s4 f ≤ s4 g := by
  have h0 := h 0
  have h1 := h 1
  have h2 := h 2
  have h3 := h 3
  unfold s4
  omega
theorem slP_sum (S : Nat → Nat → Nat) (e m : Nat) (h : 0 < slA S e) : s4 (slP S e m) ≤ slL S e m := by
  have hd : ∀ a, slP S e m a * slA S e ≤ slL S e m * S 9 (4 * e + a) := fun a => Nat.div_mul_le_self _ _
  have e1 : s4 (slP S e m) * slA S e = slP S e m 0 * slA S e + slP S e m 1 * slA S e + slP S e m 2 * slA S e + slP S e m 3 * slA S e := by
    simp only [s4, Nat.add_mul]
  have e2 : slL S e m * slA S e = slL S e m * S 9 (4 * e + 0) + slL S e m * S 9 (4 * e + 1) + slL S e m * S 9 (4 * e + 2) + slL S e m * S 9 (4 * e + 3) := by
    rw [slA, s4]
    simp only [Nat.mul_add]
  have h0 := hd 0
  have h1 := hd 1
  have h2 := hd 2
  have h3 := hd 3
  refine Nat.le_of_mul_le_mul_right (?_ : s4 (slP S e m) * slA S e ≤ slL S e m * slA S e) h
  rw [e1, e2]
  omega
theorem slF_le {S : Nat → Nat → Nat} (hR : Rng S) (m : Nat) : 4 * slF S m ≤ m := by
  have h1 : m * S 0 2 ≤ m * 25 := Nat.mul_le_mul_left _ hR.2.2.1
  unfold slF
  omega
theorem slW_le (S : Nat → Nat → Nat) (e : Nat) : slW S e ≤ 4 := by
  have h : ∀ a, (if S 9 (4 * e + a) = 0 then 0 else 1) ≤ 1 := fun a => by split <;> omega
  have h0 := h 0
  have h1 := h 1
  have h2 := h 2
  have h3 := h 3
  have hw : slW S e = (if S 9 (4 * e + 0) = 0 then 0 else 1) + (if S 9 (4 * e + 1) = 0 then 0 else 1) + (if S 9 (4 * e + 2) = 0 then 0 else 1) + (if S 9 (4 * e + 3) = 0 then 0 else 1) := rfl
  omega
theorem sl_4 (S : Nat → Nat → Nat) (e m : Nat) : up2 (up2 (up2 (up2 (up2 (up2 (up2 (up2 S 10 0 (S 10 0 - slH S e m 0)) 11 0 (S 11 0 + (slG S e m 0 - slH S e m 0))) 10 1 (S 10 1 - slH S e m 1)) 11 1 (S 11 1 + (slG S e m 1 - slH S e m 1))) 10 2 (S 10 2 - slH S e m 2)) 11 2 (S 11 2 + (slG S e m 2 - slH S e m 2))) 10 3 (S 10 3 - slH S e m 3)) 11 3 (S 11 3 + (slG S e m 3 - slH S e m 3)) = slS S e m 4 := by
  funext k j
  simp only [up2, slS]
  by_cases h10 : k = 10
  · subst h10
    match j with
    | 0 => rfl
    | 1 => rfl
    | 2 => rfl
    | 3 => rfl
    | j + 4 => simp; intro h; omega
  · by_cases h11 : k = 11
    · subst h11
      match j with
      | 0 => rfl
      | 1 => rfl
      | 2 => rfl
      | 3 => rfl
      | j + 4 => simp; intro h; omega
    · simp [h10, h11]

set_option maxHeartbeats 4000000 in
set_option maxRecDepth 100000 in
theorem c_X2_sell (l : Launch) {D : va_G} {cy : Nat → ClassId} {B : Nat → Nat} {S T : Nat → Nat → Nat} {Y : va_W} {O : List Nat} (hI : Inv S O) (p0 p1 : Int32) : CI l yX2_sell wsX2_sell ({ frames := 3, cells := 0, slots := 0, locals := 55 } : Room) D cy [.ref (B 0), .int p0, .int p1] (MW cy B S T Y) (fun r w' => ∃ T' : Nat → Nat → Nat, T' 0 2 = (spSell S p0 p1).1 ∧ w' = MW cy B (spSell S p0 p1).2.2 T' Y ∧ ((spSell S p0 p1).1 = 0 → r = (spSell S p0 p1).2.1)) 0 0 := by
  refine CI.of (cc := cX2_sell) (maxL := 12) (ret := (some .int)) (by decide) rfl (Nat.le_of_ble_eq_true rfl) ?_
  intro p e s m below meth c A ls E0 hl
  obtain ⟨hx, hb, hml, hown, hts, hr, hlocks, hA, hS, hP, hK, hD, hX⟩ := E0
  have hiX2 : ∀ w ∈ u_ws RX2 TX2 19, w ∈ wsX2_sell := by decide +kernel
  have hl : lv_has ls 12 [(0, .ref (B 0)), (1, .int p0), (2, .int p1)] := hl
  refine lv_aload_n hx hb dX2_sell_0 rfl (lv_at hl 0 rfl) ?_
  refine lv_aload_n hx hb dX2_sell_1 rfl (lv_at hl 0 rfl) ?_
  refine lv_iload_n hx hb dX2_sell_2 rfl (lv_at hl 1 rfl) ?_
  refine K_i (va_runV (As := [.int p0]) (rest := [.ref (B 0)]) ⟨hx, hb, hml, hown, hts⟩ (c_X2_isEdition l p0 _) (cwV 1 hts gX2_sell_X2_isEdition rfl rfl rfl (by decide +kernel) ⟨Nat.le_of_ble_eq_true rfl, Nat.le_of_ble_eq_true rfl⟩) (pV hP hK hD hS hA hX (va_recv hK hP (ci := 2) (q0 := 0) rfl rfl)) rfl rfl hl.1 rfl (lv_room (Nat.le_of_ble_eq_true rfl)) dX2_sell_3 ⟨Nat.le_of_ble_eq_true rfl, Nat.le_of_ble_eq_true rfl⟩) hD hS hA (fun r w'  H locs hp hP hD hS => ?_)
  obtain ⟨rfl, rfl⟩ := hp
  refine r_if_ne (tgt := 13) hx hb dX2_sell_6 (by decide) (Nat.lt_trans (bN_lt _) (by decide)) (fun cA => ?_) (fun cA => ?_)
  · have hV := bN_1.mp cA
    refine lv_iload_n hx hb dX2_sell_13 rfl (lv_at hl 2 rfl) ?_
    refine lv_iconst (v := nI 1) hx hb dX2_sell_14 (by decide) ?_
    refine lv_ldc (v := nI 1000000) hx hb hown (hts (.constant RX2 117 (1000000)) (by decide +kernel)) dX2_sell_15 ?_
    refine K_i (va_runS (As := [.int p1, .int (nI 1), .int (nI 1000000)]) (rest := [.ref (B 0)]) ⟨hx, hb, hml, hown, hts⟩ (c_X2_isIn l p1 (nI 1) (nI 1000000) _) (va_cwS 3 hts gX2_sell_X2_isIn rfl rfl rfl (by decide +kernel) ⟨Nat.le_of_ble_eq_true rfl, Nat.le_of_ble_eq_true rfl⟩) (pS hP hK hD hS hA hX) rfl rfl hl.1 rfl (lv_room (Nat.le_of_ble_eq_true rfl)) dX2_sell_17 ⟨Nat.le_of_ble_eq_true rfl, Nat.le_of_ble_eq_true rfl⟩) hD hS hA (fun r w'  H locs hp hP hD hS => ?_)
    obtain ⟨rfl, hw9⟩ := hp
    rw [hw9] at hP hD
    refine r_if_eq (tgt := 27) hx hb dX2_sell_20 (by decide) (Nat.lt_trans (bN_lt _) (by decide)) (fun cB => ?_) (fun cB => ?_)
    · have hU : inB p1 1 1000000 = false := bN_0.mp cB
      refine lv_iconst (v := nI 2) hx hb dX2_sell_27 (by decide) ?_
      refine K_i (va_runV (As := [.int (nI 2)]) (rest := []) ⟨hx, hb, hml, hown, hts⟩ (c_X2_goes l (k := 2) (by decide) _) (cwV 1 hts gX2_sell_X2_goes rfl rfl rfl (by decide +kernel) ⟨Nat.le_of_ble_eq_true rfl, Nat.le_of_ble_eq_true rfl⟩) (pV hP hK hD hS hA hX (va_recv hK hP (ci := 2) (q0 := 0) rfl rfl)) rfl rfl hl.1 rfl (lv_room (Nat.le_of_ble_eq_true rfl)) dX2_sell_28 ⟨Nat.le_of_ble_eq_true rfl, Nat.le_of_ble_eq_true rfl⟩) hD hS hA (fun r w'  H locs hp hP hD hS => ?_)
      obtain ⟨hr9, rfl⟩ := hp
      obtain rfl : r = nI 0 := hr9
      refine r_if_ne (tgt := 36) hx hb dX2_sell_31 (by decide) (by decide) (fun c1 => ?_) (fun c1 => ?_)
      · omega
      · refine lv_iconst (v := nI 0) hx hb dX2_sell_34 (by decide) ?_
        exact C_iret hx hb hr hlocks hS hP hK hD (Nat.le_of_ble_eq_true rfl) (Nat.le_of_ble_eq_true rfl) dX2_sell_35 (by rw [show spSell S p0 p1 = (2, 0, S) from by simp [spSell, hU, hV]]; exact ⟨_, up2_s _ _ _ _, rfl, fun h => absurd (show (2 : Nat) = 0 from h) (by decide)⟩)
    · have hU : inB p1 1 1000000 = true := bN_1.mp cB
      refine lv_iconst (v := nI 0) hx hb dX2_sell_23 (by decide) ?_
      refine lv_goto (tgt := 28) hx hb dX2_sell_24 (by decide) ?_
      refine K_i (va_runV (As := [.int (nI 0)]) (rest := []) ⟨hx, hb, hml, hown, hts⟩ (c_X2_goes l (k := 0) (by decide) _) (cwV 1 hts gX2_sell_X2_goes rfl rfl rfl (by decide +kernel) ⟨Nat.le_of_ble_eq_true rfl, Nat.le_of_ble_eq_true rfl⟩) (pV hP hK hD hS hA hX (va_recv hK hP (ci := 2) (q0 := 0) rfl rfl)) rfl rfl hl.1 rfl (lv_room (Nat.le_of_ble_eq_true rfl)) dX2_sell_28 ⟨Nat.le_of_ble_eq_true rfl, Nat.le_of_ble_eq_true rfl⟩) hD hS hA (fun r w'  H locs hp hP hD hS => ?_)
      obtain ⟨hr9, rfl⟩ := hp
      obtain rfl : r = nI 1 := hr9
      refine r_if_ne (tgt := 36) hx hb dX2_sell_31 (by decide) (by decide) (fun c2 => ?_) (fun c2 => ?_)
      · have he20 := hI.R.2.1
        obtain ⟨e9, he9, rfl⟩ := inS_n (by omega) hV
        obtain ⟨am, ham, rfl⟩ := inB_1 (k := 1000000) (by decide) hU
        have ea := aN_n (show e9 < 2 ^ 31 by omega)
        have eb := aN_n (show am < 2 ^ 31 by omega)
        have h9 : ∀ i, S 9 i ≤ 60 := hI.R.2.2.2.2.2.2.2.2.2.2.2.1
        have hall := hI.2.2.2.2.2.2.2.2.2 e9 he9
        have hfl := slF_le hI.R am
        have hfm : am * S 0 2 ≤ 25000000 := Nat.le_trans (Nat.mul_le_mul ham.2 hI.R.2.2.1) (by decide)
        have h10 : ∀ i, S 10 i < 1073741824 := hI.R.2.2.2.2.2.2.2.2.2.2.2.2
        refine lv_iconst (v := nI 4) hx hb dX2_sell_36 (by decide) ?_
        refine lv_iload_n hx hb dX2_sell_37 rfl (lv_at hl 1 rfl) ?_
        refine r_imul hx hb dX2_sell_38 ?_
        refine lv_istore_n (lv' := [(3, .int (nI (4 * e9))), (0, .ref (B 0)), (1, .int (nI e9)), (2, .int (nI am))]) hx hb dX2_sell_39 rfl hl (by decide) rfl (fun ls hl => ?_)
        refine lv_iconst (v := nI 0) hx hb dX2_sell_40 (by decide) ?_
        refine lv_istore (lv' := [(4, .int (nI 0)), (3, .int (nI (4 * e9))), (0, .ref (B 0)), (1, .int (nI e9)), (2, .int (nI am))]) hx hb dX2_sell_41 hl (by decide) rfl (fun ls hl => ?_)
        refine lv_iload_n hx hb dX2_sell_43 rfl (lv_at hl 4 rfl) ?_
        refine lv_istore (lv' := [(5, .int (nI am)), (4, .int (nI 0)), (3, .int (nI (4 * e9))), (0, .ref (B 0)), (1, .int (nI e9)), (2, .int (nI am))]) hx hb dX2_sell_44 hl (by decide) rfl (fun ls hl => ?_)
        refine lv_iconst (v := bI 0) hx hb dX2_sell_46 (by decide) ?_
        refine lv_istore (lv' := [(6, .int (bI 0)), (5, .int (nI am)), (4, .int (nI 0)), (3, .int (nI (4 * e9))), (0, .ref (B 0)), (1, .int (nI e9)), (2, .int (nI am))]) hx hb dX2_sell_47 hl (by decide) rfl (fun ls hl => ?_)
        refine lv_iconst (v := nI 3) hx hb dX2_sell_49 (by decide) ?_
        refine lv_istore (lv' := [(7, .int (nI 3)), (6, .int (bI 0)), (5, .int (nI am)), (4, .int (nI 0)), (3, .int (nI (4 * e9))), (0, .ref (B 0)), (1, .int (nI e9)), (2, .int (nI am))]) hx hb dX2_sell_50 hl (by decide) rfl (fun ls hl => ?_)
        have iter1 : ∀ (a al lf fi : Nat) (v7 : Int32) (H : Heap) (locs : List Loc) (ls : Array Slot), a < 4 → v7 = nI a → slF S am ≤ lf → lf ≤ 1000000 → va_P D vwCl (MW cy B S (up2 T 0 2 0) Y) H → va_D A (MW cy B S (up2 T 0 2 0) Y) → va_S A s.heap H locs → lv_has ls 12 [(7, .int v7), (6, .int (bI fi)), (5, .int (nI lf)), (4, .int (nI al)), (0, .ref (B 0)), (1, .int (nI e9)), (2, .int (nI am)), (3, .int (nI (4 * e9)))] → (∀ (ls : Array Slot), lv_has ls 12 [(7, .int (bI a)), (6, .int (bI (if S 9 (4 * e9 + a) = 0 then fi else a + 1))), (5, .int (nI (lf - (if S 9 (4 * e9 + a) = 0 then 0 else slF S am)))), (4, .int (nI (al + S 9 (4 * e9 + a)))), (0, .ref (B 0)), (1, .int (nI e9)), (2, .int (nI am)), (3, .int (nI (4 * e9)))] → W p l e ({ frames := 3, cells := 0, slots := 0, locals := 55 } : Room) s m ([.ref (B 0), .int (nI e9), .int (nI am)] : List Value).toArray below meth c H locs 0 0 (MQ below (va_Qi (fun r w' => ∃ T' : Nat → Nat → Nat, T' 0 2 = (spSell S (nI e9) (nI am)).1 ∧ w' = MW cy B (spSell S (nI e9) (nI am)).2.2 T' Y ∧ ((spSell S (nI e9) (nI am)).1 = 0 → r = (spSell S (nI e9) (nI am)).2.1)) (fun w' t => wB D cy A w' t) A) ([.ref (B 0), .int (nI e9), .int (nI am)] : List Value).toArray s 0 0 A) (F0 m 52 ls [])) → W p l e ({ frames := 3, cells := 0, slots := 0, locals := 55 } : Room) s m ([.ref (B 0), .int (nI e9), .int (nI am)] : List Value).toArray below meth c H locs 0 0 (MQ below (va_Qi (fun r w' => ∃ T' : Nat → Nat → Nat, T' 0 2 = (spSell S (nI e9) (nI am)).1 ∧ w' = MW cy B (spSell S (nI e9) (nI am)).2.2 T' Y ∧ ((spSell S (nI e9) (nI am)).1 = 0 → r = (spSell S (nI e9) (nI am)).2.1)) (fun w' t => wB D cy A w' t) A) ([.ref (B 0), .int (nI e9), .int (nI am)] : List Value).toArray s 0 0 A) (F0 m 52 ls []) := by
          intro a al lf fi v7 H locs ls ha hv7 hlf hlf2 hP hD hS hl kont
          subst hv7
          have hl : lv_has ls 12 [(7, .int (nI a)), (6, .int (bI fi)), (5, .int (nI lf)), (4, .int (nI al)), (0, .ref (B 0)), (1, .int (nI e9)), (2, .int (nI am)), (3, .int (nI (4 * e9)))] := hl
          have h9a := h9 (4 * e9 + a)
          refine lv_iload hx hb dX2_sell_52 (lv_at hl 0 rfl) ?_
          refine lv_if_lt (tgt := 133) hx hb dX2_sell_54 (by decide) (fun cN => ?_) (fun cN => ?_)
          · exact absurd cN (nI_pos (by omega))
          · refine lv_aload_n hx hb dX2_sell_57 rfl (lv_at hl 4 rfl) ?_
            refine va_get (D := D) (ci := 2) (v := .ref (B 9)) (C := RX2) (T := TX2) (N := 19) hx hb hts hiX2 hown hK hP (0) rfl rfl 10 (by decide) (hts (.fieldLink RX2 35 "CoauthorTextModel" "printed" "[I") (by decide +kernel)) (fun _ h9 => h9) rfl dX2_sell_58 ?_
            refine lv_iload_n hx hb dX2_sell_61 rfl (lv_at hl 7 rfl) ?_
            refine lv_iload hx hb dX2_sell_62 (lv_at hl 0 rfl) ?_
            refine r_iadd hx hb dX2_sell_64 ?_
            refine r_iald hx hb hK hP (9) rfl (by omega) (by decide) dX2_sell_65 ?_
            refine r_if_le (tgt := 73) hx hb dX2_sell_66 (by decide) (by omega) (fun cH => ?_) (fun cH => ?_)
            · refine lv_iconst (v := nI 0) hx hb dX2_sell_73 (by decide) ?_
              refine lv_istore (lv' := [(8, .int (nI 0)), (7, .int (nI a)), (6, .int (bI fi)), (5, .int (nI lf)), (4, .int (nI al)), (0, .ref (B 0)), (1, .int (nI e9)), (2, .int (nI am)), (3, .int (nI (4 * e9)))]) hx hb dX2_sell_74 hl (by decide) rfl (fun ls hl => ?_)
              refine lv_iload hx hb dX2_sell_76 (lv_at hl 4 rfl) ?_
              refine lv_aload_n hx hb dX2_sell_78 rfl (lv_at hl 5 rfl) ?_
              refine va_get (D := D) (ci := 2) (v := .ref (B 9)) (C := RX2) (T := TX2) (N := 19) hx hb hts hiX2 hown hK hP (0) rfl rfl 10 (by decide) (hts (.fieldLink RX2 35 "CoauthorTextModel" "printed" "[I") (by decide +kernel)) (fun _ h9 => h9) rfl dX2_sell_79 ?_
              refine lv_iload_n hx hb dX2_sell_82 rfl (lv_at hl 8 rfl) ?_
              refine lv_iload hx hb dX2_sell_83 (lv_at hl 1 rfl) ?_
              refine r_iadd hx hb dX2_sell_85 ?_
              refine r_iald hx hb hK hP (9) rfl (by omega) (by decide) dX2_sell_86 ?_
              refine r_iadd hx hb dX2_sell_87 ?_
              refine lv_istore (lv' := [(4, .int (nI (al + (S 9 ((4 * e9) + a))))), (8, .int (nI 0)), (7, .int (nI a)), (6, .int (bI fi)), (5, .int (nI lf)), (0, .ref (B 0)), (1, .int (nI e9)), (2, .int (nI am)), (3, .int (nI (4 * e9)))]) hx hb dX2_sell_88 hl (by decide) rfl (fun ls hl => ?_)
              refine lv_iload hx hb dX2_sell_90 (lv_at hl 4 rfl) ?_
              refine lv_iload hx hb dX2_sell_92 (lv_at hl 1 rfl) ?_
              refine r_if_eq (tgt := 109) hx hb dX2_sell_94 (by decide) (by decide) (fun c3 => ?_) (fun c3 => ?_)
              · refine lv_iconst (v := nI 0) hx hb dX2_sell_109 (by decide) ?_
                refine r_isub hx hb dX2_sell_110 (by omega) ?_
                refine lv_istore (lv' := [(5, .int (nI (lf - 0))), (4, .int (nI (al + (S 9 ((4 * e9) + a))))), (8, .int (nI 0)), (7, .int (nI a)), (6, .int (bI fi)), (0, .ref (B 0)), (1, .int (nI e9)), (2, .int (nI am)), (3, .int (nI (4 * e9)))]) hx hb dX2_sell_111 hl (by decide) rfl (fun ls hl => ?_)
                refine lv_iload hx hb dX2_sell_113 (lv_at hl 2 rfl) ?_
                refine r_if_eq (tgt := 123) hx hb dX2_sell_115 (by decide) (by decide) (fun c4 => ?_) (fun c4 => ?_)
                · refine lv_iload hx hb dX2_sell_123 (lv_at hl 4 rfl) ?_
                  refine lv_istore (lv' := [(6, .int (bI fi)), (5, .int (nI (lf - 0))), (4, .int (nI (al + (S 9 ((4 * e9) + a))))), (8, .int (nI 0)), (7, .int (nI a)), (0, .ref (B 0)), (1, .int (nI e9)), (2, .int (nI am)), (3, .int (nI (4 * e9)))]) hx hb dX2_sell_125 hl (by decide) rfl (fun ls hl => ?_)
                  refine lv_iinc (v := bI a) (lv' := [(7, .int (bI a)), (6, .int (bI fi)), (5, .int (nI (lf - 0))), (4, .int (nI (al + (S 9 ((4 * e9) + a))))), (8, .int (nI 0)), (0, .ref (B 0)), (1, .int (nI e9)), (2, .int (nI am)), (3, .int (nI (4 * e9)))]) hx hb dX2_sell_127 hl (k := 4) rfl (nI_dec a) (by decide) rfl (fun ls hl => ?_)
                  refine lv_goto (tgt := 52) hx hb dX2_sell_130 (by decide) ?_
                  exact kont ls (by rw [if_pos cH, if_pos cH]; exact lv_sub hl [0, 1, 2, 3, 5, 6, 7, 8] rfl)
                · omega
              · omega
            · refine lv_iconst (v := nI 1) hx hb dX2_sell_69 (by decide) ?_
              refine lv_goto (tgt := 74) hx hb dX2_sell_70 (by decide) ?_
              refine lv_istore (lv' := [(8, .int (nI 1)), (7, .int (nI a)), (6, .int (bI fi)), (5, .int (nI lf)), (4, .int (nI al)), (0, .ref (B 0)), (1, .int (nI e9)), (2, .int (nI am)), (3, .int (nI (4 * e9)))]) hx hb dX2_sell_74 hl (by decide) rfl (fun ls hl => ?_)
              refine lv_iload hx hb dX2_sell_76 (lv_at hl 4 rfl) ?_
              refine lv_aload_n hx hb dX2_sell_78 rfl (lv_at hl 5 rfl) ?_
              refine va_get (D := D) (ci := 2) (v := .ref (B 9)) (C := RX2) (T := TX2) (N := 19) hx hb hts hiX2 hown hK hP (0) rfl rfl 10 (by decide) (hts (.fieldLink RX2 35 "CoauthorTextModel" "printed" "[I") (by decide +kernel)) (fun _ h9 => h9) rfl dX2_sell_79 ?_
              refine lv_iload_n hx hb dX2_sell_82 rfl (lv_at hl 8 rfl) ?_
              refine lv_iload hx hb dX2_sell_83 (lv_at hl 1 rfl) ?_
              refine r_iadd hx hb dX2_sell_85 ?_
              refine r_iald hx hb hK hP (9) rfl (by omega) (by decide) dX2_sell_86 ?_
              refine r_iadd hx hb dX2_sell_87 ?_
              refine lv_istore (lv' := [(4, .int (nI (al + (S 9 ((4 * e9) + a))))), (8, .int (nI 1)), (7, .int (nI a)), (6, .int (bI fi)), (5, .int (nI lf)), (0, .ref (B 0)), (1, .int (nI e9)), (2, .int (nI am)), (3, .int (nI (4 * e9)))]) hx hb dX2_sell_88 hl (by decide) rfl (fun ls hl => ?_)
              refine lv_iload hx hb dX2_sell_90 (lv_at hl 4 rfl) ?_
              refine lv_iload hx hb dX2_sell_92 (lv_at hl 1 rfl) ?_
              refine r_if_eq (tgt := 109) hx hb dX2_sell_94 (by decide) (by decide) (fun c5 => ?_) (fun c5 => ?_)
              · omega
              · refine lv_iload_n hx hb dX2_sell_97 rfl (lv_at hl 7 rfl) ?_
                refine lv_aload_n hx hb dX2_sell_98 rfl (lv_at hl 5 rfl) ?_
                refine va_get (D := D) (ci := 2) (v := .int (nI (S 0 2))) (C := RX2) (T := TX2) (N := 19) hx hb hts hiX2 hown hK hP (0) rfl rfl 11 (by decide) (hts (.fieldLink RX2 113 "CoauthorTextModel" "floor" "I") (by decide +kernel)) (fun _ h9 => h9) rfl dX2_sell_99 ?_
                refine r_imul hx hb dX2_sell_102 ?_
                refine lv_bipush (v := nI 100) hx hb dX2_sell_103 (by decide) ?_
                refine r_idiv hx hb dX2_sell_105 (by omega) (by decide) (by decide) ?_
                refine lv_goto (tgt := 110) hx hb dX2_sell_106 (by decide) ?_
                refine r_isub hx hb dX2_sell_110 (by have h77 := hlf; unfold slF at h77; omega) ?_
                refine lv_istore (lv' := [(5, .int (nI (lf - ((am * (S 0 2)) / 100)))), (4, .int (nI (al + (S 9 ((4 * e9) + a))))), (8, .int (nI 1)), (7, .int (nI a)), (6, .int (bI fi)), (0, .ref (B 0)), (1, .int (nI e9)), (2, .int (nI am)), (3, .int (nI (4 * e9)))]) hx hb dX2_sell_111 hl (by decide) rfl (fun ls hl => ?_)
                refine lv_iload hx hb dX2_sell_113 (lv_at hl 2 rfl) ?_
                refine r_if_eq (tgt := 123) hx hb dX2_sell_115 (by decide) (by decide) (fun c6 => ?_) (fun c6 => ?_)
                · omega
                · refine lv_iload hx hb dX2_sell_118 (lv_at hl 3 rfl) ?_
                  refine lv_goto (tgt := 125) hx hb dX2_sell_120 (by decide) ?_
                  refine lv_istore (lv' := [(6, .int (nI a)), (5, .int (nI (lf - ((am * (S 0 2)) / 100)))), (4, .int (nI (al + (S 9 ((4 * e9) + a))))), (8, .int (nI 1)), (7, .int (nI a)), (0, .ref (B 0)), (1, .int (nI e9)), (2, .int (nI am)), (3, .int (nI (4 * e9)))]) hx hb dX2_sell_125 hl (by decide) rfl (fun ls hl => ?_)
                  refine lv_iinc (v := bI a) (lv' := [(7, .int (bI a)), (6, .int (nI a)), (5, .int (nI (lf - ((am * (S 0 2)) / 100)))), (4, .int (nI (al + (S 9 ((4 * e9) + a))))), (8, .int (nI 1)), (0, .ref (B 0)), (1, .int (nI e9)), (2, .int (nI am)), (3, .int (nI (4 * e9)))]) hx hb dX2_sell_127 hl (k := 4) rfl (nI_dec a) (by decide) rfl (fun ls hl => ?_)
                  refine lv_goto (tgt := 52) hx hb dX2_sell_130 (by decide) ?_
                  rw [← bI_s a] at hl
                  exact kont ls (by rw [if_neg (show ¬ S 9 (4 * e9 + a) = 0 by omega), if_neg (show ¬ S 9 (4 * e9 + a) = 0 by omega)]; exact lv_sub hl [0, 1, 2, 3, 5, 6, 7, 8] rfl)
        have hi0 : (if S 9 (4 * e9 + 0) = 0 then 0 else slF S am) ≤ slF S am := by split <;> omega
        have hi1 : (if S 9 (4 * e9 + 1) = 0 then 0 else slF S am) ≤ slF S am := by split <;> omega
        have hi2 : (if S 9 (4 * e9 + 2) = 0 then 0 else slF S am) ≤ slF S am := by split <;> omega
        have hi3 : (if S 9 (4 * e9 + 3) = 0 then 0 else slF S am) ≤ slF S am := by split <;> omega
        refine iter1 3 (0) (am) (0) (nI 3) _ _ ls (by decide) (rfl) (by omega) (by omega) hP hD hS (lv_sub hl [0, 1, 2, 3, 5, 6, 7, 4] rfl) (fun ls hl => ?_)
        refine iter1 2 (0 + S 9 (4 * e9 + 3)) (am - (if S 9 (4 * e9 + 3) = 0 then 0 else slF S am)) (if S 9 (4 * e9 + 3) = 0 then 0 else 3 + 1) (bI 3) _ _ ls (by decide) (bI_s 2) (by omega) (by omega) hP hD hS hl (fun ls hl => ?_)
        refine iter1 1 ((0 + S 9 (4 * e9 + 3)) + S 9 (4 * e9 + 2)) ((am - (if S 9 (4 * e9 + 3) = 0 then 0 else slF S am)) - (if S 9 (4 * e9 + 2) = 0 then 0 else slF S am)) (if S 9 (4 * e9 + 2) = 0 then if S 9 (4 * e9 + 3) = 0 then 0 else 3 + 1 else 2 + 1) (bI 2) _ _ ls (by decide) (bI_s 1) (by omega) (by omega) hP hD hS hl (fun ls hl => ?_)
        refine iter1 0 (((0 + S 9 (4 * e9 + 3)) + S 9 (4 * e9 + 2)) + S 9 (4 * e9 + 1)) (((am - (if S 9 (4 * e9 + 3) = 0 then 0 else slF S am)) - (if S 9 (4 * e9 + 2) = 0 then 0 else slF S am)) - (if S 9 (4 * e9 + 1) = 0 then 0 else slF S am)) (if S 9 (4 * e9 + 1) = 0 then if S 9 (4 * e9 + 2) = 0 then if S 9 (4 * e9 + 3) = 0 then 0 else 3 + 1 else 2 + 1 else 1 + 1) (bI 1) _ _ ls (by decide) (bI_s 0) (by omega) (by omega) hP hD hS hl (fun ls hl => ?_)
        have eal : (((0 + S 9 (4 * e9 + 3)) + S 9 (4 * e9 + 2)) + S 9 (4 * e9 + 1)) + S 9 (4 * e9 + 0) = slA S e9 := by show _ = S 9 (4 * e9 + 0) + S 9 (4 * e9 + 1) + S 9 (4 * e9 + 2) + S 9 (4 * e9 + 3); omega
        have elf : (((am - (if S 9 (4 * e9 + 3) = 0 then 0 else slF S am)) - (if S 9 (4 * e9 + 2) = 0 then 0 else slF S am)) - (if S 9 (4 * e9 + 1) = 0 then 0 else slF S am)) - (if S 9 (4 * e9 + 0) = 0 then 0 else slF S am) = slL S e9 am := by
          have : slW S e9 * slF S am = (if S 9 (4 * e9 + 0) = 0 then 0 else slF S am) + (if S 9 (4 * e9 + 1) = 0 then 0 else slF S am) + (if S 9 (4 * e9 + 2) = 0 then 0 else slF S am) + (if S 9 (4 * e9 + 3) = 0 then 0 else slF S am) := by
            unfold slW s4
            simp only [Nat.add_mul]
            have hs : ∀ x : Nat, (if x = 0 then 0 else 1) * slF S am = if x = 0 then 0 else slF S am := fun x => by split <;> simp
            rw [hs, hs, hs, hs]
          unfold slL
          omega
        have efi : bI (if S 9 (4 * e9 + 0) = 0 then if S 9 (4 * e9 + 1) = 0 then if S 9 (4 * e9 + 2) = 0 then if S 9 (4 * e9 + 3) = 0 then 0 else 3 + 1 else 2 + 1 else 1 + 1 else 0 + 1) = nI (slI S e9) := by
          have hp := hall.1
          unfold slA s4 at hp
          unfold slI
          by_cases q0 : S 9 (4 * e9 + 0) = 0
          · by_cases q1 : S 9 (4 * e9 + 1) = 0
            · by_cases q2 : S 9 (4 * e9 + 2) = 0
              · have q3 : ¬ S 9 (4 * e9 + 3) = 0 := by omega
                rw [if_pos q0, if_pos q1, if_pos q2, if_neg q3, if_pos q0, if_pos q1, if_pos q2, bI_s]
              · rw [if_pos q0, if_pos q1, if_neg q2, if_pos q0, if_pos q1, if_neg q2, bI_s]
            · rw [if_pos q0, if_neg q1, if_pos q0, if_neg q1, bI_s]
          · rw [if_neg q0, if_neg q0, bI_s]
        rw [eal, elf, efi] at hl
        have hL6 : slL S e9 am ≤ 1000000 := by unfold slL; omega
        have hmul : ∀ a, slL S e9 am * S 9 (4 * e9 + a) ≤ 60000000 := fun a => Nat.le_trans (Nat.mul_le_mul hL6 (h9 _)) (by decide)
        have hsum := slP_sum S e9 am hall.1
        unfold s4 at hsum
        refine lv_iload hx hb dX2_sell_52 (lv_at hl 0 rfl) ?_
        refine lv_if_lt (tgt := 133) hx hb dX2_sell_54 (by decide) (fun cN => ?_) (fun cN => ?_)
        · refine lv_iload hx hb dX2_sell_133 (lv_at hl 2 rfl) ?_
          refine lv_istore (lv' := [(7, .int (nI (slL S e9 am))), (6, .int (nI (slI S e9))), (5, .int (nI (slL S e9 am))), (4, .int (nI (slA S e9))), (0, .ref (B 0)), (1, .int (nI e9)), (2, .int (nI am)), (3, .int (nI (4 * e9)))]) hx hb dX2_sell_135 hl (by decide) rfl (fun ls hl => ?_)
          refine lv_iconst (v := nI 0) hx hb dX2_sell_137 (by decide) ?_
          refine lv_istore (lv' := [(8, .int (nI 0)), (7, .int (nI (slL S e9 am))), (6, .int (nI (slI S e9))), (5, .int (nI (slL S e9 am))), (4, .int (nI (slA S e9))), (0, .ref (B 0)), (1, .int (nI e9)), (2, .int (nI am)), (3, .int (nI (4 * e9)))]) hx hb dX2_sell_138 hl (by decide) rfl (fun ls hl => ?_)
          have iter2 : ∀ (a rs : Nat) (v8 : Int32) (H : Heap) (locs : List Loc) (ls : Array Slot), a < 4 → v8 = nI a → slP S e9 am a ≤ rs → va_P D vwCl (MW cy B S (up2 T 0 2 0) Y) H → va_D A (MW cy B S (up2 T 0 2 0) Y) → va_S A s.heap H locs → lv_has ls 12 [(8, .int v8), (7, .int (nI rs)), (6, .int (nI (slI S e9))), (5, .int (nI (slL S e9 am))), (4, .int (nI (slA S e9))), (0, .ref (B 0)), (1, .int (nI e9)), (2, .int (nI am)), (3, .int (nI (4 * e9)))] → (∀ (ls : Array Slot), lv_has ls 12 [(8, .int (nI (a + 1))), (7, .int (nI (rs - slP S e9 am a))), (6, .int (nI (slI S e9))), (5, .int (nI (slL S e9 am))), (4, .int (nI (slA S e9))), (0, .ref (B 0)), (1, .int (nI e9)), (2, .int (nI am)), (3, .int (nI (4 * e9)))] → W p l e ({ frames := 3, cells := 0, slots := 0, locals := 55 } : Room) s m ([.ref (B 0), .int (nI e9), .int (nI am)] : List Value).toArray below meth c H locs 0 0 (MQ below (va_Qi (fun r w' => ∃ T' : Nat → Nat → Nat, T' 0 2 = (spSell S (nI e9) (nI am)).1 ∧ w' = MW cy B (spSell S (nI e9) (nI am)).2.2 T' Y ∧ ((spSell S (nI e9) (nI am)).1 = 0 → r = (spSell S (nI e9) (nI am)).2.1)) (fun w' t => wB D cy A w' t) A) ([.ref (B 0), .int (nI e9), .int (nI am)] : List Value).toArray s 0 0 A) (F0 m 140 ls [])) → W p l e ({ frames := 3, cells := 0, slots := 0, locals := 55 } : Room) s m ([.ref (B 0), .int (nI e9), .int (nI am)] : List Value).toArray below meth c H locs 0 0 (MQ below (va_Qi (fun r w' => ∃ T' : Nat → Nat → Nat, T' 0 2 = (spSell S (nI e9) (nI am)).1 ∧ w' = MW cy B (spSell S (nI e9) (nI am)).2.2 T' Y ∧ ((spSell S (nI e9) (nI am)).1 = 0 → r = (spSell S (nI e9) (nI am)).2.1)) (fun w' t => wB D cy A w' t) A) ([.ref (B 0), .int (nI e9), .int (nI am)] : List Value).toArray s 0 0 A) (F0 m 140 ls []) := by
            intro a rs v8 H locs ls ha hv8 hrs hP hD hS hl kont
            subst hv8
            have hl : lv_has ls 12 [(8, .int (nI a)), (7, .int (nI rs)), (6, .int (nI (slI S e9))), (5, .int (nI (slL S e9 am))), (4, .int (nI (slA S e9))), (0, .ref (B 0)), (1, .int (nI e9)), (2, .int (nI am)), (3, .int (nI (4 * e9)))] := hl
            have hma := hmul a
            refine lv_iload hx hb dX2_sell_140 (lv_at hl 0 rfl) ?_
            refine lv_iconst (v := nI 4) hx hb dX2_sell_142 (by decide) ?_
            refine r_icmp_ge (tgt := 172) hx hb dX2_sell_143 (by decide) (by omega) (by decide) (fun c7 => ?_) (fun c7 => ?_)
            · omega
            · refine lv_iload hx hb dX2_sell_146 (lv_at hl 1 rfl) ?_
              refine lv_iload hx hb dX2_sell_148 (lv_at hl 3 rfl) ?_
              refine lv_aload_n hx hb dX2_sell_150 rfl (lv_at hl 5 rfl) ?_
              refine va_get (D := D) (ci := 2) (v := .ref (B 9)) (C := RX2) (T := TX2) (N := 19) hx hb hts hiX2 hown hK hP (0) rfl rfl 10 (by decide) (hts (.fieldLink RX2 35 "CoauthorTextModel" "printed" "[I") (by decide +kernel)) (fun _ h9 => h9) rfl dX2_sell_151 ?_
              refine lv_iload_n hx hb dX2_sell_154 rfl (lv_at hl 8 rfl) ?_
              refine lv_iload hx hb dX2_sell_155 (lv_at hl 0 rfl) ?_
              refine r_iadd hx hb dX2_sell_157 ?_
              refine r_iald hx hb hK hP (9) rfl (by omega) (by decide) dX2_sell_158 ?_
              refine r_imul hx hb dX2_sell_159 ?_
              refine lv_iload hx hb dX2_sell_160 (lv_at hl 4 rfl) ?_
              refine r_idiv hx hb dX2_sell_162 (by omega) (by omega) (by omega) ?_
              refine r_isub hx hb dX2_sell_163 (by exact hrs) ?_
              refine lv_istore (lv' := [(7, .int (nI (rs - (slP S e9 am a)))), (8, .int (nI a)), (6, .int (nI (slI S e9))), (5, .int (nI (slL S e9 am))), (4, .int (nI (slA S e9))), (0, .ref (B 0)), (1, .int (nI e9)), (2, .int (nI am)), (3, .int (nI (4 * e9)))]) hx hb dX2_sell_164 hl (by decide) rfl (fun ls hl => ?_)
              refine lv_iinc (v := nI (a + 1)) (lv' := [(8, .int (nI (a + 1))), (7, .int (nI (rs - (slP S e9 am a)))), (6, .int (nI (slI S e9))), (5, .int (nI (slL S e9 am))), (4, .int (nI (slA S e9))), (0, .ref (B 0)), (1, .int (nI e9)), (2, .int (nI am)), (3, .int (nI (4 * e9)))]) hx hb dX2_sell_166 hl (k := 1) rfl (nI_inc _) (by decide) rfl (fun ls hl => ?_)
              refine lv_goto (tgt := 140) hx hb dX2_sell_169 (by decide) ?_
              exact kont ls (lv_sub hl [0, 1, 2, 3, 4, 5, 6, 7, 8] rfl)
          refine iter2 0 (slL S e9 am) (nI 0) _ _ ls (by decide) rfl (by omega) hP hD hS (lv_sub hl [0, 1, 2, 3, 4, 5, 6, 7, 8] rfl) (fun ls hl => ?_)
          refine iter2 1 ((slL S e9 am) - slP S e9 am 0) (nI 1) _ _ ls (by decide) rfl (by omega) hP hD hS hl (fun ls hl => ?_)
          refine iter2 2 (((slL S e9 am) - slP S e9 am 0) - slP S e9 am 1) (nI 2) _ _ ls (by decide) rfl (by omega) hP hD hS hl (fun ls hl => ?_)
          refine iter2 3 ((((slL S e9 am) - slP S e9 am 0) - slP S e9 am 1) - slP S e9 am 2) (nI 3) _ _ ls (by decide) rfl (by omega) hP hD hS hl (fun ls hl => ?_)
          have ers : ((((slL S e9 am) - slP S e9 am 0) - slP S e9 am 1) - slP S e9 am 2) - slP S e9 am 3 = slR S e9 am := by unfold slR s4; omega
          rw [ers] at hl
          refine lv_iload hx hb dX2_sell_140 (lv_at hl 0 rfl) ?_
          refine lv_iconst (v := nI 4) hx hb dX2_sell_142 (by decide) ?_
          refine r_icmp_ge (tgt := 172) hx hb dX2_sell_143 (by decide) (by decide) (by decide) (fun c8 => ?_) (fun c8 => ?_)
          · refine lv_iconst (v := nI 0) hx hb dX2_sell_172 (by decide) ?_
            refine lv_istore (lv' := [(8, .int (nI 0)), (7, .int (nI (slR S e9 am))), (6, .int (nI (slI S e9))), (5, .int (nI (slL S e9 am))), (4, .int (nI (slA S e9))), (0, .ref (B 0)), (1, .int (nI e9)), (2, .int (nI am)), (3, .int (nI (4 * e9)))]) hx hb dX2_sell_173 hl (by decide) rfl (fun ls hl => ?_)
            refine lv_iconst (v := nI 0) hx hb dX2_sell_175 (by decide) ?_
            refine lv_istore (lv' := [(9, .int (nI 0)), (8, .int (nI 0)), (7, .int (nI (slR S e9 am))), (6, .int (nI (slI S e9))), (5, .int (nI (slL S e9 am))), (4, .int (nI (slA S e9))), (0, .ref (B 0)), (1, .int (nI e9)), (2, .int (nI am)), (3, .int (nI (4 * e9)))]) hx hb dX2_sell_176 hl (by decide) rfl (fun ls hl => ?_)
            have iter3 : ∀ (a sm : Nat) (v9 : Int32) (Sj : Nat → Nat → Nat) (H : Heap) (locs : List Loc) (ls : Array Slot), a < 4 → v9 = nI a → Sj 9 = S 9 → Sj 0 = S 0 → Sj 10 a = S 10 a → Sj 11 a = S 11 a → va_P D vwCl (MW cy B Sj (up2 T 0 2 0) Y) H → va_D A (MW cy B Sj (up2 T 0 2 0) Y) → va_S A s.heap H locs → lv_has ls 12 [(9, .int v9), (8, .int (nI sm)), (7, .int (nI (slR S e9 am))), (6, .int (nI (slI S e9))), (5, .int (nI (slL S e9 am))), (4, .int (nI (slA S e9))), (0, .ref (B 0)), (1, .int (nI e9)), (2, .int (nI am)), (3, .int (nI (4 * e9)))] → (∀ (H : Heap) (locs : List Loc) (ls : Array Slot), va_P D vwCl (MW cy B (up2 (up2 Sj 10 a (S 10 a - slH S e9 am a)) 11 a (S 11 a + (slG S e9 am a - slH S e9 am a))) (up2 T 0 2 0) Y) H → va_D A (MW cy B (up2 (up2 Sj 10 a (S 10 a - slH S e9 am a)) 11 a (S 11 a + (slG S e9 am a - slH S e9 am a))) (up2 T 0 2 0) Y) → va_S A s.heap H locs → lv_has ls 12 [(9, .int (nI (a + 1))), (8, .int (nI (sm + (slG S e9 am a - slH S e9 am a)))), (7, .int (nI (slR S e9 am))), (6, .int (nI (slI S e9))), (5, .int (nI (slL S e9 am))), (4, .int (nI (slA S e9))), (0, .ref (B 0)), (1, .int (nI e9)), (2, .int (nI am)), (3, .int (nI (4 * e9)))] → W p l e ({ frames := 3, cells := 0, slots := 0, locals := 55 } : Room) s m ([.ref (B 0), .int (nI e9), .int (nI am)] : List Value).toArray below meth c H locs 0 0 (MQ below (va_Qi (fun r w' => ∃ T' : Nat → Nat → Nat, T' 0 2 = (spSell S (nI e9) (nI am)).1 ∧ w' = MW cy B (spSell S (nI e9) (nI am)).2.2 T' Y ∧ ((spSell S (nI e9) (nI am)).1 = 0 → r = (spSell S (nI e9) (nI am)).2.1)) (fun w' t => wB D cy A w' t) A) ([.ref (B 0), .int (nI e9), .int (nI am)] : List Value).toArray s 0 0 A) (F0 m 178 ls [])) → W p l e ({ frames := 3, cells := 0, slots := 0, locals := 55 } : Room) s m ([.ref (B 0), .int (nI e9), .int (nI am)] : List Value).toArray below meth c H locs 0 0 (MQ below (va_Qi (fun r w' => ∃ T' : Nat → Nat → Nat, T' 0 2 = (spSell S (nI e9) (nI am)).1 ∧ w' = MW cy B (spSell S (nI e9) (nI am)).2.2 T' Y ∧ ((spSell S (nI e9) (nI am)).1 = 0 → r = (spSell S (nI e9) (nI am)).2.1)) (fun w' t => wB D cy A w' t) A) ([.ref (B 0), .int (nI e9), .int (nI am)] : List Value).toArray s 0 0 A) (F0 m 178 ls []) := by
              intro a sm v9 Sj H locs ls ha hv9 e9s e0s e10 e11 hP hD hS hl kont
              subst hv9
              have hl : lv_has ls 12 [(9, .int (nI a)), (8, .int (nI sm)), (7, .int (nI (slR S e9 am))), (6, .int (nI (slI S e9))), (5, .int (nI (slL S e9 am))), (4, .int (nI (slA S e9))), (0, .ref (B 0)), (1, .int (nI e9)), (2, .int (nI am)), (3, .int (nI (4 * e9)))] := hl
              have hma := hmul a
              have h9a := h9 (4 * e9 + a)
              have h10a := h10 a
              have hPa : slP S e9 am a ≤ slL S e9 am := by
                have : a = 0 ∨ a = 1 ∨ a = 2 ∨ a = 3 := by omega
                rcases this with rfl | rfl | rfl | rfl <;> omega
              have hRl : slR S e9 am ≤ slL S e9 am := by unfold slR; exact Nat.sub_le _ _
              refine lv_iload hx hb dX2_sell_178 (lv_at hl 0 rfl) ?_
              refine lv_iconst (v := nI 4) hx hb dX2_sell_180 (by decide) ?_
              refine r_icmp_ge (tgt := 311) hx hb dX2_sell_181 (by decide) (by omega) (by decide) (fun c9 => ?_) (fun c9 => ?_)
              · omega
              · refine lv_iload hx hb dX2_sell_184 (lv_at hl 4 rfl) ?_
                refine lv_aload_n hx hb dX2_sell_186 rfl (lv_at hl 6 rfl) ?_
                refine va_get (D := D) (ci := 2) (v := .ref (B 9)) (C := RX2) (T := TX2) (N := 19) hx hb hts hiX2 hown hK hP (0) rfl rfl 10 (by decide) (hts (.fieldLink RX2 35 "CoauthorTextModel" "printed" "[I") (by decide +kernel)) (fun _ h9 => h9) rfl dX2_sell_187 ?_
                refine lv_iload_n hx hb dX2_sell_190 rfl (lv_at hl 9 rfl) ?_
                refine lv_iload hx hb dX2_sell_191 (lv_at hl 0 rfl) ?_
                refine r_iadd hx hb dX2_sell_193 ?_
                refine r_iald hx hb hK hP (9) rfl (by omega) (by decide) dX2_sell_194 ?_
                refine lv_topi (fun y9 ey9 => ?_)
                obtain rfl : y9 = nI (S 9 (4 * e9 + a)) := ey9.trans (by show nI (Sj 9 _) = _; rw [e9s])
                refine r_imul hx hb dX2_sell_195 ?_
                refine lv_iload hx hb dX2_sell_196 (lv_at hl 5 rfl) ?_
                refine r_idiv hx hb dX2_sell_198 (by omega) (by omega) (by omega) ?_
                refine lv_aload_n hx hb dX2_sell_199 rfl (lv_at hl 6 rfl) ?_
                refine va_get (D := D) (ci := 2) (v := .ref (B 9)) (C := RX2) (T := TX2) (N := 19) hx hb hts hiX2 hown hK hP (0) rfl rfl 10 (by decide) (hts (.fieldLink RX2 35 "CoauthorTextModel" "printed" "[I") (by decide +kernel)) (fun _ h9 => h9) rfl dX2_sell_200 ?_
                refine lv_iload_n hx hb dX2_sell_203 rfl (lv_at hl 9 rfl) ?_
                refine lv_iload hx hb dX2_sell_204 (lv_at hl 0 rfl) ?_
                refine r_iadd hx hb dX2_sell_206 ?_
                refine r_iald hx hb hK hP (9) rfl (by omega) (by decide) dX2_sell_207 ?_
                refine lv_topi (fun y9 ey9 => ?_)
                obtain rfl : y9 = nI (S 9 (4 * e9 + a)) := ey9.trans (by show nI (Sj 9 _) = _; rw [e9s])
                refine r_if_le (tgt := 223) hx hb dX2_sell_208 (by decide) (by omega) (fun cH => ?_) (fun cH => ?_)
                · refine lv_iconst (v := nI 0) hx hb dX2_sell_223 (by decide) ?_
                  refine r_iadd hx hb dX2_sell_224 ?_
                  refine lv_iload hx hb dX2_sell_225 (lv_at hl 0 rfl) ?_
                  refine lv_iload hx hb dX2_sell_227 (lv_at hl 3 rfl) ?_
                  refine r_icmp_ne (tgt := 237) hx hb dX2_sell_229 (by decide) (by omega) (by unfold slI; split <;> (try split) <;> (try split) <;> omega) (fun cF => ?_) (fun cF => ?_)
                  · refine lv_iconst (v := nI 0) hx hb dX2_sell_237 (by decide) ?_
                    refine r_iadd hx hb dX2_sell_238 ?_
                    refine lv_topi (fun y9 ey9 => ?_)
                    obtain rfl : y9 = nI (slG S e9 am a) := ey9.trans (by rw [slG, if_pos cH, if_neg cF]; rfl)
                    have hG : slG S e9 am a < 100000000 := by unfold slG; rw [if_pos cH, if_neg cF]; omega
                    refine lv_istore (lv' := [(10, .int (nI (slG S e9 am a))), (9, .int (nI a)), (8, .int (nI sm)), (7, .int (nI (slR S e9 am))), (6, .int (nI (slI S e9))), (5, .int (nI (slL S e9 am))), (4, .int (nI (slA S e9))), (0, .ref (B 0)), (1, .int (nI e9)), (2, .int (nI am)), (3, .int (nI (4 * e9)))]) hx hb dX2_sell_239 hl (by decide) rfl (fun ls hl => ?_)
                    refine lv_iload hx hb dX2_sell_241 (lv_at hl 0 rfl) ?_
                    refine lv_aload_n hx hb dX2_sell_243 rfl (lv_at hl 7 rfl) ?_
                    refine va_get (D := D) (ci := 2) (v := .ref (B 10)) (C := RX2) (T := TX2) (N := 19) hx hb hts hiX2 hown hK hP (0) rfl rfl 12 (by decide) (hts (.fieldLink RX2 38 "CoauthorTextModel" "advances" "[I") (by decide +kernel)) (fun _ h9 => h9) rfl dX2_sell_244 ?_
                    refine lv_iload hx hb dX2_sell_247 (lv_at hl 1 rfl) ?_
                    refine r_iald hx hb hK hP (10) rfl (by omega) (by decide) dX2_sell_249 ?_
                    refine lv_topi (fun y9 ey9 => ?_)
                    obtain rfl : y9 = nI (S 10 a) := ey9.trans (by show nI (Sj 10 a) = _; rw [e10])
                    refine r_icmp_ge (tgt := 258) hx hb dX2_sell_250 (by decide) (by omega) (by omega) (fun cW => ?_) (fun cW => ?_)
                    · refine lv_aload_n hx hb dX2_sell_258 rfl (lv_at hl 7 rfl) ?_
                      refine va_get (D := D) (ci := 2) (v := .ref (B 10)) (C := RX2) (T := TX2) (N := 19) hx hb hts hiX2 hown hK hP (0) rfl rfl 12 (by decide) (hts (.fieldLink RX2 38 "CoauthorTextModel" "advances" "[I") (by decide +kernel)) (fun _ h9 => h9) rfl dX2_sell_259 ?_
                      refine lv_iload hx hb dX2_sell_262 (lv_at hl 1 rfl) ?_
                      refine r_iald hx hb hK hP (10) rfl (by omega) (by decide) dX2_sell_264 ?_
                      refine lv_topi (fun y9 ey9 => ?_)
                      obtain rfl : y9 = nI (slH S e9 am a) := ey9.trans (by show nI (Sj 10 a) = _; rw [e10, slH, show min (slG S e9 am a) (S 10 a) = S 10 a from by omega])
                      have hH1 : slH S e9 am a ≤ slG S e9 am a := Nat.min_le_left _ _
                      have hH2 : slH S e9 am a ≤ S 10 a := Nat.min_le_right _ _
                      refine lv_istore (lv' := [(11, .int (nI (slH S e9 am a))), (10, .int (nI (slG S e9 am a))), (9, .int (nI a)), (8, .int (nI sm)), (7, .int (nI (slR S e9 am))), (6, .int (nI (slI S e9))), (5, .int (nI (slL S e9 am))), (4, .int (nI (slA S e9))), (0, .ref (B 0)), (1, .int (nI e9)), (2, .int (nI am)), (3, .int (nI (4 * e9)))]) hx hb dX2_sell_265 hl (by decide) rfl (fun ls hl => ?_)
                      refine lv_aload_n hx hb dX2_sell_267 rfl (lv_at hl 8 rfl) ?_
                      refine va_get (D := D) (ci := 2) (v := .ref (B 10)) (C := RX2) (T := TX2) (N := 19) hx hb hts hiX2 hown hK hP (0) rfl rfl 12 (by decide) (hts (.fieldLink RX2 38 "CoauthorTextModel" "advances" "[I") (by decide +kernel)) (fun _ h9 => h9) rfl dX2_sell_268 ?_
                      refine lv_iload hx hb dX2_sell_271 (lv_at hl 2 rfl) ?_
                      refine lv_dup2_11 hx hb dX2_sell_273 rfl rfl ?_
                      refine r_iald hx hb hK hP (10) rfl (by omega) (by decide) dX2_sell_274 ?_
                      refine lv_topi (fun y9 ey9 => ?_)
                      obtain rfl : y9 = nI (S 10 a) := ey9.trans (by show nI (Sj 10 a) = _; rw [e10])
                      refine lv_iload hx hb dX2_sell_275 (lv_at hl 0 rfl) ?_
                      refine r_isub hx hb dX2_sell_277 (by exact hH2) ?_
                      refine r_iast (w' := MW cy B (up2 Sj 10 a ((S 10 a) - (slH S e9 am a))) (up2 T 0 2 0) Y) hx hb hK hP hD hS (10) rfl (by omega) (by decide) dX2_sell_278 (by rw [show upd (fun x9 => nI (Sj 10 x9)) a (nI ((S 10 a) - (slH S e9 am a))) = fun x9 => nI ((up2 Sj 10 a ((S 10 a) - (slH S e9 am a))) 10 x9) from upd_n Sj 10 _ _]; rfl) (fun H locs hP hD hS => ?_)
                      refine lv_aload_n hx hb dX2_sell_279 rfl (lv_at hl 8 rfl) ?_
                      refine va_get (D := D) (ci := 2) (v := .ref (B 11)) (C := RX2) (T := TX2) (N := 19) hx hb hts hiX2 hown hK hP (0) rfl rfl 13 (by decide) (hts (.fieldLink RX2 41 "CoauthorTextModel" "paid" "[J") (by decide +kernel)) (fun _ h9 => h9) rfl dX2_sell_280 ?_
                      refine lv_iload hx hb dX2_sell_283 (lv_at hl 2 rfl) ?_
                      refine lv_dup2_11 hx hb dX2_sell_285 rfl rfl ?_
                      refine r_lald hx hb hK hP (11) rfl (by omega) (by decide) dX2_sell_286 ?_
                      refine lv_topl (fun y9 ey9 => ?_)
                      obtain rfl : y9 = lN (S 11 a) := ey9.trans (by show lN (Sj 11 a) = _; rw [e11])
                      refine lv_iload hx hb dX2_sell_287 (lv_at hl 1 rfl) ?_
                      refine lv_iload hx hb dX2_sell_289 (lv_at hl 0 rfl) ?_
                      refine r_isub hx hb dX2_sell_291 (by exact hH1) ?_
                      refine lv_i2l (v := lN ((slG S e9 am a) - (slH S e9 am a))) hx hb dX2_sell_292 (nI_l (by omega)) ?_
                      refine r_ladd hx hb dX2_sell_293 ?_
                      refine r_last (w' := MW cy B (up2 (up2 Sj 10 a ((S 10 a) - (slH S e9 am a))) 11 a (S 11 a + (slG S e9 am a - slH S e9 am a))) (up2 T 0 2 0) Y) hx hb hK hP hD hS (11) rfl (by omega) (by decide) dX2_sell_294 (by rw [show vp_updL (fun x9 => lN ((up2 Sj 10 a ((S 10 a) - (slH S e9 am a))) 11 x9)) a (lN (S 11 a + (slG S e9 am a - slH S e9 am a))) = fun x9 => lN ((up2 (up2 Sj 10 a ((S 10 a) - (slH S e9 am a))) 11 a (S 11 a + (slG S e9 am a - slH S e9 am a))) 11 x9) from upd_l (up2 Sj 10 a ((S 10 a) - (slH S e9 am a))) 11 _ _]; rfl) (fun H locs hP hD hS => ?_)
                      refine lv_iload hx hb dX2_sell_295 (lv_at hl 3 rfl) ?_
                      refine lv_iload hx hb dX2_sell_297 (lv_at hl 1 rfl) ?_
                      refine lv_iload hx hb dX2_sell_299 (lv_at hl 0 rfl) ?_
                      refine r_isub hx hb dX2_sell_301 (by exact hH1) ?_
                      refine r_iadd hx hb dX2_sell_302 ?_
                      refine lv_istore (lv' := [(8, .int (nI (sm + ((slG S e9 am a) - (slH S e9 am a))))), (11, .int (nI (slH S e9 am a))), (10, .int (nI (slG S e9 am a))), (9, .int (nI a)), (7, .int (nI (slR S e9 am))), (6, .int (nI (slI S e9))), (5, .int (nI (slL S e9 am))), (4, .int (nI (slA S e9))), (0, .ref (B 0)), (1, .int (nI e9)), (2, .int (nI am)), (3, .int (nI (4 * e9)))]) hx hb dX2_sell_303 hl (by decide) rfl (fun ls hl => ?_)
                      refine lv_iinc (v := nI (a + 1)) (lv' := [(9, .int (nI (a + 1))), (8, .int (nI (sm + ((slG S e9 am a) - (slH S e9 am a))))), (11, .int (nI (slH S e9 am a))), (10, .int (nI (slG S e9 am a))), (7, .int (nI (slR S e9 am))), (6, .int (nI (slI S e9))), (5, .int (nI (slL S e9 am))), (4, .int (nI (slA S e9))), (0, .ref (B 0)), (1, .int (nI e9)), (2, .int (nI am)), (3, .int (nI (4 * e9)))]) hx hb dX2_sell_305 hl (k := 3) rfl (nI_inc _) (by decide) rfl (fun ls hl => ?_)
                      refine lv_goto (tgt := 178) hx hb dX2_sell_308 (by decide) ?_
                      exact kont _ _ ls hP hD hS (lv_sub hl [0, 1, 4, 5, 6, 7, 8, 9, 10, 11] rfl)
                    · refine lv_iload hx hb dX2_sell_253 (lv_at hl 0 rfl) ?_
                      refine lv_goto (tgt := 265) hx hb dX2_sell_255 (by decide) ?_
                      refine lv_topi (fun y9 ey9 => ?_)
                      obtain rfl : y9 = nI (slH S e9 am a) := ey9.trans (by rw [slH, show min (slG S e9 am a) (S 10 a) = slG S e9 am a from by omega])
                      have hH1 : slH S e9 am a ≤ slG S e9 am a := Nat.min_le_left _ _
                      have hH2 : slH S e9 am a ≤ S 10 a := Nat.min_le_right _ _
                      refine lv_istore (lv' := [(11, .int (nI (slH S e9 am a))), (10, .int (nI (slG S e9 am a))), (9, .int (nI a)), (8, .int (nI sm)), (7, .int (nI (slR S e9 am))), (6, .int (nI (slI S e9))), (5, .int (nI (slL S e9 am))), (4, .int (nI (slA S e9))), (0, .ref (B 0)), (1, .int (nI e9)), (2, .int (nI am)), (3, .int (nI (4 * e9)))]) hx hb dX2_sell_265 hl (by decide) rfl (fun ls hl => ?_)
                      refine lv_aload_n hx hb dX2_sell_267 rfl (lv_at hl 8 rfl) ?_
                      refine va_get (D := D) (ci := 2) (v := .ref (B 10)) (C := RX2) (T := TX2) (N := 19) hx hb hts hiX2 hown hK hP (0) rfl rfl 12 (by decide) (hts (.fieldLink RX2 38 "CoauthorTextModel" "advances" "[I") (by decide +kernel)) (fun _ h9 => h9) rfl dX2_sell_268 ?_
                      refine lv_iload hx hb dX2_sell_271 (lv_at hl 2 rfl) ?_
                      refine lv_dup2_11 hx hb dX2_sell_273 rfl rfl ?_
                      refine r_iald hx hb hK hP (10) rfl (by omega) (by decide) dX2_sell_274 ?_
                      refine lv_topi (fun y9 ey9 => ?_)
                      obtain rfl : y9 = nI (S 10 a) := ey9.trans (by show nI (Sj 10 a) = _; rw [e10])
                      refine lv_iload hx hb dX2_sell_275 (lv_at hl 0 rfl) ?_
                      refine r_isub hx hb dX2_sell_277 (by exact hH2) ?_
                      refine r_iast (w' := MW cy B (up2 Sj 10 a ((S 10 a) - (slH S e9 am a))) (up2 T 0 2 0) Y) hx hb hK hP hD hS (10) rfl (by omega) (by decide) dX2_sell_278 (by rw [show upd (fun x9 => nI (Sj 10 x9)) a (nI ((S 10 a) - (slH S e9 am a))) = fun x9 => nI ((up2 Sj 10 a ((S 10 a) - (slH S e9 am a))) 10 x9) from upd_n Sj 10 _ _]; rfl) (fun H locs hP hD hS => ?_)
                      refine lv_aload_n hx hb dX2_sell_279 rfl (lv_at hl 8 rfl) ?_
                      refine va_get (D := D) (ci := 2) (v := .ref (B 11)) (C := RX2) (T := TX2) (N := 19) hx hb hts hiX2 hown hK hP (0) rfl rfl 13 (by decide) (hts (.fieldLink RX2 41 "CoauthorTextModel" "paid" "[J") (by decide +kernel)) (fun _ h9 => h9) rfl dX2_sell_280 ?_
                      refine lv_iload hx hb dX2_sell_283 (lv_at hl 2 rfl) ?_
                      refine lv_dup2_11 hx hb dX2_sell_285 rfl rfl ?_
                      refine r_lald hx hb hK hP (11) rfl (by omega) (by decide) dX2_sell_286 ?_
                      refine lv_topl (fun y9 ey9 => ?_)
                      obtain rfl : y9 = lN (S 11 a) := ey9.trans (by show lN (Sj 11 a) = _; rw [e11])
                      refine lv_iload hx hb dX2_sell_287 (lv_at hl 1 rfl) ?_
                      refine lv_iload hx hb dX2_sell_289 (lv_at hl 0 rfl) ?_
                      refine r_isub hx hb dX2_sell_291 (by exact hH1) ?_
                      refine lv_i2l (v := lN ((slG S e9 am a) - (slH S e9 am a))) hx hb dX2_sell_292 (nI_l (by omega)) ?_
                      refine r_ladd hx hb dX2_sell_293 ?_
                      refine r_last (w' := MW cy B (up2 (up2 Sj 10 a ((S 10 a) - (slH S e9 am a))) 11 a (S 11 a + (slG S e9 am a - slH S e9 am a))) (up2 T 0 2 0) Y) hx hb hK hP hD hS (11) rfl (by omega) (by decide) dX2_sell_294 (by rw [show vp_updL (fun x9 => lN ((up2 Sj 10 a ((S 10 a) - (slH S e9 am a))) 11 x9)) a (lN (S 11 a + (slG S e9 am a - slH S e9 am a))) = fun x9 => lN ((up2 (up2 Sj 10 a ((S 10 a) - (slH S e9 am a))) 11 a (S 11 a + (slG S e9 am a - slH S e9 am a))) 11 x9) from upd_l (up2 Sj 10 a ((S 10 a) - (slH S e9 am a))) 11 _ _]; rfl) (fun H locs hP hD hS => ?_)
                      refine lv_iload hx hb dX2_sell_295 (lv_at hl 3 rfl) ?_
                      refine lv_iload hx hb dX2_sell_297 (lv_at hl 1 rfl) ?_
                      refine lv_iload hx hb dX2_sell_299 (lv_at hl 0 rfl) ?_
                      refine r_isub hx hb dX2_sell_301 (by exact hH1) ?_
                      refine r_iadd hx hb dX2_sell_302 ?_
                      refine lv_istore (lv' := [(8, .int (nI (sm + ((slG S e9 am a) - (slH S e9 am a))))), (11, .int (nI (slH S e9 am a))), (10, .int (nI (slG S e9 am a))), (9, .int (nI a)), (7, .int (nI (slR S e9 am))), (6, .int (nI (slI S e9))), (5, .int (nI (slL S e9 am))), (4, .int (nI (slA S e9))), (0, .ref (B 0)), (1, .int (nI e9)), (2, .int (nI am)), (3, .int (nI (4 * e9)))]) hx hb dX2_sell_303 hl (by decide) rfl (fun ls hl => ?_)
                      refine lv_iinc (v := nI (a + 1)) (lv' := [(9, .int (nI (a + 1))), (8, .int (nI (sm + ((slG S e9 am a) - (slH S e9 am a))))), (11, .int (nI (slH S e9 am a))), (10, .int (nI (slG S e9 am a))), (7, .int (nI (slR S e9 am))), (6, .int (nI (slI S e9))), (5, .int (nI (slL S e9 am))), (4, .int (nI (slA S e9))), (0, .ref (B 0)), (1, .int (nI e9)), (2, .int (nI am)), (3, .int (nI (4 * e9)))]) hx hb dX2_sell_305 hl (k := 3) rfl (nI_inc _) (by decide) rfl (fun ls hl => ?_)
                      refine lv_goto (tgt := 178) hx hb dX2_sell_308 (by decide) ?_
                      exact kont _ _ ls hP hD hS (lv_sub hl [0, 1, 4, 5, 6, 7, 8, 9, 10, 11] rfl)
                  · refine lv_iload hx hb dX2_sell_232 (lv_at hl 2 rfl) ?_
                    refine lv_goto (tgt := 238) hx hb dX2_sell_234 (by decide) ?_
                    refine r_iadd hx hb dX2_sell_238 ?_
                    refine lv_topi (fun y9 ey9 => ?_)
                    obtain rfl : y9 = nI (slG S e9 am a) := ey9.trans (by rw [slG, if_pos cH, if_pos cF]; rfl)
                    have hG : slG S e9 am a < 100000000 := by unfold slG; rw [if_pos cH, if_pos cF]; omega
                    refine lv_istore (lv' := [(10, .int (nI (slG S e9 am a))), (9, .int (nI a)), (8, .int (nI sm)), (7, .int (nI (slR S e9 am))), (6, .int (nI (slI S e9))), (5, .int (nI (slL S e9 am))), (4, .int (nI (slA S e9))), (0, .ref (B 0)), (1, .int (nI e9)), (2, .int (nI am)), (3, .int (nI (4 * e9)))]) hx hb dX2_sell_239 hl (by decide) rfl (fun ls hl => ?_)
                    refine lv_iload hx hb dX2_sell_241 (lv_at hl 0 rfl) ?_
                    refine lv_aload_n hx hb dX2_sell_243 rfl (lv_at hl 7 rfl) ?_
                    refine va_get (D := D) (ci := 2) (v := .ref (B 10)) (C := RX2) (T := TX2) (N := 19) hx hb hts hiX2 hown hK hP (0) rfl rfl 12 (by decide) (hts (.fieldLink RX2 38 "CoauthorTextModel" "advances" "[I") (by decide +kernel)) (fun _ h9 => h9) rfl dX2_sell_244 ?_
                    refine lv_iload hx hb dX2_sell_247 (lv_at hl 1 rfl) ?_
                    refine r_iald hx hb hK hP (10) rfl (by omega) (by decide) dX2_sell_249 ?_
                    refine lv_topi (fun y9 ey9 => ?_)
                    obtain rfl : y9 = nI (S 10 a) := ey9.trans (by show nI (Sj 10 a) = _; rw [e10])
                    refine r_icmp_ge (tgt := 258) hx hb dX2_sell_250 (by decide) (by omega) (by omega) (fun cW => ?_) (fun cW => ?_)
                    · refine lv_aload_n hx hb dX2_sell_258 rfl (lv_at hl 7 rfl) ?_
                      refine va_get (D := D) (ci := 2) (v := .ref (B 10)) (C := RX2) (T := TX2) (N := 19) hx hb hts hiX2 hown hK hP (0) rfl rfl 12 (by decide) (hts (.fieldLink RX2 38 "CoauthorTextModel" "advances" "[I") (by decide +kernel)) (fun _ h9 => h9) rfl dX2_sell_259 ?_
                      refine lv_iload hx hb dX2_sell_262 (lv_at hl 1 rfl) ?_
                      refine r_iald hx hb hK hP (10) rfl (by omega) (by decide) dX2_sell_264 ?_
                      refine lv_topi (fun y9 ey9 => ?_)
                      obtain rfl : y9 = nI (slH S e9 am a) := ey9.trans (by show nI (Sj 10 a) = _; rw [e10, slH, show min (slG S e9 am a) (S 10 a) = S 10 a from by omega])
                      have hH1 : slH S e9 am a ≤ slG S e9 am a := Nat.min_le_left _ _
                      have hH2 : slH S e9 am a ≤ S 10 a := Nat.min_le_right _ _
                      refine lv_istore (lv' := [(11, .int (nI (slH S e9 am a))), (10, .int (nI (slG S e9 am a))), (9, .int (nI a)), (8, .int (nI sm)), (7, .int (nI (slR S e9 am))), (6, .int (nI (slI S e9))), (5, .int (nI (slL S e9 am))), (4, .int (nI (slA S e9))), (0, .ref (B 0)), (1, .int (nI e9)), (2, .int (nI am)), (3, .int (nI (4 * e9)))]) hx hb dX2_sell_265 hl (by decide) rfl (fun ls hl => ?_)
                      refine lv_aload_n hx hb dX2_sell_267 rfl (lv_at hl 8 rfl) ?_
                      refine va_get (D := D) (ci := 2) (v := .ref (B 10)) (C := RX2) (T := TX2) (N := 19) hx hb hts hiX2 hown hK hP (0) rfl rfl 12 (by decide) (hts (.fieldLink RX2 38 "CoauthorTextModel" "advances" "[I") (by decide +kernel)) (fun _ h9 => h9) rfl dX2_sell_268 ?_
                      refine lv_iload hx hb dX2_sell_271 (lv_at hl 2 rfl) ?_
                      refine lv_dup2_11 hx hb dX2_sell_273 rfl rfl ?_
                      refine r_iald hx hb hK hP (10) rfl (by omega) (by decide) dX2_sell_274 ?_
                      refine lv_topi (fun y9 ey9 => ?_)
                      obtain rfl : y9 = nI (S 10 a) := ey9.trans (by show nI (Sj 10 a) = _; rw [e10])
                      refine lv_iload hx hb dX2_sell_275 (lv_at hl 0 rfl) ?_
                      refine r_isub hx hb dX2_sell_277 (by exact hH2) ?_
                      refine r_iast (w' := MW cy B (up2 Sj 10 a ((S 10 a) - (slH S e9 am a))) (up2 T 0 2 0) Y) hx hb hK hP hD hS (10) rfl (by omega) (by decide) dX2_sell_278 (by rw [show upd (fun x9 => nI (Sj 10 x9)) a (nI ((S 10 a) - (slH S e9 am a))) = fun x9 => nI ((up2 Sj 10 a ((S 10 a) - (slH S e9 am a))) 10 x9) from upd_n Sj 10 _ _]; rfl) (fun H locs hP hD hS => ?_)
                      refine lv_aload_n hx hb dX2_sell_279 rfl (lv_at hl 8 rfl) ?_
                      refine va_get (D := D) (ci := 2) (v := .ref (B 11)) (C := RX2) (T := TX2) (N := 19) hx hb hts hiX2 hown hK hP (0) rfl rfl 13 (by decide) (hts (.fieldLink RX2 41 "CoauthorTextModel" "paid" "[J") (by decide +kernel)) (fun _ h9 => h9) rfl dX2_sell_280 ?_
                      refine lv_iload hx hb dX2_sell_283 (lv_at hl 2 rfl) ?_
                      refine lv_dup2_11 hx hb dX2_sell_285 rfl rfl ?_
                      refine r_lald hx hb hK hP (11) rfl (by omega) (by decide) dX2_sell_286 ?_
                      refine lv_topl (fun y9 ey9 => ?_)
                      obtain rfl : y9 = lN (S 11 a) := ey9.trans (by show lN (Sj 11 a) = _; rw [e11])
                      refine lv_iload hx hb dX2_sell_287 (lv_at hl 1 rfl) ?_
                      refine lv_iload hx hb dX2_sell_289 (lv_at hl 0 rfl) ?_
                      refine r_isub hx hb dX2_sell_291 (by exact hH1) ?_
                      refine lv_i2l (v := lN ((slG S e9 am a) - (slH S e9 am a))) hx hb dX2_sell_292 (nI_l (by omega)) ?_
                      refine r_ladd hx hb dX2_sell_293 ?_
                      refine r_last (w' := MW cy B (up2 (up2 Sj 10 a ((S 10 a) - (slH S e9 am a))) 11 a (S 11 a + (slG S e9 am a - slH S e9 am a))) (up2 T 0 2 0) Y) hx hb hK hP hD hS (11) rfl (by omega) (by decide) dX2_sell_294 (by rw [show vp_updL (fun x9 => lN ((up2 Sj 10 a ((S 10 a) - (slH S e9 am a))) 11 x9)) a (lN (S 11 a + (slG S e9 am a - slH S e9 am a))) = fun x9 => lN ((up2 (up2 Sj 10 a ((S 10 a) - (slH S e9 am a))) 11 a (S 11 a + (slG S e9 am a - slH S e9 am a))) 11 x9) from upd_l (up2 Sj 10 a ((S 10 a) - (slH S e9 am a))) 11 _ _]; rfl) (fun H locs hP hD hS => ?_)
                      refine lv_iload hx hb dX2_sell_295 (lv_at hl 3 rfl) ?_
                      refine lv_iload hx hb dX2_sell_297 (lv_at hl 1 rfl) ?_
                      refine lv_iload hx hb dX2_sell_299 (lv_at hl 0 rfl) ?_
                      refine r_isub hx hb dX2_sell_301 (by exact hH1) ?_
                      refine r_iadd hx hb dX2_sell_302 ?_
                      refine lv_istore (lv' := [(8, .int (nI (sm + ((slG S e9 am a) - (slH S e9 am a))))), (11, .int (nI (slH S e9 am a))), (10, .int (nI (slG S e9 am a))), (9, .int (nI a)), (7, .int (nI (slR S e9 am))), (6, .int (nI (slI S e9))), (5, .int (nI (slL S e9 am))), (4, .int (nI (slA S e9))), (0, .ref (B 0)), (1, .int (nI e9)), (2, .int (nI am)), (3, .int (nI (4 * e9)))]) hx hb dX2_sell_303 hl (by decide) rfl (fun ls hl => ?_)
                      refine lv_iinc (v := nI (a + 1)) (lv' := [(9, .int (nI (a + 1))), (8, .int (nI (sm + ((slG S e9 am a) - (slH S e9 am a))))), (11, .int (nI (slH S e9 am a))), (10, .int (nI (slG S e9 am a))), (7, .int (nI (slR S e9 am))), (6, .int (nI (slI S e9))), (5, .int (nI (slL S e9 am))), (4, .int (nI (slA S e9))), (0, .ref (B 0)), (1, .int (nI e9)), (2, .int (nI am)), (3, .int (nI (4 * e9)))]) hx hb dX2_sell_305 hl (k := 3) rfl (nI_inc _) (by decide) rfl (fun ls hl => ?_)
                      refine lv_goto (tgt := 178) hx hb dX2_sell_308 (by decide) ?_
                      exact kont _ _ ls hP hD hS (lv_sub hl [0, 1, 4, 5, 6, 7, 8, 9, 10, 11] rfl)
                    · refine lv_iload hx hb dX2_sell_253 (lv_at hl 0 rfl) ?_
                      refine lv_goto (tgt := 265) hx hb dX2_sell_255 (by decide) ?_
                      refine lv_topi (fun y9 ey9 => ?_)
                      obtain rfl : y9 = nI (slH S e9 am a) := ey9.trans (by rw [slH, show min (slG S e9 am a) (S 10 a) = slG S e9 am a from by omega])
                      have hH1 : slH S e9 am a ≤ slG S e9 am a := Nat.min_le_left _ _
                      have hH2 : slH S e9 am a ≤ S 10 a := Nat.min_le_right _ _
                      refine lv_istore (lv' := [(11, .int (nI (slH S e9 am a))), (10, .int (nI (slG S e9 am a))), (9, .int (nI a)), (8, .int (nI sm)), (7, .int (nI (slR S e9 am))), (6, .int (nI (slI S e9))), (5, .int (nI (slL S e9 am))), (4, .int (nI (slA S e9))), (0, .ref (B 0)), (1, .int (nI e9)), (2, .int (nI am)), (3, .int (nI (4 * e9)))]) hx hb dX2_sell_265 hl (by decide) rfl (fun ls hl => ?_)
                      refine lv_aload_n hx hb dX2_sell_267 rfl (lv_at hl 8 rfl) ?_
                      refine va_get (D := D) (ci := 2) (v := .ref (B 10)) (C := RX2) (T := TX2) (N := 19) hx hb hts hiX2 hown hK hP (0) rfl rfl 12 (by decide) (hts (.fieldLink RX2 38 "CoauthorTextModel" "advances" "[I") (by decide +kernel)) (fun _ h9 => h9) rfl dX2_sell_268 ?_
                      refine lv_iload hx hb dX2_sell_271 (lv_at hl 2 rfl) ?_
                      refine lv_dup2_11 hx hb dX2_sell_273 rfl rfl ?_
                      refine r_iald hx hb hK hP (10) rfl (by omega) (by decide) dX2_sell_274 ?_
                      refine lv_topi (fun y9 ey9 => ?_)
                      obtain rfl : y9 = nI (S 10 a) := ey9.trans (by show nI (Sj 10 a) = _; rw [e10])
                      refine lv_iload hx hb dX2_sell_275 (lv_at hl 0 rfl) ?_
                      refine r_isub hx hb dX2_sell_277 (by exact hH2) ?_
                      refine r_iast (w' := MW cy B (up2 Sj 10 a ((S 10 a) - (slH S e9 am a))) (up2 T 0 2 0) Y) hx hb hK hP hD hS (10) rfl (by omega) (by decide) dX2_sell_278 (by rw [show upd (fun x9 => nI (Sj 10 x9)) a (nI ((S 10 a) - (slH S e9 am a))) = fun x9 => nI ((up2 Sj 10 a ((S 10 a) - (slH S e9 am a))) 10 x9) from upd_n Sj 10 _ _]; rfl) (fun H locs hP hD hS => ?_)
                      refine lv_aload_n hx hb dX2_sell_279 rfl (lv_at hl 8 rfl) ?_
                      refine va_get (D := D) (ci := 2) (v := .ref (B 11)) (C := RX2) (T := TX2) (N := 19) hx hb hts hiX2 hown hK hP (0) rfl rfl 13 (by decide) (hts (.fieldLink RX2 41 "CoauthorTextModel" "paid" "[J") (by decide +kernel)) (fun _ h9 => h9) rfl dX2_sell_280 ?_
                      refine lv_iload hx hb dX2_sell_283 (lv_at hl 2 rfl) ?_
                      refine lv_dup2_11 hx hb dX2_sell_285 rfl rfl ?_
                      refine r_lald hx hb hK hP (11) rfl (by omega) (by decide) dX2_sell_286 ?_
                      refine lv_topl (fun y9 ey9 => ?_)
                      obtain rfl : y9 = lN (S 11 a) := ey9.trans (by show lN (Sj 11 a) = _; rw [e11])
                      refine lv_iload hx hb dX2_sell_287 (lv_at hl 1 rfl) ?_
                      refine lv_iload hx hb dX2_sell_289 (lv_at hl 0 rfl) ?_
                      refine r_isub hx hb dX2_sell_291 (by exact hH1) ?_
                      refine lv_i2l (v := lN ((slG S e9 am a) - (slH S e9 am a))) hx hb dX2_sell_292 (nI_l (by omega)) ?_
                      refine r_ladd hx hb dX2_sell_293 ?_
                      refine r_last (w' := MW cy B (up2 (up2 Sj 10 a ((S 10 a) - (slH S e9 am a))) 11 a (S 11 a + (slG S e9 am a - slH S e9 am a))) (up2 T 0 2 0) Y) hx hb hK hP hD hS (11) rfl (by omega) (by decide) dX2_sell_294 (by rw [show vp_updL (fun x9 => lN ((up2 Sj 10 a ((S 10 a) - (slH S e9 am a))) 11 x9)) a (lN (S 11 a + (slG S e9 am a - slH S e9 am a))) = fun x9 => lN ((up2 (up2 Sj 10 a ((S 10 a) - (slH S e9 am a))) 11 a (S 11 a + (slG S e9 am a - slH S e9 am a))) 11 x9) from upd_l (up2 Sj 10 a ((S 10 a) - (slH S e9 am a))) 11 _ _]; rfl) (fun H locs hP hD hS => ?_)
                      refine lv_iload hx hb dX2_sell_295 (lv_at hl 3 rfl) ?_
                      refine lv_iload hx hb dX2_sell_297 (lv_at hl 1 rfl) ?_
                      refine lv_iload hx hb dX2_sell_299 (lv_at hl 0 rfl) ?_
                      refine r_isub hx hb dX2_sell_301 (by exact hH1) ?_
                      refine r_iadd hx hb dX2_sell_302 ?_
                      refine lv_istore (lv' := [(8, .int (nI (sm + ((slG S e9 am a) - (slH S e9 am a))))), (11, .int (nI (slH S e9 am a))), (10, .int (nI (slG S e9 am a))), (9, .int (nI a)), (7, .int (nI (slR S e9 am))), (6, .int (nI (slI S e9))), (5, .int (nI (slL S e9 am))), (4, .int (nI (slA S e9))), (0, .ref (B 0)), (1, .int (nI e9)), (2, .int (nI am)), (3, .int (nI (4 * e9)))]) hx hb dX2_sell_303 hl (by decide) rfl (fun ls hl => ?_)
                      refine lv_iinc (v := nI (a + 1)) (lv' := [(9, .int (nI (a + 1))), (8, .int (nI (sm + ((slG S e9 am a) - (slH S e9 am a))))), (11, .int (nI (slH S e9 am a))), (10, .int (nI (slG S e9 am a))), (7, .int (nI (slR S e9 am))), (6, .int (nI (slI S e9))), (5, .int (nI (slL S e9 am))), (4, .int (nI (slA S e9))), (0, .ref (B 0)), (1, .int (nI e9)), (2, .int (nI am)), (3, .int (nI (4 * e9)))]) hx hb dX2_sell_305 hl (k := 3) rfl (nI_inc _) (by decide) rfl (fun ls hl => ?_)
                      refine lv_goto (tgt := 178) hx hb dX2_sell_308 (by decide) ?_
                      exact kont _ _ ls hP hD hS (lv_sub hl [0, 1, 4, 5, 6, 7, 8, 9, 10, 11] rfl)
                · refine lv_iload_n hx hb dX2_sell_211 rfl (lv_at hl 8 rfl) ?_
                  refine lv_aload_n hx hb dX2_sell_212 rfl (lv_at hl 6 rfl) ?_
                  refine va_get (D := D) (ci := 2) (v := .int (nI (Sj 0 2))) (C := RX2) (T := TX2) (N := 19) hx hb hts hiX2 hown hK hP (0) rfl rfl 11 (by decide) (hts (.fieldLink RX2 113 "CoauthorTextModel" "floor" "I") (by decide +kernel)) (fun _ h9 => h9) rfl dX2_sell_213 ?_
                  refine lv_topi (fun y9 ey9 => ?_)
                  obtain rfl : y9 = nI (S 0 2) := ey9.trans (by rw [e0s])
                  refine r_imul hx hb dX2_sell_216 ?_
                  refine lv_bipush (v := nI 100) hx hb dX2_sell_217 (by decide) ?_
                  refine r_idiv hx hb dX2_sell_219 (by omega) (by decide) (by decide) ?_
                  refine lv_goto (tgt := 224) hx hb dX2_sell_220 (by decide) ?_
                  refine r_iadd hx hb dX2_sell_224 ?_
                  refine lv_iload hx hb dX2_sell_225 (lv_at hl 0 rfl) ?_
                  refine lv_iload hx hb dX2_sell_227 (lv_at hl 3 rfl) ?_
                  refine r_icmp_ne (tgt := 237) hx hb dX2_sell_229 (by decide) (by omega) (by unfold slI; split <;> (try split) <;> (try split) <;> omega) (fun cF => ?_) (fun cF => ?_)
                  · refine lv_iconst (v := nI 0) hx hb dX2_sell_237 (by decide) ?_
                    refine r_iadd hx hb dX2_sell_238 ?_
                    refine lv_topi (fun y9 ey9 => ?_)
                    obtain rfl : y9 = nI (slG S e9 am a) := ey9.trans (by rw [slG, if_neg (show ¬ S 9 (4 * e9 + a) = 0 by omega), if_neg cF]; rfl)
                    have hG : slG S e9 am a < 100000000 := by unfold slG; rw [if_neg (show ¬ S 9 (4 * e9 + a) = 0 by omega), if_neg cF]; omega
                    refine lv_istore (lv' := [(10, .int (nI (slG S e9 am a))), (9, .int (nI a)), (8, .int (nI sm)), (7, .int (nI (slR S e9 am))), (6, .int (nI (slI S e9))), (5, .int (nI (slL S e9 am))), (4, .int (nI (slA S e9))), (0, .ref (B 0)), (1, .int (nI e9)), (2, .int (nI am)), (3, .int (nI (4 * e9)))]) hx hb dX2_sell_239 hl (by decide) rfl (fun ls hl => ?_)
                    refine lv_iload hx hb dX2_sell_241 (lv_at hl 0 rfl) ?_
                    refine lv_aload_n hx hb dX2_sell_243 rfl (lv_at hl 7 rfl) ?_
                    refine va_get (D := D) (ci := 2) (v := .ref (B 10)) (C := RX2) (T := TX2) (N := 19) hx hb hts hiX2 hown hK hP (0) rfl rfl 12 (by decide) (hts (.fieldLink RX2 38 "CoauthorTextModel" "advances" "[I") (by decide +kernel)) (fun _ h9 => h9) rfl dX2_sell_244 ?_
                    refine lv_iload hx hb dX2_sell_247 (lv_at hl 1 rfl) ?_
                    refine r_iald hx hb hK hP (10) rfl (by omega) (by decide) dX2_sell_249 ?_
                    refine lv_topi (fun y9 ey9 => ?_)
                    obtain rfl : y9 = nI (S 10 a) := ey9.trans (by show nI (Sj 10 a) = _; rw [e10])
                    refine r_icmp_ge (tgt := 258) hx hb dX2_sell_250 (by decide) (by omega) (by omega) (fun cW => ?_) (fun cW => ?_)
                    · refine lv_aload_n hx hb dX2_sell_258 rfl (lv_at hl 7 rfl) ?_
                      refine va_get (D := D) (ci := 2) (v := .ref (B 10)) (C := RX2) (T := TX2) (N := 19) hx hb hts hiX2 hown hK hP (0) rfl rfl 12 (by decide) (hts (.fieldLink RX2 38 "CoauthorTextModel" "advances" "[I") (by decide +kernel)) (fun _ h9 => h9) rfl dX2_sell_259 ?_
                      refine lv_iload hx hb dX2_sell_262 (lv_at hl 1 rfl) ?_
                      refine r_iald hx hb hK hP (10) rfl (by omega) (by decide) dX2_sell_264 ?_
                      refine lv_topi (fun y9 ey9 => ?_)
                      obtain rfl : y9 = nI (slH S e9 am a) := ey9.trans (by show nI (Sj 10 a) = _; rw [e10, slH, show min (slG S e9 am a) (S 10 a) = S 10 a from by omega])
                      have hH1 : slH S e9 am a ≤ slG S e9 am a := Nat.min_le_left _ _
                      have hH2 : slH S e9 am a ≤ S 10 a := Nat.min_le_right _ _
                      refine lv_istore (lv' := [(11, .int (nI (slH S e9 am a))), (10, .int (nI (slG S e9 am a))), (9, .int (nI a)), (8, .int (nI sm)), (7, .int (nI (slR S e9 am))), (6, .int (nI (slI S e9))), (5, .int (nI (slL S e9 am))), (4, .int (nI (slA S e9))), (0, .ref (B 0)), (1, .int (nI e9)), (2, .int (nI am)), (3, .int (nI (4 * e9)))]) hx hb dX2_sell_265 hl (by decide) rfl (fun ls hl => ?_)
                      refine lv_aload_n hx hb dX2_sell_267 rfl (lv_at hl 8 rfl) ?_
                      refine va_get (D := D) (ci := 2) (v := .ref (B 10)) (C := RX2) (T := TX2) (N := 19) hx hb hts hiX2 hown hK hP (0) rfl rfl 12 (by decide) (hts (.fieldLink RX2 38 "CoauthorTextModel" "advances" "[I") (by decide +kernel)) (fun _ h9 => h9) rfl dX2_sell_268 ?_
                      refine lv_iload hx hb dX2_sell_271 (lv_at hl 2 rfl) ?_
                      refine lv_dup2_11 hx hb dX2_sell_273 rfl rfl ?_
                      refine r_iald hx hb hK hP (10) rfl (by omega) (by decide) dX2_sell_274 ?_
                      refine lv_topi (fun y9 ey9 => ?_)
                      obtain rfl : y9 = nI (S 10 a) := ey9.trans (by show nI (Sj 10 a) = _; rw [e10])
                      refine lv_iload hx hb dX2_sell_275 (lv_at hl 0 rfl) ?_
                      refine r_isub hx hb dX2_sell_277 (by exact hH2) ?_
                      refine r_iast (w' := MW cy B (up2 Sj 10 a ((S 10 a) - (slH S e9 am a))) (up2 T 0 2 0) Y) hx hb hK hP hD hS (10) rfl (by omega) (by decide) dX2_sell_278 (by rw [show upd (fun x9 => nI (Sj 10 x9)) a (nI ((S 10 a) - (slH S e9 am a))) = fun x9 => nI ((up2 Sj 10 a ((S 10 a) - (slH S e9 am a))) 10 x9) from upd_n Sj 10 _ _]; rfl) (fun H locs hP hD hS => ?_)
                      refine lv_aload_n hx hb dX2_sell_279 rfl (lv_at hl 8 rfl) ?_
                      refine va_get (D := D) (ci := 2) (v := .ref (B 11)) (C := RX2) (T := TX2) (N := 19) hx hb hts hiX2 hown hK hP (0) rfl rfl 13 (by decide) (hts (.fieldLink RX2 41 "CoauthorTextModel" "paid" "[J") (by decide +kernel)) (fun _ h9 => h9) rfl dX2_sell_280 ?_
                      refine lv_iload hx hb dX2_sell_283 (lv_at hl 2 rfl) ?_
                      refine lv_dup2_11 hx hb dX2_sell_285 rfl rfl ?_
                      refine r_lald hx hb hK hP (11) rfl (by omega) (by decide) dX2_sell_286 ?_
                      refine lv_topl (fun y9 ey9 => ?_)
                      obtain rfl : y9 = lN (S 11 a) := ey9.trans (by show lN (Sj 11 a) = _; rw [e11])
                      refine lv_iload hx hb dX2_sell_287 (lv_at hl 1 rfl) ?_
                      refine lv_iload hx hb dX2_sell_289 (lv_at hl 0 rfl) ?_
                      refine r_isub hx hb dX2_sell_291 (by exact hH1) ?_
                      refine lv_i2l (v := lN ((slG S e9 am a) - (slH S e9 am a))) hx hb dX2_sell_292 (nI_l (by omega)) ?_
                      refine r_ladd hx hb dX2_sell_293 ?_
                      refine r_last (w' := MW cy B (up2 (up2 Sj 10 a ((S 10 a) - (slH S e9 am a))) 11 a (S 11 a + (slG S e9 am a - slH S e9 am a))) (up2 T 0 2 0) Y) hx hb hK hP hD hS (11) rfl (by omega) (by decide) dX2_sell_294 (by rw [show vp_updL (fun x9 => lN ((up2 Sj 10 a ((S 10 a) - (slH S e9 am a))) 11 x9)) a (lN (S 11 a + (slG S e9 am a - slH S e9 am a))) = fun x9 => lN ((up2 (up2 Sj 10 a ((S 10 a) - (slH S e9 am a))) 11 a (S 11 a + (slG S e9 am a - slH S e9 am a))) 11 x9) from upd_l (up2 Sj 10 a ((S 10 a) - (slH S e9 am a))) 11 _ _]; rfl) (fun H locs hP hD hS => ?_)
                      refine lv_iload hx hb dX2_sell_295 (lv_at hl 3 rfl) ?_
                      refine lv_iload hx hb dX2_sell_297 (lv_at hl 1 rfl) ?_
                      refine lv_iload hx hb dX2_sell_299 (lv_at hl 0 rfl) ?_
                      refine r_isub hx hb dX2_sell_301 (by exact hH1) ?_
                      refine r_iadd hx hb dX2_sell_302 ?_
                      refine lv_istore (lv' := [(8, .int (nI (sm + ((slG S e9 am a) - (slH S e9 am a))))), (11, .int (nI (slH S e9 am a))), (10, .int (nI (slG S e9 am a))), (9, .int (nI a)), (7, .int (nI (slR S e9 am))), (6, .int (nI (slI S e9))), (5, .int (nI (slL S e9 am))), (4, .int (nI (slA S e9))), (0, .ref (B 0)), (1, .int (nI e9)), (2, .int (nI am)), (3, .int (nI (4 * e9)))]) hx hb dX2_sell_303 hl (by decide) rfl (fun ls hl => ?_)
                      refine lv_iinc (v := nI (a + 1)) (lv' := [(9, .int (nI (a + 1))), (8, .int (nI (sm + ((slG S e9 am a) - (slH S e9 am a))))), (11, .int (nI (slH S e9 am a))), (10, .int (nI (slG S e9 am a))), (7, .int (nI (slR S e9 am))), (6, .int (nI (slI S e9))), (5, .int (nI (slL S e9 am))), (4, .int (nI (slA S e9))), (0, .ref (B 0)), (1, .int (nI e9)), (2, .int (nI am)), (3, .int (nI (4 * e9)))]) hx hb dX2_sell_305 hl (k := 3) rfl (nI_inc _) (by decide) rfl (fun ls hl => ?_)
                      refine lv_goto (tgt := 178) hx hb dX2_sell_308 (by decide) ?_
                      exact kont _ _ ls hP hD hS (lv_sub hl [0, 1, 4, 5, 6, 7, 8, 9, 10, 11] rfl)
                    · refine lv_iload hx hb dX2_sell_253 (lv_at hl 0 rfl) ?_
                      refine lv_goto (tgt := 265) hx hb dX2_sell_255 (by decide) ?_
                      refine lv_topi (fun y9 ey9 => ?_)
                      obtain rfl : y9 = nI (slH S e9 am a) := ey9.trans (by rw [slH, show min (slG S e9 am a) (S 10 a) = slG S e9 am a from by omega])
                      have hH1 : slH S e9 am a ≤ slG S e9 am a := Nat.min_le_left _ _
                      have hH2 : slH S e9 am a ≤ S 10 a := Nat.min_le_right _ _
                      refine lv_istore (lv' := [(11, .int (nI (slH S e9 am a))), (10, .int (nI (slG S e9 am a))), (9, .int (nI a)), (8, .int (nI sm)), (7, .int (nI (slR S e9 am))), (6, .int (nI (slI S e9))), (5, .int (nI (slL S e9 am))), (4, .int (nI (slA S e9))), (0, .ref (B 0)), (1, .int (nI e9)), (2, .int (nI am)), (3, .int (nI (4 * e9)))]) hx hb dX2_sell_265 hl (by decide) rfl (fun ls hl => ?_)
                      refine lv_aload_n hx hb dX2_sell_267 rfl (lv_at hl 8 rfl) ?_
                      refine va_get (D := D) (ci := 2) (v := .ref (B 10)) (C := RX2) (T := TX2) (N := 19) hx hb hts hiX2 hown hK hP (0) rfl rfl 12 (by decide) (hts (.fieldLink RX2 38 "CoauthorTextModel" "advances" "[I") (by decide +kernel)) (fun _ h9 => h9) rfl dX2_sell_268 ?_
                      refine lv_iload hx hb dX2_sell_271 (lv_at hl 2 rfl) ?_
                      refine lv_dup2_11 hx hb dX2_sell_273 rfl rfl ?_
                      refine r_iald hx hb hK hP (10) rfl (by omega) (by decide) dX2_sell_274 ?_
                      refine lv_topi (fun y9 ey9 => ?_)
                      obtain rfl : y9 = nI (S 10 a) := ey9.trans (by show nI (Sj 10 a) = _; rw [e10])
                      refine lv_iload hx hb dX2_sell_275 (lv_at hl 0 rfl) ?_
                      refine r_isub hx hb dX2_sell_277 (by exact hH2) ?_
                      refine r_iast (w' := MW cy B (up2 Sj 10 a ((S 10 a) - (slH S e9 am a))) (up2 T 0 2 0) Y) hx hb hK hP hD hS (10) rfl (by omega) (by decide) dX2_sell_278 (by rw [show upd (fun x9 => nI (Sj 10 x9)) a (nI ((S 10 a) - (slH S e9 am a))) = fun x9 => nI ((up2 Sj 10 a ((S 10 a) - (slH S e9 am a))) 10 x9) from upd_n Sj 10 _ _]; rfl) (fun H locs hP hD hS => ?_)
                      refine lv_aload_n hx hb dX2_sell_279 rfl (lv_at hl 8 rfl) ?_
                      refine va_get (D := D) (ci := 2) (v := .ref (B 11)) (C := RX2) (T := TX2) (N := 19) hx hb hts hiX2 hown hK hP (0) rfl rfl 13 (by decide) (hts (.fieldLink RX2 41 "CoauthorTextModel" "paid" "[J") (by decide +kernel)) (fun _ h9 => h9) rfl dX2_sell_280 ?_
                      refine lv_iload hx hb dX2_sell_283 (lv_at hl 2 rfl) ?_
                      refine lv_dup2_11 hx hb dX2_sell_285 rfl rfl ?_
                      refine r_lald hx hb hK hP (11) rfl (by omega) (by decide) dX2_sell_286 ?_
                      refine lv_topl (fun y9 ey9 => ?_)
                      obtain rfl : y9 = lN (S 11 a) := ey9.trans (by show lN (Sj 11 a) = _; rw [e11])
                      refine lv_iload hx hb dX2_sell_287 (lv_at hl 1 rfl) ?_
                      refine lv_iload hx hb dX2_sell_289 (lv_at hl 0 rfl) ?_
                      refine r_isub hx hb dX2_sell_291 (by exact hH1) ?_
                      refine lv_i2l (v := lN ((slG S e9 am a) - (slH S e9 am a))) hx hb dX2_sell_292 (nI_l (by omega)) ?_
                      refine r_ladd hx hb dX2_sell_293 ?_
                      refine r_last (w' := MW cy B (up2 (up2 Sj 10 a ((S 10 a) - (slH S e9 am a))) 11 a (S 11 a + (slG S e9 am a - slH S e9 am a))) (up2 T 0 2 0) Y) hx hb hK hP hD hS (11) rfl (by omega) (by decide) dX2_sell_294 (by rw [show vp_updL (fun x9 => lN ((up2 Sj 10 a ((S 10 a) - (slH S e9 am a))) 11 x9)) a (lN (S 11 a + (slG S e9 am a - slH S e9 am a))) = fun x9 => lN ((up2 (up2 Sj 10 a ((S 10 a) - (slH S e9 am a))) 11 a (S 11 a + (slG S e9 am a - slH S e9 am a))) 11 x9) from upd_l (up2 Sj 10 a ((S 10 a) - (slH S e9 am a))) 11 _ _]; rfl) (fun H locs hP hD hS => ?_)
                      refine lv_iload hx hb dX2_sell_295 (lv_at hl 3 rfl) ?_
                      refine lv_iload hx hb dX2_sell_297 (lv_at hl 1 rfl) ?_
                      refine lv_iload hx hb dX2_sell_299 (lv_at hl 0 rfl) ?_
                      refine r_isub hx hb dX2_sell_301 (by exact hH1) ?_
                      refine r_iadd hx hb dX2_sell_302 ?_
                      refine lv_istore (lv' := [(8, .int (nI (sm + ((slG S e9 am a) - (slH S e9 am a))))), (11, .int (nI (slH S e9 am a))), (10, .int (nI (slG S e9 am a))), (9, .int (nI a)), (7, .int (nI (slR S e9 am))), (6, .int (nI (slI S e9))), (5, .int (nI (slL S e9 am))), (4, .int (nI (slA S e9))), (0, .ref (B 0)), (1, .int (nI e9)), (2, .int (nI am)), (3, .int (nI (4 * e9)))]) hx hb dX2_sell_303 hl (by decide) rfl (fun ls hl => ?_)
                      refine lv_iinc (v := nI (a + 1)) (lv' := [(9, .int (nI (a + 1))), (8, .int (nI (sm + ((slG S e9 am a) - (slH S e9 am a))))), (11, .int (nI (slH S e9 am a))), (10, .int (nI (slG S e9 am a))), (7, .int (nI (slR S e9 am))), (6, .int (nI (slI S e9))), (5, .int (nI (slL S e9 am))), (4, .int (nI (slA S e9))), (0, .ref (B 0)), (1, .int (nI e9)), (2, .int (nI am)), (3, .int (nI (4 * e9)))]) hx hb dX2_sell_305 hl (k := 3) rfl (nI_inc _) (by decide) rfl (fun ls hl => ?_)
                      refine lv_goto (tgt := 178) hx hb dX2_sell_308 (by decide) ?_
                      exact kont _ _ ls hP hD hS (lv_sub hl [0, 1, 4, 5, 6, 7, 8, 9, 10, 11] rfl)
                  · refine lv_iload hx hb dX2_sell_232 (lv_at hl 2 rfl) ?_
                    refine lv_goto (tgt := 238) hx hb dX2_sell_234 (by decide) ?_
                    refine r_iadd hx hb dX2_sell_238 ?_
                    refine lv_topi (fun y9 ey9 => ?_)
                    obtain rfl : y9 = nI (slG S e9 am a) := ey9.trans (by rw [slG, if_neg (show ¬ S 9 (4 * e9 + a) = 0 by omega), if_pos cF]; rfl)
                    have hG : slG S e9 am a < 100000000 := by unfold slG; rw [if_neg (show ¬ S 9 (4 * e9 + a) = 0 by omega), if_pos cF]; omega
                    refine lv_istore (lv' := [(10, .int (nI (slG S e9 am a))), (9, .int (nI a)), (8, .int (nI sm)), (7, .int (nI (slR S e9 am))), (6, .int (nI (slI S e9))), (5, .int (nI (slL S e9 am))), (4, .int (nI (slA S e9))), (0, .ref (B 0)), (1, .int (nI e9)), (2, .int (nI am)), (3, .int (nI (4 * e9)))]) hx hb dX2_sell_239 hl (by decide) rfl (fun ls hl => ?_)
                    refine lv_iload hx hb dX2_sell_241 (lv_at hl 0 rfl) ?_
                    refine lv_aload_n hx hb dX2_sell_243 rfl (lv_at hl 7 rfl) ?_
                    refine va_get (D := D) (ci := 2) (v := .ref (B 10)) (C := RX2) (T := TX2) (N := 19) hx hb hts hiX2 hown hK hP (0) rfl rfl 12 (by decide) (hts (.fieldLink RX2 38 "CoauthorTextModel" "advances" "[I") (by decide +kernel)) (fun _ h9 => h9) rfl dX2_sell_244 ?_
                    refine lv_iload hx hb dX2_sell_247 (lv_at hl 1 rfl) ?_
                    refine r_iald hx hb hK hP (10) rfl (by omega) (by decide) dX2_sell_249 ?_
                    refine lv_topi (fun y9 ey9 => ?_)
                    obtain rfl : y9 = nI (S 10 a) := ey9.trans (by show nI (Sj 10 a) = _; rw [e10])
                    refine r_icmp_ge (tgt := 258) hx hb dX2_sell_250 (by decide) (by omega) (by omega) (fun cW => ?_) (fun cW => ?_)
                    · refine lv_aload_n hx hb dX2_sell_258 rfl (lv_at hl 7 rfl) ?_
                      refine va_get (D := D) (ci := 2) (v := .ref (B 10)) (C := RX2) (T := TX2) (N := 19) hx hb hts hiX2 hown hK hP (0) rfl rfl 12 (by decide) (hts (.fieldLink RX2 38 "CoauthorTextModel" "advances" "[I") (by decide +kernel)) (fun _ h9 => h9) rfl dX2_sell_259 ?_
                      refine lv_iload hx hb dX2_sell_262 (lv_at hl 1 rfl) ?_
                      refine r_iald hx hb hK hP (10) rfl (by omega) (by decide) dX2_sell_264 ?_
                      refine lv_topi (fun y9 ey9 => ?_)
                      obtain rfl : y9 = nI (slH S e9 am a) := ey9.trans (by show nI (Sj 10 a) = _; rw [e10, slH, show min (slG S e9 am a) (S 10 a) = S 10 a from by omega])
                      have hH1 : slH S e9 am a ≤ slG S e9 am a := Nat.min_le_left _ _
                      have hH2 : slH S e9 am a ≤ S 10 a := Nat.min_le_right _ _
                      refine lv_istore (lv' := [(11, .int (nI (slH S e9 am a))), (10, .int (nI (slG S e9 am a))), (9, .int (nI a)), (8, .int (nI sm)), (7, .int (nI (slR S e9 am))), (6, .int (nI (slI S e9))), (5, .int (nI (slL S e9 am))), (4, .int (nI (slA S e9))), (0, .ref (B 0)), (1, .int (nI e9)), (2, .int (nI am)), (3, .int (nI (4 * e9)))]) hx hb dX2_sell_265 hl (by decide) rfl (fun ls hl => ?_)
                      refine lv_aload_n hx hb dX2_sell_267 rfl (lv_at hl 8 rfl) ?_
                      refine va_get (D := D) (ci := 2) (v := .ref (B 10)) (C := RX2) (T := TX2) (N := 19) hx hb hts hiX2 hown hK hP (0) rfl rfl 12 (by decide) (hts (.fieldLink RX2 38 "CoauthorTextModel" "advances" "[I") (by decide +kernel)) (fun _ h9 => h9) rfl dX2_sell_268 ?_
                      refine lv_iload hx hb dX2_sell_271 (lv_at hl 2 rfl) ?_
                      refine lv_dup2_11 hx hb dX2_sell_273 rfl rfl ?_
                      refine r_iald hx hb hK hP (10) rfl (by omega) (by decide) dX2_sell_274 ?_
                      refine lv_topi (fun y9 ey9 => ?_)
                      obtain rfl : y9 = nI (S 10 a) := ey9.trans (by show nI (Sj 10 a) = _; rw [e10])
                      refine lv_iload hx hb dX2_sell_275 (lv_at hl 0 rfl) ?_
                      refine r_isub hx hb dX2_sell_277 (by exact hH2) ?_
                      refine r_iast (w' := MW cy B (up2 Sj 10 a ((S 10 a) - (slH S e9 am a))) (up2 T 0 2 0) Y) hx hb hK hP hD hS (10) rfl (by omega) (by decide) dX2_sell_278 (by rw [show upd (fun x9 => nI (Sj 10 x9)) a (nI ((S 10 a) - (slH S e9 am a))) = fun x9 => nI ((up2 Sj 10 a ((S 10 a) - (slH S e9 am a))) 10 x9) from upd_n Sj 10 _ _]; rfl) (fun H locs hP hD hS => ?_)
                      refine lv_aload_n hx hb dX2_sell_279 rfl (lv_at hl 8 rfl) ?_
                      refine va_get (D := D) (ci := 2) (v := .ref (B 11)) (C := RX2) (T := TX2) (N := 19) hx hb hts hiX2 hown hK hP (0) rfl rfl 13 (by decide) (hts (.fieldLink RX2 41 "CoauthorTextModel" "paid" "[J") (by decide +kernel)) (fun _ h9 => h9) rfl dX2_sell_280 ?_
                      refine lv_iload hx hb dX2_sell_283 (lv_at hl 2 rfl) ?_
                      refine lv_dup2_11 hx hb dX2_sell_285 rfl rfl ?_
                      refine r_lald hx hb hK hP (11) rfl (by omega) (by decide) dX2_sell_286 ?_
                      refine lv_topl (fun y9 ey9 => ?_)
                      obtain rfl : y9 = lN (S 11 a) := ey9.trans (by show lN (Sj 11 a) = _; rw [e11])
                      refine lv_iload hx hb dX2_sell_287 (lv_at hl 1 rfl) ?_
                      refine lv_iload hx hb dX2_sell_289 (lv_at hl 0 rfl) ?_
                      refine r_isub hx hb dX2_sell_291 (by exact hH1) ?_
                      refine lv_i2l (v := lN ((slG S e9 am a) - (slH S e9 am a))) hx hb dX2_sell_292 (nI_l (by omega)) ?_
                      refine r_ladd hx hb dX2_sell_293 ?_
                      refine r_last (w' := MW cy B (up2 (up2 Sj 10 a ((S 10 a) - (slH S e9 am a))) 11 a (S 11 a + (slG S e9 am a - slH S e9 am a))) (up2 T 0 2 0) Y) hx hb hK hP hD hS (11) rfl (by omega) (by decide) dX2_sell_294 (by rw [show vp_updL (fun x9 => lN ((up2 Sj 10 a ((S 10 a) - (slH S e9 am a))) 11 x9)) a (lN (S 11 a + (slG S e9 am a - slH S e9 am a))) = fun x9 => lN ((up2 (up2 Sj 10 a ((S 10 a) - (slH S e9 am a))) 11 a (S 11 a + (slG S e9 am a - slH S e9 am a))) 11 x9) from upd_l (up2 Sj 10 a ((S 10 a) - (slH S e9 am a))) 11 _ _]; rfl) (fun H locs hP hD hS => ?_)
                      refine lv_iload hx hb dX2_sell_295 (lv_at hl 3 rfl) ?_
                      refine lv_iload hx hb dX2_sell_297 (lv_at hl 1 rfl) ?_
                      refine lv_iload hx hb dX2_sell_299 (lv_at hl 0 rfl) ?_
                      refine r_isub hx hb dX2_sell_301 (by exact hH1) ?_
                      refine r_iadd hx hb dX2_sell_302 ?_
                      refine lv_istore (lv' := [(8, .int (nI (sm + ((slG S e9 am a) - (slH S e9 am a))))), (11, .int (nI (slH S e9 am a))), (10, .int (nI (slG S e9 am a))), (9, .int (nI a)), (7, .int (nI (slR S e9 am))), (6, .int (nI (slI S e9))), (5, .int (nI (slL S e9 am))), (4, .int (nI (slA S e9))), (0, .ref (B 0)), (1, .int (nI e9)), (2, .int (nI am)), (3, .int (nI (4 * e9)))]) hx hb dX2_sell_303 hl (by decide) rfl (fun ls hl => ?_)
                      refine lv_iinc (v := nI (a + 1)) (lv' := [(9, .int (nI (a + 1))), (8, .int (nI (sm + ((slG S e9 am a) - (slH S e9 am a))))), (11, .int (nI (slH S e9 am a))), (10, .int (nI (slG S e9 am a))), (7, .int (nI (slR S e9 am))), (6, .int (nI (slI S e9))), (5, .int (nI (slL S e9 am))), (4, .int (nI (slA S e9))), (0, .ref (B 0)), (1, .int (nI e9)), (2, .int (nI am)), (3, .int (nI (4 * e9)))]) hx hb dX2_sell_305 hl (k := 3) rfl (nI_inc _) (by decide) rfl (fun ls hl => ?_)
                      refine lv_goto (tgt := 178) hx hb dX2_sell_308 (by decide) ?_
                      exact kont _ _ ls hP hD hS (lv_sub hl [0, 1, 4, 5, 6, 7, 8, 9, 10, 11] rfl)
                    · refine lv_iload hx hb dX2_sell_253 (lv_at hl 0 rfl) ?_
                      refine lv_goto (tgt := 265) hx hb dX2_sell_255 (by decide) ?_
                      refine lv_topi (fun y9 ey9 => ?_)
                      obtain rfl : y9 = nI (slH S e9 am a) := ey9.trans (by rw [slH, show min (slG S e9 am a) (S 10 a) = slG S e9 am a from by omega])
                      have hH1 : slH S e9 am a ≤ slG S e9 am a := Nat.min_le_left _ _
                      have hH2 : slH S e9 am a ≤ S 10 a := Nat.min_le_right _ _
                      refine lv_istore (lv' := [(11, .int (nI (slH S e9 am a))), (10, .int (nI (slG S e9 am a))), (9, .int (nI a)), (8, .int (nI sm)), (7, .int (nI (slR S e9 am))), (6, .int (nI (slI S e9))), (5, .int (nI (slL S e9 am))), (4, .int (nI (slA S e9))), (0, .ref (B 0)), (1, .int (nI e9)), (2, .int (nI am)), (3, .int (nI (4 * e9)))]) hx hb dX2_sell_265 hl (by decide) rfl (fun ls hl => ?_)
                      refine lv_aload_n hx hb dX2_sell_267 rfl (lv_at hl 8 rfl) ?_
                      refine va_get (D := D) (ci := 2) (v := .ref (B 10)) (C := RX2) (T := TX2) (N := 19) hx hb hts hiX2 hown hK hP (0) rfl rfl 12 (by decide) (hts (.fieldLink RX2 38 "CoauthorTextModel" "advances" "[I") (by decide +kernel)) (fun _ h9 => h9) rfl dX2_sell_268 ?_
                      refine lv_iload hx hb dX2_sell_271 (lv_at hl 2 rfl) ?_
                      refine lv_dup2_11 hx hb dX2_sell_273 rfl rfl ?_
                      refine r_iald hx hb hK hP (10) rfl (by omega) (by decide) dX2_sell_274 ?_
                      refine lv_topi (fun y9 ey9 => ?_)
                      obtain rfl : y9 = nI (S 10 a) := ey9.trans (by show nI (Sj 10 a) = _; rw [e10])
                      refine lv_iload hx hb dX2_sell_275 (lv_at hl 0 rfl) ?_
                      refine r_isub hx hb dX2_sell_277 (by exact hH2) ?_
                      refine r_iast (w' := MW cy B (up2 Sj 10 a ((S 10 a) - (slH S e9 am a))) (up2 T 0 2 0) Y) hx hb hK hP hD hS (10) rfl (by omega) (by decide) dX2_sell_278 (by rw [show upd (fun x9 => nI (Sj 10 x9)) a (nI ((S 10 a) - (slH S e9 am a))) = fun x9 => nI ((up2 Sj 10 a ((S 10 a) - (slH S e9 am a))) 10 x9) from upd_n Sj 10 _ _]; rfl) (fun H locs hP hD hS => ?_)
                      refine lv_aload_n hx hb dX2_sell_279 rfl (lv_at hl 8 rfl) ?_
                      refine va_get (D := D) (ci := 2) (v := .ref (B 11)) (C := RX2) (T := TX2) (N := 19) hx hb hts hiX2 hown hK hP (0) rfl rfl 13 (by decide) (hts (.fieldLink RX2 41 "CoauthorTextModel" "paid" "[J") (by decide +kernel)) (fun _ h9 => h9) rfl dX2_sell_280 ?_
                      refine lv_iload hx hb dX2_sell_283 (lv_at hl 2 rfl) ?_
                      refine lv_dup2_11 hx hb dX2_sell_285 rfl rfl ?_
                      refine r_lald hx hb hK hP (11) rfl (by omega) (by decide) dX2_sell_286 ?_
                      refine lv_topl (fun y9 ey9 => ?_)
                      obtain rfl : y9 = lN (S 11 a) := ey9.trans (by show lN (Sj 11 a) = _; rw [e11])
                      refine lv_iload hx hb dX2_sell_287 (lv_at hl 1 rfl) ?_
                      refine lv_iload hx hb dX2_sell_289 (lv_at hl 0 rfl) ?_
                      refine r_isub hx hb dX2_sell_291 (by exact hH1) ?_
                      refine lv_i2l (v := lN ((slG S e9 am a) - (slH S e9 am a))) hx hb dX2_sell_292 (nI_l (by omega)) ?_
                      refine r_ladd hx hb dX2_sell_293 ?_
                      refine r_last (w' := MW cy B (up2 (up2 Sj 10 a ((S 10 a) - (slH S e9 am a))) 11 a (S 11 a + (slG S e9 am a - slH S e9 am a))) (up2 T 0 2 0) Y) hx hb hK hP hD hS (11) rfl (by omega) (by decide) dX2_sell_294 (by rw [show vp_updL (fun x9 => lN ((up2 Sj 10 a ((S 10 a) - (slH S e9 am a))) 11 x9)) a (lN (S 11 a + (slG S e9 am a - slH S e9 am a))) = fun x9 => lN ((up2 (up2 Sj 10 a ((S 10 a) - (slH S e9 am a))) 11 a (S 11 a + (slG S e9 am a - slH S e9 am a))) 11 x9) from upd_l (up2 Sj 10 a ((S 10 a) - (slH S e9 am a))) 11 _ _]; rfl) (fun H locs hP hD hS => ?_)
                      refine lv_iload hx hb dX2_sell_295 (lv_at hl 3 rfl) ?_
                      refine lv_iload hx hb dX2_sell_297 (lv_at hl 1 rfl) ?_
                      refine lv_iload hx hb dX2_sell_299 (lv_at hl 0 rfl) ?_
                      refine r_isub hx hb dX2_sell_301 (by exact hH1) ?_
                      refine r_iadd hx hb dX2_sell_302 ?_
                      refine lv_istore (lv' := [(8, .int (nI (sm + ((slG S e9 am a) - (slH S e9 am a))))), (11, .int (nI (slH S e9 am a))), (10, .int (nI (slG S e9 am a))), (9, .int (nI a)), (7, .int (nI (slR S e9 am))), (6, .int (nI (slI S e9))), (5, .int (nI (slL S e9 am))), (4, .int (nI (slA S e9))), (0, .ref (B 0)), (1, .int (nI e9)), (2, .int (nI am)), (3, .int (nI (4 * e9)))]) hx hb dX2_sell_303 hl (by decide) rfl (fun ls hl => ?_)
                      refine lv_iinc (v := nI (a + 1)) (lv' := [(9, .int (nI (a + 1))), (8, .int (nI (sm + ((slG S e9 am a) - (slH S e9 am a))))), (11, .int (nI (slH S e9 am a))), (10, .int (nI (slG S e9 am a))), (7, .int (nI (slR S e9 am))), (6, .int (nI (slI S e9))), (5, .int (nI (slL S e9 am))), (4, .int (nI (slA S e9))), (0, .ref (B 0)), (1, .int (nI e9)), (2, .int (nI am)), (3, .int (nI (4 * e9)))]) hx hb dX2_sell_305 hl (k := 3) rfl (nI_inc _) (by decide) rfl (fun ls hl => ?_)
                      refine lv_goto (tgt := 178) hx hb dX2_sell_308 (by decide) ?_
                      exact kont _ _ ls hP hD hS (lv_sub hl [0, 1, 4, 5, 6, 7, 8, 9, 10, 11] rfl)
            refine iter3 0 (0) (nI 0) (S) _ _ ls (by decide) rfl rfl rfl rfl rfl hP hD hS (lv_sub hl [0, 1, 2, 3, 4, 5, 6, 7, 8, 9] rfl) (fun H locs ls hP hD hS hl => ?_)
            refine iter3 1 (0 + (slG S e9 am 0 - slH S e9 am 0)) (nI 1) (up2 (up2 S 10 0 (S 10 0 - slH S e9 am 0)) 11 0 (S 11 0 + (slG S e9 am 0 - slH S e9 am 0))) _ _ ls (by decide) rfl rfl rfl rfl rfl hP hD hS hl (fun H locs ls hP hD hS hl => ?_)
            refine iter3 2 ((0 + (slG S e9 am 0 - slH S e9 am 0)) + (slG S e9 am 1 - slH S e9 am 1)) (nI 2) (up2 (up2 (up2 (up2 S 10 0 (S 10 0 - slH S e9 am 0)) 11 0 (S 11 0 + (slG S e9 am 0 - slH S e9 am 0))) 10 1 (S 10 1 - slH S e9 am 1)) 11 1 (S 11 1 + (slG S e9 am 1 - slH S e9 am 1))) _ _ ls (by decide) rfl rfl rfl rfl rfl hP hD hS hl (fun H locs ls hP hD hS hl => ?_)
            refine iter3 3 (((0 + (slG S e9 am 0 - slH S e9 am 0)) + (slG S e9 am 1 - slH S e9 am 1)) + (slG S e9 am 2 - slH S e9 am 2)) (nI 3) (up2 (up2 (up2 (up2 (up2 (up2 S 10 0 (S 10 0 - slH S e9 am 0)) 11 0 (S 11 0 + (slG S e9 am 0 - slH S e9 am 0))) 10 1 (S 10 1 - slH S e9 am 1)) 11 1 (S 11 1 + (slG S e9 am 1 - slH S e9 am 1))) 10 2 (S 10 2 - slH S e9 am 2)) 11 2 (S 11 2 + (slG S e9 am 2 - slH S e9 am 2))) _ _ ls (by decide) rfl rfl rfl rfl rfl hP hD hS hl (fun H locs ls hP hD hS hl => ?_)
            refine lv_iload hx hb dX2_sell_178 (lv_at hl 0 rfl) ?_
            refine lv_iconst (v := nI 4) hx hb dX2_sell_180 (by decide) ?_
            refine r_icmp_ge (tgt := 311) hx hb dX2_sell_181 (by decide) (by decide) (by decide) (fun c10 => ?_) (fun c10 => ?_)
            · refine lv_iload hx hb dX2_sell_311 (lv_at hl 1 rfl) ?_
              exact C_iret hx hb hr hlocks hS hP hK hD (Nat.le_of_ble_eq_true rfl) (Nat.le_of_ble_eq_true rfl) dX2_sell_313 (by rw [show spSell S (nI e9) (nI am) = (0, nI (s4 (fun a => slG S e9 am a - slH S e9 am a)), slS S e9 am 4) from by simp only [spSell, hU, hV, ea, eb, Bool.true_eq_false, if_false]]; exact ⟨_, up2_s _ _ _ _, by rw [sl_4], fun _ => by rw [s4, Nat.zero_add]⟩)
            · omega
          · omega
        · exact absurd (by decide) cN
      · omega
  · have hV := bN_0.mp cA
    refine lv_iconst (v := nI 1) hx hb dX2_sell_9 (by decide) ?_
    refine lv_goto (tgt := 28) hx hb dX2_sell_10 (by decide) ?_
    refine K_i (va_runV (As := [.int (nI 1)]) (rest := []) ⟨hx, hb, hml, hown, hts⟩ (c_X2_goes l (k := 1) (by decide) _) (cwV 1 hts gX2_sell_X2_goes rfl rfl rfl (by decide +kernel) ⟨Nat.le_of_ble_eq_true rfl, Nat.le_of_ble_eq_true rfl⟩) (pV hP hK hD hS hA hX (va_recv hK hP (ci := 2) (q0 := 0) rfl rfl)) rfl rfl hl.1 rfl (lv_room (Nat.le_of_ble_eq_true rfl)) dX2_sell_28 ⟨Nat.le_of_ble_eq_true rfl, Nat.le_of_ble_eq_true rfl⟩) hD hS hA (fun r w'  H locs hp hP hD hS => ?_)
    obtain ⟨hr9, rfl⟩ := hp
    obtain rfl : r = nI 0 := hr9
    refine r_if_ne (tgt := 36) hx hb dX2_sell_31 (by decide) (by decide) (fun c11 => ?_) (fun c11 => ?_)
    · omega
    · refine lv_iconst (v := nI 0) hx hb dX2_sell_34 (by decide) ?_
      exact C_iret hx hb hr hlocks hS hP hK hD (Nat.le_of_ble_eq_true rfl) (Nat.le_of_ble_eq_true rfl) dX2_sell_35 (by rw [show spSell S p0 p1 = (1, 0, S) from by simp [spSell, hV]]; exact ⟨_, up2_s _ _ _ _, rfl, fun h => absurd (show (1 : Nat) = 0 from h) (by decide)⟩)
