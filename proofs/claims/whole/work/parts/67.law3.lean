/-! ===== the law: its loop ===== -/
theorem sub4 {L : Nat} (h : L ≤ 2048) : (Int32.ofNat L - nI 4).toInt = (L : Int) - 4 := by
  have h1 : (Int32.ofNat L).toInt = (L : Int) := nI_toInt (show L < 2 ^ 31 by omega)
  have h2 : (nI 4).toInt = 4 := by decide
  rw [Int32.toInt_sub, h1, h2]
  simp only [Int.bmod]
  split <;> omega
theorem law_tail {p : Program} {l : Launch} {e : Env} {s : State} {m : MethodId} {below : List Frame} {meth : Method} {c : Code} {b L : Nat} {xs : Nat → Int32} {D : va_G} {cy : Nat → ClassId} {B : Nat → Nat} {x0 u9 : Nat} {Q : State → Prop} (C : LCx p s m c b L xs D cy) {k i : Nat} (hN : Head p l e s m below meth c b D cy B x0 u9 Q k (i + 4) 23) : Head p l e s m below meth c b D cy B x0 u9 Q k i 1287 := by
  intro S O G hd nx T f H locs ls hI hB hO hG hP hD hS hl
  obtain ⟨hx, hb, hml, hown, hts, hSX, hbl, hL, hK, hX⟩ := C
  refine lv_iinc (v := nI (i + 4)) (lv' := [(4, .int (nI (i + 4))), (0, .ref b), (1, .ref x0), (2, .ref (B 0)), (3, .ref u9)]) hx hb dL_law_1287 hl (k := 0) rfl (nI_add _ _) (by decide) rfl (fun ls hl => ?_)
  refine lv_goto (tgt := 23) hx hb dL_law_1290 (by decide) ?_
  exact hN S O G hd nx T f H locs ls hI hB hO hG hP hD hS hl
set_option maxHeartbeats 4000000 in
set_option maxRecDepth 100000 in
theorem law_step {p : Program} {l : Launch} {e : Env} {s : State} {m : MethodId} {below : List Frame} {meth : Method} {c : Code} {b L : Nat} {xs : Nat → Int32} {D : va_G} {cy : Nat → ClassId} {B : Nat → Nat} {x0 u9 : Nat} {Q : State → Prop} (hlf : l.stackTraces = false) (C : LCx p s m c b L xs D cy) (hret : ∀ (H : Heap) (ls : Array Slot), W p l e room_1 s m #[Value.ref b] below meth c H [] 601024 7293034 Q (F0 m 1294 ls [.int 1])) {n : Nat} (hn5 : n ≤ 513) (hN : 4 * n + 4 ≤ L → Head p l e s m below meth c b D cy B x0 u9 Q (n + 1) (4 * n + 4) 23) : Head p l e s m below meth c b D cy B x0 u9 Q n (4 * n) 23 := by
  intro S O G hd nx T f H locs ls hI hB hO hG hP hD hS hl
  have hC := C
  obtain ⟨hx, hb, hml, hown, hts, hSX, hbl, hL, hK, hX⟩ := C
  have hbA : ¬ (fun q : Nat => s.heap.size ≤ q) b := Nat.not_le.mpr hbl
  refine lv_iload hx hb dL_law_23 (lv_at hl 0 rfl) ?_
  refine lv_aload_n hx hb dL_law_25 rfl (lv_at hl 1 rfl) ?_
  refine va_slen hx hb hSX hbl hbA hS dL_law_26 ?_
  refine lv_iconst (v := nI 4) hx hb dL_law_27 (by decide) ?_
  refine lv_isub hx hb dL_law_28 ?_
  refine lv_icmp_gt (tgt := 1293) hx hb dL_law_29 (by decide) (fun cE => ?_) (fun cE => ?_)
  · refine va_forget hS.2.2 ?_
    refine W.widen (k := 601024) (n := 7293034) (by omega) (by omega) ?_
    refine lv_iconst (v := 1) hx hb dL_law_1293 (by decide) ?_
    exact hret H ls
  · have h4 : 4 * n + 4 ≤ L := by
      rw [Int32.lt_iff_toInt_lt, sub4 hL, nI_toInt (show 4 * n < 2 ^ 31 by omega)] at cE
      omega
    refine lv_aload_n hx hb dL_law_32 rfl (lv_at hl 1 rfl) ?_
    refine lv_iload hx hb dL_law_33 (lv_at hl 0 rfl) ?_
    refine r_sld (k := 4 * n) hx hb hSX hbl hbA hS (by omega) hL dL_law_35 ?_
    refine lv_bipush (v := nI 31) hx hb dL_law_36 (by decide) ?_
    refine lv_iand hx hb dL_law_38 ?_
    have tail := law_tail hC (hN h4)
    generalize xs (4 * n) &&& nI 31 = v
    have hc : (v.toInt < 0 ∨ 18 < v.toInt) ∨ v.toInt = 0 ∨ v.toInt = 1 ∨ v.toInt = 2 ∨ v.toInt = 3 ∨ v.toInt = 4 ∨ v.toInt = 5 ∨ v.toInt = 6 ∨ v.toInt = 7 ∨ v.toInt = 8 ∨ v.toInt = 9 ∨ v.toInt = 10 ∨ v.toInt = 11 ∨ v.toInt = 12 ∨ v.toInt = 13 ∨ v.toInt = 14 ∨ v.toInt = 15 ∨ v.toInt = 16 ∨ v.toInt = 17 ∨ v.toInt = 18 := by omega
    rcases hc with h | h | h | h | h | h | h | h | h | h | h | h | h | h | h | h | h | h | h | h
    · refine lv_tableOut (tgt := 1287) hx hb dL_law_39 h (by decide) ?_
      refine W.widen (k := 100 + 10 * (n + 1)) (n := 2000 + 60 * (n + 1)) (by omega) (by omega) ?_
      exact tail S O G hd nx T f H locs ls hI hB.up hO hG hP hD hS hl
    · refine lv_tableIn (tgt := 128) (off := 89) hx hb dL_law_39 (by rw [h]; decide) (by rw [h]; decide) (by rw [h]; rfl) (by decide) ?_
      exact law_b_insert hlf hC h4 tail S O G hd nx T f H locs ls hI hB hO hG hP hD hS hl
    · refine lv_tableIn (tgt := 208) (off := 169) hx hb dL_law_39 (by rw [h]; decide) (by rw [h]; decide) (by rw [h]; rfl) (by decide) ?_
      exact law_b_remove hlf hC h4 tail S O G hd nx T f H locs ls hI hB hO hG hP hD hS hl
    · refine lv_tableIn (tgt := 276) (off := 237) hx hb dL_law_39 (by rw [h]; decide) (by rw [h]; decide) (by rw [h]; rfl) (by decide) ?_
      exact law_b_restore hlf hC h4 tail S O G hd nx T f H locs ls hI hB hO hG hP hD hS hl
    · refine lv_tableIn (tgt := 344) (off := 305) hx hb dL_law_39 (by rw [h]; decide) (by rw [h]; decide) (by rw [h]; rfl) (by decide) ?_
      exact law_b_learn hlf hC h4 tail S O G hd nx T f H locs ls hI hB hO hG hP hD hS hl
    · refine lv_tableIn (tgt := 412) (off := 373) hx hb dL_law_39 (by rw [h]; decide) (by rw [h]; decide) (by rw [h]; rfl) (by decide) ?_
      exact law_b_length hlf hC h4 tail S O G hd nx T f H locs ls hI hB hO hG hP hD hS hl
    · refine lv_tableIn (tgt := 468) (off := 429) hx hb dL_law_39 (by rw [h]; decide) (by rw [h]; decide) (by rw [h]; rfl) (by decide) ?_
      exact law_b_signAt hlf hC h4 tail S O G hd nx T f H locs ls hI hB hO hG hP hD hS hl
    · refine lv_tableIn (tgt := 536) (off := 497) hx hb dL_law_39 (by rw [h]; decide) (by rw [h]; decide) (by rw [h]; rfl) (by decide) ?_
      exact law_b_letterAt hlf hC h4 tail S O G hd nx T f H locs ls hI hB hO hG hP hD hS hl
    · refine lv_tableIn (tgt := 604) (off := 565) hx hb dL_law_39 (by rw [h]; decide) (by rw [h]; decide) (by rw [h]; rfl) (by decide) ?_
      exact law_b_areAlike hlf hC h4 tail S O G hd nx T f H locs ls hI hB hO hG hP hD hS hl
    · refine lv_tableIn (tgt := 679) (off := 640) hx hb dL_law_39 (by rw [h]; decide) (by rw [h]; decide) (by rw [h]; rfl) (by decide) ?_
      exact law_b_signs hlf hC h4 tail S O G hd nx T f H locs ls hI hB hO hG hP hD hS hl
    · refine lv_tableIn (tgt := 692) (off := 653) hx hb dL_law_39 (by rw [h]; decide) (by rw [h]; decide) (by rw [h]; rfl) (by decide) ?_
      exact law_b_authorOf hlf hC h4 tail S O G hd nx T f H locs ls hI hB hO hG hP hD hS hl
    · refine lv_tableIn (tgt := 748) (off := 709) hx hb dL_law_39 (by rw [h]; decide) (by rw [h]; decide) (by rw [h]; rfl) (by decide) ?_
      exact law_b_behind hlf hC h4 tail S O G hd nx T f H locs ls hI hB hO hG hP hD hS hl
    · refine lv_tableIn (tgt := 804) (off := 765) hx hb dL_law_39 (by rw [h]; decide) (by rw [h]; decide) (by rw [h]; rfl) (by decide) ?_
      exact law_b_clock hlf hC h4 tail S O G hd nx T f H locs ls hI hB hO hG hP hD hS hl
    · refine lv_tableIn (tgt := 860) (off := 821) hx hb dL_law_39 (by rw [h]; decide) (by rw [h]; decide) (by rw [h]; rfl) (by decide) ?_
      exact law_b_print hlf hC h4 tail S O G hd nx T f H locs ls hI hB hO hG hP hD hS hl
    · refine lv_tableIn (tgt := 916) (off := 877) hx hb dL_law_39 (by rw [h]; decide) (by rw [h]; decide) (by rw [h]; rfl) (by decide) ?_
      exact law_b_printed hlf hC h4 tail S O G hd nx T f H locs ls hI hB hO hG hP hD hS hl
    · refine lv_tableIn (tgt := 984) (off := 945) hx hb dL_law_39 (by rw [h]; decide) (by rw [h]; decide) (by rw [h]; rfl) (by decide) ?_
      exact law_b_setFloor hlf hC h4 tail S O G hd nx T f H locs ls hI hB hO hG hP hD hS hl
    · refine lv_tableIn (tgt := 1040) (off := 1001) hx hb dL_law_39 (by rw [h]; decide) (by rw [h]; decide) (by rw [h]; rfl) (by decide) ?_
      exact law_b_advance hlf hC h4 tail S O G hd nx T f H locs ls hI hB hO hG hP hD hS hl
    · refine lv_tableIn (tgt := 1108) (off := 1069) hx hb dL_law_39 (by rw [h]; decide) (by rw [h]; decide) (by rw [h]; rfl) (by decide) ?_
      exact law_b_sell hlf hC h4 tail S O G hd nx T f H locs ls hI hB hO hG hP hD hS hl
    · refine lv_tableIn (tgt := 1176) (off := 1137) hx hb dL_law_39 (by rw [h]; decide) (by rw [h]; decide) (by rw [h]; rfl) (by decide) ?_
      exact law_b_paid hlf hC h4 tail S O G hd nx T f H locs ls hI hB hO hG hP hD hS hl
    · refine lv_tableIn (tgt := 1231) (off := 1192) hx hb dL_law_39 (by rw [h]; decide) (by rw [h]; decide) (by rw [h]; rfl) (by decide) ?_
      exact law_b_left hlf hC h4 tail S O G hd nx T f H locs ls hI hB hO hG hP hD hS hl

theorem law_loop {p : Program} {l : Launch} {e : Env} {s : State} {m : MethodId} {below : List Frame} {meth : Method} {c : Code} {b L : Nat} {xs : Nat → Int32} {D : va_G} {cy : Nat → ClassId} {B : Nat → Nat} {x0 u9 : Nat} {Q : State → Prop} (hlf : l.stackTraces = false) (C : LCx p s m c b L xs D cy) (hret : ∀ (H : Heap) (ls : Array Slot), W p l e room_1 s m #[Value.ref b] below meth c H [] 601024 7293034 Q (F0 m 1294 ls [.int 1])) : ∀ (d n : Nat), n + d = 513 → Head p l e s m below meth c b D cy B x0 u9 Q n (4 * n) 23
  | 0, n, h => law_step hlf C hret (by omega) (fun h4 => absurd h4 (by have := C.2.2.2.2.2.2.2.1; omega))
  | d + 1, n, h => law_step hlf C hret (by omega) (fun _ => by
      have ih := law_loop (B := B) (x0 := x0) (u9 := u9) hlf C hret d (n + 1) (by omega)
      rwa [Nat.mul_succ] at ih)
