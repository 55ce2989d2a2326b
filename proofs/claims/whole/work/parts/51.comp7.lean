/-! ===== the class: a new sign ===== -/
/-- a sign's stamps, while they are laid -/
def stF (au i : Nat) : Nat → Int32 := fun j => if j < i then (if j = au then nI 0 else -1) else 0
theorem stF_0 (au : Nat) : (fun _ => 0) = stF au 0 := by funext j; simp [stF]
theorem stF_s {au i : Nat} {v : Int32} (h : v = if i = au then nI 0 else -1) : upd (stF au i) i v = stF au (i + 1) := by
  funext j
  unfold upd stF
  by_cases e : j = i
  · subst e; rw [if_pos rfl, if_pos (by omega), h]
  · by_cases h1 : j < i
    · simp [e, h1, show j < i + 1 by omega]
    · simp [e, h1, show ¬ j < i + 1 by omega]

set_option maxHeartbeats 4000000 in
set_option maxRecDepth 100000 in
theorem c_X0_init (l : Launch) {D : va_G} {cy : Nat → ClassId} {Y : va_W} {z n a c9 t : Nat} {ah : Option Nat} (ha : a < 4) : CV l yX0_init wsX0_init ({ frames := 2, cells := 2, slots := 8, locals := 40 } : Room) D cy [.ref z, .int (nI n), .int (nI a), .int (nI c9), .int (nI t), va_rf ah] ((z, .inr (0, [.int 0, .int 0, .int 0, .int 0, .null, .null, .null, .null])) :: Y) (fun w' => ∃ q2 q3 : Nat, w' = (q3, .inl (cy 2, 4, .inl (fun _ => 0))) :: (q2, .inl (cy 0, 4, .inl (fun j => if j = a then nI 0 else -1))) :: (z, .inr (0, [.int (nI n), .int (nI a), .int (nI c9), .int (nI t), va_rf ah, .null, .ref q2, .ref q3])) :: Y) 2 8 := by
  refine CVN.of (cc := cX0_init) (maxL := 7) (ret := none) (by decide) rfl (by cases ah <;> exact Nat.le_of_ble_eq_true rfl) ?_
  intro p e s m below meth c A ls E0 hin hl
  obtain ⟨hx, hb, hml, hown, hts, hr, hlocks, hA, hS, hP, hK, hD, hX⟩ := E0
  have hiX0 : ∀ w ∈ u_ws RX0 TX0 8, w ∈ wsX0_init := by decide +kernel
  have hl : lv_has ls 7 [(0, .ref z), (1, .int (nI n)), (2, .int (nI a)), (3, .int (nI c9)), (4, .int (nI t)), (5, va_rf ah)] := by cases ah <;> exact hl
  refine lv_aload_n hx hb dX0_init_0 rfl (lv_at hl 0 rfl) ?_
  refine W.objInit hx hb hown (hts (.methodLink RX0 3 objectInit) (by decide +kernel)) (hts (.instanceMethod objectInit) (by decide +kernel)) (hts (.code objectInit ⟨#[0xb1]⟩ 1 none) (List.mem_cons_of_mem _ (List.mem_append_left _ (List.mem_of_getElem? (i := 2) rfl)))) rfl (by rw [hml]; exact hl.1) rfl dX0_init_1 (Nat.le_of_ble_eq_true rfl) (Nat.le_of_ble_eq_true rfl) ?_
  refine W.eq (g2 := F0 m 4 ls []) rfl ?_
  refine lv_aload_n hx hb dX0_init_4 rfl (lv_at hl 0 rfl) ?_
  refine lv_null hx hb dX0_init_5 ?_
  refine r_put (w' := (z, .inr (0, [.int 0, .int 0, .int 0, .int 0, .null, .null, .null, .null])) :: Y) (own := RX0) (C := RX0) (T := TX0) (N := 8) (ci := 0) (q0 := 0) (k := 5) (index := 9) (ty := (.object "CoauthorText$Sign")) (v := .null) hx hb hts hiX0 tyX0_ok nmX0 hown hK hP hD hS rfl rfl (by decide) (by decide +kernel) rfl (by decide +kernel) rfl rfl (Nat.le_of_ble_eq_true rfl) dX0_init_6 rfl (fun H locs hP hD hS => ?_)
  refine lv_aload_n hx hb dX0_init_9 rfl (lv_at hl 0 rfl) ?_
  refine lv_iconst (v := nI 4) hx hb dX0_init_10 (by decide) ?_
  refine r_newa (atype := .int) (ty := .int) (N' := 4) (a0 := (4, .inl (fun _ => 0))) 0 hx hb (hts (.arrayClass .int) (by decide +kernel)) rfl hK hP hD hS hA rfl (fun _ => rfl) (by decide) (by decide) (by decide) (Nat.le_of_ble_eq_true rfl) (Nat.le_of_ble_eq_true rfl) dX0_init_11 (fun q2 H hP hD hS => ?_)
  refine r_putF (w' := (q2, .inl (cy 0, 4, .inl (fun _ => 0))) :: (z, .inr (0, [.int 0, .int 0, .int 0, .int 0, .null, .null, .ref q2, .null])) :: Y) (own := RX0) (C := RX0) (T := TX0) (N := 8) (ci := 0) (q0 := 1) (k := 6) (index := 15) (ty := (.array .int)) (v := .ref q2) hx hb hts hiX0 tyX0_ok nmX0 hown hin hK hP hD hS rfl rfl (by decide) (by decide +kernel) rfl rfl (by decide +kernel) rfl rfl (Nat.le_of_ble_eq_true rfl) dX0_init_13 rfl (fun H locs hP hD hS => ?_)
  refine lv_aload_n hx hb dX0_init_16 rfl (lv_at hl 0 rfl) ?_
  refine lv_iconst (v := nI 4) hx hb dX0_init_17 (by decide) ?_
  refine r_newa (atype := .boolean) (ty := .boolean) (N' := 4) (a0 := (4, .inl (fun _ => 0))) 2 hx hb (hts (.arrayClass .boolean) (by decide +kernel)) rfl hK hP hD hS hA rfl (fun _ => rfl) (by decide) (by decide) (by decide) (Nat.le_of_ble_eq_true rfl) (Nat.le_of_ble_eq_true rfl) dX0_init_18 (fun q3 H hP hD hS => ?_)
  refine r_putF (w' := (q3, .inl (cy 2, 4, .inl (fun _ => 0))) :: (q2, .inl (cy 0, 4, .inl (fun _ => 0))) :: (z, .inr (0, [.int 0, .int 0, .int 0, .int 0, .null, .null, .ref q2, .ref q3])) :: Y) (own := RX0) (C := RX0) (T := TX0) (N := 8) (ci := 0) (q0 := 2) (k := 7) (index := 19) (ty := (.array .boolean)) (v := .ref q3) hx hb hts hiX0 tyX0_ok nmX0 hown hin hK hP hD hS rfl rfl (by decide) (by decide +kernel) rfl rfl (by decide +kernel) rfl rfl (Nat.le_of_ble_eq_true rfl) dX0_init_20 rfl (fun H locs hP hD hS => ?_)
  refine lv_aload_n hx hb dX0_init_23 rfl (lv_at hl 0 rfl) ?_
  refine lv_iload_n hx hb dX0_init_24 rfl (lv_at hl 1 rfl) ?_
  refine r_putF (w' := (q3, .inl (cy 2, 4, .inl (fun _ => 0))) :: (q2, .inl (cy 0, 4, .inl (fun _ => 0))) :: (z, .inr (0, [.int (nI n), .int 0, .int 0, .int 0, .null, .null, .ref q2, .ref q3])) :: Y) (own := RX0) (C := RX0) (T := TX0) (N := 8) (ci := 0) (q0 := 2) (k := 0) (index := 23) (ty := .int) (v := .int (nI n)) hx hb hts hiX0 tyX0_ok nmX0 hown hin hK hP hD hS rfl rfl (by decide) (by decide +kernel) rfl rfl (by decide +kernel) rfl rfl (Nat.le_of_ble_eq_true rfl) dX0_init_25 rfl (fun H locs hP hD hS => ?_)
  refine lv_aload_n hx hb dX0_init_28 rfl (lv_at hl 0 rfl) ?_
  refine lv_iload_n hx hb dX0_init_29 rfl (lv_at hl 2 rfl) ?_
  refine r_putF (w' := (q3, .inl (cy 2, 4, .inl (fun _ => 0))) :: (q2, .inl (cy 0, 4, .inl (fun _ => 0))) :: (z, .inr (0, [.int (nI n), .int (nI a), .int 0, .int 0, .null, .null, .ref q2, .ref q3])) :: Y) (own := RX0) (C := RX0) (T := TX0) (N := 8) (ci := 0) (q0 := 2) (k := 1) (index := 27) (ty := .int) (v := .int (nI a)) hx hb hts hiX0 tyX0_ok nmX0 hown hin hK hP hD hS rfl rfl (by decide) (by decide +kernel) rfl rfl (by decide +kernel) rfl rfl (Nat.le_of_ble_eq_true rfl) dX0_init_30 rfl (fun H locs hP hD hS => ?_)
  refine lv_aload_n hx hb dX0_init_33 rfl (lv_at hl 0 rfl) ?_
  refine lv_iload_n hx hb dX0_init_34 rfl (lv_at hl 3 rfl) ?_
  refine r_putF (w' := (q3, .inl (cy 2, 4, .inl (fun _ => 0))) :: (q2, .inl (cy 0, 4, .inl (fun _ => 0))) :: (z, .inr (0, [.int (nI n), .int (nI a), .int (nI c9), .int 0, .null, .null, .ref q2, .ref q3])) :: Y) (own := RX0) (C := RX0) (T := TX0) (N := 8) (ci := 0) (q0 := 2) (k := 2) (index := 30) (ty := .int) (v := .int (nI c9)) hx hb hts hiX0 tyX0_ok nmX0 hown hin hK hP hD hS rfl rfl (by decide) (by decide +kernel) rfl rfl (by decide +kernel) rfl rfl (Nat.le_of_ble_eq_true rfl) dX0_init_35 rfl (fun H locs hP hD hS => ?_)
  refine lv_aload_n hx hb dX0_init_38 rfl (lv_at hl 0 rfl) ?_
  refine lv_iload hx hb dX0_init_39 (lv_at hl 4 rfl) ?_
  refine r_putF (w' := (q3, .inl (cy 2, 4, .inl (fun _ => 0))) :: (q2, .inl (cy 0, 4, .inl (fun _ => 0))) :: (z, .inr (0, [.int (nI n), .int (nI a), .int (nI c9), .int (nI t), .null, .null, .ref q2, .ref q3])) :: Y) (own := RX0) (C := RX0) (T := TX0) (N := 8) (ci := 0) (q0 := 2) (k := 3) (index := 33) (ty := .int) (v := .int (nI t)) hx hb hts hiX0 tyX0_ok nmX0 hown hin hK hP hD hS rfl rfl (by decide) (by decide +kernel) rfl rfl (by decide +kernel) rfl rfl (Nat.le_of_ble_eq_true rfl) dX0_init_41 rfl (fun H locs hP hD hS => ?_)
  refine lv_aload_n hx hb dX0_init_44 rfl (lv_at hl 0 rfl) ?_
  refine r_aloadq hx hb dX0_init_45 (lv_at hl 5 rfl) ?_
  refine r_putF (w' := (q3, .inl (cy 2, 4, .inl (fun _ => 0))) :: (q2, .inl (cy 0, 4, .inl (fun _ => 0))) :: (z, .inr (0, [.int (nI n), .int (nI a), .int (nI c9), .int (nI t), va_rf ah, .null, .ref q2, .ref q3])) :: Y) (own := RX0) (C := RX0) (T := TX0) (N := 8) (ci := 0) (q0 := 2) (k := 4) (index := 36) (ty := (.object "CoauthorText$Sign")) (v := va_rf ah) hx hb hts hiX0 tyX0_ok nmX0 hown hin hK hP hD hS rfl rfl (by decide) (by decide +kernel) rfl rfl (by decide +kernel) (narq _ _) (fitq _ _) (Nat.le_of_ble_eq_true rfl) dX0_init_47 rfl (fun H locs hP hD hS => ?_)
  refine lv_iconst (v := nI 0) hx hb dX0_init_50 (by decide) ?_
  refine lv_istore (lv' := [(6, .int (nI 0)), (0, .ref z), (1, .int (nI n)), (2, .int (nI a)), (3, .int (nI c9)), (4, .int (nI t)), (5, va_rf ah)]) hx hb dX0_init_51 hl (by decide) (by cases ah <;> rfl) (fun ls hl => ?_)
  rw [stF_0 a] at hP hD
  have loop : ∀ (d i : Nat) (H : Heap) (locs : List Loc) (ls : Array Slot), i + d = 4 → va_P D vwCl ((q3, .inl (cy 2, 4, .inl (fun _ => 0))) :: (q2, .inl (cy 0, 4, .inl (stF a i))) :: (z, .inr (0, [.int (nI n), .int (nI a), .int (nI c9), .int (nI t), va_rf ah, .null, .ref q2, .ref q3])) :: Y) H → va_D A ((q3, .inl (cy 2, 4, .inl (fun _ => 0))) :: (q2, .inl (cy 0, 4, .inl (stF a i))) :: (z, .inr (0, [.int (nI n), .int (nI a), .int (nI c9), .int (nI t), va_rf ah, .null, .ref q2, .ref q3])) :: Y) → va_S A s.heap H locs → lv_has ls 7 [(6, .int (nI i)), (0, .ref z), (1, .int (nI n)), (2, .int (nI a)), (3, .int (nI c9)), (4, .int (nI t)), (5, va_rf ah)] → W p l e ({ frames := 2, cells := 2, slots := 8, locals := 40 } : Room) s m ([.ref z, .int (nI n), .int (nI a), .int (nI c9), .int (nI t), va_rf ah] : List Value).toArray below meth c H locs 2 8 (MQ below (va_Qv (fun w' => ∃ q2 q3 : Nat, w' = (q3, .inl (cy 2, 4, .inl (fun _ => 0))) :: (q2, .inl (cy 0, 4, .inl (fun j => if j = a then nI 0 else -1))) :: (z, .inr (0, [.int (nI n), .int (nI a), .int (nI c9), .int (nI t), va_rf ah, .null, .ref q2, .ref q3])) :: Y) (fun w' t => wB D cy A w' t) A) ([.ref z, .int (nI n), .int (nI a), .int (nI c9), .int (nI t), va_rf ah] : List Value).toArray s 2 8 A) (F0 m 53 ls []) := by
    intro d
    induction d with
    | zero =>
      intro i H locs ls hid hP hD hS hl
      obtain rfl : i = 4 := by omega
      refine lv_iload hx hb dX0_init_53 (lv_at hl 0 rfl) ?_
      refine lv_iconst (v := nI 4) hx hb dX0_init_55 (by decide) ?_
      refine r_icmp_ge (tgt := 83) hx hb dX0_init_56 (by decide) (by omega) (by omega) (fun cL => ?_) (fun cL => ?_)
      · have hP : va_P D vwCl ((q3, .inl (cy 2, 4, .inl (fun _ => 0))) :: (q2, .inl (cy 0, 4, .inl (fun j => if j = a then nI 0 else -1))) :: (z, .inr (0, [.int (nI n), .int (nI a), .int (nI c9), .int (nI t), va_rf ah, .null, .ref q2, .ref q3])) :: Y) H := P_cons (fun h => h) (fun h => P_cons (at_fn fun j hj => by unfold stF; rw [if_pos hj]) (fun h => h) h) hP
        have hD : va_D A ((q3, .inl (cy 2, 4, .inl (fun _ => 0))) :: (q2, .inl (cy 0, 4, .inl (fun j => if j = a then nI 0 else -1))) :: (z, .inr (0, [.int (nI n), .int (nI a), .int (nI c9), .int (nI t), va_rf ah, .null, .ref q2, .ref q3])) :: Y) := D_fst (w := (q3, .inl (cy 2, 4, .inl (fun _ => 0))) :: (q2, .inl (cy 0, 4, .inl (stF a 4))) :: (z, .inr (0, [.int (nI n), .int (nI a), .int (nI c9), .int (nI t), va_rf ah, .null, .ref q2, .ref q3])) :: Y) rfl hD
        exact C_vret hx hb hr hlocks hS hP hK hD (Nat.le_of_ble_eq_true rfl) (Nat.le_of_ble_eq_true rfl) dX0_init_83 ⟨q2, q3, rfl⟩
      · omega
    | succ d ih =>
      intro i H locs ls hid hP hD hS hl
      refine lv_iload hx hb dX0_init_53 (lv_at hl 0 rfl) ?_
      refine lv_iconst (v := nI 4) hx hb dX0_init_55 (by decide) ?_
      refine r_icmp_ge (tgt := 83) hx hb dX0_init_56 (by decide) (by omega) (by omega) (fun cL => ?_) (fun cL => ?_)
      · omega
      · refine lv_aload_n hx hb dX0_init_59 rfl (lv_at hl 1 rfl) ?_
        refine va_get (D := D) (ci := 0) (v := .ref q2) (C := RX0) (T := TX0) (N := 8) hx hb hts hiX0 hown hK hP (2) rfl rfl 6 (by decide) (hts (.fieldLink RX0 15 "CoauthorText$Sign" "stampsInCopies" "[I") (by decide +kernel)) (fun _ h9 => h9) rfl dX0_init_60 ?_
        refine lv_iload hx hb dX0_init_63 (lv_at hl 0 rfl) ?_
        refine lv_iload hx hb dX0_init_65 (lv_at hl 0 rfl) ?_
        refine lv_iload_n hx hb dX0_init_67 rfl (lv_at hl 3 rfl) ?_
        refine r_icmp_ne (tgt := 75) hx hb dX0_init_68 (by decide) (by omega) (by omega) (fun cA => ?_) (fun cA => ?_)
        · refine lv_iconst (v := (-1)) hx hb dX0_init_75 (by decide) ?_
          refine r_iast (w' := (q3, .inl (cy 2, 4, .inl (fun _ => 0))) :: (q2, .inl (cy 0, 4, .inl (stF a (i + 1)))) :: (z, .inr (0, [.int (nI n), .int (nI a), .int (nI c9), .int (nI t), va_rf ah, .null, .ref q2, .ref q3])) :: Y) hx hb hK hP hD hS (1) rfl (by omega) (by decide) dX0_init_76 (by rw [stF_s (au := a) (by rw [if_neg cA])]; rfl) (fun H locs hP hD hS => ?_)
          refine lv_iinc (v := nI (i + 1)) (lv' := [(6, .int (nI (i + 1))), (0, .ref z), (1, .int (nI n)), (2, .int (nI a)), (3, .int (nI c9)), (4, .int (nI t)), (5, va_rf ah)]) hx hb dX0_init_77 hl (k := 0) rfl (nI_inc _) (by decide) (by cases ah <;> rfl) (fun ls hl => ?_)
          refine lv_goto (tgt := 53) hx hb dX0_init_80 (by decide) ?_
          exact ih (i + 1) _ _ ls (by omega) hP hD hS (lv_sub hl [0, 1, 2, 3, 4, 5, 6] rfl)
        · refine lv_iconst (v := nI 0) hx hb dX0_init_71 (by decide) ?_
          refine lv_goto (tgt := 76) hx hb dX0_init_72 (by decide) ?_
          refine r_iast (w' := (q3, .inl (cy 2, 4, .inl (fun _ => 0))) :: (q2, .inl (cy 0, 4, .inl (stF a (i + 1)))) :: (z, .inr (0, [.int (nI n), .int (nI a), .int (nI c9), .int (nI t), va_rf ah, .null, .ref q2, .ref q3])) :: Y) hx hb hK hP hD hS (1) rfl (by omega) (by decide) dX0_init_76 (by rw [stF_s (au := a) (by rw [if_pos cA])]; rfl) (fun H locs hP hD hS => ?_)
          refine lv_iinc (v := nI (i + 1)) (lv' := [(6, .int (nI (i + 1))), (0, .ref z), (1, .int (nI n)), (2, .int (nI a)), (3, .int (nI c9)), (4, .int (nI t)), (5, va_rf ah)]) hx hb dX0_init_77 hl (k := 0) rfl (nI_inc _) (by decide) (by cases ah <;> rfl) (fun ls hl => ?_)
          refine lv_goto (tgt := 53) hx hb dX0_init_80 (by decide) ?_
          exact ih (i + 1) _ _ ls (by omega) hP hD hS (lv_sub hl [0, 1, 2, 3, 4, 5, 6] rfl)
  exact loop 4 0 _ _ ls rfl hP hD hS (lv_sub hl [0, 1, 2, 3, 4, 5, 6] rfl)
