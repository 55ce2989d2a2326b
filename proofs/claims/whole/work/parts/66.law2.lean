/-! ===== the law: its cases ===== -/
set_option maxHeartbeats 4000000 in
set_option maxRecDepth 100000 in
theorem law_b_insert {p : Program} {l : Launch} {e : Env} {s : State} {m : MethodId} {below : List Frame} {meth : Method} {c : Code} {b L : Nat} {xs : Nat → Int32} {D : va_G} {cy : Nat → ClassId} {B : Nat → Nat} {x0 u9 : Nat} {Q : State → Prop} (hlf : l.stackTraces = false) (C : LCx p s m c b L xs D cy) {n : Nat} (h4 : 4 * n + 4 ≤ L) (hN : Head p l e s m below meth c b D cy B x0 u9 Q (n + 1) (4 * n) 1287) : Head p l e s m below meth c b D cy B x0 u9 Q n (4 * n) 128 := by
  intro S O G hd nx T f H locs ls hI hB hO hG hP hD hS hl
  subst hG
  obtain ⟨hx, hb, hml, hown, hts, hSX, hbl, hL, hK, hX⟩ := C
  have hA : ∀ q, s.heap.size ≤ q → (fun q : Nat => s.heap.size ≤ q) q := fun _ h => h
  have hbA : ¬ (fun q : Nat => s.heap.size ≤ q) b := Nat.not_le.mpr hbl
  have hn : n ≤ 511 := by omega
  have hF := hB.few (show n < 1000 by omega)
  replace hP := P_perm (LW_c) hP
  replace hD := D_perm (LW_c) hD
  refine lv_aload_n hx hb dL_law_128 rfl (lv_at hl 2 rfl) ?_
  refine lv_aload_n hx hb dL_law_129 rfl (lv_at hl 1 rfl) ?_
  refine lv_iload hx hb dL_law_130 (lv_at hl 0 rfl) ?_
  refine lv_iconst (v := nI 1) hx hb dL_law_132 (by decide) ?_
  refine r_iadd hx hb dL_law_133 ?_
  refine r_sld (k := (4 * n) + 1) hx hb hSX hbl hbA hS (by omega) hL dL_law_134 ?_
  refine lv_aload_n hx hb dL_law_135 rfl (lv_at hl 1 rfl) ?_
  refine lv_iload hx hb dL_law_136 (lv_at hl 0 rfl) ?_
  refine lv_iconst (v := nI 2) hx hb dL_law_138 (by decide) ?_
  refine r_iadd hx hb dL_law_139 ?_
  refine r_sld (k := (4 * n) + 2) hx hb hSX hbl hbA hS (by omega) hL dL_law_140 ?_
  refine lv_aload_n hx hb dL_law_141 rfl (lv_at hl 1 rfl) ?_
  refine lv_iload hx hb dL_law_142 (lv_at hl 0 rfl) ?_
  refine lv_iconst (v := nI 3) hx hb dL_law_144 (by decide) ?_
  refine r_iadd hx hb dL_law_145 ?_
  refine r_sld (k := (4 * n) + 3) hx hb hSX hbl hbA hS (by omega) hL dL_law_146 ?_
  refine lv_aload_n hx hb dL_law_147 rfl (lv_at hl 4 rfl) ?_
  refine K_i (vx_runSW (As := [.ref (G 0), .int (xs ((4 * n) + 1)), .int (xs ((4 * n) + 2)), .int (xs ((4 * n) + 3)), .ref u9]) (rest := []) ⟨hx, hb, hml, hown, hts⟩ (c_L_insert l hlf hI hO hF (xs (4 * n + 1)) (xs (4 * n + 2)) (xs (4 * n + 3)) _) (vx_cwSW 5 hts gL_law_L_insert rfl rfl rfl (by decide +kernel) ⟨Nat.le_of_ble_eq_true rfl, Nat.le_of_ble_eq_true rfl⟩) (pS hP hK hD hS hA hX) rfl rfl hl.1 rfl (lv_room (Nat.le_of_ble_eq_true rfl)) dL_law_148 ⟨by show _ ≤ 601024; omega, by show _ ≤ 7293034; omega⟩) hD hS hA (fun r w'  H locs hp hP hD hS => ?_)
  obtain ⟨rfl, G', hd', nx', f', eG, rfl, hO', hv⟩ := hp
  replace hP := P_perm ((LW_c (G := G') (S := (spInsert S O (xs (4 * n + 1)) (xs (4 * n + 2)) (xs (4 * n + 3))).2.2) (hd := hd') (nx := nx') (B := B) (S9 := S) (T := T) (x := (u9, .inl (cy 1, 1, .inr (.inl f'))))).symm.trans LW_m) hP
  replace hD := D_perm ((LW_c (G := G') (S := (spInsert S O (xs (4 * n + 1)) (xs (4 * n + 2)) (xs (4 * n + 3))).2.2) (hd := hd') (nx := nx') (B := B) (S9 := S) (T := T) (x := (u9, .inl (cy 1, 1, .inr (.inl f'))))).symm.trans LW_m) hD
  refine lv_istore (lv' := [(5, .int (nI ((spInsert S O (xs (4 * n + 1)) (xs (4 * n + 2)) (xs (4 * n + 3))).1))), (4, .int (nI (4 * n))), (0, .ref b), (1, .ref (G 0)), (2, .ref (B 0)), (3, .ref u9)]) hx hb dL_law_151 hl (by decide) rfl (fun ls hl => ?_)
  refine lv_aload_n hx hb dL_law_153 rfl (lv_at hl 4 rfl) ?_
  refine lv_aload_n hx hb dL_law_154 rfl (lv_at hl 2 rfl) ?_
  refine lv_iload hx hb dL_law_155 (lv_at hl 1 rfl) ?_
  refine lv_iconst (v := nI 1) hx hb dL_law_157 (by decide) ?_
  refine r_iadd hx hb dL_law_158 ?_
  refine r_sld (k := (4 * n) + 1) hx hb hSX hbl hbA hS (by omega) hL dL_law_159 ?_
  refine lv_aload_n hx hb dL_law_160 rfl (lv_at hl 2 rfl) ?_
  refine lv_iload hx hb dL_law_161 (lv_at hl 1 rfl) ?_
  refine lv_iconst (v := nI 2) hx hb dL_law_163 (by decide) ?_
  refine r_iadd hx hb dL_law_164 ?_
  refine r_sld (k := (4 * n) + 2) hx hb hSX hbl hbA hS (by omega) hL dL_law_165 ?_
  refine lv_aload_n hx hb dL_law_166 rfl (lv_at hl 2 rfl) ?_
  refine lv_iload hx hb dL_law_167 (lv_at hl 1 rfl) ?_
  refine lv_iconst (v := nI 3) hx hb dL_law_169 (by decide) ?_
  refine r_iadd hx hb dL_law_170 ?_
  refine r_sld (k := (4 * n) + 3) hx hb hSX hbl hbA hS (by omega) hL dL_law_171 ?_
  refine K_i (va_runV (As := [.int (xs ((4 * n) + 1)), .int (xs ((4 * n) + 2)), .int (xs ((4 * n) + 3))]) (rest := []) ⟨hx, hb, hml, hown, hts⟩ (c_X2_insert l hI (xs (4 * n + 1)) (xs (4 * n + 2)) (xs (4 * n + 3)) _) (cwV 3 hts gL_law_X2_insert rfl rfl rfl (by decide +kernel) ⟨Nat.le_of_ble_eq_true rfl, Nat.le_of_ble_eq_true rfl⟩) (pV hP hK hD hS hA hX (va_recv hK hP (ci := 2) (q0 := 0) rfl rfl)) rfl rfl hl.1 rfl (lv_room (Nat.le_of_ble_eq_true rfl)) dL_law_172 ⟨by show _ ≤ 601024; omega, by show _ ≤ 7293034; omega⟩) hD hS hA (fun r w'  H locs hp hP hD hS => ?_)
  obtain ⟨T', hT', rfl, hr'⟩ := hp
  refine lv_istore (lv' := [(6, .int r), (5, .int (nI ((spInsert S O (xs (4 * n + 1)) (xs (4 * n + 2)) (xs (4 * n + 3))).1))), (4, .int (nI (4 * n))), (0, .ref b), (1, .ref (G 0)), (2, .ref (B 0)), (3, .ref u9)]) hx hb dL_law_175 hl (by decide) rfl (fun ls hl => ?_)
  refine lv_aload_n hx hb dL_law_177 rfl (lv_at hl 5 rfl) ?_
  refine K_i (va_runV (As := []) (rest := []) ⟨hx, hb, hml, hown, hts⟩ (c_X2_thrown l _) (cwV 0 hts gL_law_X2_thrown rfl rfl rfl (by decide +kernel) ⟨Nat.le_of_ble_eq_true rfl, Nat.le_of_ble_eq_true rfl⟩) (pV hP hK hD hS hA hX (va_recv hK hP (ci := 2) (q0 := 0) rfl rfl)) rfl rfl hl.1 rfl (lv_room (Nat.le_of_ble_eq_true rfl)) dL_law_178 ⟨by show _ ≤ 601024; omega, by show _ ≤ 7293034; omega⟩) hD hS hA (fun r9 w'  H locs hp hP hD hS => ?_)
  obtain ⟨rfl, rfl⟩ := hp
  replace hP := P_perm ((LW_m (G := G') (S := (spInsert S O (xs (4 * n + 1)) (xs (4 * n + 2)) (xs (4 * n + 3))).2.2) (hd := hd') (nx := nx') (B := B) (S9 := (spInsert S O (xs (4 * n + 1)) (xs (4 * n + 2)) (xs (4 * n + 3))).2.2) (T := T') (x := (u9, .inl (cy 1, 1, .inr (.inl f'))))).symm) hP
  replace hD := D_perm ((LW_m (G := G') (S := (spInsert S O (xs (4 * n + 1)) (xs (4 * n + 2)) (xs (4 * n + 3))).2.2) (hd := hd') (nx := nx') (B := B) (S9 := (spInsert S O (xs (4 * n + 1)) (xs (4 * n + 2)) (xs (4 * n + 3))).2.2) (T := T') (x := (u9, .inl (cy 1, 1, .inr (.inl f'))))).symm) hD
  have hst := st_insert hI hB (show n < 1000 by omega) (xs (4 * n + 1)) (xs (4 * n + 2)) (xs (4 * n + 3))
  refine lv_iload hx hb dL_law_181 (lv_at hl 1 rfl) ?_
  refine lv_icmp_eq (tgt := 188) hx hb dL_law_183 (by decide) (fun cE => ?_) (fun cE => ?_)
  · refine lv_iload hx hb dL_law_188 (lv_at hl 1 rfl) ?_
    refine lv_if_ne (tgt := 205) hx hb dL_law_190 (by decide) (fun cZ => ?_) (fun cZ => ?_)
    · refine lv_goto (tgt := 1287) hx hb dL_law_205 (by decide) ?_
      refine W.widen (k := 100 + 10 * (n + 1)) (n := 2000 + 60 * (n + 1)) (by omega) (by omega) ?_
      exact hN ((spInsert S O (xs (4 * n + 1)) (xs (4 * n + 2)) (xs (4 * n + 3))).2.2) (if (spInsert S O (xs (4 * n + 1)) (xs (4 * n + 2)) (xs (4 * n + 3))).1 = 0 then ordI (spInsert S O (xs (4 * n + 1)) (xs (4 * n + 2)) (xs (4 * n + 3))).2.2 (S 0 0) O else O) G' hd' nx' T' f' _ _ ls hst.1 hst.2 hO' eG hP hD hS (lv_sub hl [2, 3, 4, 5, 6] rfl)
    · have h0 : (spInsert S O (xs (4 * n + 1)) (xs (4 * n + 2)) (xs (4 * n + 3))).1 = 0 := (nI_eq (Nat.lt_trans (spInsert_lt S O (xs (4 * n + 1)) (xs (4 * n + 2)) (xs (4 * n + 3))) (by decide)) (by decide)).mp cZ
      have hrr := hr' h0
      have hvv := hv h0
      refine lv_aload_n hx hb dL_law_193 rfl (lv_at hl 6 rfl) ?_
      refine lv_iconst (v := nI 0) hx hb dL_law_194 (by decide) ?_
      refine r_lald (k := 0) hx hb hK hP 0 rfl (by decide) (by decide) dL_law_195 ?_
      refine lv_iload hx hb dL_law_196 (lv_at hl 0 rfl) ?_
      refine lv_i2l (v := (r).toInt64) hx hb dL_law_198 rfl ?_
      refine r_lcmp0 hx hb dL_law_199 (by rw [hvv, hrr]) ?_
      refine lv_if_eq (tgt := 205) hx hb dL_law_200 (by decide) (fun cQ => ?_) (fun cQ => ?_)
      · refine lv_goto (tgt := 1287) hx hb dL_law_205 (by decide) ?_
        refine W.widen (k := 100 + 10 * (n + 1)) (n := 2000 + 60 * (n + 1)) (by omega) (by omega) ?_
        exact hN ((spInsert S O (xs (4 * n + 1)) (xs (4 * n + 2)) (xs (4 * n + 3))).2.2) (if (spInsert S O (xs (4 * n + 1)) (xs (4 * n + 2)) (xs (4 * n + 3))).1 = 0 then ordI (spInsert S O (xs (4 * n + 1)) (xs (4 * n + 2)) (xs (4 * n + 3))).2.2 (S 0 0) O else O) G' hd' nx' T' f' _ _ ls hst.1 hst.2 hO' eG hP hD hS (lv_sub hl [2, 3, 4, 5, 6] rfl)
      · exact absurd rfl cQ
  · exact absurd (by rw [hT']) cE

set_option maxHeartbeats 4000000 in
set_option maxRecDepth 100000 in
theorem law_b_remove {p : Program} {l : Launch} {e : Env} {s : State} {m : MethodId} {below : List Frame} {meth : Method} {c : Code} {b L : Nat} {xs : Nat → Int32} {D : va_G} {cy : Nat → ClassId} {B : Nat → Nat} {x0 u9 : Nat} {Q : State → Prop} (hlf : l.stackTraces = false) (C : LCx p s m c b L xs D cy) {n : Nat} (h4 : 4 * n + 4 ≤ L) (hN : Head p l e s m below meth c b D cy B x0 u9 Q (n + 1) (4 * n) 1287) : Head p l e s m below meth c b D cy B x0 u9 Q n (4 * n) 208 := by
  intro S O G hd nx T f H locs ls hI hB hO hG hP hD hS hl
  subst hG
  obtain ⟨hx, hb, hml, hown, hts, hSX, hbl, hL, hK, hX⟩ := C
  have hA : ∀ q, s.heap.size ≤ q → (fun q : Nat => s.heap.size ≤ q) q := fun _ h => h
  have hbA : ¬ (fun q : Nat => s.heap.size ≤ q) b := Nat.not_le.mpr hbl
  have hn : n ≤ 511 := by omega
  have hF := hB.few (show n < 1000 by omega)
  replace hP := P_perm (LW_c) hP
  replace hD := D_perm (LW_c) hD
  refine lv_aload_n hx hb dL_law_208 rfl (lv_at hl 2 rfl) ?_
  refine lv_aload_n hx hb dL_law_209 rfl (lv_at hl 1 rfl) ?_
  refine lv_iload hx hb dL_law_210 (lv_at hl 0 rfl) ?_
  refine lv_iconst (v := nI 1) hx hb dL_law_212 (by decide) ?_
  refine r_iadd hx hb dL_law_213 ?_
  refine r_sld (k := (4 * n) + 1) hx hb hSX hbl hbA hS (by omega) hL dL_law_214 ?_
  refine lv_aload_n hx hb dL_law_215 rfl (lv_at hl 1 rfl) ?_
  refine lv_iload hx hb dL_law_216 (lv_at hl 0 rfl) ?_
  refine lv_iconst (v := nI 2) hx hb dL_law_218 (by decide) ?_
  refine r_iadd hx hb dL_law_219 ?_
  refine r_sld (k := (4 * n) + 2) hx hb hSX hbl hbA hS (by omega) hL dL_law_220 ?_
  refine lv_aload_n hx hb dL_law_221 rfl (lv_at hl 4 rfl) ?_
  refine K_i (vx_runSW (As := [.ref (G 0), .int (xs ((4 * n) + 1)), .int (xs ((4 * n) + 2)), .ref u9]) (rest := []) ⟨hx, hb, hml, hown, hts⟩ (c_L_remove l hlf hI hO (xs (4 * n + 1)) (xs (4 * n + 2)) _) (vx_cwSW 4 hts gL_law_L_remove rfl rfl rfl (by decide +kernel) ⟨Nat.le_of_ble_eq_true rfl, Nat.le_of_ble_eq_true rfl⟩) (pS hP hK hD hS hA hX) rfl rfl hl.1 rfl (lv_room (Nat.le_of_ble_eq_true rfl)) dL_law_222 ⟨by show _ ≤ 601024; omega, by show _ ≤ 7293034; omega⟩) hD hS hA (fun r w'  H locs hp hP hD hS => ?_)
  obtain ⟨rfl, G', hd', nx', f', eG, rfl, hO', hv⟩ := hp
  replace hP := P_perm ((LW_c (G := G') (S := (spRemove S O (xs (4 * n + 1)) (xs (4 * n + 2))).2.2) (hd := hd') (nx := nx') (B := B) (S9 := S) (T := T) (x := (u9, .inl (cy 1, 1, .inr (.inl f'))))).symm.trans LW_m) hP
  replace hD := D_perm ((LW_c (G := G') (S := (spRemove S O (xs (4 * n + 1)) (xs (4 * n + 2))).2.2) (hd := hd') (nx := nx') (B := B) (S9 := S) (T := T) (x := (u9, .inl (cy 1, 1, .inr (.inl f'))))).symm.trans LW_m) hD
  refine lv_istore (lv' := [(5, .int (nI ((spRemove S O (xs (4 * n + 1)) (xs (4 * n + 2))).1))), (4, .int (nI (4 * n))), (0, .ref b), (1, .ref (G 0)), (2, .ref (B 0)), (3, .ref u9)]) hx hb dL_law_225 hl (by decide) rfl (fun ls hl => ?_)
  refine lv_aload_n hx hb dL_law_227 rfl (lv_at hl 4 rfl) ?_
  refine lv_aload_n hx hb dL_law_228 rfl (lv_at hl 2 rfl) ?_
  refine lv_iload hx hb dL_law_229 (lv_at hl 1 rfl) ?_
  refine lv_iconst (v := nI 1) hx hb dL_law_231 (by decide) ?_
  refine r_iadd hx hb dL_law_232 ?_
  refine r_sld (k := (4 * n) + 1) hx hb hSX hbl hbA hS (by omega) hL dL_law_233 ?_
  refine lv_aload_n hx hb dL_law_234 rfl (lv_at hl 2 rfl) ?_
  refine lv_iload hx hb dL_law_235 (lv_at hl 1 rfl) ?_
  refine lv_iconst (v := nI 2) hx hb dL_law_237 (by decide) ?_
  refine r_iadd hx hb dL_law_238 ?_
  refine r_sld (k := (4 * n) + 2) hx hb hSX hbl hbA hS (by omega) hL dL_law_239 ?_
  refine K_i (va_runV (As := [.int (xs ((4 * n) + 1)), .int (xs ((4 * n) + 2))]) (rest := []) ⟨hx, hb, hml, hown, hts⟩ (c_X2_remove l hI (xs (4 * n + 1)) (xs (4 * n + 2)) _) (cwV 2 hts gL_law_X2_remove rfl rfl rfl (by decide +kernel) ⟨Nat.le_of_ble_eq_true rfl, Nat.le_of_ble_eq_true rfl⟩) (pV hP hK hD hS hA hX (va_recv hK hP (ci := 2) (q0 := 0) rfl rfl)) rfl rfl hl.1 rfl (lv_room (Nat.le_of_ble_eq_true rfl)) dL_law_240 ⟨by show _ ≤ 601024; omega, by show _ ≤ 7293034; omega⟩) hD hS hA (fun r w'  H locs hp hP hD hS => ?_)
  obtain ⟨T', hT', rfl, hr'⟩ := hp
  refine lv_istore (lv' := [(6, .int r), (5, .int (nI ((spRemove S O (xs (4 * n + 1)) (xs (4 * n + 2))).1))), (4, .int (nI (4 * n))), (0, .ref b), (1, .ref (G 0)), (2, .ref (B 0)), (3, .ref u9)]) hx hb dL_law_243 hl (by decide) rfl (fun ls hl => ?_)
  refine lv_aload_n hx hb dL_law_245 rfl (lv_at hl 5 rfl) ?_
  refine K_i (va_runV (As := []) (rest := []) ⟨hx, hb, hml, hown, hts⟩ (c_X2_thrown l _) (cwV 0 hts gL_law_X2_thrown rfl rfl rfl (by decide +kernel) ⟨Nat.le_of_ble_eq_true rfl, Nat.le_of_ble_eq_true rfl⟩) (pV hP hK hD hS hA hX (va_recv hK hP (ci := 2) (q0 := 0) rfl rfl)) rfl rfl hl.1 rfl (lv_room (Nat.le_of_ble_eq_true rfl)) dL_law_246 ⟨by show _ ≤ 601024; omega, by show _ ≤ 7293034; omega⟩) hD hS hA (fun r9 w'  H locs hp hP hD hS => ?_)
  obtain ⟨rfl, rfl⟩ := hp
  replace hP := P_perm ((LW_m (G := G') (S := (spRemove S O (xs (4 * n + 1)) (xs (4 * n + 2))).2.2) (hd := hd') (nx := nx') (B := B) (S9 := (spRemove S O (xs (4 * n + 1)) (xs (4 * n + 2))).2.2) (T := T') (x := (u9, .inl (cy 1, 1, .inr (.inl f'))))).symm) hP
  replace hD := D_perm ((LW_m (G := G') (S := (spRemove S O (xs (4 * n + 1)) (xs (4 * n + 2))).2.2) (hd := hd') (nx := nx') (B := B) (S9 := (spRemove S O (xs (4 * n + 1)) (xs (4 * n + 2))).2.2) (T := T') (x := (u9, .inl (cy 1, 1, .inr (.inl f'))))).symm) hD
  have hst := st_remove hI hB (show n < 1000 by omega) (xs (4 * n + 1)) (xs (4 * n + 2))
  refine lv_iload hx hb dL_law_249 (lv_at hl 1 rfl) ?_
  refine lv_icmp_eq (tgt := 256) hx hb dL_law_251 (by decide) (fun cE => ?_) (fun cE => ?_)
  · refine lv_iload hx hb dL_law_256 (lv_at hl 1 rfl) ?_
    refine lv_if_ne (tgt := 273) hx hb dL_law_258 (by decide) (fun cZ => ?_) (fun cZ => ?_)
    · refine lv_goto (tgt := 1287) hx hb dL_law_273 (by decide) ?_
      refine W.widen (k := 100 + 10 * (n + 1)) (n := 2000 + 60 * (n + 1)) (by omega) (by omega) ?_
      exact hN ((spRemove S O (xs (4 * n + 1)) (xs (4 * n + 2))).2.2) O G' hd' nx' T' f' _ _ ls hst.1 hst.2 hO' eG hP hD hS (lv_sub hl [2, 3, 4, 5, 6] rfl)
    · have h0 : (spRemove S O (xs (4 * n + 1)) (xs (4 * n + 2))).1 = 0 := (nI_eq (Nat.lt_trans (spRemove_lt S O (xs (4 * n + 1)) (xs (4 * n + 2))) (by decide)) (by decide)).mp cZ
      have hrr := hr' h0
      have hvv := hv h0
      refine lv_aload_n hx hb dL_law_261 rfl (lv_at hl 6 rfl) ?_
      refine lv_iconst (v := nI 0) hx hb dL_law_262 (by decide) ?_
      refine r_lald (k := 0) hx hb hK hP 0 rfl (by decide) (by decide) dL_law_263 ?_
      refine lv_iload hx hb dL_law_264 (lv_at hl 0 rfl) ?_
      refine lv_i2l (v := (r).toInt64) hx hb dL_law_266 rfl ?_
      refine r_lcmp0 hx hb dL_law_267 (by rw [hvv, hrr]) ?_
      refine lv_if_eq (tgt := 273) hx hb dL_law_268 (by decide) (fun cQ => ?_) (fun cQ => ?_)
      · refine lv_goto (tgt := 1287) hx hb dL_law_273 (by decide) ?_
        refine W.widen (k := 100 + 10 * (n + 1)) (n := 2000 + 60 * (n + 1)) (by omega) (by omega) ?_
        exact hN ((spRemove S O (xs (4 * n + 1)) (xs (4 * n + 2))).2.2) O G' hd' nx' T' f' _ _ ls hst.1 hst.2 hO' eG hP hD hS (lv_sub hl [2, 3, 4, 5, 6] rfl)
      · exact absurd rfl cQ
  · exact absurd (by rw [hT']) cE

set_option maxHeartbeats 4000000 in
set_option maxRecDepth 100000 in
theorem law_b_restore {p : Program} {l : Launch} {e : Env} {s : State} {m : MethodId} {below : List Frame} {meth : Method} {c : Code} {b L : Nat} {xs : Nat → Int32} {D : va_G} {cy : Nat → ClassId} {B : Nat → Nat} {x0 u9 : Nat} {Q : State → Prop} (hlf : l.stackTraces = false) (C : LCx p s m c b L xs D cy) {n : Nat} (h4 : 4 * n + 4 ≤ L) (hN : Head p l e s m below meth c b D cy B x0 u9 Q (n + 1) (4 * n) 1287) : Head p l e s m below meth c b D cy B x0 u9 Q n (4 * n) 276 := by
  intro S O G hd nx T f H locs ls hI hB hO hG hP hD hS hl
  subst hG
  obtain ⟨hx, hb, hml, hown, hts, hSX, hbl, hL, hK, hX⟩ := C
  have hA : ∀ q, s.heap.size ≤ q → (fun q : Nat => s.heap.size ≤ q) q := fun _ h => h
  have hbA : ¬ (fun q : Nat => s.heap.size ≤ q) b := Nat.not_le.mpr hbl
  have hn : n ≤ 511 := by omega
  have hF := hB.few (show n < 1000 by omega)
  replace hP := P_perm (LW_c) hP
  replace hD := D_perm (LW_c) hD
  refine lv_aload_n hx hb dL_law_276 rfl (lv_at hl 2 rfl) ?_
  refine lv_aload_n hx hb dL_law_277 rfl (lv_at hl 1 rfl) ?_
  refine lv_iload hx hb dL_law_278 (lv_at hl 0 rfl) ?_
  refine lv_iconst (v := nI 1) hx hb dL_law_280 (by decide) ?_
  refine r_iadd hx hb dL_law_281 ?_
  refine r_sld (k := (4 * n) + 1) hx hb hSX hbl hbA hS (by omega) hL dL_law_282 ?_
  refine lv_aload_n hx hb dL_law_283 rfl (lv_at hl 1 rfl) ?_
  refine lv_iload hx hb dL_law_284 (lv_at hl 0 rfl) ?_
  refine lv_iconst (v := nI 2) hx hb dL_law_286 (by decide) ?_
  refine r_iadd hx hb dL_law_287 ?_
  refine r_sld (k := (4 * n) + 2) hx hb hSX hbl hbA hS (by omega) hL dL_law_288 ?_
  refine lv_aload_n hx hb dL_law_289 rfl (lv_at hl 4 rfl) ?_
  refine K_i (vx_runSW (As := [.ref (G 0), .int (xs ((4 * n) + 1)), .int (xs ((4 * n) + 2)), .ref u9]) (rest := []) ⟨hx, hb, hml, hown, hts⟩ (c_L_restore l hlf hI hO hF (xs (4 * n + 1)) (xs (4 * n + 2)) _) (vx_cwSW 4 hts gL_law_L_restore rfl rfl rfl (by decide +kernel) ⟨Nat.le_of_ble_eq_true rfl, Nat.le_of_ble_eq_true rfl⟩) (pS hP hK hD hS hA hX) rfl rfl hl.1 rfl (lv_room (Nat.le_of_ble_eq_true rfl)) dL_law_290 ⟨by show _ ≤ 601024; omega, by show _ ≤ 7293034; omega⟩) hD hS hA (fun r w'  H locs hp hP hD hS => ?_)
  obtain ⟨rfl, G', hd', nx', f', eG, rfl, hO', hv⟩ := hp
  replace hP := P_perm ((LW_c (G := G') (S := (spRestore S O (xs (4 * n + 1)) (xs (4 * n + 2))).2.2) (hd := hd') (nx := nx') (B := B) (S9 := S) (T := T) (x := (u9, .inl (cy 1, 1, .inr (.inl f'))))).symm.trans LW_m) hP
  replace hD := D_perm ((LW_c (G := G') (S := (spRestore S O (xs (4 * n + 1)) (xs (4 * n + 2))).2.2) (hd := hd') (nx := nx') (B := B) (S9 := S) (T := T) (x := (u9, .inl (cy 1, 1, .inr (.inl f'))))).symm.trans LW_m) hD
  refine lv_istore (lv' := [(5, .int (nI ((spRestore S O (xs (4 * n + 1)) (xs (4 * n + 2))).1))), (4, .int (nI (4 * n))), (0, .ref b), (1, .ref (G 0)), (2, .ref (B 0)), (3, .ref u9)]) hx hb dL_law_293 hl (by decide) rfl (fun ls hl => ?_)
  refine lv_aload_n hx hb dL_law_295 rfl (lv_at hl 4 rfl) ?_
  refine lv_aload_n hx hb dL_law_296 rfl (lv_at hl 2 rfl) ?_
  refine lv_iload hx hb dL_law_297 (lv_at hl 1 rfl) ?_
  refine lv_iconst (v := nI 1) hx hb dL_law_299 (by decide) ?_
  refine r_iadd hx hb dL_law_300 ?_
  refine r_sld (k := (4 * n) + 1) hx hb hSX hbl hbA hS (by omega) hL dL_law_301 ?_
  refine lv_aload_n hx hb dL_law_302 rfl (lv_at hl 2 rfl) ?_
  refine lv_iload hx hb dL_law_303 (lv_at hl 1 rfl) ?_
  refine lv_iconst (v := nI 2) hx hb dL_law_305 (by decide) ?_
  refine r_iadd hx hb dL_law_306 ?_
  refine r_sld (k := (4 * n) + 2) hx hb hSX hbl hbA hS (by omega) hL dL_law_307 ?_
  refine K_i (va_runV (As := [.int (xs ((4 * n) + 1)), .int (xs ((4 * n) + 2))]) (rest := []) ⟨hx, hb, hml, hown, hts⟩ (c_X2_restore l hI hF (xs (4 * n + 1)) (xs (4 * n + 2)) _) (cwV 2 hts gL_law_X2_restore rfl rfl rfl (by decide +kernel) ⟨Nat.le_of_ble_eq_true rfl, Nat.le_of_ble_eq_true rfl⟩) (pV hP hK hD hS hA hX (va_recv hK hP (ci := 2) (q0 := 0) rfl rfl)) rfl rfl hl.1 rfl (lv_room (Nat.le_of_ble_eq_true rfl)) dL_law_308 ⟨by show _ ≤ 601024; omega, by show _ ≤ 7293034; omega⟩) hD hS hA (fun r w'  H locs hp hP hD hS => ?_)
  obtain ⟨T', hT', rfl, hr'⟩ := hp
  refine lv_istore (lv' := [(6, .int r), (5, .int (nI ((spRestore S O (xs (4 * n + 1)) (xs (4 * n + 2))).1))), (4, .int (nI (4 * n))), (0, .ref b), (1, .ref (G 0)), (2, .ref (B 0)), (3, .ref u9)]) hx hb dL_law_311 hl (by decide) rfl (fun ls hl => ?_)
  refine lv_aload_n hx hb dL_law_313 rfl (lv_at hl 5 rfl) ?_
  refine K_i (va_runV (As := []) (rest := []) ⟨hx, hb, hml, hown, hts⟩ (c_X2_thrown l _) (cwV 0 hts gL_law_X2_thrown rfl rfl rfl (by decide +kernel) ⟨Nat.le_of_ble_eq_true rfl, Nat.le_of_ble_eq_true rfl⟩) (pV hP hK hD hS hA hX (va_recv hK hP (ci := 2) (q0 := 0) rfl rfl)) rfl rfl hl.1 rfl (lv_room (Nat.le_of_ble_eq_true rfl)) dL_law_314 ⟨by show _ ≤ 601024; omega, by show _ ≤ 7293034; omega⟩) hD hS hA (fun r9 w'  H locs hp hP hD hS => ?_)
  obtain ⟨rfl, rfl⟩ := hp
  replace hP := P_perm ((LW_m (G := G') (S := (spRestore S O (xs (4 * n + 1)) (xs (4 * n + 2))).2.2) (hd := hd') (nx := nx') (B := B) (S9 := (spRestore S O (xs (4 * n + 1)) (xs (4 * n + 2))).2.2) (T := T') (x := (u9, .inl (cy 1, 1, .inr (.inl f'))))).symm) hP
  replace hD := D_perm ((LW_m (G := G') (S := (spRestore S O (xs (4 * n + 1)) (xs (4 * n + 2))).2.2) (hd := hd') (nx := nx') (B := B) (S9 := (spRestore S O (xs (4 * n + 1)) (xs (4 * n + 2))).2.2) (T := T') (x := (u9, .inl (cy 1, 1, .inr (.inl f'))))).symm) hD
  have hst := st_restore hI hB (show n < 1000 by omega) (xs (4 * n + 1)) (xs (4 * n + 2))
  refine lv_iload hx hb dL_law_317 (lv_at hl 1 rfl) ?_
  refine lv_icmp_eq (tgt := 324) hx hb dL_law_319 (by decide) (fun cE => ?_) (fun cE => ?_)
  · refine lv_iload hx hb dL_law_324 (lv_at hl 1 rfl) ?_
    refine lv_if_ne (tgt := 341) hx hb dL_law_326 (by decide) (fun cZ => ?_) (fun cZ => ?_)
    · refine lv_goto (tgt := 1287) hx hb dL_law_341 (by decide) ?_
      refine W.widen (k := 100 + 10 * (n + 1)) (n := 2000 + 60 * (n + 1)) (by omega) (by omega) ?_
      exact hN ((spRestore S O (xs (4 * n + 1)) (xs (4 * n + 2))).2.2) O G' hd' nx' T' f' _ _ ls hst.1 hst.2 hO' eG hP hD hS (lv_sub hl [2, 3, 4, 5, 6] rfl)
    · have h0 : (spRestore S O (xs (4 * n + 1)) (xs (4 * n + 2))).1 = 0 := (nI_eq (Nat.lt_trans (spRestore_lt S O (xs (4 * n + 1)) (xs (4 * n + 2))) (by decide)) (by decide)).mp cZ
      have hrr := hr' h0
      have hvv := hv h0
      refine lv_aload_n hx hb dL_law_329 rfl (lv_at hl 6 rfl) ?_
      refine lv_iconst (v := nI 0) hx hb dL_law_330 (by decide) ?_
      refine r_lald (k := 0) hx hb hK hP 0 rfl (by decide) (by decide) dL_law_331 ?_
      refine lv_iload hx hb dL_law_332 (lv_at hl 0 rfl) ?_
      refine lv_i2l (v := (r).toInt64) hx hb dL_law_334 rfl ?_
      refine r_lcmp0 hx hb dL_law_335 (by rw [hvv, hrr]) ?_
      refine lv_if_eq (tgt := 341) hx hb dL_law_336 (by decide) (fun cQ => ?_) (fun cQ => ?_)
      · refine lv_goto (tgt := 1287) hx hb dL_law_341 (by decide) ?_
        refine W.widen (k := 100 + 10 * (n + 1)) (n := 2000 + 60 * (n + 1)) (by omega) (by omega) ?_
        exact hN ((spRestore S O (xs (4 * n + 1)) (xs (4 * n + 2))).2.2) O G' hd' nx' T' f' _ _ ls hst.1 hst.2 hO' eG hP hD hS (lv_sub hl [2, 3, 4, 5, 6] rfl)
      · exact absurd rfl cQ
  · exact absurd (by rw [hT']) cE

set_option maxHeartbeats 4000000 in
set_option maxRecDepth 100000 in
theorem law_b_learn {p : Program} {l : Launch} {e : Env} {s : State} {m : MethodId} {below : List Frame} {meth : Method} {c : Code} {b L : Nat} {xs : Nat → Int32} {D : va_G} {cy : Nat → ClassId} {B : Nat → Nat} {x0 u9 : Nat} {Q : State → Prop} (hlf : l.stackTraces = false) (C : LCx p s m c b L xs D cy) {n : Nat} (h4 : 4 * n + 4 ≤ L) (hN : Head p l e s m below meth c b D cy B x0 u9 Q (n + 1) (4 * n) 1287) : Head p l e s m below meth c b D cy B x0 u9 Q n (4 * n) 344 := by
  intro S O G hd nx T f H locs ls hI hB hO hG hP hD hS hl
  subst hG
  obtain ⟨hx, hb, hml, hown, hts, hSX, hbl, hL, hK, hX⟩ := C
  have hA : ∀ q, s.heap.size ≤ q → (fun q : Nat => s.heap.size ≤ q) q := fun _ h => h
  have hbA : ¬ (fun q : Nat => s.heap.size ≤ q) b := Nat.not_le.mpr hbl
  have hn : n ≤ 511 := by omega
  have hF := hB.few (show n < 1000 by omega)
  replace hP := P_perm (LW_c) hP
  replace hD := D_perm (LW_c) hD
  refine lv_aload_n hx hb dL_law_344 rfl (lv_at hl 2 rfl) ?_
  refine lv_aload_n hx hb dL_law_345 rfl (lv_at hl 1 rfl) ?_
  refine lv_iload hx hb dL_law_346 (lv_at hl 0 rfl) ?_
  refine lv_iconst (v := nI 1) hx hb dL_law_348 (by decide) ?_
  refine r_iadd hx hb dL_law_349 ?_
  refine r_sld (k := (4 * n) + 1) hx hb hSX hbl hbA hS (by omega) hL dL_law_350 ?_
  refine lv_aload_n hx hb dL_law_351 rfl (lv_at hl 1 rfl) ?_
  refine lv_iload hx hb dL_law_352 (lv_at hl 0 rfl) ?_
  refine lv_iconst (v := nI 2) hx hb dL_law_354 (by decide) ?_
  refine r_iadd hx hb dL_law_355 ?_
  refine r_sld (k := (4 * n) + 2) hx hb hSX hbl hbA hS (by omega) hL dL_law_356 ?_
  refine lv_aload_n hx hb dL_law_357 rfl (lv_at hl 4 rfl) ?_
  refine K_i (vx_runSW (As := [.ref (G 0), .int (xs ((4 * n) + 1)), .int (xs ((4 * n) + 2)), .ref u9]) (rest := []) ⟨hx, hb, hml, hown, hts⟩ (c_L_learn l hlf hI hO (xs (4 * n + 1)) (xs (4 * n + 2)) _) (vx_cwSW 4 hts gL_law_L_learn rfl rfl rfl (by decide +kernel) ⟨Nat.le_of_ble_eq_true rfl, Nat.le_of_ble_eq_true rfl⟩) (pS hP hK hD hS hA hX) rfl rfl hl.1 rfl (lv_room (Nat.le_of_ble_eq_true rfl)) dL_law_358 ⟨by show _ ≤ 601024; omega, by show _ ≤ 7293034; omega⟩) hD hS hA (fun r w'  H locs hp hP hD hS => ?_)
  obtain ⟨rfl, G', hd', nx', f', eG, rfl, hO', hv⟩ := hp
  replace hP := P_perm ((LW_c (G := G') (S := (spLearn S (xs (4 * n + 1)) (xs (4 * n + 2))).2.2) (hd := hd') (nx := nx') (B := B) (S9 := S) (T := T) (x := (u9, .inl (cy 1, 1, .inr (.inl f'))))).symm.trans LW_m) hP
  replace hD := D_perm ((LW_c (G := G') (S := (spLearn S (xs (4 * n + 1)) (xs (4 * n + 2))).2.2) (hd := hd') (nx := nx') (B := B) (S9 := S) (T := T) (x := (u9, .inl (cy 1, 1, .inr (.inl f'))))).symm.trans LW_m) hD
  refine lv_istore (lv' := [(5, .int (nI ((spLearn S (xs (4 * n + 1)) (xs (4 * n + 2))).1))), (4, .int (nI (4 * n))), (0, .ref b), (1, .ref (G 0)), (2, .ref (B 0)), (3, .ref u9)]) hx hb dL_law_361 hl (by decide) rfl (fun ls hl => ?_)
  refine lv_aload_n hx hb dL_law_363 rfl (lv_at hl 4 rfl) ?_
  refine lv_aload_n hx hb dL_law_364 rfl (lv_at hl 2 rfl) ?_
  refine lv_iload hx hb dL_law_365 (lv_at hl 1 rfl) ?_
  refine lv_iconst (v := nI 1) hx hb dL_law_367 (by decide) ?_
  refine r_iadd hx hb dL_law_368 ?_
  refine r_sld (k := (4 * n) + 1) hx hb hSX hbl hbA hS (by omega) hL dL_law_369 ?_
  refine lv_aload_n hx hb dL_law_370 rfl (lv_at hl 2 rfl) ?_
  refine lv_iload hx hb dL_law_371 (lv_at hl 1 rfl) ?_
  refine lv_iconst (v := nI 2) hx hb dL_law_373 (by decide) ?_
  refine r_iadd hx hb dL_law_374 ?_
  refine r_sld (k := (4 * n) + 2) hx hb hSX hbl hbA hS (by omega) hL dL_law_375 ?_
  refine K_i (va_runV (As := [.int (xs ((4 * n) + 1)), .int (xs ((4 * n) + 2))]) (rest := []) ⟨hx, hb, hml, hown, hts⟩ (c_X2_learn l hI (xs (4 * n + 1)) (xs (4 * n + 2)) _) (cwV 2 hts gL_law_X2_learn rfl rfl rfl (by decide +kernel) ⟨Nat.le_of_ble_eq_true rfl, Nat.le_of_ble_eq_true rfl⟩) (pV hP hK hD hS hA hX (va_recv hK hP (ci := 2) (q0 := 0) rfl rfl)) rfl rfl hl.1 rfl (lv_room (Nat.le_of_ble_eq_true rfl)) dL_law_376 ⟨by show _ ≤ 601024; omega, by show _ ≤ 7293034; omega⟩) hD hS hA (fun r w'  H locs hp hP hD hS => ?_)
  obtain ⟨T', hT', rfl, hr'⟩ := hp
  refine lv_istore (lv' := [(6, .int r), (5, .int (nI ((spLearn S (xs (4 * n + 1)) (xs (4 * n + 2))).1))), (4, .int (nI (4 * n))), (0, .ref b), (1, .ref (G 0)), (2, .ref (B 0)), (3, .ref u9)]) hx hb dL_law_379 hl (by decide) rfl (fun ls hl => ?_)
  refine lv_aload_n hx hb dL_law_381 rfl (lv_at hl 5 rfl) ?_
  refine K_i (va_runV (As := []) (rest := []) ⟨hx, hb, hml, hown, hts⟩ (c_X2_thrown l _) (cwV 0 hts gL_law_X2_thrown rfl rfl rfl (by decide +kernel) ⟨Nat.le_of_ble_eq_true rfl, Nat.le_of_ble_eq_true rfl⟩) (pV hP hK hD hS hA hX (va_recv hK hP (ci := 2) (q0 := 0) rfl rfl)) rfl rfl hl.1 rfl (lv_room (Nat.le_of_ble_eq_true rfl)) dL_law_382 ⟨by show _ ≤ 601024; omega, by show _ ≤ 7293034; omega⟩) hD hS hA (fun r9 w'  H locs hp hP hD hS => ?_)
  obtain ⟨rfl, rfl⟩ := hp
  replace hP := P_perm ((LW_m (G := G') (S := (spLearn S (xs (4 * n + 1)) (xs (4 * n + 2))).2.2) (hd := hd') (nx := nx') (B := B) (S9 := (spLearn S (xs (4 * n + 1)) (xs (4 * n + 2))).2.2) (T := T') (x := (u9, .inl (cy 1, 1, .inr (.inl f'))))).symm) hP
  replace hD := D_perm ((LW_m (G := G') (S := (spLearn S (xs (4 * n + 1)) (xs (4 * n + 2))).2.2) (hd := hd') (nx := nx') (B := B) (S9 := (spLearn S (xs (4 * n + 1)) (xs (4 * n + 2))).2.2) (T := T') (x := (u9, .inl (cy 1, 1, .inr (.inl f'))))).symm) hD
  have hst := st_learn hI hB (show n < 1000 by omega) (xs (4 * n + 1)) (xs (4 * n + 2))
  refine lv_iload hx hb dL_law_385 (lv_at hl 1 rfl) ?_
  refine lv_icmp_eq (tgt := 392) hx hb dL_law_387 (by decide) (fun cE => ?_) (fun cE => ?_)
  · refine lv_iload hx hb dL_law_392 (lv_at hl 1 rfl) ?_
    refine lv_if_ne (tgt := 409) hx hb dL_law_394 (by decide) (fun cZ => ?_) (fun cZ => ?_)
    · refine lv_goto (tgt := 1287) hx hb dL_law_409 (by decide) ?_
      refine W.widen (k := 100 + 10 * (n + 1)) (n := 2000 + 60 * (n + 1)) (by omega) (by omega) ?_
      exact hN ((spLearn S (xs (4 * n + 1)) (xs (4 * n + 2))).2.2) O G' hd' nx' T' f' _ _ ls hst.1 hst.2 hO' eG hP hD hS (lv_sub hl [2, 3, 4, 5, 6] rfl)
    · have h0 : (spLearn S (xs (4 * n + 1)) (xs (4 * n + 2))).1 = 0 := (nI_eq (Nat.lt_trans (spLearn_lt S (xs (4 * n + 1)) (xs (4 * n + 2))) (by decide)) (by decide)).mp cZ
      have hrr := hr' h0
      have hvv := hv h0
      refine lv_aload_n hx hb dL_law_397 rfl (lv_at hl 6 rfl) ?_
      refine lv_iconst (v := nI 0) hx hb dL_law_398 (by decide) ?_
      refine r_lald (k := 0) hx hb hK hP 0 rfl (by decide) (by decide) dL_law_399 ?_
      refine lv_iload hx hb dL_law_400 (lv_at hl 0 rfl) ?_
      refine lv_i2l (v := (r).toInt64) hx hb dL_law_402 rfl ?_
      refine r_lcmp0 hx hb dL_law_403 (by rw [hvv, hrr]) ?_
      refine lv_if_eq (tgt := 409) hx hb dL_law_404 (by decide) (fun cQ => ?_) (fun cQ => ?_)
      · refine lv_goto (tgt := 1287) hx hb dL_law_409 (by decide) ?_
        refine W.widen (k := 100 + 10 * (n + 1)) (n := 2000 + 60 * (n + 1)) (by omega) (by omega) ?_
        exact hN ((spLearn S (xs (4 * n + 1)) (xs (4 * n + 2))).2.2) O G' hd' nx' T' f' _ _ ls hst.1 hst.2 hO' eG hP hD hS (lv_sub hl [2, 3, 4, 5, 6] rfl)
      · exact absurd rfl cQ
  · exact absurd (by rw [hT']) cE

set_option maxHeartbeats 4000000 in
set_option maxRecDepth 100000 in
theorem law_b_length {p : Program} {l : Launch} {e : Env} {s : State} {m : MethodId} {below : List Frame} {meth : Method} {c : Code} {b L : Nat} {xs : Nat → Int32} {D : va_G} {cy : Nat → ClassId} {B : Nat → Nat} {x0 u9 : Nat} {Q : State → Prop} (hlf : l.stackTraces = false) (C : LCx p s m c b L xs D cy) {n : Nat} (h4 : 4 * n + 4 ≤ L) (hN : Head p l e s m below meth c b D cy B x0 u9 Q (n + 1) (4 * n) 1287) : Head p l e s m below meth c b D cy B x0 u9 Q n (4 * n) 412 := by
  intro S O G hd nx T f H locs ls hI hB hO hG hP hD hS hl
  subst hG
  obtain ⟨hx, hb, hml, hown, hts, hSX, hbl, hL, hK, hX⟩ := C
  have hA : ∀ q, s.heap.size ≤ q → (fun q : Nat => s.heap.size ≤ q) q := fun _ h => h
  have hbA : ¬ (fun q : Nat => s.heap.size ≤ q) b := Nat.not_le.mpr hbl
  have hn : n ≤ 511 := by omega
  have hF := hB.few (show n < 1000 by omega)
  replace hP := P_perm (LW_c) hP
  replace hD := D_perm (LW_c) hD
  refine lv_aload_n hx hb dL_law_412 rfl (lv_at hl 2 rfl) ?_
  refine lv_aload_n hx hb dL_law_413 rfl (lv_at hl 1 rfl) ?_
  refine lv_iload hx hb dL_law_414 (lv_at hl 0 rfl) ?_
  refine lv_iconst (v := nI 1) hx hb dL_law_416 (by decide) ?_
  refine r_iadd hx hb dL_law_417 ?_
  refine r_sld (k := (4 * n) + 1) hx hb hSX hbl hbA hS (by omega) hL dL_law_418 ?_
  refine lv_aload_n hx hb dL_law_419 rfl (lv_at hl 4 rfl) ?_
  refine K_i (vx_runSW (As := [.ref (G 0), .int (xs ((4 * n) + 1)), .ref u9]) (rest := []) ⟨hx, hb, hml, hown, hts⟩ (c_L_length l hlf hI hO (xs (4 * n + 1)) _) (vx_cwSW 3 hts gL_law_L_length rfl rfl rfl (by decide +kernel) ⟨Nat.le_of_ble_eq_true rfl, Nat.le_of_ble_eq_true rfl⟩) (pS hP hK hD hS hA hX) rfl rfl hl.1 rfl (lv_room (Nat.le_of_ble_eq_true rfl)) dL_law_420 ⟨by show _ ≤ 601024; omega, by show _ ≤ 7293034; omega⟩) hD hS hA (fun r w'  H locs hp hP hD hS => ?_)
  obtain ⟨rfl, G', hd', nx', f', eG, rfl, hO', hv⟩ := hp
  replace hP := P_perm ((LW_c (G := G') (S := (spLength S O (xs (4 * n + 1))).2.2) (hd := hd') (nx := nx') (B := B) (S9 := S) (T := T) (x := (u9, .inl (cy 1, 1, .inr (.inl f'))))).symm.trans LW_m) hP
  replace hD := D_perm ((LW_c (G := G') (S := (spLength S O (xs (4 * n + 1))).2.2) (hd := hd') (nx := nx') (B := B) (S9 := S) (T := T) (x := (u9, .inl (cy 1, 1, .inr (.inl f'))))).symm.trans LW_m) hD
  refine lv_istore (lv' := [(5, .int (nI ((spLength S O (xs (4 * n + 1))).1))), (4, .int (nI (4 * n))), (0, .ref b), (1, .ref (G 0)), (2, .ref (B 0)), (3, .ref u9)]) hx hb dL_law_423 hl (by decide) rfl (fun ls hl => ?_)
  refine lv_aload_n hx hb dL_law_425 rfl (lv_at hl 4 rfl) ?_
  refine lv_aload_n hx hb dL_law_426 rfl (lv_at hl 2 rfl) ?_
  refine lv_iload hx hb dL_law_427 (lv_at hl 1 rfl) ?_
  refine lv_iconst (v := nI 1) hx hb dL_law_429 (by decide) ?_
  refine r_iadd hx hb dL_law_430 ?_
  refine r_sld (k := (4 * n) + 1) hx hb hSX hbl hbA hS (by omega) hL dL_law_431 ?_
  refine K_i (va_runV (As := [.int (xs ((4 * n) + 1))]) (rest := []) ⟨hx, hb, hml, hown, hts⟩ (c_X2_length l hI (xs (4 * n + 1)) _) (cwV 1 hts gL_law_X2_length rfl rfl rfl (by decide +kernel) ⟨Nat.le_of_ble_eq_true rfl, Nat.le_of_ble_eq_true rfl⟩) (pV hP hK hD hS hA hX (va_recv hK hP (ci := 2) (q0 := 0) rfl rfl)) rfl rfl hl.1 rfl (lv_room (Nat.le_of_ble_eq_true rfl)) dL_law_432 ⟨by show _ ≤ 601024; omega, by show _ ≤ 7293034; omega⟩) hD hS hA (fun r w'  H locs hp hP hD hS => ?_)
  obtain ⟨T', hT', rfl, hr'⟩ := hp
  refine lv_istore (lv' := [(6, .int r), (5, .int (nI ((spLength S O (xs (4 * n + 1))).1))), (4, .int (nI (4 * n))), (0, .ref b), (1, .ref (G 0)), (2, .ref (B 0)), (3, .ref u9)]) hx hb dL_law_435 hl (by decide) rfl (fun ls hl => ?_)
  refine lv_aload_n hx hb dL_law_437 rfl (lv_at hl 5 rfl) ?_
  refine K_i (va_runV (As := []) (rest := []) ⟨hx, hb, hml, hown, hts⟩ (c_X2_thrown l _) (cwV 0 hts gL_law_X2_thrown rfl rfl rfl (by decide +kernel) ⟨Nat.le_of_ble_eq_true rfl, Nat.le_of_ble_eq_true rfl⟩) (pV hP hK hD hS hA hX (va_recv hK hP (ci := 2) (q0 := 0) rfl rfl)) rfl rfl hl.1 rfl (lv_room (Nat.le_of_ble_eq_true rfl)) dL_law_438 ⟨by show _ ≤ 601024; omega, by show _ ≤ 7293034; omega⟩) hD hS hA (fun r9 w'  H locs hp hP hD hS => ?_)
  obtain ⟨rfl, rfl⟩ := hp
  replace hP := P_perm ((LW_m (G := G') (S := (spLength S O (xs (4 * n + 1))).2.2) (hd := hd') (nx := nx') (B := B) (S9 := (spLength S O (xs (4 * n + 1))).2.2) (T := T') (x := (u9, .inl (cy 1, 1, .inr (.inl f'))))).symm) hP
  replace hD := D_perm ((LW_m (G := G') (S := (spLength S O (xs (4 * n + 1))).2.2) (hd := hd') (nx := nx') (B := B) (S9 := (spLength S O (xs (4 * n + 1))).2.2) (T := T') (x := (u9, .inl (cy 1, 1, .inr (.inl f'))))).symm) hD
  have hst := st_length hI hB (xs (4 * n + 1))
  refine lv_iload hx hb dL_law_441 (lv_at hl 1 rfl) ?_
  refine lv_icmp_eq (tgt := 448) hx hb dL_law_443 (by decide) (fun cE => ?_) (fun cE => ?_)
  · refine lv_iload hx hb dL_law_448 (lv_at hl 1 rfl) ?_
    refine lv_if_ne (tgt := 465) hx hb dL_law_450 (by decide) (fun cZ => ?_) (fun cZ => ?_)
    · refine lv_goto (tgt := 1287) hx hb dL_law_465 (by decide) ?_
      refine W.widen (k := 100 + 10 * (n + 1)) (n := 2000 + 60 * (n + 1)) (by omega) (by omega) ?_
      exact hN ((spLength S O (xs (4 * n + 1))).2.2) O G' hd' nx' T' f' _ _ ls hst.1 hst.2 hO' eG hP hD hS (lv_sub hl [2, 3, 4, 5, 6] rfl)
    · have h0 : (spLength S O (xs (4 * n + 1))).1 = 0 := (nI_eq (Nat.lt_trans (spLength_lt S O (xs (4 * n + 1))) (by decide)) (by decide)).mp cZ
      have hrr := hr' h0
      have hvv := hv h0
      refine lv_aload_n hx hb dL_law_453 rfl (lv_at hl 6 rfl) ?_
      refine lv_iconst (v := nI 0) hx hb dL_law_454 (by decide) ?_
      refine r_lald (k := 0) hx hb hK hP 0 rfl (by decide) (by decide) dL_law_455 ?_
      refine lv_iload hx hb dL_law_456 (lv_at hl 0 rfl) ?_
      refine lv_i2l (v := (r).toInt64) hx hb dL_law_458 rfl ?_
      refine r_lcmp0 hx hb dL_law_459 (by rw [hvv, hrr]) ?_
      refine lv_if_eq (tgt := 465) hx hb dL_law_460 (by decide) (fun cQ => ?_) (fun cQ => ?_)
      · refine lv_goto (tgt := 1287) hx hb dL_law_465 (by decide) ?_
        refine W.widen (k := 100 + 10 * (n + 1)) (n := 2000 + 60 * (n + 1)) (by omega) (by omega) ?_
        exact hN ((spLength S O (xs (4 * n + 1))).2.2) O G' hd' nx' T' f' _ _ ls hst.1 hst.2 hO' eG hP hD hS (lv_sub hl [2, 3, 4, 5, 6] rfl)
      · exact absurd rfl cQ
  · exact absurd (by rw [hT']) cE

set_option maxHeartbeats 4000000 in
set_option maxRecDepth 100000 in
theorem law_b_signAt {p : Program} {l : Launch} {e : Env} {s : State} {m : MethodId} {below : List Frame} {meth : Method} {c : Code} {b L : Nat} {xs : Nat → Int32} {D : va_G} {cy : Nat → ClassId} {B : Nat → Nat} {x0 u9 : Nat} {Q : State → Prop} (hlf : l.stackTraces = false) (C : LCx p s m c b L xs D cy) {n : Nat} (h4 : 4 * n + 4 ≤ L) (hN : Head p l e s m below meth c b D cy B x0 u9 Q (n + 1) (4 * n) 1287) : Head p l e s m below meth c b D cy B x0 u9 Q n (4 * n) 468 := by
  intro S O G hd nx T f H locs ls hI hB hO hG hP hD hS hl
  subst hG
  obtain ⟨hx, hb, hml, hown, hts, hSX, hbl, hL, hK, hX⟩ := C
  have hA : ∀ q, s.heap.size ≤ q → (fun q : Nat => s.heap.size ≤ q) q := fun _ h => h
  have hbA : ¬ (fun q : Nat => s.heap.size ≤ q) b := Nat.not_le.mpr hbl
  have hn : n ≤ 511 := by omega
  have hF := hB.few (show n < 1000 by omega)
  replace hP := P_perm (LW_c) hP
  replace hD := D_perm (LW_c) hD
  refine lv_aload_n hx hb dL_law_468 rfl (lv_at hl 2 rfl) ?_
  refine lv_aload_n hx hb dL_law_469 rfl (lv_at hl 1 rfl) ?_
  refine lv_iload hx hb dL_law_470 (lv_at hl 0 rfl) ?_
  refine lv_iconst (v := nI 1) hx hb dL_law_472 (by decide) ?_
  refine r_iadd hx hb dL_law_473 ?_
  refine r_sld (k := (4 * n) + 1) hx hb hSX hbl hbA hS (by omega) hL dL_law_474 ?_
  refine lv_aload_n hx hb dL_law_475 rfl (lv_at hl 1 rfl) ?_
  refine lv_iload hx hb dL_law_476 (lv_at hl 0 rfl) ?_
  refine lv_iconst (v := nI 2) hx hb dL_law_478 (by decide) ?_
  refine r_iadd hx hb dL_law_479 ?_
  refine r_sld (k := (4 * n) + 2) hx hb hSX hbl hbA hS (by omega) hL dL_law_480 ?_
  refine lv_aload_n hx hb dL_law_481 rfl (lv_at hl 4 rfl) ?_
  refine K_i (vx_runSW (As := [.ref (G 0), .int (xs ((4 * n) + 1)), .int (xs ((4 * n) + 2)), .ref u9]) (rest := []) ⟨hx, hb, hml, hown, hts⟩ (c_L_signAt l hlf hI hO (xs (4 * n + 1)) (xs (4 * n + 2)) _) (vx_cwSW 4 hts gL_law_L_signAt rfl rfl rfl (by decide +kernel) ⟨Nat.le_of_ble_eq_true rfl, Nat.le_of_ble_eq_true rfl⟩) (pS hP hK hD hS hA hX) rfl rfl hl.1 rfl (lv_room (Nat.le_of_ble_eq_true rfl)) dL_law_482 ⟨by show _ ≤ 601024; omega, by show _ ≤ 7293034; omega⟩) hD hS hA (fun r w'  H locs hp hP hD hS => ?_)
  obtain ⟨rfl, G', hd', nx', f', eG, rfl, hO', hv⟩ := hp
  replace hP := P_perm ((LW_c (G := G') (S := (spSignAt S O (xs (4 * n + 1)) (xs (4 * n + 2))).2.2) (hd := hd') (nx := nx') (B := B) (S9 := S) (T := T) (x := (u9, .inl (cy 1, 1, .inr (.inl f'))))).symm.trans LW_m) hP
  replace hD := D_perm ((LW_c (G := G') (S := (spSignAt S O (xs (4 * n + 1)) (xs (4 * n + 2))).2.2) (hd := hd') (nx := nx') (B := B) (S9 := S) (T := T) (x := (u9, .inl (cy 1, 1, .inr (.inl f'))))).symm.trans LW_m) hD
  refine lv_istore (lv' := [(5, .int (nI ((spSignAt S O (xs (4 * n + 1)) (xs (4 * n + 2))).1))), (4, .int (nI (4 * n))), (0, .ref b), (1, .ref (G 0)), (2, .ref (B 0)), (3, .ref u9)]) hx hb dL_law_485 hl (by decide) rfl (fun ls hl => ?_)
  refine lv_aload_n hx hb dL_law_487 rfl (lv_at hl 4 rfl) ?_
  refine lv_aload_n hx hb dL_law_488 rfl (lv_at hl 2 rfl) ?_
  refine lv_iload hx hb dL_law_489 (lv_at hl 1 rfl) ?_
  refine lv_iconst (v := nI 1) hx hb dL_law_491 (by decide) ?_
  refine r_iadd hx hb dL_law_492 ?_
  refine r_sld (k := (4 * n) + 1) hx hb hSX hbl hbA hS (by omega) hL dL_law_493 ?_
  refine lv_aload_n hx hb dL_law_494 rfl (lv_at hl 2 rfl) ?_
  refine lv_iload hx hb dL_law_495 (lv_at hl 1 rfl) ?_
  refine lv_iconst (v := nI 2) hx hb dL_law_497 (by decide) ?_
  refine r_iadd hx hb dL_law_498 ?_
  refine r_sld (k := (4 * n) + 2) hx hb hSX hbl hbA hS (by omega) hL dL_law_499 ?_
  refine K_i (va_runV (As := [.int (xs ((4 * n) + 1)), .int (xs ((4 * n) + 2))]) (rest := []) ⟨hx, hb, hml, hown, hts⟩ (c_X2_signAt l hI (xs (4 * n + 1)) (xs (4 * n + 2)) _) (cwV 2 hts gL_law_X2_signAt rfl rfl rfl (by decide +kernel) ⟨Nat.le_of_ble_eq_true rfl, Nat.le_of_ble_eq_true rfl⟩) (pV hP hK hD hS hA hX (va_recv hK hP (ci := 2) (q0 := 0) rfl rfl)) rfl rfl hl.1 rfl (lv_room (Nat.le_of_ble_eq_true rfl)) dL_law_500 ⟨by show _ ≤ 601024; omega, by show _ ≤ 7293034; omega⟩) hD hS hA (fun r w'  H locs hp hP hD hS => ?_)
  obtain ⟨T', hT', rfl, hr'⟩ := hp
  refine lv_istore (lv' := [(6, .int r), (5, .int (nI ((spSignAt S O (xs (4 * n + 1)) (xs (4 * n + 2))).1))), (4, .int (nI (4 * n))), (0, .ref b), (1, .ref (G 0)), (2, .ref (B 0)), (3, .ref u9)]) hx hb dL_law_503 hl (by decide) rfl (fun ls hl => ?_)
  refine lv_aload_n hx hb dL_law_505 rfl (lv_at hl 5 rfl) ?_
  refine K_i (va_runV (As := []) (rest := []) ⟨hx, hb, hml, hown, hts⟩ (c_X2_thrown l _) (cwV 0 hts gL_law_X2_thrown rfl rfl rfl (by decide +kernel) ⟨Nat.le_of_ble_eq_true rfl, Nat.le_of_ble_eq_true rfl⟩) (pV hP hK hD hS hA hX (va_recv hK hP (ci := 2) (q0 := 0) rfl rfl)) rfl rfl hl.1 rfl (lv_room (Nat.le_of_ble_eq_true rfl)) dL_law_506 ⟨by show _ ≤ 601024; omega, by show _ ≤ 7293034; omega⟩) hD hS hA (fun r9 w'  H locs hp hP hD hS => ?_)
  obtain ⟨rfl, rfl⟩ := hp
  replace hP := P_perm ((LW_m (G := G') (S := (spSignAt S O (xs (4 * n + 1)) (xs (4 * n + 2))).2.2) (hd := hd') (nx := nx') (B := B) (S9 := (spSignAt S O (xs (4 * n + 1)) (xs (4 * n + 2))).2.2) (T := T') (x := (u9, .inl (cy 1, 1, .inr (.inl f'))))).symm) hP
  replace hD := D_perm ((LW_m (G := G') (S := (spSignAt S O (xs (4 * n + 1)) (xs (4 * n + 2))).2.2) (hd := hd') (nx := nx') (B := B) (S9 := (spSignAt S O (xs (4 * n + 1)) (xs (4 * n + 2))).2.2) (T := T') (x := (u9, .inl (cy 1, 1, .inr (.inl f'))))).symm) hD
  have hst := st_signAt hI hB (xs (4 * n + 1)) (xs (4 * n + 2))
  refine lv_iload hx hb dL_law_509 (lv_at hl 1 rfl) ?_
  refine lv_icmp_eq (tgt := 516) hx hb dL_law_511 (by decide) (fun cE => ?_) (fun cE => ?_)
  · refine lv_iload hx hb dL_law_516 (lv_at hl 1 rfl) ?_
    refine lv_if_ne (tgt := 533) hx hb dL_law_518 (by decide) (fun cZ => ?_) (fun cZ => ?_)
    · refine lv_goto (tgt := 1287) hx hb dL_law_533 (by decide) ?_
      refine W.widen (k := 100 + 10 * (n + 1)) (n := 2000 + 60 * (n + 1)) (by omega) (by omega) ?_
      exact hN ((spSignAt S O (xs (4 * n + 1)) (xs (4 * n + 2))).2.2) O G' hd' nx' T' f' _ _ ls hst.1 hst.2 hO' eG hP hD hS (lv_sub hl [2, 3, 4, 5, 6] rfl)
    · have h0 : (spSignAt S O (xs (4 * n + 1)) (xs (4 * n + 2))).1 = 0 := (nI_eq (Nat.lt_trans (spSignAt_lt S O (xs (4 * n + 1)) (xs (4 * n + 2))) (by decide)) (by decide)).mp cZ
      have hrr := hr' h0
      have hvv := hv h0
      refine lv_aload_n hx hb dL_law_521 rfl (lv_at hl 6 rfl) ?_
      refine lv_iconst (v := nI 0) hx hb dL_law_522 (by decide) ?_
      refine r_lald (k := 0) hx hb hK hP 0 rfl (by decide) (by decide) dL_law_523 ?_
      refine lv_iload hx hb dL_law_524 (lv_at hl 0 rfl) ?_
      refine lv_i2l (v := (r).toInt64) hx hb dL_law_526 rfl ?_
      refine r_lcmp0 hx hb dL_law_527 (by rw [hvv, hrr]) ?_
      refine lv_if_eq (tgt := 533) hx hb dL_law_528 (by decide) (fun cQ => ?_) (fun cQ => ?_)
      · refine lv_goto (tgt := 1287) hx hb dL_law_533 (by decide) ?_
        refine W.widen (k := 100 + 10 * (n + 1)) (n := 2000 + 60 * (n + 1)) (by omega) (by omega) ?_
        exact hN ((spSignAt S O (xs (4 * n + 1)) (xs (4 * n + 2))).2.2) O G' hd' nx' T' f' _ _ ls hst.1 hst.2 hO' eG hP hD hS (lv_sub hl [2, 3, 4, 5, 6] rfl)
      · exact absurd rfl cQ
  · exact absurd (by rw [hT']) cE

set_option maxHeartbeats 4000000 in
set_option maxRecDepth 100000 in
theorem law_b_letterAt {p : Program} {l : Launch} {e : Env} {s : State} {m : MethodId} {below : List Frame} {meth : Method} {c : Code} {b L : Nat} {xs : Nat → Int32} {D : va_G} {cy : Nat → ClassId} {B : Nat → Nat} {x0 u9 : Nat} {Q : State → Prop} (hlf : l.stackTraces = false) (C : LCx p s m c b L xs D cy) {n : Nat} (h4 : 4 * n + 4 ≤ L) (hN : Head p l e s m below meth c b D cy B x0 u9 Q (n + 1) (4 * n) 1287) : Head p l e s m below meth c b D cy B x0 u9 Q n (4 * n) 536 := by
  intro S O G hd nx T f H locs ls hI hB hO hG hP hD hS hl
  subst hG
  obtain ⟨hx, hb, hml, hown, hts, hSX, hbl, hL, hK, hX⟩ := C
  have hA : ∀ q, s.heap.size ≤ q → (fun q : Nat => s.heap.size ≤ q) q := fun _ h => h
  have hbA : ¬ (fun q : Nat => s.heap.size ≤ q) b := Nat.not_le.mpr hbl
  have hn : n ≤ 511 := by omega
  have hF := hB.few (show n < 1000 by omega)
  replace hP := P_perm (LW_c) hP
  replace hD := D_perm (LW_c) hD
  refine lv_aload_n hx hb dL_law_536 rfl (lv_at hl 2 rfl) ?_
  refine lv_aload_n hx hb dL_law_537 rfl (lv_at hl 1 rfl) ?_
  refine lv_iload hx hb dL_law_538 (lv_at hl 0 rfl) ?_
  refine lv_iconst (v := nI 1) hx hb dL_law_540 (by decide) ?_
  refine r_iadd hx hb dL_law_541 ?_
  refine r_sld (k := (4 * n) + 1) hx hb hSX hbl hbA hS (by omega) hL dL_law_542 ?_
  refine lv_aload_n hx hb dL_law_543 rfl (lv_at hl 1 rfl) ?_
  refine lv_iload hx hb dL_law_544 (lv_at hl 0 rfl) ?_
  refine lv_iconst (v := nI 2) hx hb dL_law_546 (by decide) ?_
  refine r_iadd hx hb dL_law_547 ?_
  refine r_sld (k := (4 * n) + 2) hx hb hSX hbl hbA hS (by omega) hL dL_law_548 ?_
  refine lv_aload_n hx hb dL_law_549 rfl (lv_at hl 4 rfl) ?_
  refine K_i (vx_runSW (As := [.ref (G 0), .int (xs ((4 * n) + 1)), .int (xs ((4 * n) + 2)), .ref u9]) (rest := []) ⟨hx, hb, hml, hown, hts⟩ (c_L_letterAt l hlf hI hO (xs (4 * n + 1)) (xs (4 * n + 2)) _) (vx_cwSW 4 hts gL_law_L_letterAt rfl rfl rfl (by decide +kernel) ⟨Nat.le_of_ble_eq_true rfl, Nat.le_of_ble_eq_true rfl⟩) (pS hP hK hD hS hA hX) rfl rfl hl.1 rfl (lv_room (Nat.le_of_ble_eq_true rfl)) dL_law_550 ⟨by show _ ≤ 601024; omega, by show _ ≤ 7293034; omega⟩) hD hS hA (fun r w'  H locs hp hP hD hS => ?_)
  obtain ⟨rfl, G', hd', nx', f', eG, rfl, hO', hv⟩ := hp
  replace hP := P_perm ((LW_c (G := G') (S := (spLetterAt S O (xs (4 * n + 1)) (xs (4 * n + 2))).2.2) (hd := hd') (nx := nx') (B := B) (S9 := S) (T := T) (x := (u9, .inl (cy 1, 1, .inr (.inl f'))))).symm.trans LW_m) hP
  replace hD := D_perm ((LW_c (G := G') (S := (spLetterAt S O (xs (4 * n + 1)) (xs (4 * n + 2))).2.2) (hd := hd') (nx := nx') (B := B) (S9 := S) (T := T) (x := (u9, .inl (cy 1, 1, .inr (.inl f'))))).symm.trans LW_m) hD
  refine lv_istore (lv' := [(5, .int (nI ((spLetterAt S O (xs (4 * n + 1)) (xs (4 * n + 2))).1))), (4, .int (nI (4 * n))), (0, .ref b), (1, .ref (G 0)), (2, .ref (B 0)), (3, .ref u9)]) hx hb dL_law_553 hl (by decide) rfl (fun ls hl => ?_)
  refine lv_aload_n hx hb dL_law_555 rfl (lv_at hl 4 rfl) ?_
  refine lv_aload_n hx hb dL_law_556 rfl (lv_at hl 2 rfl) ?_
  refine lv_iload hx hb dL_law_557 (lv_at hl 1 rfl) ?_
  refine lv_iconst (v := nI 1) hx hb dL_law_559 (by decide) ?_
  refine r_iadd hx hb dL_law_560 ?_
  refine r_sld (k := (4 * n) + 1) hx hb hSX hbl hbA hS (by omega) hL dL_law_561 ?_
  refine lv_aload_n hx hb dL_law_562 rfl (lv_at hl 2 rfl) ?_
  refine lv_iload hx hb dL_law_563 (lv_at hl 1 rfl) ?_
  refine lv_iconst (v := nI 2) hx hb dL_law_565 (by decide) ?_
  refine r_iadd hx hb dL_law_566 ?_
  refine r_sld (k := (4 * n) + 2) hx hb hSX hbl hbA hS (by omega) hL dL_law_567 ?_
  refine K_i (va_runV (As := [.int (xs ((4 * n) + 1)), .int (xs ((4 * n) + 2))]) (rest := []) ⟨hx, hb, hml, hown, hts⟩ (c_X2_letterAt l hI (xs (4 * n + 1)) (xs (4 * n + 2)) _) (cwV 2 hts gL_law_X2_letterAt rfl rfl rfl (by decide +kernel) ⟨Nat.le_of_ble_eq_true rfl, Nat.le_of_ble_eq_true rfl⟩) (pV hP hK hD hS hA hX (va_recv hK hP (ci := 2) (q0 := 0) rfl rfl)) rfl rfl hl.1 rfl (lv_room (Nat.le_of_ble_eq_true rfl)) dL_law_568 ⟨by show _ ≤ 601024; omega, by show _ ≤ 7293034; omega⟩) hD hS hA (fun r w'  H locs hp hP hD hS => ?_)
  obtain ⟨T', hT', rfl, hr'⟩ := hp
  refine lv_istore (lv' := [(6, .int r), (5, .int (nI ((spLetterAt S O (xs (4 * n + 1)) (xs (4 * n + 2))).1))), (4, .int (nI (4 * n))), (0, .ref b), (1, .ref (G 0)), (2, .ref (B 0)), (3, .ref u9)]) hx hb dL_law_571 hl (by decide) rfl (fun ls hl => ?_)
  refine lv_aload_n hx hb dL_law_573 rfl (lv_at hl 5 rfl) ?_
  refine K_i (va_runV (As := []) (rest := []) ⟨hx, hb, hml, hown, hts⟩ (c_X2_thrown l _) (cwV 0 hts gL_law_X2_thrown rfl rfl rfl (by decide +kernel) ⟨Nat.le_of_ble_eq_true rfl, Nat.le_of_ble_eq_true rfl⟩) (pV hP hK hD hS hA hX (va_recv hK hP (ci := 2) (q0 := 0) rfl rfl)) rfl rfl hl.1 rfl (lv_room (Nat.le_of_ble_eq_true rfl)) dL_law_574 ⟨by show _ ≤ 601024; omega, by show _ ≤ 7293034; omega⟩) hD hS hA (fun r9 w'  H locs hp hP hD hS => ?_)
  obtain ⟨rfl, rfl⟩ := hp
  replace hP := P_perm ((LW_m (G := G') (S := (spLetterAt S O (xs (4 * n + 1)) (xs (4 * n + 2))).2.2) (hd := hd') (nx := nx') (B := B) (S9 := (spLetterAt S O (xs (4 * n + 1)) (xs (4 * n + 2))).2.2) (T := T') (x := (u9, .inl (cy 1, 1, .inr (.inl f'))))).symm) hP
  replace hD := D_perm ((LW_m (G := G') (S := (spLetterAt S O (xs (4 * n + 1)) (xs (4 * n + 2))).2.2) (hd := hd') (nx := nx') (B := B) (S9 := (spLetterAt S O (xs (4 * n + 1)) (xs (4 * n + 2))).2.2) (T := T') (x := (u9, .inl (cy 1, 1, .inr (.inl f'))))).symm) hD
  have hst := st_letterAt hI hB (xs (4 * n + 1)) (xs (4 * n + 2))
  refine lv_iload hx hb dL_law_577 (lv_at hl 1 rfl) ?_
  refine lv_icmp_eq (tgt := 584) hx hb dL_law_579 (by decide) (fun cE => ?_) (fun cE => ?_)
  · refine lv_iload hx hb dL_law_584 (lv_at hl 1 rfl) ?_
    refine lv_if_ne (tgt := 601) hx hb dL_law_586 (by decide) (fun cZ => ?_) (fun cZ => ?_)
    · refine lv_goto (tgt := 1287) hx hb dL_law_601 (by decide) ?_
      refine W.widen (k := 100 + 10 * (n + 1)) (n := 2000 + 60 * (n + 1)) (by omega) (by omega) ?_
      exact hN ((spLetterAt S O (xs (4 * n + 1)) (xs (4 * n + 2))).2.2) O G' hd' nx' T' f' _ _ ls hst.1 hst.2 hO' eG hP hD hS (lv_sub hl [2, 3, 4, 5, 6] rfl)
    · have h0 : (spLetterAt S O (xs (4 * n + 1)) (xs (4 * n + 2))).1 = 0 := (nI_eq (Nat.lt_trans (spLetterAt_lt S O (xs (4 * n + 1)) (xs (4 * n + 2))) (by decide)) (by decide)).mp cZ
      have hrr := hr' h0
      have hvv := hv h0
      refine lv_aload_n hx hb dL_law_589 rfl (lv_at hl 6 rfl) ?_
      refine lv_iconst (v := nI 0) hx hb dL_law_590 (by decide) ?_
      refine r_lald (k := 0) hx hb hK hP 0 rfl (by decide) (by decide) dL_law_591 ?_
      refine lv_iload hx hb dL_law_592 (lv_at hl 0 rfl) ?_
      refine lv_i2l (v := (r).toInt64) hx hb dL_law_594 rfl ?_
      refine r_lcmp0 hx hb dL_law_595 (by rw [hvv, hrr]) ?_
      refine lv_if_eq (tgt := 601) hx hb dL_law_596 (by decide) (fun cQ => ?_) (fun cQ => ?_)
      · refine lv_goto (tgt := 1287) hx hb dL_law_601 (by decide) ?_
        refine W.widen (k := 100 + 10 * (n + 1)) (n := 2000 + 60 * (n + 1)) (by omega) (by omega) ?_
        exact hN ((spLetterAt S O (xs (4 * n + 1)) (xs (4 * n + 2))).2.2) O G' hd' nx' T' f' _ _ ls hst.1 hst.2 hO' eG hP hD hS (lv_sub hl [2, 3, 4, 5, 6] rfl)
      · exact absurd rfl cQ
  · exact absurd (by rw [hT']) cE

set_option maxHeartbeats 4000000 in
set_option maxRecDepth 100000 in
theorem law_b_areAlike {p : Program} {l : Launch} {e : Env} {s : State} {m : MethodId} {below : List Frame} {meth : Method} {c : Code} {b L : Nat} {xs : Nat → Int32} {D : va_G} {cy : Nat → ClassId} {B : Nat → Nat} {x0 u9 : Nat} {Q : State → Prop} (hlf : l.stackTraces = false) (C : LCx p s m c b L xs D cy) {n : Nat} (h4 : 4 * n + 4 ≤ L) (hN : Head p l e s m below meth c b D cy B x0 u9 Q (n + 1) (4 * n) 1287) : Head p l e s m below meth c b D cy B x0 u9 Q n (4 * n) 604 := by
  intro S O G hd nx T f H locs ls hI hB hO hG hP hD hS hl
  subst hG
  obtain ⟨hx, hb, hml, hown, hts, hSX, hbl, hL, hK, hX⟩ := C
  have hA : ∀ q, s.heap.size ≤ q → (fun q : Nat => s.heap.size ≤ q) q := fun _ h => h
  have hbA : ¬ (fun q : Nat => s.heap.size ≤ q) b := Nat.not_le.mpr hbl
  have hn : n ≤ 511 := by omega
  have hF := hB.few (show n < 1000 by omega)
  replace hP := P_perm (LW_c) hP
  replace hD := D_perm (LW_c) hD
  refine lv_aload_n hx hb dL_law_604 rfl (lv_at hl 2 rfl) ?_
  refine lv_aload_n hx hb dL_law_605 rfl (lv_at hl 1 rfl) ?_
  refine lv_iload hx hb dL_law_606 (lv_at hl 0 rfl) ?_
  refine lv_iconst (v := nI 1) hx hb dL_law_608 (by decide) ?_
  refine r_iadd hx hb dL_law_609 ?_
  refine r_sld (k := (4 * n) + 1) hx hb hSX hbl hbA hS (by omega) hL dL_law_610 ?_
  refine lv_aload_n hx hb dL_law_611 rfl (lv_at hl 1 rfl) ?_
  refine lv_iload hx hb dL_law_612 (lv_at hl 0 rfl) ?_
  refine lv_iconst (v := nI 2) hx hb dL_law_614 (by decide) ?_
  refine r_iadd hx hb dL_law_615 ?_
  refine r_sld (k := (4 * n) + 2) hx hb hSX hbl hbA hS (by omega) hL dL_law_616 ?_
  refine lv_aload_n hx hb dL_law_617 rfl (lv_at hl 4 rfl) ?_
  refine K_i (vx_runSW (As := [.ref (G 0), .int (xs ((4 * n) + 1)), .int (xs ((4 * n) + 2)), .ref u9]) (rest := []) ⟨hx, hb, hml, hown, hts⟩ (c_L_areAlike l hlf hI hO (xs (4 * n + 1)) (xs (4 * n + 2)) _) (vx_cwSW 4 hts gL_law_L_areAlike rfl rfl rfl (by decide +kernel) ⟨Nat.le_of_ble_eq_true rfl, Nat.le_of_ble_eq_true rfl⟩) (pS hP hK hD hS hA hX) rfl rfl hl.1 rfl (lv_room (Nat.le_of_ble_eq_true rfl)) dL_law_618 ⟨by show _ ≤ 601024; omega, by show _ ≤ 7293034; omega⟩) hD hS hA (fun r w'  H locs hp hP hD hS => ?_)
  obtain ⟨rfl, G', hd', nx', f', eG, rfl, hO', hv⟩ := hp
  replace hP := P_perm ((LW_c (G := G') (S := (spAreAlike S (xs (4 * n + 1)) (xs (4 * n + 2))).2.2) (hd := hd') (nx := nx') (B := B) (S9 := S) (T := T) (x := (u9, .inl (cy 1, 1, .inr (.inl f'))))).symm.trans LW_m) hP
  replace hD := D_perm ((LW_c (G := G') (S := (spAreAlike S (xs (4 * n + 1)) (xs (4 * n + 2))).2.2) (hd := hd') (nx := nx') (B := B) (S9 := S) (T := T) (x := (u9, .inl (cy 1, 1, .inr (.inl f'))))).symm.trans LW_m) hD
  refine lv_istore (lv' := [(5, .int (nI ((spAreAlike S (xs (4 * n + 1)) (xs (4 * n + 2))).1))), (4, .int (nI (4 * n))), (0, .ref b), (1, .ref (G 0)), (2, .ref (B 0)), (3, .ref u9)]) hx hb dL_law_621 hl (by decide) rfl (fun ls hl => ?_)
  refine lv_aload_n hx hb dL_law_623 rfl (lv_at hl 4 rfl) ?_
  refine lv_aload_n hx hb dL_law_624 rfl (lv_at hl 2 rfl) ?_
  refine lv_iload hx hb dL_law_625 (lv_at hl 1 rfl) ?_
  refine lv_iconst (v := nI 1) hx hb dL_law_627 (by decide) ?_
  refine r_iadd hx hb dL_law_628 ?_
  refine r_sld (k := (4 * n) + 1) hx hb hSX hbl hbA hS (by omega) hL dL_law_629 ?_
  refine lv_aload_n hx hb dL_law_630 rfl (lv_at hl 2 rfl) ?_
  refine lv_iload hx hb dL_law_631 (lv_at hl 1 rfl) ?_
  refine lv_iconst (v := nI 2) hx hb dL_law_633 (by decide) ?_
  refine r_iadd hx hb dL_law_634 ?_
  refine r_sld (k := (4 * n) + 2) hx hb hSX hbl hbA hS (by omega) hL dL_law_635 ?_
  refine K_i (va_runV (As := [.int (xs ((4 * n) + 1)), .int (xs ((4 * n) + 2))]) (rest := []) ⟨hx, hb, hml, hown, hts⟩ (c_X2_areAlike l hI (xs (4 * n + 1)) (xs (4 * n + 2)) _) (cwV 2 hts gL_law_X2_areAlike rfl rfl rfl (by decide +kernel) ⟨Nat.le_of_ble_eq_true rfl, Nat.le_of_ble_eq_true rfl⟩) (pV hP hK hD hS hA hX (va_recv hK hP (ci := 2) (q0 := 0) rfl rfl)) rfl rfl hl.1 rfl (lv_room (Nat.le_of_ble_eq_true rfl)) dL_law_636 ⟨by show _ ≤ 601024; omega, by show _ ≤ 7293034; omega⟩) hD hS hA (fun r w'  H locs hp hP hD hS => ?_)
  obtain ⟨T', hT', rfl, hr'⟩ := hp
  refine lv_istore (lv' := [(6, .int r), (5, .int (nI ((spAreAlike S (xs (4 * n + 1)) (xs (4 * n + 2))).1))), (4, .int (nI (4 * n))), (0, .ref b), (1, .ref (G 0)), (2, .ref (B 0)), (3, .ref u9)]) hx hb dL_law_639 hl (by decide) rfl (fun ls hl => ?_)
  refine lv_aload_n hx hb dL_law_641 rfl (lv_at hl 5 rfl) ?_
  refine K_i (va_runV (As := []) (rest := []) ⟨hx, hb, hml, hown, hts⟩ (c_X2_thrown l _) (cwV 0 hts gL_law_X2_thrown rfl rfl rfl (by decide +kernel) ⟨Nat.le_of_ble_eq_true rfl, Nat.le_of_ble_eq_true rfl⟩) (pV hP hK hD hS hA hX (va_recv hK hP (ci := 2) (q0 := 0) rfl rfl)) rfl rfl hl.1 rfl (lv_room (Nat.le_of_ble_eq_true rfl)) dL_law_642 ⟨by show _ ≤ 601024; omega, by show _ ≤ 7293034; omega⟩) hD hS hA (fun r9 w'  H locs hp hP hD hS => ?_)
  obtain ⟨rfl, rfl⟩ := hp
  replace hP := P_perm ((LW_m (G := G') (S := (spAreAlike S (xs (4 * n + 1)) (xs (4 * n + 2))).2.2) (hd := hd') (nx := nx') (B := B) (S9 := (spAreAlike S (xs (4 * n + 1)) (xs (4 * n + 2))).2.2) (T := T') (x := (u9, .inl (cy 1, 1, .inr (.inl f'))))).symm) hP
  replace hD := D_perm ((LW_m (G := G') (S := (spAreAlike S (xs (4 * n + 1)) (xs (4 * n + 2))).2.2) (hd := hd') (nx := nx') (B := B) (S9 := (spAreAlike S (xs (4 * n + 1)) (xs (4 * n + 2))).2.2) (T := T') (x := (u9, .inl (cy 1, 1, .inr (.inl f'))))).symm) hD
  have hst := st_areAlike hI hB (xs (4 * n + 1)) (xs (4 * n + 2))
  refine lv_iload hx hb dL_law_645 (lv_at hl 1 rfl) ?_
  refine lv_icmp_eq (tgt := 652) hx hb dL_law_647 (by decide) (fun cE => ?_) (fun cE => ?_)
  · refine lv_iload hx hb dL_law_652 (lv_at hl 1 rfl) ?_
    refine lv_if_ne (tgt := 676) hx hb dL_law_654 (by decide) (fun cZ => ?_) (fun cZ => ?_)
    · refine lv_goto (tgt := 1287) hx hb dL_law_676 (by decide) ?_
      refine W.widen (k := 100 + 10 * (n + 1)) (n := 2000 + 60 * (n + 1)) (by omega) (by omega) ?_
      exact hN ((spAreAlike S (xs (4 * n + 1)) (xs (4 * n + 2))).2.2) O G' hd' nx' T' f' _ _ ls hst.1 hst.2 hO' eG hP hD hS (lv_sub hl [2, 3, 4, 5, 6] rfl)
    · have h0 : (spAreAlike S (xs (4 * n + 1)) (xs (4 * n + 2))).1 = 0 := (nI_eq (Nat.lt_trans (spAreAlike_lt S (xs (4 * n + 1)) (xs (4 * n + 2))) (by decide)) (by decide)).mp cZ
      have hrr := hr' h0
      have hvv := hv h0
      refine lv_aload_n hx hb dL_law_657 rfl (lv_at hl 6 rfl) ?_
      refine lv_iconst (v := nI 0) hx hb dL_law_658 (by decide) ?_
      refine r_lald (k := 0) hx hb hK hP 0 rfl (by decide) (by decide) dL_law_659 ?_
      refine lv_iload hx hb dL_law_660 (lv_at hl 0 rfl) ?_
      refine lv_if_eq (tgt := 669) hx hb dL_law_662 (by decide) (fun cB => ?_) (fun cB => ?_)
      · refine lv_lconst (v := lN 0) hx hb dL_law_669 (by decide) ?_
        refine r_lcmp0 hx hb dL_law_670 (by rw [hvv, ← hrr, cB]; rfl) ?_
        refine lv_if_eq (tgt := 676) hx hb dL_law_671 (by decide) (fun cQ => ?_) (fun cQ => ?_)
        · refine lv_goto (tgt := 1287) hx hb dL_law_676 (by decide) ?_
          refine W.widen (k := 100 + 10 * (n + 1)) (n := 2000 + 60 * (n + 1)) (by omega) (by omega) ?_
          exact hN ((spAreAlike S (xs (4 * n + 1)) (xs (4 * n + 2))).2.2) O G' hd' nx' T' f' _ _ ls hst.1 hst.2 hO' eG hP hD hS (lv_sub hl [2, 3, 4, 5, 6] rfl)
        · exact absurd rfl cQ
      · refine lv_lconst (v := lN 1) hx hb dL_law_665 (by decide) ?_
        refine lv_goto (tgt := 670) hx hb dL_law_666 (by decide) ?_
        refine r_lcmp0 hx hb dL_law_670 (by rw [hvv]; rcases alike_01 S (xs (4 * n + 1)) (xs (4 * n + 2)) with h | h; exact absurd (hrr.trans h) cB; rw [h]; rfl) ?_
        refine lv_if_eq (tgt := 676) hx hb dL_law_671 (by decide) (fun cQ => ?_) (fun cQ => ?_)
        · refine lv_goto (tgt := 1287) hx hb dL_law_676 (by decide) ?_
          refine W.widen (k := 100 + 10 * (n + 1)) (n := 2000 + 60 * (n + 1)) (by omega) (by omega) ?_
          exact hN ((spAreAlike S (xs (4 * n + 1)) (xs (4 * n + 2))).2.2) O G' hd' nx' T' f' _ _ ls hst.1 hst.2 hO' eG hP hD hS (lv_sub hl [2, 3, 4, 5, 6] rfl)
        · exact absurd rfl cQ
  · exact absurd (by rw [hT']) cE

set_option maxHeartbeats 4000000 in
set_option maxRecDepth 100000 in
theorem law_b_signs {p : Program} {l : Launch} {e : Env} {s : State} {m : MethodId} {below : List Frame} {meth : Method} {c : Code} {b L : Nat} {xs : Nat → Int32} {D : va_G} {cy : Nat → ClassId} {B : Nat → Nat} {x0 u9 : Nat} {Q : State → Prop} (hlf : l.stackTraces = false) (C : LCx p s m c b L xs D cy) {n : Nat} (h4 : 4 * n + 4 ≤ L) (hN : Head p l e s m below meth c b D cy B x0 u9 Q (n + 1) (4 * n) 1287) : Head p l e s m below meth c b D cy B x0 u9 Q n (4 * n) 679 := by
  intro S O G hd nx T f H locs ls hI hB hO hG hP hD hS hl
  subst hG
  obtain ⟨hx, hb, hml, hown, hts, hSX, hbl, hL, hK, hX⟩ := C
  have hA : ∀ q, s.heap.size ≤ q → (fun q : Nat => s.heap.size ≤ q) q := fun _ h => h
  have hbA : ¬ (fun q : Nat => s.heap.size ≤ q) b := Nat.not_le.mpr hbl
  have hn : n ≤ 511 := by omega
  have hF := hB.few (show n < 1000 by omega)
  replace hP := P_perm (LW_c) hP
  replace hD := D_perm (LW_c) hD
  refine lv_aload_n hx hb dL_law_679 rfl (lv_at hl 2 rfl) ?_
  refine K_i (va_runV (As := []) (rest := []) ⟨hx, hb, hml, hown, hts⟩ (c_X1_signs l _) (cwV 0 hts gL_law_X1_signs rfl rfl rfl (by decide +kernel) ⟨Nat.le_of_ble_eq_true rfl, Nat.le_of_ble_eq_true rfl⟩) (pV hP hK hD hS hA hX (va_recv hK hP (ci := 1) (q0 := 0) rfl rfl)) rfl rfl hl.1 rfl (lv_room (Nat.le_of_ble_eq_true rfl)) dL_law_680 ⟨by show _ ≤ 601024; omega, by show _ ≤ 7293034; omega⟩) hD hS hA (fun r w'  H locs hp hP hD hS => ?_)
  obtain ⟨rfl, rfl⟩ := hp
  replace hP := P_perm (LW_c.symm.trans LW_m) hP
  replace hD := D_perm (LW_c.symm.trans LW_m) hD
  refine lv_aload_n hx hb dL_law_683 rfl (lv_at hl 3 rfl) ?_
  refine K_i (va_runV (As := []) (rest := [.int (nI (S 0 0))]) ⟨hx, hb, hml, hown, hts⟩ (c_X2_signs l _) (cwV 0 hts gL_law_X2_signs rfl rfl rfl (by decide +kernel) ⟨Nat.le_of_ble_eq_true rfl, Nat.le_of_ble_eq_true rfl⟩) (pV hP hK hD hS hA hX (va_recv hK hP (ci := 2) (q0 := 0) rfl rfl)) rfl rfl hl.1 rfl (lv_room (Nat.le_of_ble_eq_true rfl)) dL_law_684 ⟨by show _ ≤ 601024; omega, by show _ ≤ 7293034; omega⟩) hD hS hA (fun r w'  H locs hp hP hD hS => ?_)
  obtain ⟨T', hT', rfl, rfl⟩ := hp
  replace hP := P_perm (LW_m.symm) hP
  replace hD := D_perm (LW_m.symm) hD
  refine lv_icmp_eq (tgt := 1287) hx hb dL_law_687 (by decide) (fun cE => ?_) (fun cE => ?_)
  · refine W.widen (k := 100 + 10 * (n + 1)) (n := 2000 + 60 * (n + 1)) (by omega) (by omega) ?_
    exact hN S O G hd nx T' f _ _ ls hI hB.up hO rfl hP hD hS (lv_sub hl [0, 1, 2, 3, 4] rfl)
  · exact absurd rfl cE

set_option maxHeartbeats 4000000 in
set_option maxRecDepth 100000 in
theorem law_b_authorOf {p : Program} {l : Launch} {e : Env} {s : State} {m : MethodId} {below : List Frame} {meth : Method} {c : Code} {b L : Nat} {xs : Nat → Int32} {D : va_G} {cy : Nat → ClassId} {B : Nat → Nat} {x0 u9 : Nat} {Q : State → Prop} (hlf : l.stackTraces = false) (C : LCx p s m c b L xs D cy) {n : Nat} (h4 : 4 * n + 4 ≤ L) (hN : Head p l e s m below meth c b D cy B x0 u9 Q (n + 1) (4 * n) 1287) : Head p l e s m below meth c b D cy B x0 u9 Q n (4 * n) 692 := by
  intro S O G hd nx T f H locs ls hI hB hO hG hP hD hS hl
  subst hG
  obtain ⟨hx, hb, hml, hown, hts, hSX, hbl, hL, hK, hX⟩ := C
  have hA : ∀ q, s.heap.size ≤ q → (fun q : Nat => s.heap.size ≤ q) q := fun _ h => h
  have hbA : ¬ (fun q : Nat => s.heap.size ≤ q) b := Nat.not_le.mpr hbl
  have hn : n ≤ 511 := by omega
  have hF := hB.few (show n < 1000 by omega)
  replace hP := P_perm (LW_c) hP
  replace hD := D_perm (LW_c) hD
  refine lv_aload_n hx hb dL_law_692 rfl (lv_at hl 2 rfl) ?_
  refine lv_aload_n hx hb dL_law_693 rfl (lv_at hl 1 rfl) ?_
  refine lv_iload hx hb dL_law_694 (lv_at hl 0 rfl) ?_
  refine lv_iconst (v := nI 1) hx hb dL_law_696 (by decide) ?_
  refine r_iadd hx hb dL_law_697 ?_
  refine r_sld (k := (4 * n) + 1) hx hb hSX hbl hbA hS (by omega) hL dL_law_698 ?_
  refine lv_aload_n hx hb dL_law_699 rfl (lv_at hl 4 rfl) ?_
  refine K_i (vx_runSW (As := [.ref (G 0), .int (xs ((4 * n) + 1)), .ref u9]) (rest := []) ⟨hx, hb, hml, hown, hts⟩ (c_L_authorOf l hlf hI hO (xs (4 * n + 1)) _) (vx_cwSW 3 hts gL_law_L_authorOf rfl rfl rfl (by decide +kernel) ⟨Nat.le_of_ble_eq_true rfl, Nat.le_of_ble_eq_true rfl⟩) (pS hP hK hD hS hA hX) rfl rfl hl.1 rfl (lv_room (Nat.le_of_ble_eq_true rfl)) dL_law_700 ⟨by show _ ≤ 601024; omega, by show _ ≤ 7293034; omega⟩) hD hS hA (fun r w'  H locs hp hP hD hS => ?_)
  obtain ⟨rfl, G', hd', nx', f', eG, rfl, hO', hv⟩ := hp
  replace hP := P_perm ((LW_c (G := G') (S := (spAuthorOf S (xs (4 * n + 1))).2.2) (hd := hd') (nx := nx') (B := B) (S9 := S) (T := T) (x := (u9, .inl (cy 1, 1, .inr (.inl f'))))).symm.trans LW_m) hP
  replace hD := D_perm ((LW_c (G := G') (S := (spAuthorOf S (xs (4 * n + 1))).2.2) (hd := hd') (nx := nx') (B := B) (S9 := S) (T := T) (x := (u9, .inl (cy 1, 1, .inr (.inl f'))))).symm.trans LW_m) hD
  refine lv_istore (lv' := [(5, .int (nI ((spAuthorOf S (xs (4 * n + 1))).1))), (4, .int (nI (4 * n))), (0, .ref b), (1, .ref (G 0)), (2, .ref (B 0)), (3, .ref u9)]) hx hb dL_law_703 hl (by decide) rfl (fun ls hl => ?_)
  refine lv_aload_n hx hb dL_law_705 rfl (lv_at hl 4 rfl) ?_
  refine lv_aload_n hx hb dL_law_706 rfl (lv_at hl 2 rfl) ?_
  refine lv_iload hx hb dL_law_707 (lv_at hl 1 rfl) ?_
  refine lv_iconst (v := nI 1) hx hb dL_law_709 (by decide) ?_
  refine r_iadd hx hb dL_law_710 ?_
  refine r_sld (k := (4 * n) + 1) hx hb hSX hbl hbA hS (by omega) hL dL_law_711 ?_
  refine K_i (va_runV (As := [.int (xs ((4 * n) + 1))]) (rest := []) ⟨hx, hb, hml, hown, hts⟩ (c_X2_authorOf l hI (xs (4 * n + 1)) _) (cwV 1 hts gL_law_X2_authorOf rfl rfl rfl (by decide +kernel) ⟨Nat.le_of_ble_eq_true rfl, Nat.le_of_ble_eq_true rfl⟩) (pV hP hK hD hS hA hX (va_recv hK hP (ci := 2) (q0 := 0) rfl rfl)) rfl rfl hl.1 rfl (lv_room (Nat.le_of_ble_eq_true rfl)) dL_law_712 ⟨by show _ ≤ 601024; omega, by show _ ≤ 7293034; omega⟩) hD hS hA (fun r w'  H locs hp hP hD hS => ?_)
  obtain ⟨T', hT', rfl, hr'⟩ := hp
  refine lv_istore (lv' := [(6, .int r), (5, .int (nI ((spAuthorOf S (xs (4 * n + 1))).1))), (4, .int (nI (4 * n))), (0, .ref b), (1, .ref (G 0)), (2, .ref (B 0)), (3, .ref u9)]) hx hb dL_law_715 hl (by decide) rfl (fun ls hl => ?_)
  refine lv_aload_n hx hb dL_law_717 rfl (lv_at hl 5 rfl) ?_
  refine K_i (va_runV (As := []) (rest := []) ⟨hx, hb, hml, hown, hts⟩ (c_X2_thrown l _) (cwV 0 hts gL_law_X2_thrown rfl rfl rfl (by decide +kernel) ⟨Nat.le_of_ble_eq_true rfl, Nat.le_of_ble_eq_true rfl⟩) (pV hP hK hD hS hA hX (va_recv hK hP (ci := 2) (q0 := 0) rfl rfl)) rfl rfl hl.1 rfl (lv_room (Nat.le_of_ble_eq_true rfl)) dL_law_718 ⟨by show _ ≤ 601024; omega, by show _ ≤ 7293034; omega⟩) hD hS hA (fun r9 w'  H locs hp hP hD hS => ?_)
  obtain ⟨rfl, rfl⟩ := hp
  replace hP := P_perm ((LW_m (G := G') (S := (spAuthorOf S (xs (4 * n + 1))).2.2) (hd := hd') (nx := nx') (B := B) (S9 := (spAuthorOf S (xs (4 * n + 1))).2.2) (T := T') (x := (u9, .inl (cy 1, 1, .inr (.inl f'))))).symm) hP
  replace hD := D_perm ((LW_m (G := G') (S := (spAuthorOf S (xs (4 * n + 1))).2.2) (hd := hd') (nx := nx') (B := B) (S9 := (spAuthorOf S (xs (4 * n + 1))).2.2) (T := T') (x := (u9, .inl (cy 1, 1, .inr (.inl f'))))).symm) hD
  have hst := st_authorOf hI hB (xs (4 * n + 1))
  refine lv_iload hx hb dL_law_721 (lv_at hl 1 rfl) ?_
  refine lv_icmp_eq (tgt := 728) hx hb dL_law_723 (by decide) (fun cE => ?_) (fun cE => ?_)
  · refine lv_iload hx hb dL_law_728 (lv_at hl 1 rfl) ?_
    refine lv_if_ne (tgt := 745) hx hb dL_law_730 (by decide) (fun cZ => ?_) (fun cZ => ?_)
    · refine lv_goto (tgt := 1287) hx hb dL_law_745 (by decide) ?_
      refine W.widen (k := 100 + 10 * (n + 1)) (n := 2000 + 60 * (n + 1)) (by omega) (by omega) ?_
      exact hN ((spAuthorOf S (xs (4 * n + 1))).2.2) O G' hd' nx' T' f' _ _ ls hst.1 hst.2 hO' eG hP hD hS (lv_sub hl [2, 3, 4, 5, 6] rfl)
    · have h0 : (spAuthorOf S (xs (4 * n + 1))).1 = 0 := (nI_eq (Nat.lt_trans (spAuthorOf_lt S (xs (4 * n + 1))) (by decide)) (by decide)).mp cZ
      have hrr := hr' h0
      have hvv := hv h0
      refine lv_aload_n hx hb dL_law_733 rfl (lv_at hl 6 rfl) ?_
      refine lv_iconst (v := nI 0) hx hb dL_law_734 (by decide) ?_
      refine r_lald (k := 0) hx hb hK hP 0 rfl (by decide) (by decide) dL_law_735 ?_
      refine lv_iload hx hb dL_law_736 (lv_at hl 0 rfl) ?_
      refine lv_i2l (v := (r).toInt64) hx hb dL_law_738 rfl ?_
      refine r_lcmp0 hx hb dL_law_739 (by rw [hvv, hrr]) ?_
      refine lv_if_eq (tgt := 745) hx hb dL_law_740 (by decide) (fun cQ => ?_) (fun cQ => ?_)
      · refine lv_goto (tgt := 1287) hx hb dL_law_745 (by decide) ?_
        refine W.widen (k := 100 + 10 * (n + 1)) (n := 2000 + 60 * (n + 1)) (by omega) (by omega) ?_
        exact hN ((spAuthorOf S (xs (4 * n + 1))).2.2) O G' hd' nx' T' f' _ _ ls hst.1 hst.2 hO' eG hP hD hS (lv_sub hl [2, 3, 4, 5, 6] rfl)
      · exact absurd rfl cQ
  · exact absurd (by rw [hT']) cE

set_option maxHeartbeats 4000000 in
set_option maxRecDepth 100000 in
theorem law_b_behind {p : Program} {l : Launch} {e : Env} {s : State} {m : MethodId} {below : List Frame} {meth : Method} {c : Code} {b L : Nat} {xs : Nat → Int32} {D : va_G} {cy : Nat → ClassId} {B : Nat → Nat} {x0 u9 : Nat} {Q : State → Prop} (hlf : l.stackTraces = false) (C : LCx p s m c b L xs D cy) {n : Nat} (h4 : 4 * n + 4 ≤ L) (hN : Head p l e s m below meth c b D cy B x0 u9 Q (n + 1) (4 * n) 1287) : Head p l e s m below meth c b D cy B x0 u9 Q n (4 * n) 748 := by
  intro S O G hd nx T f H locs ls hI hB hO hG hP hD hS hl
  subst hG
  obtain ⟨hx, hb, hml, hown, hts, hSX, hbl, hL, hK, hX⟩ := C
  have hA : ∀ q, s.heap.size ≤ q → (fun q : Nat => s.heap.size ≤ q) q := fun _ h => h
  have hbA : ¬ (fun q : Nat => s.heap.size ≤ q) b := Nat.not_le.mpr hbl
  have hn : n ≤ 511 := by omega
  have hF := hB.few (show n < 1000 by omega)
  replace hP := P_perm (LW_c) hP
  replace hD := D_perm (LW_c) hD
  refine lv_aload_n hx hb dL_law_748 rfl (lv_at hl 2 rfl) ?_
  refine lv_aload_n hx hb dL_law_749 rfl (lv_at hl 1 rfl) ?_
  refine lv_iload hx hb dL_law_750 (lv_at hl 0 rfl) ?_
  refine lv_iconst (v := nI 1) hx hb dL_law_752 (by decide) ?_
  refine r_iadd hx hb dL_law_753 ?_
  refine r_sld (k := (4 * n) + 1) hx hb hSX hbl hbA hS (by omega) hL dL_law_754 ?_
  refine lv_aload_n hx hb dL_law_755 rfl (lv_at hl 4 rfl) ?_
  refine K_i (vx_runSW (As := [.ref (G 0), .int (xs ((4 * n) + 1)), .ref u9]) (rest := []) ⟨hx, hb, hml, hown, hts⟩ (c_L_behind l hlf hI hO (xs (4 * n + 1)) _) (vx_cwSW 3 hts gL_law_L_behind rfl rfl rfl (by decide +kernel) ⟨Nat.le_of_ble_eq_true rfl, Nat.le_of_ble_eq_true rfl⟩) (pS hP hK hD hS hA hX) rfl rfl hl.1 rfl (lv_room (Nat.le_of_ble_eq_true rfl)) dL_law_756 ⟨by show _ ≤ 601024; omega, by show _ ≤ 7293034; omega⟩) hD hS hA (fun r w'  H locs hp hP hD hS => ?_)
  obtain ⟨rfl, G', hd', nx', f', eG, rfl, hO', hv⟩ := hp
  replace hP := P_perm ((LW_c (G := G') (S := (spBehind S (xs (4 * n + 1))).2.2) (hd := hd') (nx := nx') (B := B) (S9 := S) (T := T) (x := (u9, .inl (cy 1, 1, .inr (.inl f'))))).symm.trans LW_m) hP
  replace hD := D_perm ((LW_c (G := G') (S := (spBehind S (xs (4 * n + 1))).2.2) (hd := hd') (nx := nx') (B := B) (S9 := S) (T := T) (x := (u9, .inl (cy 1, 1, .inr (.inl f'))))).symm.trans LW_m) hD
  refine lv_istore (lv' := [(5, .int (nI ((spBehind S (xs (4 * n + 1))).1))), (4, .int (nI (4 * n))), (0, .ref b), (1, .ref (G 0)), (2, .ref (B 0)), (3, .ref u9)]) hx hb dL_law_759 hl (by decide) rfl (fun ls hl => ?_)
  refine lv_aload_n hx hb dL_law_761 rfl (lv_at hl 4 rfl) ?_
  refine lv_aload_n hx hb dL_law_762 rfl (lv_at hl 2 rfl) ?_
  refine lv_iload hx hb dL_law_763 (lv_at hl 1 rfl) ?_
  refine lv_iconst (v := nI 1) hx hb dL_law_765 (by decide) ?_
  refine r_iadd hx hb dL_law_766 ?_
  refine r_sld (k := (4 * n) + 1) hx hb hSX hbl hbA hS (by omega) hL dL_law_767 ?_
  refine K_i (va_runV (As := [.int (xs ((4 * n) + 1))]) (rest := []) ⟨hx, hb, hml, hown, hts⟩ (c_X2_behind l hI (xs (4 * n + 1)) _) (cwV 1 hts gL_law_X2_behind rfl rfl rfl (by decide +kernel) ⟨Nat.le_of_ble_eq_true rfl, Nat.le_of_ble_eq_true rfl⟩) (pV hP hK hD hS hA hX (va_recv hK hP (ci := 2) (q0 := 0) rfl rfl)) rfl rfl hl.1 rfl (lv_room (Nat.le_of_ble_eq_true rfl)) dL_law_768 ⟨by show _ ≤ 601024; omega, by show _ ≤ 7293034; omega⟩) hD hS hA (fun r w'  H locs hp hP hD hS => ?_)
  obtain ⟨T', hT', rfl, hr'⟩ := hp
  refine lv_istore (lv' := [(6, .int r), (5, .int (nI ((spBehind S (xs (4 * n + 1))).1))), (4, .int (nI (4 * n))), (0, .ref b), (1, .ref (G 0)), (2, .ref (B 0)), (3, .ref u9)]) hx hb dL_law_771 hl (by decide) rfl (fun ls hl => ?_)
  refine lv_aload_n hx hb dL_law_773 rfl (lv_at hl 5 rfl) ?_
  refine K_i (va_runV (As := []) (rest := []) ⟨hx, hb, hml, hown, hts⟩ (c_X2_thrown l _) (cwV 0 hts gL_law_X2_thrown rfl rfl rfl (by decide +kernel) ⟨Nat.le_of_ble_eq_true rfl, Nat.le_of_ble_eq_true rfl⟩) (pV hP hK hD hS hA hX (va_recv hK hP (ci := 2) (q0 := 0) rfl rfl)) rfl rfl hl.1 rfl (lv_room (Nat.le_of_ble_eq_true rfl)) dL_law_774 ⟨by show _ ≤ 601024; omega, by show _ ≤ 7293034; omega⟩) hD hS hA (fun r9 w'  H locs hp hP hD hS => ?_)
  obtain ⟨rfl, rfl⟩ := hp
  replace hP := P_perm ((LW_m (G := G') (S := (spBehind S (xs (4 * n + 1))).2.2) (hd := hd') (nx := nx') (B := B) (S9 := (spBehind S (xs (4 * n + 1))).2.2) (T := T') (x := (u9, .inl (cy 1, 1, .inr (.inl f'))))).symm) hP
  replace hD := D_perm ((LW_m (G := G') (S := (spBehind S (xs (4 * n + 1))).2.2) (hd := hd') (nx := nx') (B := B) (S9 := (spBehind S (xs (4 * n + 1))).2.2) (T := T') (x := (u9, .inl (cy 1, 1, .inr (.inl f'))))).symm) hD
  have hst := st_behind hI hB (xs (4 * n + 1))
  refine lv_iload hx hb dL_law_777 (lv_at hl 1 rfl) ?_
  refine lv_icmp_eq (tgt := 784) hx hb dL_law_779 (by decide) (fun cE => ?_) (fun cE => ?_)
  · refine lv_iload hx hb dL_law_784 (lv_at hl 1 rfl) ?_
    refine lv_if_ne (tgt := 801) hx hb dL_law_786 (by decide) (fun cZ => ?_) (fun cZ => ?_)
    · refine lv_goto (tgt := 1287) hx hb dL_law_801 (by decide) ?_
      refine W.widen (k := 100 + 10 * (n + 1)) (n := 2000 + 60 * (n + 1)) (by omega) (by omega) ?_
      exact hN ((spBehind S (xs (4 * n + 1))).2.2) O G' hd' nx' T' f' _ _ ls hst.1 hst.2 hO' eG hP hD hS (lv_sub hl [2, 3, 4, 5, 6] rfl)
    · have h0 : (spBehind S (xs (4 * n + 1))).1 = 0 := (nI_eq (Nat.lt_trans (spBehind_lt S (xs (4 * n + 1))) (by decide)) (by decide)).mp cZ
      have hrr := hr' h0
      have hvv := hv h0
      refine lv_aload_n hx hb dL_law_789 rfl (lv_at hl 6 rfl) ?_
      refine lv_iconst (v := nI 0) hx hb dL_law_790 (by decide) ?_
      refine r_lald (k := 0) hx hb hK hP 0 rfl (by decide) (by decide) dL_law_791 ?_
      refine lv_iload hx hb dL_law_792 (lv_at hl 0 rfl) ?_
      refine lv_i2l (v := (r).toInt64) hx hb dL_law_794 rfl ?_
      refine r_lcmp0 hx hb dL_law_795 (by rw [hvv, hrr]) ?_
      refine lv_if_eq (tgt := 801) hx hb dL_law_796 (by decide) (fun cQ => ?_) (fun cQ => ?_)
      · refine lv_goto (tgt := 1287) hx hb dL_law_801 (by decide) ?_
        refine W.widen (k := 100 + 10 * (n + 1)) (n := 2000 + 60 * (n + 1)) (by omega) (by omega) ?_
        exact hN ((spBehind S (xs (4 * n + 1))).2.2) O G' hd' nx' T' f' _ _ ls hst.1 hst.2 hO' eG hP hD hS (lv_sub hl [2, 3, 4, 5, 6] rfl)
      · exact absurd rfl cQ
  · exact absurd (by rw [hT']) cE

set_option maxHeartbeats 4000000 in
set_option maxRecDepth 100000 in
theorem law_b_clock {p : Program} {l : Launch} {e : Env} {s : State} {m : MethodId} {below : List Frame} {meth : Method} {c : Code} {b L : Nat} {xs : Nat → Int32} {D : va_G} {cy : Nat → ClassId} {B : Nat → Nat} {x0 u9 : Nat} {Q : State → Prop} (hlf : l.stackTraces = false) (C : LCx p s m c b L xs D cy) {n : Nat} (h4 : 4 * n + 4 ≤ L) (hN : Head p l e s m below meth c b D cy B x0 u9 Q (n + 1) (4 * n) 1287) : Head p l e s m below meth c b D cy B x0 u9 Q n (4 * n) 804 := by
  intro S O G hd nx T f H locs ls hI hB hO hG hP hD hS hl
  subst hG
  obtain ⟨hx, hb, hml, hown, hts, hSX, hbl, hL, hK, hX⟩ := C
  have hA : ∀ q, s.heap.size ≤ q → (fun q : Nat => s.heap.size ≤ q) q := fun _ h => h
  have hbA : ¬ (fun q : Nat => s.heap.size ≤ q) b := Nat.not_le.mpr hbl
  have hn : n ≤ 511 := by omega
  have hF := hB.few (show n < 1000 by omega)
  replace hP := P_perm (LW_c) hP
  replace hD := D_perm (LW_c) hD
  refine lv_aload_n hx hb dL_law_804 rfl (lv_at hl 2 rfl) ?_
  refine lv_aload_n hx hb dL_law_805 rfl (lv_at hl 1 rfl) ?_
  refine lv_iload hx hb dL_law_806 (lv_at hl 0 rfl) ?_
  refine lv_iconst (v := nI 1) hx hb dL_law_808 (by decide) ?_
  refine r_iadd hx hb dL_law_809 ?_
  refine r_sld (k := (4 * n) + 1) hx hb hSX hbl hbA hS (by omega) hL dL_law_810 ?_
  refine lv_aload_n hx hb dL_law_811 rfl (lv_at hl 4 rfl) ?_
  refine K_i (vx_runSW (As := [.ref (G 0), .int (xs ((4 * n) + 1)), .ref u9]) (rest := []) ⟨hx, hb, hml, hown, hts⟩ (c_L_clock l hlf hI hO (xs (4 * n + 1)) _) (vx_cwSW 3 hts gL_law_L_clock rfl rfl rfl (by decide +kernel) ⟨Nat.le_of_ble_eq_true rfl, Nat.le_of_ble_eq_true rfl⟩) (pS hP hK hD hS hA hX) rfl rfl hl.1 rfl (lv_room (Nat.le_of_ble_eq_true rfl)) dL_law_812 ⟨by show _ ≤ 601024; omega, by show _ ≤ 7293034; omega⟩) hD hS hA (fun r w'  H locs hp hP hD hS => ?_)
  obtain ⟨rfl, G', hd', nx', f', eG, rfl, hO', hv⟩ := hp
  replace hP := P_perm ((LW_c (G := G') (S := (spClock S (xs (4 * n + 1))).2.2) (hd := hd') (nx := nx') (B := B) (S9 := S) (T := T) (x := (u9, .inl (cy 1, 1, .inr (.inl f'))))).symm.trans LW_m) hP
  replace hD := D_perm ((LW_c (G := G') (S := (spClock S (xs (4 * n + 1))).2.2) (hd := hd') (nx := nx') (B := B) (S9 := S) (T := T) (x := (u9, .inl (cy 1, 1, .inr (.inl f'))))).symm.trans LW_m) hD
  refine lv_istore (lv' := [(5, .int (nI ((spClock S (xs (4 * n + 1))).1))), (4, .int (nI (4 * n))), (0, .ref b), (1, .ref (G 0)), (2, .ref (B 0)), (3, .ref u9)]) hx hb dL_law_815 hl (by decide) rfl (fun ls hl => ?_)
  refine lv_aload_n hx hb dL_law_817 rfl (lv_at hl 4 rfl) ?_
  refine lv_aload_n hx hb dL_law_818 rfl (lv_at hl 2 rfl) ?_
  refine lv_iload hx hb dL_law_819 (lv_at hl 1 rfl) ?_
  refine lv_iconst (v := nI 1) hx hb dL_law_821 (by decide) ?_
  refine r_iadd hx hb dL_law_822 ?_
  refine r_sld (k := (4 * n) + 1) hx hb hSX hbl hbA hS (by omega) hL dL_law_823 ?_
  refine K_i (va_runV (As := [.int (xs ((4 * n) + 1))]) (rest := []) ⟨hx, hb, hml, hown, hts⟩ (c_X2_clock l (xs (4 * n + 1)) _) (cwV 1 hts gL_law_X2_clock rfl rfl rfl (by decide +kernel) ⟨Nat.le_of_ble_eq_true rfl, Nat.le_of_ble_eq_true rfl⟩) (pV hP hK hD hS hA hX (va_recv hK hP (ci := 2) (q0 := 0) rfl rfl)) rfl rfl hl.1 rfl (lv_room (Nat.le_of_ble_eq_true rfl)) dL_law_824 ⟨by show _ ≤ 601024; omega, by show _ ≤ 7293034; omega⟩) hD hS hA (fun r w'  H locs hp hP hD hS => ?_)
  obtain ⟨T', hT', rfl, hr'⟩ := hp
  refine lv_istore (lv' := [(6, .int r), (5, .int (nI ((spClock S (xs (4 * n + 1))).1))), (4, .int (nI (4 * n))), (0, .ref b), (1, .ref (G 0)), (2, .ref (B 0)), (3, .ref u9)]) hx hb dL_law_827 hl (by decide) rfl (fun ls hl => ?_)
  refine lv_aload_n hx hb dL_law_829 rfl (lv_at hl 5 rfl) ?_
  refine K_i (va_runV (As := []) (rest := []) ⟨hx, hb, hml, hown, hts⟩ (c_X2_thrown l _) (cwV 0 hts gL_law_X2_thrown rfl rfl rfl (by decide +kernel) ⟨Nat.le_of_ble_eq_true rfl, Nat.le_of_ble_eq_true rfl⟩) (pV hP hK hD hS hA hX (va_recv hK hP (ci := 2) (q0 := 0) rfl rfl)) rfl rfl hl.1 rfl (lv_room (Nat.le_of_ble_eq_true rfl)) dL_law_830 ⟨by show _ ≤ 601024; omega, by show _ ≤ 7293034; omega⟩) hD hS hA (fun r9 w'  H locs hp hP hD hS => ?_)
  obtain ⟨rfl, rfl⟩ := hp
  replace hP := P_perm ((LW_m (G := G') (S := (spClock S (xs (4 * n + 1))).2.2) (hd := hd') (nx := nx') (B := B) (S9 := (spClock S (xs (4 * n + 1))).2.2) (T := T') (x := (u9, .inl (cy 1, 1, .inr (.inl f'))))).symm) hP
  replace hD := D_perm ((LW_m (G := G') (S := (spClock S (xs (4 * n + 1))).2.2) (hd := hd') (nx := nx') (B := B) (S9 := (spClock S (xs (4 * n + 1))).2.2) (T := T') (x := (u9, .inl (cy 1, 1, .inr (.inl f'))))).symm) hD
  have hst := st_clock hI hB (xs (4 * n + 1))
  refine lv_iload hx hb dL_law_833 (lv_at hl 1 rfl) ?_
  refine lv_icmp_eq (tgt := 840) hx hb dL_law_835 (by decide) (fun cE => ?_) (fun cE => ?_)
  · refine lv_iload hx hb dL_law_840 (lv_at hl 1 rfl) ?_
    refine lv_if_ne (tgt := 857) hx hb dL_law_842 (by decide) (fun cZ => ?_) (fun cZ => ?_)
    · refine lv_goto (tgt := 1287) hx hb dL_law_857 (by decide) ?_
      refine W.widen (k := 100 + 10 * (n + 1)) (n := 2000 + 60 * (n + 1)) (by omega) (by omega) ?_
      exact hN ((spClock S (xs (4 * n + 1))).2.2) O G' hd' nx' T' f' _ _ ls hst.1 hst.2 hO' eG hP hD hS (lv_sub hl [2, 3, 4, 5, 6] rfl)
    · have h0 : (spClock S (xs (4 * n + 1))).1 = 0 := (nI_eq (Nat.lt_trans (spClock_lt S (xs (4 * n + 1))) (by decide)) (by decide)).mp cZ
      have hrr := hr' h0
      have hvv := hv h0
      refine lv_aload_n hx hb dL_law_845 rfl (lv_at hl 6 rfl) ?_
      refine lv_iconst (v := nI 0) hx hb dL_law_846 (by decide) ?_
      refine r_lald (k := 0) hx hb hK hP 0 rfl (by decide) (by decide) dL_law_847 ?_
      refine lv_iload hx hb dL_law_848 (lv_at hl 0 rfl) ?_
      refine lv_i2l (v := (r).toInt64) hx hb dL_law_850 rfl ?_
      refine r_lcmp0 hx hb dL_law_851 (by rw [hvv, hrr]) ?_
      refine lv_if_eq (tgt := 857) hx hb dL_law_852 (by decide) (fun cQ => ?_) (fun cQ => ?_)
      · refine lv_goto (tgt := 1287) hx hb dL_law_857 (by decide) ?_
        refine W.widen (k := 100 + 10 * (n + 1)) (n := 2000 + 60 * (n + 1)) (by omega) (by omega) ?_
        exact hN ((spClock S (xs (4 * n + 1))).2.2) O G' hd' nx' T' f' _ _ ls hst.1 hst.2 hO' eG hP hD hS (lv_sub hl [2, 3, 4, 5, 6] rfl)
      · exact absurd rfl cQ
  · exact absurd (by rw [hT']) cE

set_option maxHeartbeats 4000000 in
set_option maxRecDepth 100000 in
theorem law_b_print {p : Program} {l : Launch} {e : Env} {s : State} {m : MethodId} {below : List Frame} {meth : Method} {c : Code} {b L : Nat} {xs : Nat → Int32} {D : va_G} {cy : Nat → ClassId} {B : Nat → Nat} {x0 u9 : Nat} {Q : State → Prop} (hlf : l.stackTraces = false) (C : LCx p s m c b L xs D cy) {n : Nat} (h4 : 4 * n + 4 ≤ L) (hN : Head p l e s m below meth c b D cy B x0 u9 Q (n + 1) (4 * n) 1287) : Head p l e s m below meth c b D cy B x0 u9 Q n (4 * n) 860 := by
  intro S O G hd nx T f H locs ls hI hB hO hG hP hD hS hl
  subst hG
  obtain ⟨hx, hb, hml, hown, hts, hSX, hbl, hL, hK, hX⟩ := C
  have hA : ∀ q, s.heap.size ≤ q → (fun q : Nat => s.heap.size ≤ q) q := fun _ h => h
  have hbA : ¬ (fun q : Nat => s.heap.size ≤ q) b := Nat.not_le.mpr hbl
  have hn : n ≤ 511 := by omega
  have hF := hB.few (show n < 1000 by omega)
  replace hP := P_perm (LW_c) hP
  replace hD := D_perm (LW_c) hD
  refine lv_aload_n hx hb dL_law_860 rfl (lv_at hl 2 rfl) ?_
  refine lv_aload_n hx hb dL_law_861 rfl (lv_at hl 1 rfl) ?_
  refine lv_iload hx hb dL_law_862 (lv_at hl 0 rfl) ?_
  refine lv_iconst (v := nI 1) hx hb dL_law_864 (by decide) ?_
  refine r_iadd hx hb dL_law_865 ?_
  refine r_sld (k := (4 * n) + 1) hx hb hSX hbl hbA hS (by omega) hL dL_law_866 ?_
  refine lv_aload_n hx hb dL_law_867 rfl (lv_at hl 4 rfl) ?_
  refine K_i (vx_runSW (As := [.ref (G 0), .int (xs ((4 * n) + 1)), .ref u9]) (rest := []) ⟨hx, hb, hml, hown, hts⟩ (c_L_print l hlf hI hO (xs (4 * n + 1)) _) (vx_cwSW 3 hts gL_law_L_print rfl rfl rfl (by decide +kernel) ⟨Nat.le_of_ble_eq_true rfl, Nat.le_of_ble_eq_true rfl⟩) (pS hP hK hD hS hA hX) rfl rfl hl.1 rfl (lv_room (Nat.le_of_ble_eq_true rfl)) dL_law_868 ⟨by show _ ≤ 601024; omega, by show _ ≤ 7293034; omega⟩) hD hS hA (fun r w'  H locs hp hP hD hS => ?_)
  obtain ⟨rfl, G', hd', nx', f', eG, rfl, hO', hv⟩ := hp
  replace hP := P_perm ((LW_c (G := G') (S := (spPrint S O (xs (4 * n + 1))).2.2) (hd := hd') (nx := nx') (B := B) (S9 := S) (T := T) (x := (u9, .inl (cy 1, 1, .inr (.inl f'))))).symm.trans LW_m) hP
  replace hD := D_perm ((LW_c (G := G') (S := (spPrint S O (xs (4 * n + 1))).2.2) (hd := hd') (nx := nx') (B := B) (S9 := S) (T := T) (x := (u9, .inl (cy 1, 1, .inr (.inl f'))))).symm.trans LW_m) hD
  refine lv_istore (lv' := [(5, .int (nI ((spPrint S O (xs (4 * n + 1))).1))), (4, .int (nI (4 * n))), (0, .ref b), (1, .ref (G 0)), (2, .ref (B 0)), (3, .ref u9)]) hx hb dL_law_871 hl (by decide) rfl (fun ls hl => ?_)
  refine lv_aload_n hx hb dL_law_873 rfl (lv_at hl 4 rfl) ?_
  refine lv_aload_n hx hb dL_law_874 rfl (lv_at hl 2 rfl) ?_
  refine lv_iload hx hb dL_law_875 (lv_at hl 1 rfl) ?_
  refine lv_iconst (v := nI 1) hx hb dL_law_877 (by decide) ?_
  refine r_iadd hx hb dL_law_878 ?_
  refine r_sld (k := (4 * n) + 1) hx hb hSX hbl hbA hS (by omega) hL dL_law_879 ?_
  refine K_i (va_runV (As := [.int (xs ((4 * n) + 1))]) (rest := []) ⟨hx, hb, hml, hown, hts⟩ (c_X2_print l hI (xs (4 * n + 1)) _) (cwV 1 hts gL_law_X2_print rfl rfl rfl (by decide +kernel) ⟨Nat.le_of_ble_eq_true rfl, Nat.le_of_ble_eq_true rfl⟩) (pV hP hK hD hS hA hX (va_recv hK hP (ci := 2) (q0 := 0) rfl rfl)) rfl rfl hl.1 rfl (lv_room (Nat.le_of_ble_eq_true rfl)) dL_law_880 ⟨by show _ ≤ 601024; omega, by show _ ≤ 7293034; omega⟩) hD hS hA (fun r w'  H locs hp hP hD hS => ?_)
  obtain ⟨T', hT', rfl, hr'⟩ := hp
  refine lv_istore (lv' := [(6, .int r), (5, .int (nI ((spPrint S O (xs (4 * n + 1))).1))), (4, .int (nI (4 * n))), (0, .ref b), (1, .ref (G 0)), (2, .ref (B 0)), (3, .ref u9)]) hx hb dL_law_883 hl (by decide) rfl (fun ls hl => ?_)
  refine lv_aload_n hx hb dL_law_885 rfl (lv_at hl 5 rfl) ?_
  refine K_i (va_runV (As := []) (rest := []) ⟨hx, hb, hml, hown, hts⟩ (c_X2_thrown l _) (cwV 0 hts gL_law_X2_thrown rfl rfl rfl (by decide +kernel) ⟨Nat.le_of_ble_eq_true rfl, Nat.le_of_ble_eq_true rfl⟩) (pV hP hK hD hS hA hX (va_recv hK hP (ci := 2) (q0 := 0) rfl rfl)) rfl rfl hl.1 rfl (lv_room (Nat.le_of_ble_eq_true rfl)) dL_law_886 ⟨by show _ ≤ 601024; omega, by show _ ≤ 7293034; omega⟩) hD hS hA (fun r9 w'  H locs hp hP hD hS => ?_)
  obtain ⟨rfl, rfl⟩ := hp
  replace hP := P_perm ((LW_m (G := G') (S := (spPrint S O (xs (4 * n + 1))).2.2) (hd := hd') (nx := nx') (B := B) (S9 := (spPrint S O (xs (4 * n + 1))).2.2) (T := T') (x := (u9, .inl (cy 1, 1, .inr (.inl f'))))).symm) hP
  replace hD := D_perm ((LW_m (G := G') (S := (spPrint S O (xs (4 * n + 1))).2.2) (hd := hd') (nx := nx') (B := B) (S9 := (spPrint S O (xs (4 * n + 1))).2.2) (T := T') (x := (u9, .inl (cy 1, 1, .inr (.inl f'))))).symm) hD
  have hst := st_print hI hB (show n < 1000 by omega) (xs (4 * n + 1))
  refine lv_iload hx hb dL_law_889 (lv_at hl 1 rfl) ?_
  refine lv_icmp_eq (tgt := 896) hx hb dL_law_891 (by decide) (fun cE => ?_) (fun cE => ?_)
  · refine lv_iload hx hb dL_law_896 (lv_at hl 1 rfl) ?_
    refine lv_if_ne (tgt := 913) hx hb dL_law_898 (by decide) (fun cZ => ?_) (fun cZ => ?_)
    · refine lv_goto (tgt := 1287) hx hb dL_law_913 (by decide) ?_
      refine W.widen (k := 100 + 10 * (n + 1)) (n := 2000 + 60 * (n + 1)) (by omega) (by omega) ?_
      exact hN ((spPrint S O (xs (4 * n + 1))).2.2) O G' hd' nx' T' f' _ _ ls hst.1 hst.2 hO' eG hP hD hS (lv_sub hl [2, 3, 4, 5, 6] rfl)
    · have h0 : (spPrint S O (xs (4 * n + 1))).1 = 0 := (nI_eq (Nat.lt_trans (spPrint_lt S O (xs (4 * n + 1))) (by decide)) (by decide)).mp cZ
      have hrr := hr' h0
      have hvv := hv h0
      refine lv_aload_n hx hb dL_law_901 rfl (lv_at hl 6 rfl) ?_
      refine lv_iconst (v := nI 0) hx hb dL_law_902 (by decide) ?_
      refine r_lald (k := 0) hx hb hK hP 0 rfl (by decide) (by decide) dL_law_903 ?_
      refine lv_iload hx hb dL_law_904 (lv_at hl 0 rfl) ?_
      refine lv_i2l (v := (r).toInt64) hx hb dL_law_906 rfl ?_
      refine r_lcmp0 hx hb dL_law_907 (by rw [hvv, hrr]) ?_
      refine lv_if_eq (tgt := 913) hx hb dL_law_908 (by decide) (fun cQ => ?_) (fun cQ => ?_)
      · refine lv_goto (tgt := 1287) hx hb dL_law_913 (by decide) ?_
        refine W.widen (k := 100 + 10 * (n + 1)) (n := 2000 + 60 * (n + 1)) (by omega) (by omega) ?_
        exact hN ((spPrint S O (xs (4 * n + 1))).2.2) O G' hd' nx' T' f' _ _ ls hst.1 hst.2 hO' eG hP hD hS (lv_sub hl [2, 3, 4, 5, 6] rfl)
      · exact absurd rfl cQ
  · exact absurd (by rw [hT']) cE

set_option maxHeartbeats 4000000 in
set_option maxRecDepth 100000 in
theorem law_b_printed {p : Program} {l : Launch} {e : Env} {s : State} {m : MethodId} {below : List Frame} {meth : Method} {c : Code} {b L : Nat} {xs : Nat → Int32} {D : va_G} {cy : Nat → ClassId} {B : Nat → Nat} {x0 u9 : Nat} {Q : State → Prop} (hlf : l.stackTraces = false) (C : LCx p s m c b L xs D cy) {n : Nat} (h4 : 4 * n + 4 ≤ L) (hN : Head p l e s m below meth c b D cy B x0 u9 Q (n + 1) (4 * n) 1287) : Head p l e s m below meth c b D cy B x0 u9 Q n (4 * n) 916 := by
  intro S O G hd nx T f H locs ls hI hB hO hG hP hD hS hl
  subst hG
  obtain ⟨hx, hb, hml, hown, hts, hSX, hbl, hL, hK, hX⟩ := C
  have hA : ∀ q, s.heap.size ≤ q → (fun q : Nat => s.heap.size ≤ q) q := fun _ h => h
  have hbA : ¬ (fun q : Nat => s.heap.size ≤ q) b := Nat.not_le.mpr hbl
  have hn : n ≤ 511 := by omega
  have hF := hB.few (show n < 1000 by omega)
  replace hP := P_perm (LW_c) hP
  replace hD := D_perm (LW_c) hD
  refine lv_aload_n hx hb dL_law_916 rfl (lv_at hl 2 rfl) ?_
  refine lv_aload_n hx hb dL_law_917 rfl (lv_at hl 1 rfl) ?_
  refine lv_iload hx hb dL_law_918 (lv_at hl 0 rfl) ?_
  refine lv_iconst (v := nI 1) hx hb dL_law_920 (by decide) ?_
  refine r_iadd hx hb dL_law_921 ?_
  refine r_sld (k := (4 * n) + 1) hx hb hSX hbl hbA hS (by omega) hL dL_law_922 ?_
  refine lv_aload_n hx hb dL_law_923 rfl (lv_at hl 1 rfl) ?_
  refine lv_iload hx hb dL_law_924 (lv_at hl 0 rfl) ?_
  refine lv_iconst (v := nI 2) hx hb dL_law_926 (by decide) ?_
  refine r_iadd hx hb dL_law_927 ?_
  refine r_sld (k := (4 * n) + 2) hx hb hSX hbl hbA hS (by omega) hL dL_law_928 ?_
  refine lv_aload_n hx hb dL_law_929 rfl (lv_at hl 4 rfl) ?_
  refine K_i (vx_runSW (As := [.ref (G 0), .int (xs ((4 * n) + 1)), .int (xs ((4 * n) + 2)), .ref u9]) (rest := []) ⟨hx, hb, hml, hown, hts⟩ (c_L_printed l hlf hI hO (xs (4 * n + 1)) (xs (4 * n + 2)) _) (vx_cwSW 4 hts gL_law_L_printed rfl rfl rfl (by decide +kernel) ⟨Nat.le_of_ble_eq_true rfl, Nat.le_of_ble_eq_true rfl⟩) (pS hP hK hD hS hA hX) rfl rfl hl.1 rfl (lv_room (Nat.le_of_ble_eq_true rfl)) dL_law_930 ⟨by show _ ≤ 601024; omega, by show _ ≤ 7293034; omega⟩) hD hS hA (fun r w'  H locs hp hP hD hS => ?_)
  obtain ⟨rfl, G', hd', nx', f', eG, rfl, hO', hv⟩ := hp
  replace hP := P_perm ((LW_c (G := G') (S := (spPrinted S (xs (4 * n + 1)) (xs (4 * n + 2))).2.2) (hd := hd') (nx := nx') (B := B) (S9 := S) (T := T) (x := (u9, .inl (cy 1, 1, .inr (.inl f'))))).symm.trans LW_m) hP
  replace hD := D_perm ((LW_c (G := G') (S := (spPrinted S (xs (4 * n + 1)) (xs (4 * n + 2))).2.2) (hd := hd') (nx := nx') (B := B) (S9 := S) (T := T) (x := (u9, .inl (cy 1, 1, .inr (.inl f'))))).symm.trans LW_m) hD
  refine lv_istore (lv' := [(5, .int (nI ((spPrinted S (xs (4 * n + 1)) (xs (4 * n + 2))).1))), (4, .int (nI (4 * n))), (0, .ref b), (1, .ref (G 0)), (2, .ref (B 0)), (3, .ref u9)]) hx hb dL_law_933 hl (by decide) rfl (fun ls hl => ?_)
  refine lv_aload_n hx hb dL_law_935 rfl (lv_at hl 4 rfl) ?_
  refine lv_aload_n hx hb dL_law_936 rfl (lv_at hl 2 rfl) ?_
  refine lv_iload hx hb dL_law_937 (lv_at hl 1 rfl) ?_
  refine lv_iconst (v := nI 1) hx hb dL_law_939 (by decide) ?_
  refine r_iadd hx hb dL_law_940 ?_
  refine r_sld (k := (4 * n) + 1) hx hb hSX hbl hbA hS (by omega) hL dL_law_941 ?_
  refine lv_aload_n hx hb dL_law_942 rfl (lv_at hl 2 rfl) ?_
  refine lv_iload hx hb dL_law_943 (lv_at hl 1 rfl) ?_
  refine lv_iconst (v := nI 2) hx hb dL_law_945 (by decide) ?_
  refine r_iadd hx hb dL_law_946 ?_
  refine r_sld (k := (4 * n) + 2) hx hb hSX hbl hbA hS (by omega) hL dL_law_947 ?_
  refine K_i (va_runV (As := [.int (xs ((4 * n) + 1)), .int (xs ((4 * n) + 2))]) (rest := []) ⟨hx, hb, hml, hown, hts⟩ (c_X2_printed l hI (xs (4 * n + 1)) (xs (4 * n + 2)) _) (cwV 2 hts gL_law_X2_printed rfl rfl rfl (by decide +kernel) ⟨Nat.le_of_ble_eq_true rfl, Nat.le_of_ble_eq_true rfl⟩) (pV hP hK hD hS hA hX (va_recv hK hP (ci := 2) (q0 := 0) rfl rfl)) rfl rfl hl.1 rfl (lv_room (Nat.le_of_ble_eq_true rfl)) dL_law_948 ⟨by show _ ≤ 601024; omega, by show _ ≤ 7293034; omega⟩) hD hS hA (fun r w'  H locs hp hP hD hS => ?_)
  obtain ⟨T', hT', rfl, hr'⟩ := hp
  refine lv_istore (lv' := [(6, .int r), (5, .int (nI ((spPrinted S (xs (4 * n + 1)) (xs (4 * n + 2))).1))), (4, .int (nI (4 * n))), (0, .ref b), (1, .ref (G 0)), (2, .ref (B 0)), (3, .ref u9)]) hx hb dL_law_951 hl (by decide) rfl (fun ls hl => ?_)
  refine lv_aload_n hx hb dL_law_953 rfl (lv_at hl 5 rfl) ?_
  refine K_i (va_runV (As := []) (rest := []) ⟨hx, hb, hml, hown, hts⟩ (c_X2_thrown l _) (cwV 0 hts gL_law_X2_thrown rfl rfl rfl (by decide +kernel) ⟨Nat.le_of_ble_eq_true rfl, Nat.le_of_ble_eq_true rfl⟩) (pV hP hK hD hS hA hX (va_recv hK hP (ci := 2) (q0 := 0) rfl rfl)) rfl rfl hl.1 rfl (lv_room (Nat.le_of_ble_eq_true rfl)) dL_law_954 ⟨by show _ ≤ 601024; omega, by show _ ≤ 7293034; omega⟩) hD hS hA (fun r9 w'  H locs hp hP hD hS => ?_)
  obtain ⟨rfl, rfl⟩ := hp
  replace hP := P_perm ((LW_m (G := G') (S := (spPrinted S (xs (4 * n + 1)) (xs (4 * n + 2))).2.2) (hd := hd') (nx := nx') (B := B) (S9 := (spPrinted S (xs (4 * n + 1)) (xs (4 * n + 2))).2.2) (T := T') (x := (u9, .inl (cy 1, 1, .inr (.inl f'))))).symm) hP
  replace hD := D_perm ((LW_m (G := G') (S := (spPrinted S (xs (4 * n + 1)) (xs (4 * n + 2))).2.2) (hd := hd') (nx := nx') (B := B) (S9 := (spPrinted S (xs (4 * n + 1)) (xs (4 * n + 2))).2.2) (T := T') (x := (u9, .inl (cy 1, 1, .inr (.inl f'))))).symm) hD
  have hst := st_printed hI hB (xs (4 * n + 1)) (xs (4 * n + 2))
  refine lv_iload hx hb dL_law_957 (lv_at hl 1 rfl) ?_
  refine lv_icmp_eq (tgt := 964) hx hb dL_law_959 (by decide) (fun cE => ?_) (fun cE => ?_)
  · refine lv_iload hx hb dL_law_964 (lv_at hl 1 rfl) ?_
    refine lv_if_ne (tgt := 981) hx hb dL_law_966 (by decide) (fun cZ => ?_) (fun cZ => ?_)
    · refine lv_goto (tgt := 1287) hx hb dL_law_981 (by decide) ?_
      refine W.widen (k := 100 + 10 * (n + 1)) (n := 2000 + 60 * (n + 1)) (by omega) (by omega) ?_
      exact hN ((spPrinted S (xs (4 * n + 1)) (xs (4 * n + 2))).2.2) O G' hd' nx' T' f' _ _ ls hst.1 hst.2 hO' eG hP hD hS (lv_sub hl [2, 3, 4, 5, 6] rfl)
    · have h0 : (spPrinted S (xs (4 * n + 1)) (xs (4 * n + 2))).1 = 0 := (nI_eq (Nat.lt_trans (spPrinted_lt S (xs (4 * n + 1)) (xs (4 * n + 2))) (by decide)) (by decide)).mp cZ
      have hrr := hr' h0
      have hvv := hv h0
      refine lv_aload_n hx hb dL_law_969 rfl (lv_at hl 6 rfl) ?_
      refine lv_iconst (v := nI 0) hx hb dL_law_970 (by decide) ?_
      refine r_lald (k := 0) hx hb hK hP 0 rfl (by decide) (by decide) dL_law_971 ?_
      refine lv_iload hx hb dL_law_972 (lv_at hl 0 rfl) ?_
      refine lv_i2l (v := (r).toInt64) hx hb dL_law_974 rfl ?_
      refine r_lcmp0 hx hb dL_law_975 (by rw [hvv, hrr]) ?_
      refine lv_if_eq (tgt := 981) hx hb dL_law_976 (by decide) (fun cQ => ?_) (fun cQ => ?_)
      · refine lv_goto (tgt := 1287) hx hb dL_law_981 (by decide) ?_
        refine W.widen (k := 100 + 10 * (n + 1)) (n := 2000 + 60 * (n + 1)) (by omega) (by omega) ?_
        exact hN ((spPrinted S (xs (4 * n + 1)) (xs (4 * n + 2))).2.2) O G' hd' nx' T' f' _ _ ls hst.1 hst.2 hO' eG hP hD hS (lv_sub hl [2, 3, 4, 5, 6] rfl)
      · exact absurd rfl cQ
  · exact absurd (by rw [hT']) cE

set_option maxHeartbeats 4000000 in
set_option maxRecDepth 100000 in
theorem law_b_setFloor {p : Program} {l : Launch} {e : Env} {s : State} {m : MethodId} {below : List Frame} {meth : Method} {c : Code} {b L : Nat} {xs : Nat → Int32} {D : va_G} {cy : Nat → ClassId} {B : Nat → Nat} {x0 u9 : Nat} {Q : State → Prop} (hlf : l.stackTraces = false) (C : LCx p s m c b L xs D cy) {n : Nat} (h4 : 4 * n + 4 ≤ L) (hN : Head p l e s m below meth c b D cy B x0 u9 Q (n + 1) (4 * n) 1287) : Head p l e s m below meth c b D cy B x0 u9 Q n (4 * n) 984 := by
  intro S O G hd nx T f H locs ls hI hB hO hG hP hD hS hl
  subst hG
  obtain ⟨hx, hb, hml, hown, hts, hSX, hbl, hL, hK, hX⟩ := C
  have hA : ∀ q, s.heap.size ≤ q → (fun q : Nat => s.heap.size ≤ q) q := fun _ h => h
  have hbA : ¬ (fun q : Nat => s.heap.size ≤ q) b := Nat.not_le.mpr hbl
  have hn : n ≤ 511 := by omega
  have hF := hB.few (show n < 1000 by omega)
  replace hP := P_perm (LW_c) hP
  replace hD := D_perm (LW_c) hD
  refine lv_aload_n hx hb dL_law_984 rfl (lv_at hl 2 rfl) ?_
  refine lv_aload_n hx hb dL_law_985 rfl (lv_at hl 1 rfl) ?_
  refine lv_iload hx hb dL_law_986 (lv_at hl 0 rfl) ?_
  refine lv_iconst (v := nI 1) hx hb dL_law_988 (by decide) ?_
  refine r_iadd hx hb dL_law_989 ?_
  refine r_sld (k := (4 * n) + 1) hx hb hSX hbl hbA hS (by omega) hL dL_law_990 ?_
  refine lv_aload_n hx hb dL_law_991 rfl (lv_at hl 4 rfl) ?_
  refine K_i (vx_runSW (As := [.ref (G 0), .int (xs ((4 * n) + 1)), .ref u9]) (rest := []) ⟨hx, hb, hml, hown, hts⟩ (c_L_setFloor l hlf hI hO (xs (4 * n + 1)) _) (vx_cwSW 3 hts gL_law_L_setFloor rfl rfl rfl (by decide +kernel) ⟨Nat.le_of_ble_eq_true rfl, Nat.le_of_ble_eq_true rfl⟩) (pS hP hK hD hS hA hX) rfl rfl hl.1 rfl (lv_room (Nat.le_of_ble_eq_true rfl)) dL_law_992 ⟨by show _ ≤ 601024; omega, by show _ ≤ 7293034; omega⟩) hD hS hA (fun r w'  H locs hp hP hD hS => ?_)
  obtain ⟨rfl, G', hd', nx', f', eG, rfl, hO', hv⟩ := hp
  replace hP := P_perm ((LW_c (G := G') (S := (spSetFloor S (xs (4 * n + 1))).2.2) (hd := hd') (nx := nx') (B := B) (S9 := S) (T := T) (x := (u9, .inl (cy 1, 1, .inr (.inl f'))))).symm.trans LW_m) hP
  replace hD := D_perm ((LW_c (G := G') (S := (spSetFloor S (xs (4 * n + 1))).2.2) (hd := hd') (nx := nx') (B := B) (S9 := S) (T := T) (x := (u9, .inl (cy 1, 1, .inr (.inl f'))))).symm.trans LW_m) hD
  refine lv_istore (lv' := [(5, .int (nI ((spSetFloor S (xs (4 * n + 1))).1))), (4, .int (nI (4 * n))), (0, .ref b), (1, .ref (G 0)), (2, .ref (B 0)), (3, .ref u9)]) hx hb dL_law_995 hl (by decide) rfl (fun ls hl => ?_)
  refine lv_aload_n hx hb dL_law_997 rfl (lv_at hl 4 rfl) ?_
  refine lv_aload_n hx hb dL_law_998 rfl (lv_at hl 2 rfl) ?_
  refine lv_iload hx hb dL_law_999 (lv_at hl 1 rfl) ?_
  refine lv_iconst (v := nI 1) hx hb dL_law_1001 (by decide) ?_
  refine r_iadd hx hb dL_law_1002 ?_
  refine r_sld (k := (4 * n) + 1) hx hb hSX hbl hbA hS (by omega) hL dL_law_1003 ?_
  refine K_i (va_runV (As := [.int (xs ((4 * n) + 1))]) (rest := []) ⟨hx, hb, hml, hown, hts⟩ (c_X2_setFloor l (xs (4 * n + 1)) _) (cwV 1 hts gL_law_X2_setFloor rfl rfl rfl (by decide +kernel) ⟨Nat.le_of_ble_eq_true rfl, Nat.le_of_ble_eq_true rfl⟩) (pV hP hK hD hS hA hX (va_recv hK hP (ci := 2) (q0 := 0) rfl rfl)) rfl rfl hl.1 rfl (lv_room (Nat.le_of_ble_eq_true rfl)) dL_law_1004 ⟨by show _ ≤ 601024; omega, by show _ ≤ 7293034; omega⟩) hD hS hA (fun r w'  H locs hp hP hD hS => ?_)
  obtain ⟨T', hT', rfl, hr'⟩ := hp
  refine lv_istore (lv' := [(6, .int r), (5, .int (nI ((spSetFloor S (xs (4 * n + 1))).1))), (4, .int (nI (4 * n))), (0, .ref b), (1, .ref (G 0)), (2, .ref (B 0)), (3, .ref u9)]) hx hb dL_law_1007 hl (by decide) rfl (fun ls hl => ?_)
  refine lv_aload_n hx hb dL_law_1009 rfl (lv_at hl 5 rfl) ?_
  refine K_i (va_runV (As := []) (rest := []) ⟨hx, hb, hml, hown, hts⟩ (c_X2_thrown l _) (cwV 0 hts gL_law_X2_thrown rfl rfl rfl (by decide +kernel) ⟨Nat.le_of_ble_eq_true rfl, Nat.le_of_ble_eq_true rfl⟩) (pV hP hK hD hS hA hX (va_recv hK hP (ci := 2) (q0 := 0) rfl rfl)) rfl rfl hl.1 rfl (lv_room (Nat.le_of_ble_eq_true rfl)) dL_law_1010 ⟨by show _ ≤ 601024; omega, by show _ ≤ 7293034; omega⟩) hD hS hA (fun r9 w'  H locs hp hP hD hS => ?_)
  obtain ⟨rfl, rfl⟩ := hp
  replace hP := P_perm ((LW_m (G := G') (S := (spSetFloor S (xs (4 * n + 1))).2.2) (hd := hd') (nx := nx') (B := B) (S9 := (spSetFloor S (xs (4 * n + 1))).2.2) (T := T') (x := (u9, .inl (cy 1, 1, .inr (.inl f'))))).symm) hP
  replace hD := D_perm ((LW_m (G := G') (S := (spSetFloor S (xs (4 * n + 1))).2.2) (hd := hd') (nx := nx') (B := B) (S9 := (spSetFloor S (xs (4 * n + 1))).2.2) (T := T') (x := (u9, .inl (cy 1, 1, .inr (.inl f'))))).symm) hD
  have hst := st_setFloor hI hB (show n < 1000 by omega) (xs (4 * n + 1))
  refine lv_iload hx hb dL_law_1013 (lv_at hl 1 rfl) ?_
  refine lv_icmp_eq (tgt := 1020) hx hb dL_law_1015 (by decide) (fun cE => ?_) (fun cE => ?_)
  · refine lv_iload hx hb dL_law_1020 (lv_at hl 1 rfl) ?_
    refine lv_if_ne (tgt := 1037) hx hb dL_law_1022 (by decide) (fun cZ => ?_) (fun cZ => ?_)
    · refine lv_goto (tgt := 1287) hx hb dL_law_1037 (by decide) ?_
      refine W.widen (k := 100 + 10 * (n + 1)) (n := 2000 + 60 * (n + 1)) (by omega) (by omega) ?_
      exact hN ((spSetFloor S (xs (4 * n + 1))).2.2) O G' hd' nx' T' f' _ _ ls hst.1 hst.2 hO' eG hP hD hS (lv_sub hl [2, 3, 4, 5, 6] rfl)
    · have h0 : (spSetFloor S (xs (4 * n + 1))).1 = 0 := (nI_eq (Nat.lt_trans (spSetFloor_lt S (xs (4 * n + 1))) (by decide)) (by decide)).mp cZ
      have hrr := hr' h0
      have hvv := hv h0
      refine lv_aload_n hx hb dL_law_1025 rfl (lv_at hl 6 rfl) ?_
      refine lv_iconst (v := nI 0) hx hb dL_law_1026 (by decide) ?_
      refine r_lald (k := 0) hx hb hK hP 0 rfl (by decide) (by decide) dL_law_1027 ?_
      refine lv_iload hx hb dL_law_1028 (lv_at hl 0 rfl) ?_
      refine lv_i2l (v := (r).toInt64) hx hb dL_law_1030 rfl ?_
      refine r_lcmp0 hx hb dL_law_1031 (by rw [hvv, hrr]) ?_
      refine lv_if_eq (tgt := 1037) hx hb dL_law_1032 (by decide) (fun cQ => ?_) (fun cQ => ?_)
      · refine lv_goto (tgt := 1287) hx hb dL_law_1037 (by decide) ?_
        refine W.widen (k := 100 + 10 * (n + 1)) (n := 2000 + 60 * (n + 1)) (by omega) (by omega) ?_
        exact hN ((spSetFloor S (xs (4 * n + 1))).2.2) O G' hd' nx' T' f' _ _ ls hst.1 hst.2 hO' eG hP hD hS (lv_sub hl [2, 3, 4, 5, 6] rfl)
      · exact absurd rfl cQ
  · exact absurd (by rw [hT']) cE

set_option maxHeartbeats 4000000 in
set_option maxRecDepth 100000 in
theorem law_b_advance {p : Program} {l : Launch} {e : Env} {s : State} {m : MethodId} {below : List Frame} {meth : Method} {c : Code} {b L : Nat} {xs : Nat → Int32} {D : va_G} {cy : Nat → ClassId} {B : Nat → Nat} {x0 u9 : Nat} {Q : State → Prop} (hlf : l.stackTraces = false) (C : LCx p s m c b L xs D cy) {n : Nat} (h4 : 4 * n + 4 ≤ L) (hN : Head p l e s m below meth c b D cy B x0 u9 Q (n + 1) (4 * n) 1287) : Head p l e s m below meth c b D cy B x0 u9 Q n (4 * n) 1040 := by
  intro S O G hd nx T f H locs ls hI hB hO hG hP hD hS hl
  subst hG
  obtain ⟨hx, hb, hml, hown, hts, hSX, hbl, hL, hK, hX⟩ := C
  have hA : ∀ q, s.heap.size ≤ q → (fun q : Nat => s.heap.size ≤ q) q := fun _ h => h
  have hbA : ¬ (fun q : Nat => s.heap.size ≤ q) b := Nat.not_le.mpr hbl
  have hn : n ≤ 511 := by omega
  have hF := hB.few (show n < 1000 by omega)
  replace hP := P_perm (LW_c) hP
  replace hD := D_perm (LW_c) hD
  refine lv_aload_n hx hb dL_law_1040 rfl (lv_at hl 2 rfl) ?_
  refine lv_aload_n hx hb dL_law_1041 rfl (lv_at hl 1 rfl) ?_
  refine lv_iload hx hb dL_law_1042 (lv_at hl 0 rfl) ?_
  refine lv_iconst (v := nI 1) hx hb dL_law_1044 (by decide) ?_
  refine r_iadd hx hb dL_law_1045 ?_
  refine r_sld (k := (4 * n) + 1) hx hb hSX hbl hbA hS (by omega) hL dL_law_1046 ?_
  refine lv_aload_n hx hb dL_law_1047 rfl (lv_at hl 1 rfl) ?_
  refine lv_iload hx hb dL_law_1048 (lv_at hl 0 rfl) ?_
  refine lv_iconst (v := nI 2) hx hb dL_law_1050 (by decide) ?_
  refine r_iadd hx hb dL_law_1051 ?_
  refine r_sld (k := (4 * n) + 2) hx hb hSX hbl hbA hS (by omega) hL dL_law_1052 ?_
  refine lv_aload_n hx hb dL_law_1053 rfl (lv_at hl 4 rfl) ?_
  refine K_i (vx_runSW (As := [.ref (G 0), .int (xs ((4 * n) + 1)), .int (xs ((4 * n) + 2)), .ref u9]) (rest := []) ⟨hx, hb, hml, hown, hts⟩ (c_L_advance l hlf hI hO (xs (4 * n + 1)) (xs (4 * n + 2)) _) (vx_cwSW 4 hts gL_law_L_advance rfl rfl rfl (by decide +kernel) ⟨Nat.le_of_ble_eq_true rfl, Nat.le_of_ble_eq_true rfl⟩) (pS hP hK hD hS hA hX) rfl rfl hl.1 rfl (lv_room (Nat.le_of_ble_eq_true rfl)) dL_law_1054 ⟨by show _ ≤ 601024; omega, by show _ ≤ 7293034; omega⟩) hD hS hA (fun r w'  H locs hp hP hD hS => ?_)
  obtain ⟨rfl, G', hd', nx', f', eG, rfl, hO', hv⟩ := hp
  replace hP := P_perm ((LW_c (G := G') (S := (spAdvance S (xs (4 * n + 1)) (xs (4 * n + 2))).2.2) (hd := hd') (nx := nx') (B := B) (S9 := S) (T := T) (x := (u9, .inl (cy 1, 1, .inr (.inl f'))))).symm.trans LW_m) hP
  replace hD := D_perm ((LW_c (G := G') (S := (spAdvance S (xs (4 * n + 1)) (xs (4 * n + 2))).2.2) (hd := hd') (nx := nx') (B := B) (S9 := S) (T := T) (x := (u9, .inl (cy 1, 1, .inr (.inl f'))))).symm.trans LW_m) hD
  refine lv_istore (lv' := [(5, .int (nI ((spAdvance S (xs (4 * n + 1)) (xs (4 * n + 2))).1))), (4, .int (nI (4 * n))), (0, .ref b), (1, .ref (G 0)), (2, .ref (B 0)), (3, .ref u9)]) hx hb dL_law_1057 hl (by decide) rfl (fun ls hl => ?_)
  refine lv_aload_n hx hb dL_law_1059 rfl (lv_at hl 4 rfl) ?_
  refine lv_aload_n hx hb dL_law_1060 rfl (lv_at hl 2 rfl) ?_
  refine lv_iload hx hb dL_law_1061 (lv_at hl 1 rfl) ?_
  refine lv_iconst (v := nI 1) hx hb dL_law_1063 (by decide) ?_
  refine r_iadd hx hb dL_law_1064 ?_
  refine r_sld (k := (4 * n) + 1) hx hb hSX hbl hbA hS (by omega) hL dL_law_1065 ?_
  refine lv_aload_n hx hb dL_law_1066 rfl (lv_at hl 2 rfl) ?_
  refine lv_iload hx hb dL_law_1067 (lv_at hl 1 rfl) ?_
  refine lv_iconst (v := nI 2) hx hb dL_law_1069 (by decide) ?_
  refine r_iadd hx hb dL_law_1070 ?_
  refine r_sld (k := (4 * n) + 2) hx hb hSX hbl hbA hS (by omega) hL dL_law_1071 ?_
  refine K_i (va_runV (As := [.int (xs ((4 * n) + 1)), .int (xs ((4 * n) + 2))]) (rest := []) ⟨hx, hb, hml, hown, hts⟩ (c_X2_advance l (xs (4 * n + 1)) (xs (4 * n + 2)) _) (cwV 2 hts gL_law_X2_advance rfl rfl rfl (by decide +kernel) ⟨Nat.le_of_ble_eq_true rfl, Nat.le_of_ble_eq_true rfl⟩) (pV hP hK hD hS hA hX (va_recv hK hP (ci := 2) (q0 := 0) rfl rfl)) rfl rfl hl.1 rfl (lv_room (Nat.le_of_ble_eq_true rfl)) dL_law_1072 ⟨by show _ ≤ 601024; omega, by show _ ≤ 7293034; omega⟩) hD hS hA (fun r w'  H locs hp hP hD hS => ?_)
  obtain ⟨T', hT', rfl, hr'⟩ := hp
  refine lv_istore (lv' := [(6, .int r), (5, .int (nI ((spAdvance S (xs (4 * n + 1)) (xs (4 * n + 2))).1))), (4, .int (nI (4 * n))), (0, .ref b), (1, .ref (G 0)), (2, .ref (B 0)), (3, .ref u9)]) hx hb dL_law_1075 hl (by decide) rfl (fun ls hl => ?_)
  refine lv_aload_n hx hb dL_law_1077 rfl (lv_at hl 5 rfl) ?_
  refine K_i (va_runV (As := []) (rest := []) ⟨hx, hb, hml, hown, hts⟩ (c_X2_thrown l _) (cwV 0 hts gL_law_X2_thrown rfl rfl rfl (by decide +kernel) ⟨Nat.le_of_ble_eq_true rfl, Nat.le_of_ble_eq_true rfl⟩) (pV hP hK hD hS hA hX (va_recv hK hP (ci := 2) (q0 := 0) rfl rfl)) rfl rfl hl.1 rfl (lv_room (Nat.le_of_ble_eq_true rfl)) dL_law_1078 ⟨by show _ ≤ 601024; omega, by show _ ≤ 7293034; omega⟩) hD hS hA (fun r9 w'  H locs hp hP hD hS => ?_)
  obtain ⟨rfl, rfl⟩ := hp
  replace hP := P_perm ((LW_m (G := G') (S := (spAdvance S (xs (4 * n + 1)) (xs (4 * n + 2))).2.2) (hd := hd') (nx := nx') (B := B) (S9 := (spAdvance S (xs (4 * n + 1)) (xs (4 * n + 2))).2.2) (T := T') (x := (u9, .inl (cy 1, 1, .inr (.inl f'))))).symm) hP
  replace hD := D_perm ((LW_m (G := G') (S := (spAdvance S (xs (4 * n + 1)) (xs (4 * n + 2))).2.2) (hd := hd') (nx := nx') (B := B) (S9 := (spAdvance S (xs (4 * n + 1)) (xs (4 * n + 2))).2.2) (T := T') (x := (u9, .inl (cy 1, 1, .inr (.inl f'))))).symm) hD
  have hst := st_advance hI hB (show n < 1000 by omega) (xs (4 * n + 1)) (xs (4 * n + 2))
  refine lv_iload hx hb dL_law_1081 (lv_at hl 1 rfl) ?_
  refine lv_icmp_eq (tgt := 1088) hx hb dL_law_1083 (by decide) (fun cE => ?_) (fun cE => ?_)
  · refine lv_iload hx hb dL_law_1088 (lv_at hl 1 rfl) ?_
    refine lv_if_ne (tgt := 1105) hx hb dL_law_1090 (by decide) (fun cZ => ?_) (fun cZ => ?_)
    · refine lv_goto (tgt := 1287) hx hb dL_law_1105 (by decide) ?_
      refine W.widen (k := 100 + 10 * (n + 1)) (n := 2000 + 60 * (n + 1)) (by omega) (by omega) ?_
      exact hN ((spAdvance S (xs (4 * n + 1)) (xs (4 * n + 2))).2.2) O G' hd' nx' T' f' _ _ ls hst.1 hst.2 hO' eG hP hD hS (lv_sub hl [2, 3, 4, 5, 6] rfl)
    · have h0 : (spAdvance S (xs (4 * n + 1)) (xs (4 * n + 2))).1 = 0 := (nI_eq (Nat.lt_trans (spAdvance_lt S (xs (4 * n + 1)) (xs (4 * n + 2))) (by decide)) (by decide)).mp cZ
      have hrr := hr' h0
      have hvv := hv h0
      refine lv_aload_n hx hb dL_law_1093 rfl (lv_at hl 6 rfl) ?_
      refine lv_iconst (v := nI 0) hx hb dL_law_1094 (by decide) ?_
      refine r_lald (k := 0) hx hb hK hP 0 rfl (by decide) (by decide) dL_law_1095 ?_
      refine lv_iload hx hb dL_law_1096 (lv_at hl 0 rfl) ?_
      refine lv_i2l (v := (r).toInt64) hx hb dL_law_1098 rfl ?_
      refine r_lcmp0 hx hb dL_law_1099 (by rw [hvv, hrr]) ?_
      refine lv_if_eq (tgt := 1105) hx hb dL_law_1100 (by decide) (fun cQ => ?_) (fun cQ => ?_)
      · refine lv_goto (tgt := 1287) hx hb dL_law_1105 (by decide) ?_
        refine W.widen (k := 100 + 10 * (n + 1)) (n := 2000 + 60 * (n + 1)) (by omega) (by omega) ?_
        exact hN ((spAdvance S (xs (4 * n + 1)) (xs (4 * n + 2))).2.2) O G' hd' nx' T' f' _ _ ls hst.1 hst.2 hO' eG hP hD hS (lv_sub hl [2, 3, 4, 5, 6] rfl)
      · exact absurd rfl cQ
  · exact absurd (by rw [hT']) cE

set_option maxHeartbeats 4000000 in
set_option maxRecDepth 100000 in
theorem law_b_sell {p : Program} {l : Launch} {e : Env} {s : State} {m : MethodId} {below : List Frame} {meth : Method} {c : Code} {b L : Nat} {xs : Nat → Int32} {D : va_G} {cy : Nat → ClassId} {B : Nat → Nat} {x0 u9 : Nat} {Q : State → Prop} (hlf : l.stackTraces = false) (C : LCx p s m c b L xs D cy) {n : Nat} (h4 : 4 * n + 4 ≤ L) (hN : Head p l e s m below meth c b D cy B x0 u9 Q (n + 1) (4 * n) 1287) : Head p l e s m below meth c b D cy B x0 u9 Q n (4 * n) 1108 := by
  intro S O G hd nx T f H locs ls hI hB hO hG hP hD hS hl
  subst hG
  obtain ⟨hx, hb, hml, hown, hts, hSX, hbl, hL, hK, hX⟩ := C
  have hA : ∀ q, s.heap.size ≤ q → (fun q : Nat => s.heap.size ≤ q) q := fun _ h => h
  have hbA : ¬ (fun q : Nat => s.heap.size ≤ q) b := Nat.not_le.mpr hbl
  have hn : n ≤ 511 := by omega
  have hF := hB.few (show n < 1000 by omega)
  replace hP := P_perm (LW_c) hP
  replace hD := D_perm (LW_c) hD
  refine lv_aload_n hx hb dL_law_1108 rfl (lv_at hl 2 rfl) ?_
  refine lv_aload_n hx hb dL_law_1109 rfl (lv_at hl 1 rfl) ?_
  refine lv_iload hx hb dL_law_1110 (lv_at hl 0 rfl) ?_
  refine lv_iconst (v := nI 1) hx hb dL_law_1112 (by decide) ?_
  refine r_iadd hx hb dL_law_1113 ?_
  refine r_sld (k := (4 * n) + 1) hx hb hSX hbl hbA hS (by omega) hL dL_law_1114 ?_
  refine lv_aload_n hx hb dL_law_1115 rfl (lv_at hl 1 rfl) ?_
  refine lv_iload hx hb dL_law_1116 (lv_at hl 0 rfl) ?_
  refine lv_iconst (v := nI 2) hx hb dL_law_1118 (by decide) ?_
  refine r_iadd hx hb dL_law_1119 ?_
  refine r_sld (k := (4 * n) + 2) hx hb hSX hbl hbA hS (by omega) hL dL_law_1120 ?_
  refine lv_aload_n hx hb dL_law_1121 rfl (lv_at hl 4 rfl) ?_
  refine K_i (vx_runSW (As := [.ref (G 0), .int (xs ((4 * n) + 1)), .int (xs ((4 * n) + 2)), .ref u9]) (rest := []) ⟨hx, hb, hml, hown, hts⟩ (c_L_sell l hlf hI hO (xs (4 * n + 1)) (xs (4 * n + 2)) _) (vx_cwSW 4 hts gL_law_L_sell rfl rfl rfl (by decide +kernel) ⟨Nat.le_of_ble_eq_true rfl, Nat.le_of_ble_eq_true rfl⟩) (pS hP hK hD hS hA hX) rfl rfl hl.1 rfl (lv_room (Nat.le_of_ble_eq_true rfl)) dL_law_1122 ⟨by show _ ≤ 601024; omega, by show _ ≤ 7293034; omega⟩) hD hS hA (fun r w'  H locs hp hP hD hS => ?_)
  obtain ⟨rfl, G', hd', nx', f', eG, rfl, hO', hv⟩ := hp
  replace hP := P_perm ((LW_c (G := G') (S := (spSell S (xs (4 * n + 1)) (xs (4 * n + 2))).2.2) (hd := hd') (nx := nx') (B := B) (S9 := S) (T := T) (x := (u9, .inl (cy 1, 1, .inr (.inl f'))))).symm.trans LW_m) hP
  replace hD := D_perm ((LW_c (G := G') (S := (spSell S (xs (4 * n + 1)) (xs (4 * n + 2))).2.2) (hd := hd') (nx := nx') (B := B) (S9 := S) (T := T) (x := (u9, .inl (cy 1, 1, .inr (.inl f'))))).symm.trans LW_m) hD
  refine lv_istore (lv' := [(5, .int (nI ((spSell S (xs (4 * n + 1)) (xs (4 * n + 2))).1))), (4, .int (nI (4 * n))), (0, .ref b), (1, .ref (G 0)), (2, .ref (B 0)), (3, .ref u9)]) hx hb dL_law_1125 hl (by decide) rfl (fun ls hl => ?_)
  refine lv_aload_n hx hb dL_law_1127 rfl (lv_at hl 4 rfl) ?_
  refine lv_aload_n hx hb dL_law_1128 rfl (lv_at hl 2 rfl) ?_
  refine lv_iload hx hb dL_law_1129 (lv_at hl 1 rfl) ?_
  refine lv_iconst (v := nI 1) hx hb dL_law_1131 (by decide) ?_
  refine r_iadd hx hb dL_law_1132 ?_
  refine r_sld (k := (4 * n) + 1) hx hb hSX hbl hbA hS (by omega) hL dL_law_1133 ?_
  refine lv_aload_n hx hb dL_law_1134 rfl (lv_at hl 2 rfl) ?_
  refine lv_iload hx hb dL_law_1135 (lv_at hl 1 rfl) ?_
  refine lv_iconst (v := nI 2) hx hb dL_law_1137 (by decide) ?_
  refine r_iadd hx hb dL_law_1138 ?_
  refine r_sld (k := (4 * n) + 2) hx hb hSX hbl hbA hS (by omega) hL dL_law_1139 ?_
  refine K_i (va_runV (As := [.int (xs ((4 * n) + 1)), .int (xs ((4 * n) + 2))]) (rest := []) ⟨hx, hb, hml, hown, hts⟩ (c_X2_sell l hI (xs (4 * n + 1)) (xs (4 * n + 2)) _) (cwV 2 hts gL_law_X2_sell rfl rfl rfl (by decide +kernel) ⟨Nat.le_of_ble_eq_true rfl, Nat.le_of_ble_eq_true rfl⟩) (pV hP hK hD hS hA hX (va_recv hK hP (ci := 2) (q0 := 0) rfl rfl)) rfl rfl hl.1 rfl (lv_room (Nat.le_of_ble_eq_true rfl)) dL_law_1140 ⟨by show _ ≤ 601024; omega, by show _ ≤ 7293034; omega⟩) hD hS hA (fun r w'  H locs hp hP hD hS => ?_)
  obtain ⟨T', hT', rfl, hr'⟩ := hp
  refine lv_istore (lv' := [(6, .int r), (5, .int (nI ((spSell S (xs (4 * n + 1)) (xs (4 * n + 2))).1))), (4, .int (nI (4 * n))), (0, .ref b), (1, .ref (G 0)), (2, .ref (B 0)), (3, .ref u9)]) hx hb dL_law_1143 hl (by decide) rfl (fun ls hl => ?_)
  refine lv_aload_n hx hb dL_law_1145 rfl (lv_at hl 5 rfl) ?_
  refine K_i (va_runV (As := []) (rest := []) ⟨hx, hb, hml, hown, hts⟩ (c_X2_thrown l _) (cwV 0 hts gL_law_X2_thrown rfl rfl rfl (by decide +kernel) ⟨Nat.le_of_ble_eq_true rfl, Nat.le_of_ble_eq_true rfl⟩) (pV hP hK hD hS hA hX (va_recv hK hP (ci := 2) (q0 := 0) rfl rfl)) rfl rfl hl.1 rfl (lv_room (Nat.le_of_ble_eq_true rfl)) dL_law_1146 ⟨by show _ ≤ 601024; omega, by show _ ≤ 7293034; omega⟩) hD hS hA (fun r9 w'  H locs hp hP hD hS => ?_)
  obtain ⟨rfl, rfl⟩ := hp
  replace hP := P_perm ((LW_m (G := G') (S := (spSell S (xs (4 * n + 1)) (xs (4 * n + 2))).2.2) (hd := hd') (nx := nx') (B := B) (S9 := (spSell S (xs (4 * n + 1)) (xs (4 * n + 2))).2.2) (T := T') (x := (u9, .inl (cy 1, 1, .inr (.inl f'))))).symm) hP
  replace hD := D_perm ((LW_m (G := G') (S := (spSell S (xs (4 * n + 1)) (xs (4 * n + 2))).2.2) (hd := hd') (nx := nx') (B := B) (S9 := (spSell S (xs (4 * n + 1)) (xs (4 * n + 2))).2.2) (T := T') (x := (u9, .inl (cy 1, 1, .inr (.inl f'))))).symm) hD
  have hst := st_sell hI hB (show n < 1000 by omega) (xs (4 * n + 1)) (xs (4 * n + 2))
  refine lv_iload hx hb dL_law_1149 (lv_at hl 1 rfl) ?_
  refine lv_icmp_eq (tgt := 1156) hx hb dL_law_1151 (by decide) (fun cE => ?_) (fun cE => ?_)
  · refine lv_iload hx hb dL_law_1156 (lv_at hl 1 rfl) ?_
    refine lv_if_ne (tgt := 1173) hx hb dL_law_1158 (by decide) (fun cZ => ?_) (fun cZ => ?_)
    · refine lv_goto (tgt := 1287) hx hb dL_law_1173 (by decide) ?_
      refine W.widen (k := 100 + 10 * (n + 1)) (n := 2000 + 60 * (n + 1)) (by omega) (by omega) ?_
      exact hN ((spSell S (xs (4 * n + 1)) (xs (4 * n + 2))).2.2) O G' hd' nx' T' f' _ _ ls hst.1 hst.2 hO' eG hP hD hS (lv_sub hl [2, 3, 4, 5, 6] rfl)
    · have h0 : (spSell S (xs (4 * n + 1)) (xs (4 * n + 2))).1 = 0 := (nI_eq (Nat.lt_trans (spSell_lt S (xs (4 * n + 1)) (xs (4 * n + 2))) (by decide)) (by decide)).mp cZ
      have hrr := hr' h0
      have hvv := hv h0
      refine lv_aload_n hx hb dL_law_1161 rfl (lv_at hl 6 rfl) ?_
      refine lv_iconst (v := nI 0) hx hb dL_law_1162 (by decide) ?_
      refine r_lald (k := 0) hx hb hK hP 0 rfl (by decide) (by decide) dL_law_1163 ?_
      refine lv_iload hx hb dL_law_1164 (lv_at hl 0 rfl) ?_
      refine lv_i2l (v := (r).toInt64) hx hb dL_law_1166 rfl ?_
      refine r_lcmp0 hx hb dL_law_1167 (by rw [hvv, hrr]) ?_
      refine lv_if_eq (tgt := 1173) hx hb dL_law_1168 (by decide) (fun cQ => ?_) (fun cQ => ?_)
      · refine lv_goto (tgt := 1287) hx hb dL_law_1173 (by decide) ?_
        refine W.widen (k := 100 + 10 * (n + 1)) (n := 2000 + 60 * (n + 1)) (by omega) (by omega) ?_
        exact hN ((spSell S (xs (4 * n + 1)) (xs (4 * n + 2))).2.2) O G' hd' nx' T' f' _ _ ls hst.1 hst.2 hO' eG hP hD hS (lv_sub hl [2, 3, 4, 5, 6] rfl)
      · exact absurd rfl cQ
  · exact absurd (by rw [hT']) cE

set_option maxHeartbeats 4000000 in
set_option maxRecDepth 100000 in
theorem law_b_paid {p : Program} {l : Launch} {e : Env} {s : State} {m : MethodId} {below : List Frame} {meth : Method} {c : Code} {b L : Nat} {xs : Nat → Int32} {D : va_G} {cy : Nat → ClassId} {B : Nat → Nat} {x0 u9 : Nat} {Q : State → Prop} (hlf : l.stackTraces = false) (C : LCx p s m c b L xs D cy) {n : Nat} (h4 : 4 * n + 4 ≤ L) (hN : Head p l e s m below meth c b D cy B x0 u9 Q (n + 1) (4 * n) 1287) : Head p l e s m below meth c b D cy B x0 u9 Q n (4 * n) 1176 := by
  intro S O G hd nx T f H locs ls hI hB hO hG hP hD hS hl
  subst hG
  obtain ⟨hx, hb, hml, hown, hts, hSX, hbl, hL, hK, hX⟩ := C
  have hA : ∀ q, s.heap.size ≤ q → (fun q : Nat => s.heap.size ≤ q) q := fun _ h => h
  have hbA : ¬ (fun q : Nat => s.heap.size ≤ q) b := Nat.not_le.mpr hbl
  have hn : n ≤ 511 := by omega
  have hF := hB.few (show n < 1000 by omega)
  replace hP := P_perm (LW_c) hP
  replace hD := D_perm (LW_c) hD
  refine lv_aload_n hx hb dL_law_1176 rfl (lv_at hl 2 rfl) ?_
  refine lv_aload_n hx hb dL_law_1177 rfl (lv_at hl 1 rfl) ?_
  refine lv_iload hx hb dL_law_1178 (lv_at hl 0 rfl) ?_
  refine lv_iconst (v := nI 1) hx hb dL_law_1180 (by decide) ?_
  refine r_iadd hx hb dL_law_1181 ?_
  refine r_sld (k := (4 * n) + 1) hx hb hSX hbl hbA hS (by omega) hL dL_law_1182 ?_
  refine lv_aload_n hx hb dL_law_1183 rfl (lv_at hl 4 rfl) ?_
  refine K_i (vx_runSW (As := [.ref (G 0), .int (xs ((4 * n) + 1)), .ref u9]) (rest := []) ⟨hx, hb, hml, hown, hts⟩ (c_L_paid l hlf hI hO (xs (4 * n + 1)) _) (vx_cwSW 3 hts gL_law_L_paid rfl rfl rfl (by decide +kernel) ⟨Nat.le_of_ble_eq_true rfl, Nat.le_of_ble_eq_true rfl⟩) (pS hP hK hD hS hA hX) rfl rfl hl.1 rfl (lv_room (Nat.le_of_ble_eq_true rfl)) dL_law_1184 ⟨by show _ ≤ 601024; omega, by show _ ≤ 7293034; omega⟩) hD hS hA (fun r w'  H locs hp hP hD hS => ?_)
  obtain ⟨rfl, G', hd', nx', f', eG, rfl, hO', hv⟩ := hp
  replace hP := P_perm ((LW_c (G := G') (S := S) (hd := hd') (nx := nx') (B := B) (S9 := S) (T := T) (x := (u9, .inl (cy 1, 1, .inr (.inl f'))))).symm.trans LW_m) hP
  replace hD := D_perm ((LW_c (G := G') (S := S) (hd := hd') (nx := nx') (B := B) (S9 := S) (T := T) (x := (u9, .inl (cy 1, 1, .inr (.inl f'))))).symm.trans LW_m) hD
  refine lv_istore (lv' := [(5, .int (nI (cPaid (xs (4 * n + 1))))), (4, .int (nI (4 * n))), (0, .ref b), (1, .ref (G 0)), (2, .ref (B 0)), (3, .ref u9)]) hx hb dL_law_1187 hl (by decide) rfl (fun ls hl => ?_)
  refine lv_aload_n hx hb dL_law_1189 rfl (lv_at hl 4 rfl) ?_
  refine lv_aload_n hx hb dL_law_1190 rfl (lv_at hl 2 rfl) ?_
  refine lv_iload hx hb dL_law_1191 (lv_at hl 1 rfl) ?_
  refine lv_iconst (v := nI 1) hx hb dL_law_1193 (by decide) ?_
  refine r_iadd hx hb dL_law_1194 ?_
  refine r_sld (k := (4 * n) + 1) hx hb hSX hbl hbA hS (by omega) hL dL_law_1195 ?_
  refine K_l (va_runV (As := [.int (xs ((4 * n) + 1))]) (rest := []) ⟨hx, hb, hml, hown, hts⟩ (c_X2_paid l (xs (4 * n + 1)) _) (cwV 1 hts gL_law_X2_paid rfl rfl rfl (by decide +kernel) ⟨Nat.le_of_ble_eq_true rfl, Nat.le_of_ble_eq_true rfl⟩) (pV hP hK hD hS hA hX (va_recv hK hP (ci := 2) (q0 := 0) rfl rfl)) rfl rfl hl.1 rfl (lv_room (Nat.le_of_ble_eq_true rfl)) dL_law_1196 ⟨by show _ ≤ 601024; omega, by show _ ≤ 7293034; omega⟩) hD hS hA (fun r w'  H locs hp hP hD hS => ?_)
  obtain ⟨T', hT', rfl, hr'⟩ := hp
  refine lv_lstore (lv' := [(6, .long r), (5, .int (nI (cPaid (xs (4 * n + 1))))), (4, .int (nI (4 * n))), (0, .ref b), (1, .ref (G 0)), (2, .ref (B 0)), (3, .ref u9)]) hx hb dL_law_1199 hl (by decide) rfl (fun ls hl => ?_)
  refine lv_aload_n hx hb dL_law_1201 rfl (lv_at hl 5 rfl) ?_
  refine K_i (va_runV (As := []) (rest := []) ⟨hx, hb, hml, hown, hts⟩ (c_X2_thrown l _) (cwV 0 hts gL_law_X2_thrown rfl rfl rfl (by decide +kernel) ⟨Nat.le_of_ble_eq_true rfl, Nat.le_of_ble_eq_true rfl⟩) (pV hP hK hD hS hA hX (va_recv hK hP (ci := 2) (q0 := 0) rfl rfl)) rfl rfl hl.1 rfl (lv_room (Nat.le_of_ble_eq_true rfl)) dL_law_1202 ⟨by show _ ≤ 601024; omega, by show _ ≤ 7293034; omega⟩) hD hS hA (fun r9 w'  H locs hp hP hD hS => ?_)
  obtain ⟨rfl, rfl⟩ := hp
  replace hP := P_perm ((LW_m (G := G') (S := S) (hd := hd') (nx := nx') (B := B) (S9 := S) (T := T') (x := (u9, .inl (cy 1, 1, .inr (.inl f'))))).symm) hP
  replace hD := D_perm ((LW_m (G := G') (S := S) (hd := hd') (nx := nx') (B := B) (S9 := S) (T := T') (x := (u9, .inl (cy 1, 1, .inr (.inl f'))))).symm) hD
  have hst : Inv S O ∧ Bd (n + 1) S := ⟨hI, hB.up⟩
  refine lv_iload hx hb dL_law_1205 (lv_at hl 1 rfl) ?_
  refine lv_icmp_eq (tgt := 1212) hx hb dL_law_1207 (by decide) (fun cE => ?_) (fun cE => ?_)
  · refine lv_iload hx hb dL_law_1212 (lv_at hl 1 rfl) ?_
    refine lv_if_ne (tgt := 1228) hx hb dL_law_1214 (by decide) (fun cZ => ?_) (fun cZ => ?_)
    · refine lv_goto (tgt := 1287) hx hb dL_law_1228 (by decide) ?_
      refine W.widen (k := 100 + 10 * (n + 1)) (n := 2000 + 60 * (n + 1)) (by omega) (by omega) ?_
      exact hN S O G' hd' nx' T' f' _ _ ls hst.1 hst.2 hO' eG hP hD hS (lv_sub hl [2, 3, 4, 5, 6] rfl)
    · have h0 : (cPaid (xs (4 * n + 1))) = 0 := (nI_eq (by unfold cPaid; split <;> decide) (by decide)).mp cZ
      have hrr := hr' h0
      have hvv := hv h0
      refine lv_aload_n hx hb dL_law_1217 rfl (lv_at hl 6 rfl) ?_
      refine lv_iconst (v := nI 0) hx hb dL_law_1218 (by decide) ?_
      refine r_lald (k := 0) hx hb hK hP 0 rfl (by decide) (by decide) dL_law_1219 ?_
      refine lv_lload hx hb dL_law_1220 (lv_at hl 0 rfl) ?_
      refine r_lcmp0 hx hb dL_law_1222 (by rw [hvv, hrr]) ?_
      refine lv_if_eq (tgt := 1228) hx hb dL_law_1223 (by decide) (fun cQ => ?_) (fun cQ => ?_)
      · refine lv_goto (tgt := 1287) hx hb dL_law_1228 (by decide) ?_
        refine W.widen (k := 100 + 10 * (n + 1)) (n := 2000 + 60 * (n + 1)) (by omega) (by omega) ?_
        exact hN S O G' hd' nx' T' f' _ _ ls hst.1 hst.2 hO' eG hP hD hS (lv_sub hl [2, 3, 4, 5, 6] rfl)
      · exact absurd rfl cQ
  · exact absurd (by rw [hT']) cE

set_option maxHeartbeats 4000000 in
set_option maxRecDepth 100000 in
theorem law_b_left {p : Program} {l : Launch} {e : Env} {s : State} {m : MethodId} {below : List Frame} {meth : Method} {c : Code} {b L : Nat} {xs : Nat → Int32} {D : va_G} {cy : Nat → ClassId} {B : Nat → Nat} {x0 u9 : Nat} {Q : State → Prop} (hlf : l.stackTraces = false) (C : LCx p s m c b L xs D cy) {n : Nat} (h4 : 4 * n + 4 ≤ L) (hN : Head p l e s m below meth c b D cy B x0 u9 Q (n + 1) (4 * n) 1287) : Head p l e s m below meth c b D cy B x0 u9 Q n (4 * n) 1231 := by
  intro S O G hd nx T f H locs ls hI hB hO hG hP hD hS hl
  subst hG
  obtain ⟨hx, hb, hml, hown, hts, hSX, hbl, hL, hK, hX⟩ := C
  have hA : ∀ q, s.heap.size ≤ q → (fun q : Nat => s.heap.size ≤ q) q := fun _ h => h
  have hbA : ¬ (fun q : Nat => s.heap.size ≤ q) b := Nat.not_le.mpr hbl
  have hn : n ≤ 511 := by omega
  have hF := hB.few (show n < 1000 by omega)
  replace hP := P_perm (LW_c) hP
  replace hD := D_perm (LW_c) hD
  refine lv_aload_n hx hb dL_law_1231 rfl (lv_at hl 2 rfl) ?_
  refine lv_aload_n hx hb dL_law_1232 rfl (lv_at hl 1 rfl) ?_
  refine lv_iload hx hb dL_law_1233 (lv_at hl 0 rfl) ?_
  refine lv_iconst (v := nI 1) hx hb dL_law_1235 (by decide) ?_
  refine r_iadd hx hb dL_law_1236 ?_
  refine r_sld (k := (4 * n) + 1) hx hb hSX hbl hbA hS (by omega) hL dL_law_1237 ?_
  refine lv_aload_n hx hb dL_law_1238 rfl (lv_at hl 4 rfl) ?_
  refine K_i (vx_runSW (As := [.ref (G 0), .int (xs ((4 * n) + 1)), .ref u9]) (rest := []) ⟨hx, hb, hml, hown, hts⟩ (c_L_left l hlf hI hO (xs (4 * n + 1)) _) (vx_cwSW 3 hts gL_law_L_left rfl rfl rfl (by decide +kernel) ⟨Nat.le_of_ble_eq_true rfl, Nat.le_of_ble_eq_true rfl⟩) (pS hP hK hD hS hA hX) rfl rfl hl.1 rfl (lv_room (Nat.le_of_ble_eq_true rfl)) dL_law_1239 ⟨by show _ ≤ 601024; omega, by show _ ≤ 7293034; omega⟩) hD hS hA (fun r w'  H locs hp hP hD hS => ?_)
  obtain ⟨rfl, G', hd', nx', f', eG, rfl, hO', hv⟩ := hp
  replace hP := P_perm ((LW_c (G := G') (S := (spLeft S (xs (4 * n + 1))).2.2) (hd := hd') (nx := nx') (B := B) (S9 := S) (T := T) (x := (u9, .inl (cy 1, 1, .inr (.inl f'))))).symm.trans LW_m) hP
  replace hD := D_perm ((LW_c (G := G') (S := (spLeft S (xs (4 * n + 1))).2.2) (hd := hd') (nx := nx') (B := B) (S9 := S) (T := T) (x := (u9, .inl (cy 1, 1, .inr (.inl f'))))).symm.trans LW_m) hD
  refine lv_istore (lv' := [(5, .int (nI ((spLeft S (xs (4 * n + 1))).1))), (4, .int (nI (4 * n))), (0, .ref b), (1, .ref (G 0)), (2, .ref (B 0)), (3, .ref u9)]) hx hb dL_law_1242 hl (by decide) rfl (fun ls hl => ?_)
  refine lv_aload_n hx hb dL_law_1244 rfl (lv_at hl 4 rfl) ?_
  refine lv_aload_n hx hb dL_law_1245 rfl (lv_at hl 2 rfl) ?_
  refine lv_iload hx hb dL_law_1246 (lv_at hl 1 rfl) ?_
  refine lv_iconst (v := nI 1) hx hb dL_law_1248 (by decide) ?_
  refine r_iadd hx hb dL_law_1249 ?_
  refine r_sld (k := (4 * n) + 1) hx hb hSX hbl hbA hS (by omega) hL dL_law_1250 ?_
  refine K_i (va_runV (As := [.int (xs ((4 * n) + 1))]) (rest := []) ⟨hx, hb, hml, hown, hts⟩ (c_X2_left l (xs (4 * n + 1)) _) (cwV 1 hts gL_law_X2_left rfl rfl rfl (by decide +kernel) ⟨Nat.le_of_ble_eq_true rfl, Nat.le_of_ble_eq_true rfl⟩) (pV hP hK hD hS hA hX (va_recv hK hP (ci := 2) (q0 := 0) rfl rfl)) rfl rfl hl.1 rfl (lv_room (Nat.le_of_ble_eq_true rfl)) dL_law_1251 ⟨by show _ ≤ 601024; omega, by show _ ≤ 7293034; omega⟩) hD hS hA (fun r w'  H locs hp hP hD hS => ?_)
  obtain ⟨T', hT', rfl, hr'⟩ := hp
  refine lv_istore (lv' := [(6, .int r), (5, .int (nI ((spLeft S (xs (4 * n + 1))).1))), (4, .int (nI (4 * n))), (0, .ref b), (1, .ref (G 0)), (2, .ref (B 0)), (3, .ref u9)]) hx hb dL_law_1254 hl (by decide) rfl (fun ls hl => ?_)
  refine lv_aload_n hx hb dL_law_1256 rfl (lv_at hl 5 rfl) ?_
  refine K_i (va_runV (As := []) (rest := []) ⟨hx, hb, hml, hown, hts⟩ (c_X2_thrown l _) (cwV 0 hts gL_law_X2_thrown rfl rfl rfl (by decide +kernel) ⟨Nat.le_of_ble_eq_true rfl, Nat.le_of_ble_eq_true rfl⟩) (pV hP hK hD hS hA hX (va_recv hK hP (ci := 2) (q0 := 0) rfl rfl)) rfl rfl hl.1 rfl (lv_room (Nat.le_of_ble_eq_true rfl)) dL_law_1257 ⟨by show _ ≤ 601024; omega, by show _ ≤ 7293034; omega⟩) hD hS hA (fun r9 w'  H locs hp hP hD hS => ?_)
  obtain ⟨rfl, rfl⟩ := hp
  replace hP := P_perm ((LW_m (G := G') (S := (spLeft S (xs (4 * n + 1))).2.2) (hd := hd') (nx := nx') (B := B) (S9 := (spLeft S (xs (4 * n + 1))).2.2) (T := T') (x := (u9, .inl (cy 1, 1, .inr (.inl f'))))).symm) hP
  replace hD := D_perm ((LW_m (G := G') (S := (spLeft S (xs (4 * n + 1))).2.2) (hd := hd') (nx := nx') (B := B) (S9 := (spLeft S (xs (4 * n + 1))).2.2) (T := T') (x := (u9, .inl (cy 1, 1, .inr (.inl f'))))).symm) hD
  have hst := st_left hI hB (xs (4 * n + 1))
  refine lv_iload hx hb dL_law_1260 (lv_at hl 1 rfl) ?_
  refine lv_icmp_eq (tgt := 1267) hx hb dL_law_1262 (by decide) (fun cE => ?_) (fun cE => ?_)
  · refine lv_iload hx hb dL_law_1267 (lv_at hl 1 rfl) ?_
    refine lv_if_ne (tgt := 1284) hx hb dL_law_1269 (by decide) (fun cZ => ?_) (fun cZ => ?_)
    · refine lv_goto (tgt := 1287) hx hb dL_law_1284 (by decide) ?_
      refine W.widen (k := 100 + 10 * (n + 1)) (n := 2000 + 60 * (n + 1)) (by omega) (by omega) ?_
      exact hN ((spLeft S (xs (4 * n + 1))).2.2) O G' hd' nx' T' f' _ _ ls hst.1 hst.2 hO' eG hP hD hS (lv_sub hl [2, 3, 4, 5, 6] rfl)
    · have h0 : (spLeft S (xs (4 * n + 1))).1 = 0 := (nI_eq (Nat.lt_trans (spLeft_lt S (xs (4 * n + 1))) (by decide)) (by decide)).mp cZ
      have hrr := hr' h0
      have hvv := hv h0
      refine lv_aload_n hx hb dL_law_1272 rfl (lv_at hl 6 rfl) ?_
      refine lv_iconst (v := nI 0) hx hb dL_law_1273 (by decide) ?_
      refine r_lald (k := 0) hx hb hK hP 0 rfl (by decide) (by decide) dL_law_1274 ?_
      refine lv_iload hx hb dL_law_1275 (lv_at hl 0 rfl) ?_
      refine lv_i2l (v := (r).toInt64) hx hb dL_law_1277 rfl ?_
      refine r_lcmp0 hx hb dL_law_1278 (by rw [hvv, hrr]) ?_
      refine lv_if_eq (tgt := 1284) hx hb dL_law_1279 (by decide) (fun cQ => ?_) (fun cQ => ?_)
      · refine lv_goto (tgt := 1287) hx hb dL_law_1284 (by decide) ?_
        refine W.widen (k := 100 + 10 * (n + 1)) (n := 2000 + 60 * (n + 1)) (by omega) (by omega) ?_
        exact hN ((spLeft S (xs (4 * n + 1))).2.2) O G' hd' nx' T' f' _ _ ls hst.1 hst.2 hO' eG hP hD hS (lv_sub hl [2, 3, 4, 5, 6] rfl)
      · exact absurd rfl cQ
  · exact absurd (by rw [hT']) cE
