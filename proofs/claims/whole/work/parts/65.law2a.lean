/-! ===== the law: its steps, its world ===== -/
theorem spInsert_lt (S : Nat → Nat → Nat) (O : List Nat) (p0 p1 p2 : Int32) : (spInsert S O p0 p1 p2).1 < 4 := by
  unfold spInsert
  split <;> (try split) <;> (try split) <;> simp
theorem spRemove_lt (S : Nat → Nat → Nat) (O : List Nat) (p0 p1 : Int32) : (spRemove S O p0 p1).1 < 4 := by
  unfold spRemove
  split <;> (try split) <;> (try split) <;> simp
theorem spRestore_lt (S : Nat → Nat → Nat) (O : List Nat) (p0 p1 : Int32) : (spRestore S O p0 p1).1 < 4 := by
  unfold spRestore
  split <;> (try split) <;> (try split) <;> simp
theorem spLearn_lt (S : Nat → Nat → Nat) (p0 p1 : Int32) : (spLearn S p0 p1).1 < 4 := by
  unfold spLearn
  split <;> (try split) <;> (try split) <;> simp
theorem spLength_lt (S : Nat → Nat → Nat) (O : List Nat) (p0 : Int32) : (spLength S O p0).1 < 4 := by
  unfold spLength
  split <;> (try split) <;> (try split) <;> simp
theorem spSignAt_lt (S : Nat → Nat → Nat) (O : List Nat) (p0 p1 : Int32) : (spSignAt S O p0 p1).1 < 4 := by
  unfold spSignAt
  split <;> (try split) <;> (try split) <;> simp
theorem spLetterAt_lt (S : Nat → Nat → Nat) (O : List Nat) (p0 p1 : Int32) : (spLetterAt S O p0 p1).1 < 4 := by
  unfold spLetterAt
  split <;> (try split) <;> (try split) <;> simp
theorem spAreAlike_lt (S : Nat → Nat → Nat) (p0 p1 : Int32) : (spAreAlike S p0 p1).1 < 4 := by
  unfold spAreAlike
  split <;> (try split) <;> (try split) <;> simp
theorem spAuthorOf_lt (S : Nat → Nat → Nat) (p0 : Int32) : (spAuthorOf S p0).1 < 4 := by
  unfold spAuthorOf
  split <;> (try split) <;> (try split) <;> simp
theorem spBehind_lt (S : Nat → Nat → Nat) (p0 : Int32) : (spBehind S p0).1 < 4 := by
  unfold spBehind
  split <;> (try split) <;> (try split) <;> simp
theorem spClock_lt (S : Nat → Nat → Nat) (p0 : Int32) : (spClock S p0).1 < 4 := by
  unfold spClock
  split <;> (try split) <;> (try split) <;> simp
theorem spPrint_lt (S : Nat → Nat → Nat) (O : List Nat) (p0 : Int32) : (spPrint S O p0).1 < 4 := by
  unfold spPrint
  split <;> (try split) <;> (try split) <;> simp
theorem spPrinted_lt (S : Nat → Nat → Nat) (p0 p1 : Int32) : (spPrinted S p0 p1).1 < 4 := by
  unfold spPrinted
  split <;> (try split) <;> (try split) <;> simp
theorem spSetFloor_lt (S : Nat → Nat → Nat) (p0 : Int32) : (spSetFloor S p0).1 < 4 := by
  unfold spSetFloor
  split <;> (try split) <;> (try split) <;> simp
theorem spAdvance_lt (S : Nat → Nat → Nat) (p0 p1 : Int32) : (spAdvance S p0 p1).1 < 4 := by
  unfold spAdvance
  split <;> (try split) <;> (try split) <;> simp
theorem spSell_lt (S : Nat → Nat → Nat) (p0 p1 : Int32) : (spSell S p0 p1).1 < 4 := by
  unfold spSell
  split <;> (try split) <;> (try split) <;> simp
theorem spLeft_lt (S : Nat → Nat → Nat) (p0 : Int32) : (spLeft S p0).1 < 4 := by
  unfold spLeft
  split <;> (try split) <;> (try split) <;> simp
theorem st_length {S : Nat → Nat → Nat} {O : List Nat} {n : Nat} (h : Inv S O) (hb : Bd n S) (p0 : Int32) : Inv (spLength S O p0).2.2 O ∧ Bd (n + 1) (spLength S O p0).2.2 := by
  have e : (spLength S O p0).2.2 = S := by
    unfold spLength
    split <;> (try split) <;> rfl
  rw [e]
  exact ⟨h, hb.up⟩
theorem st_signAt {S : Nat → Nat → Nat} {O : List Nat} {n : Nat} (h : Inv S O) (hb : Bd n S) (p0 p1 : Int32) : Inv (spSignAt S O p0 p1).2.2 O ∧ Bd (n + 1) (spSignAt S O p0 p1).2.2 := by
  have e : (spSignAt S O p0 p1).2.2 = S := by
    unfold spSignAt
    split <;> (try split) <;> rfl
  rw [e]
  exact ⟨h, hb.up⟩
theorem st_letterAt {S : Nat → Nat → Nat} {O : List Nat} {n : Nat} (h : Inv S O) (hb : Bd n S) (p0 p1 : Int32) : Inv (spLetterAt S O p0 p1).2.2 O ∧ Bd (n + 1) (spLetterAt S O p0 p1).2.2 := by
  have e : (spLetterAt S O p0 p1).2.2 = S := by
    unfold spLetterAt
    split <;> (try split) <;> rfl
  rw [e]
  exact ⟨h, hb.up⟩
theorem st_areAlike {S : Nat → Nat → Nat} {O : List Nat} {n : Nat} (h : Inv S O) (hb : Bd n S) (p0 p1 : Int32) : Inv (spAreAlike S p0 p1).2.2 O ∧ Bd (n + 1) (spAreAlike S p0 p1).2.2 := by
  have e : (spAreAlike S p0 p1).2.2 = S := by
    unfold spAreAlike
    split <;> (try split) <;> rfl
  rw [e]
  exact ⟨h, hb.up⟩
theorem st_authorOf {S : Nat → Nat → Nat} {O : List Nat} {n : Nat} (h : Inv S O) (hb : Bd n S) (p0 : Int32) : Inv (spAuthorOf S p0).2.2 O ∧ Bd (n + 1) (spAuthorOf S p0).2.2 := by
  have e : (spAuthorOf S p0).2.2 = S := by
    unfold spAuthorOf
    split <;> (try split) <;> rfl
  rw [e]
  exact ⟨h, hb.up⟩
theorem st_behind {S : Nat → Nat → Nat} {O : List Nat} {n : Nat} (h : Inv S O) (hb : Bd n S) (p0 : Int32) : Inv (spBehind S p0).2.2 O ∧ Bd (n + 1) (spBehind S p0).2.2 := by
  have e : (spBehind S p0).2.2 = S := by
    unfold spBehind
    split <;> (try split) <;> rfl
  rw [e]
  exact ⟨h, hb.up⟩
theorem st_clock {S : Nat → Nat → Nat} {O : List Nat} {n : Nat} (h : Inv S O) (hb : Bd n S) (p0 : Int32) : Inv (spClock S p0).2.2 O ∧ Bd (n + 1) (spClock S p0).2.2 := by
  have e : (spClock S p0).2.2 = S := by
    unfold spClock
    split <;> (try split) <;> rfl
  rw [e]
  exact ⟨h, hb.up⟩
theorem st_printed {S : Nat → Nat → Nat} {O : List Nat} {n : Nat} (h : Inv S O) (hb : Bd n S) (p0 p1 : Int32) : Inv (spPrinted S p0 p1).2.2 O ∧ Bd (n + 1) (spPrinted S p0 p1).2.2 := by
  have e : (spPrinted S p0 p1).2.2 = S := by
    unfold spPrinted
    split <;> (try split) <;> rfl
  rw [e]
  exact ⟨h, hb.up⟩
theorem st_left {S : Nat → Nat → Nat} {O : List Nat} {n : Nat} (h : Inv S O) (hb : Bd n S) (p0 : Int32) : Inv (spLeft S p0).2.2 O ∧ Bd (n + 1) (spLeft S p0).2.2 := by
  have e : (spLeft S p0).2.2 = S := by
    unfold spLeft
    split <;> (try split) <;> rfl
  rw [e]
  exact ⟨h, hb.up⟩
theorem st_insert {S : Nat → Nat → Nat} {O : List Nat} {n : Nat} (h : Inv S O) (hb : Bd n S) (hn : n < 1000) (p0 p1 p2 : Int32) : Inv (spInsert S O p0 p1 p2).2.2 (if (spInsert S O p0 p1 p2).1 = 0 then ordI (spInsert S O p0 p1 p2).2.2 (S 0 0) O else O) ∧ Bd (n + 1) (spInsert S O p0 p1 p2).2.2 := by
  by_cases h0 : (spInsert S O p0 p1 p2).1 = 0
  · rw [if_pos h0]
    revert h0
    unfold spInsert
    split
    · intro h0; cases h0
    · split
      · intro h0; cases h0
      · split
        · intro h0; cases h0
        · rename_i g1 g2 g3
          intro _
          simp only [Bool.not_eq_false, Bool.and_eq_true] at g1 g2
          obtain ⟨a, ha, rfl⟩ := isA_n g1.1
          obtain ⟨c, hc, rfl⟩ := inB_n (k := 25) (by decide) g1.2
          have h60 := h.R.1
          have hl := h.len a
          rw [aN_n (show a < 2 ^ 31 by omega)] at g2 ⊢
          obtain ⟨k, hk, rfl⟩ := inB_n (by omega) g2
          rw [aN_n (show c < 2 ^ 31 by omega), aN_n (show k < 2 ^ 31 by omega)]
          exact h.ins hb hn ha (by omega) (by omega) (txL_par h hk)
  · rw [if_neg h0, spInsert_keep h0]
    exact ⟨h, hb.up⟩
theorem st_remove {S : Nat → Nat → Nat} {O : List Nat} {n : Nat} (h : Inv S O) (hb : Bd n S) (hn : n < 1000) (p0 p1 : Int32) : Inv (spRemove S O p0 p1).2.2 O ∧ Bd (n + 1) (spRemove S O p0 p1).2.2 := by
  unfold spRemove
  split
  · exact ⟨h, hb.up⟩
  · split
    · exact ⟨h, hb.up⟩
    · rename_i g1 g2
      simp only [Bool.not_eq_false] at g1 g2
      obtain ⟨a, ha, rfl⟩ := isA_n g1
      have hl := h.len a
      rw [aN_n (show a < 2 ^ 31 by omega)] at g2 ⊢
      obtain ⟨k, hk, rfl⟩ := inS_n (by omega) g2
      rw [aN_n (show k < 2 ^ 31 by omega)]
      exact h.set hb hn ha (txL_mem h (getD_mem hk)).1 (by decide)
theorem st_restore {S : Nat → Nat → Nat} {O : List Nat} {n : Nat} (h : Inv S O) (hb : Bd n S) (hn : n < 1000) (p0 p1 : Int32) : Inv (spRestore S O p0 p1).2.2 O ∧ Bd (n + 1) (spRestore S O p0 p1).2.2 := by
  unfold spRestore
  split
  · exact ⟨h, hb.up⟩
  · split
    · exact ⟨h, hb.up⟩
    · split
      · rename_i g1 g2 g3
        simp only [Bool.not_eq_false] at g1 g2
        obtain ⟨a, ha, rfl⟩ := isA_n g2
        have h60 := h.R.1
        obtain ⟨k, hk, rfl⟩ := inS_n (by omega) g1
        rw [aN_n (show a < 2 ^ 31 by omega), aN_n (show k < 2 ^ 31 by omega)]
        exact h.set hb hn ha hk (by decide)
      · exact ⟨h, hb.up⟩
theorem st_learn {S : Nat → Nat → Nat} {O : List Nat} {n : Nat} (h : Inv S O) (hb : Bd n S) (hn : n < 1000) (p0 p1 : Int32) : Inv (spLearn S p0 p1).2.2 O ∧ Bd (n + 1) (spLearn S p0 p1).2.2 := by
  unfold spLearn
  split
  · exact ⟨h, hb.up⟩
  · rename_i g1
    simp only [Bool.not_eq_false, Bool.and_eq_true] at g1
    obtain ⟨a, ha, rfl⟩ := isA_n g1.1.1
    obtain ⟨f, hf, rfl⟩ := isA_n g1.1.2
    rw [aN_n (show a < 2 ^ 31 by omega), aN_n (show f < 2 ^ 31 by omega)]
    exact h.learn hb ha hf
theorem st_print {S : Nat → Nat → Nat} {O : List Nat} {n : Nat} (h : Inv S O) (hb : Bd n S) (hn : n < 1000) (p0 : Int32) : Inv (spPrint S O p0).2.2 O ∧ Bd (n + 1) (spPrint S O p0).2.2 := by
  unfold spPrint
  split
  · exact ⟨h, hb.up⟩
  · split
    · exact ⟨h, hb.up⟩
    · rename_i g1 g2
      rw [not_or] at g2
      exact h.print hb g2.1 g2.2
theorem st_setFloor {S : Nat → Nat → Nat} {O : List Nat} {n : Nat} (h : Inv S O) (hb : Bd n S) (hn : n < 1000) (p0 : Int32) : Inv (spSetFloor S p0).2.2 O ∧ Bd (n + 1) (spSetFloor S p0).2.2 := by
  unfold spSetFloor
  split
  · exact ⟨h, hb.up⟩
  · rename_i g1
    simp only [Bool.not_eq_false] at g1
    obtain ⟨v, hv, rfl⟩ := inB_n (k := 25) (by decide) g1
    rw [aN_n (show v < 2 ^ 31 by omega)]
    exact h.floor hb hv
theorem st_advance {S : Nat → Nat → Nat} {O : List Nat} {n : Nat} (h : Inv S O) (hb : Bd n S) (hn : n < 1000) (p0 p1 : Int32) : Inv (spAdvance S p0 p1).2.2 O ∧ Bd (n + 1) (spAdvance S p0 p1).2.2 := by
  unfold spAdvance
  split
  · exact ⟨h, hb.up⟩
  · rename_i g1
    simp only [Bool.not_eq_false, Bool.and_eq_true] at g1
    obtain ⟨v, hv, rfl⟩ := inB_1 (k := 100000) (by decide) g1.2
    rw [aN_n (show v < 2 ^ 31 by omega)]
    exact h.adv hb hn hv.2
theorem st_sell {S : Nat → Nat → Nat} {O : List Nat} {n : Nat} (h : Inv S O) (hb : Bd n S) (hn : n < 1000) (p0 p1 : Int32) : Inv (spSell S p0 p1).2.2 O ∧ Bd (n + 1) (spSell S p0 p1).2.2 := by
  unfold spSell
  split
  · exact ⟨h, hb.up⟩
  · split
    · exact ⟨h, hb.up⟩
    · exact h.sell hb _ _
theorem Inv_0 : Inv S00 [] ∧ Bd 0 S00 := by
  refine ⟨⟨⟨by decide, by decide, by decide, fun i => ?_, fun i => ?_, fun i => ?_, fun i => ?_, fun i => ?_, fun i => ?_, fun i => ?_, fun i => ?_, fun i => ?_, fun i => ?_⟩, fun i hi => absurd hi (Nat.not_lt_zero i), trivial, List.nodup_nil, fun i => ⟨fun hi => absurd hi List.not_mem_nil, fun hi => absurd hi (Nat.not_lt_zero i)⟩, fun a i _ hi => absurd hi (Nat.not_lt_zero i), fun i hi => absurd hi (Nat.not_lt_zero i), fun a i _ _ _ => ⟨rfl, rfl, rfl⟩, fun e a _ _ => rfl, fun e he => absurd he (Nat.not_lt_zero e)⟩, fun i => ?_, fun i => ?_⟩ <;> simp [S00]
section ROWL
variable {p : Program} {l : Launch} {e : Env} {R : Room} {s : State} {m : MethodId} {args : Array Value} {below : List Frame} {meth : Method} {c : Code} {H : Heap} {locs : List Loc} {cells slots : Nat} {Q : State → Prop}
variable {cc : ByteArray} {pc : Nat} {ls : Array Slot} {rest : List Value} {D : va_G} {cy : Nat → ClassId} {A : Nat → Prop} {w w' : va_W} {a : Nat} {Ts : List Cond}
theorem r_lcmp0 {x y : Int64} (hexec : p.tables.exec = Jvm.exec) (hb : c.code = cc) (hdg : decode cc pc = .ok (.lcmp, 1)) (hxy : x = y)
    (k : W p l e R s m args below meth c H locs cells slots Q (F0 m (pc + 1) ls (.int 0 :: rest))) : W p l e R s m args below meth c H locs cells slots Q (F0 m pc ls (.long y :: .long x :: rest)) := by
  subst hxy
  intro T hT X
  obtain ⟨t, a, b⟩ := k T hT X
  refine ⟨t, ?_, b⟩
  have h9 : ¬ x > x := Int64.lt_irrefl
  jvm_step X.here [X.here.top, hexec, hb, hdg, h9]
  exact a
theorem r_sld {b L : Nat} {xs : Nat → Int32} {k : Nat} (hx : p.tables.exec = Jvm.exec) (hb : c.code = cc) (hX : va_X b L xs s s.heap) (hbl : b < s.heap.size) (hbA : ¬ A b) (hS : va_S A s.heap H locs) (hk : k < L) (hL : L ≤ 2048) (hdg : decode cc pc = .ok (.iaload, 1))
    (kk : W p l e R s m args below meth c H locs cells slots Q (F0 m (pc + 1) ls (.int (xs k) :: rest))) : W p l e R s m args below meth c H locs cells slots Q (F0 m pc ls (.int (nI k) :: .ref b :: rest)) :=
  va_sld hx hb hX hbl hbA hS (vp_in_nI hk (by omega)) hdg (by rw [nI_clamp (by omega)]; exact kk)
end ROWL
/-- the law's world: the out cell, the class's object, the reference's -/
def LW (cy : Nat → ClassId) (G : Nat → Nat) (S : Nat → Nat → Nat) (hd : Option Nat) (nx : Nat → Option Nat) (B : Nat → Nat) (S9 T : Nat → Nat → Nat) (x : Nat × va_E) : va_W := x :: CW cy G S hd nx (MW cy B S9 T [])
theorem LW_c {cy : Nat → ClassId} {G : Nat → Nat} {S : Nat → Nat → Nat} {hd : Option Nat} {nx : Nat → Option Nat} {B : Nat → Nat} {S9 T : Nat → Nat → Nat} {x : Nat × va_E} : (LW cy G S hd nx B S9 T x).Perm (CW cy G S hd nx (x :: MW cy B S9 T [])) := CW_front x
theorem LW_m {cy : Nat → ClassId} {G : Nat → Nat} {S : Nat → Nat → Nat} {hd : Option Nat} {nx : Nat → Option Nat} {B : Nat → Nat} {S9 T : Nat → Nat → Nat} {x : Nat × va_E} : (LW cy G S hd nx B S9 T x).Perm (MW cy B S9 T (x :: CW cy G S hd nx [])) := by
  unfold LW
  rw [CW_app cy G S hd nx (MW cy B S9 T []), MW_app cy B S9 T (x :: CW cy G S hd nx [])]
  exact List.perm_append_comm (l₁ := x :: CW cy G S hd nx []) (l₂ := MW cy B S9 T [])
/-- what stands all along the law's walk -/
def LCx (p : Program) (s : State) (m : MethodId) (c : Code) (b L : Nat) (xs : Nat → Int32) (D : va_G) (cy : Nat → ClassId) : Prop := p.tables.exec = Jvm.exec ∧ c.code = cL_law ∧ c.maxLocals = 8 ∧ s.vm.findClass RL = some m.cls ∧ (∀ w ∈ wsL_law, w.before #[Value.ref b] s = true) ∧ va_X b L xs s s.heap ∧ b < s.heap.size ∧ L ≤ 2048 ∧ va_K D vwCl (TYS cy) s ∧ XK (fun q => s.heap.size ≤ q) s s.heap
/-- from here the law comes to its end: k calls are done, i stands in its variable -/
def Head (p : Program) (l : Launch) (e : Env) (s : State) (m : MethodId) (below : List Frame) (meth : Method) (c : Code) (b : Nat) (D : va_G) (cy : Nat → ClassId) (B : Nat → Nat) (x0 u9 : Nat) (Q : State → Prop) (k i pc : Nat) : Prop := ∀ (S : Nat → Nat → Nat) (O : List Nat) (G : Nat → Nat) (hd : Option Nat) (nx : Nat → Option Nat) (T : Nat → Nat → Nat) (f : Nat → Int64) (H : Heap) (locs : List Loc) (ls : Array Slot), Inv S O → Bd k S → ChP nx hd O → G 0 = x0 → va_P D vwCl (LW cy G S hd nx B S T (u9, .inl (cy 1, 1, .inr (.inl f)))) H → va_D (fun q => s.heap.size ≤ q) (LW cy G S hd nx B S T (u9, .inl (cy 1, 1, .inr (.inl f)))) → va_S (fun q => s.heap.size ≤ q) s.heap H locs → lv_has ls 8 [(4, .int (nI i)), (0, .ref b), (1, .ref x0), (2, .ref (B 0)), (3, .ref u9)] → W p l e room_1 s m #[Value.ref b] below meth c H locs (100 + 10 * k) (2000 + 60 * k) Q (F0 m pc ls [])
