/-! ===== the two worlds: the reference's and the class's, over register files of numbers =====
kinds of the state S: 0 scalars (0 signs, 1 editions, 2 floor); 1 authors, 2 letters, 3 clocks of signs, 4 behind (+ 1, 0: the beginning), 5 known, 6 removed, 7 stamps (place 60 * author + sign), 8 clocks, 9 printed (4 * edition + author), 10 advances, 11 paid
kinds of the scratch T: 0 (0 length, 1 top, 2 thrown), 1 text, 2 stack -/
def up2 (f : Nat → Nat → Nat) (k i v : Nat) : Nat → Nat → Nat := fun k' i' => if k' = k then (if i' = i then v else f k i') else f k' i'
theorem up2_s (f : Nat → Nat → Nat) (k i v : Nat) : up2 f k i v k i = v := by simp [up2]
theorem up2_i (f : Nat → Nat → Nat) {k i v j : Nat} (h : j ≠ i) : up2 f k i v k j = f k j := by simp [up2, h]
theorem up2_k (f : Nat → Nat → Nat) {k i v k' : Nat} (h : k' ≠ k) (j : Nat) : up2 f k i v k' j = f k' j := by simp [up2, h]
theorem up2_f (f : Nat → Nat → Nat) {k i v k' : Nat} (h : k' ≠ k) : up2 f k i v k' = f k' := by funext j; simp [up2, h]
def bI (x : Nat) : Int32 := nI x - 1
theorem bI_0 : bI 0 = -1 := by decide
theorem bI_s (x : Nat) : bI (x + 1) = nI x := nI_pred x
theorem upd_n (f : Nat → Nat → Nat) (κ k v : Nat) : upd (fun j => nI (f κ j)) k (nI v) = fun j => nI (up2 f κ k v κ j) := by
  funext j
  by_cases h : j = k
  · subst h; simp [upd, up2]
  · simp [upd, up2, h]
theorem upd_b (f : Nat → Nat → Nat) (κ k v : Nat) : upd (fun j => bI (f κ j)) k (bI v) = fun j => bI (up2 f κ k v κ j) := by
  funext j
  by_cases h : j = k
  · subst h; simp [upd, up2]
  · simp [upd, up2, h]
theorem upd_l (f : Nat → Nat → Nat) (κ k v : Nat) : vp_updL (fun j => lN (f κ j)) k (lN v) = fun j => lN (up2 f κ k v κ j) := by
  funext j
  by_cases h : j = k
  · subst h; simp [vp_updL, up2]
  · simp [vp_updL, up2, h]
def bN (b : Bool) : Nat := if b then 1 else 0
theorem bN_lt (b : Bool) : bN b < 2 := by cases b <;> decide
theorem bN_0 {b : Bool} : bN b = 0 ↔ b = false := by cases b <;> decide
theorem bN_1 {b : Bool} : 0 < bN b ↔ b = true := by cases b <;> decide
theorem nw_b (b : Bool) : narrow .boolean (.int (nI (bN b))) = .int (nI (bN b)) := by cases b <;> rfl
def inB (v lo hi : Int32) : Bool := decide (lo ≤ v) && decide (v ≤ hi)
def isA (v : Int32) : Bool := inB v 0 3
theorem inB_n {v : Int32} {k : Nat} (hk : k < 2 ^ 31) (h : inB v 0 (nI k) = true) : ∃ a : Nat, a ≤ k ∧ v = nI a := by
  simp only [inB, Bool.and_eq_true, decide_eq_true_eq] at h
  exact nI_of2 (nI_toInt hk) (by rw [Int32.not_lt]; exact h.1) h.2
theorem inB_of {a k : Nat} (h : a ≤ k) (hk : k < 2 ^ 31) : inB (nI a) 0 (nI k) = true := by
  simp only [inB, Bool.and_eq_true, decide_eq_true_eq]
  exact ⟨nI_pos' (Nat.lt_of_le_of_lt h hk), nI_le h hk⟩
theorem isA_n {v : Int32} (h : isA v = true) : ∃ a : Nat, a < 4 ∧ v = nI a := by
  obtain ⟨a, h1, h2⟩ := inB_n (k := 3) (by decide) h
  exact ⟨a, by omega, h2⟩
theorem isA_of {a : Nat} (h : a < 4) : isA (nI a) = true := inB_of (k := 3) (by omega) (by decide)
/-- 'isIn(v, 0, n - 1)' for a number n -/
def inS (v : Int32) (n : Nat) : Bool := inB v 0 (bI n)
theorem inS_n {v : Int32} {n : Nat} (hn : n < 2 ^ 31) (h : inS v n = true) : ∃ i : Nat, i < n ∧ v = nI i := by
  cases n with
  | zero =>
    rw [inS, bI_0] at h
    simp only [inB, Bool.and_eq_true, decide_eq_true_eq] at h
    have h3 : (0 : Int32) ≤ -1 := Int32.le_trans h.1 h.2
    exact absurd h3 (by decide)
  | succ n =>
    rw [inS, bI_s] at h
    obtain ⟨a, h1, h2⟩ := inB_n (Nat.lt_of_succ_lt hn) h
    exact ⟨a, by omega, h2⟩
theorem inS_of {i n : Nat} (h : i < n) (hn : n < 2 ^ 31) : inS (nI i) n = true := by
  obtain ⟨m, rfl⟩ : ∃ m, n = m + 1 := ⟨n - 1, by omega⟩
  rw [inS, bI_s]
  exact inB_of (by omega) (by omega)
/-- the reference's world -/
def MW (cy : Nat → ClassId) (B : Nat → Nat) (S T : Nat → Nat → Nat) (Y : va_W) : va_W :=
  (B 0, .inr (2, [.int (nI (S 0 0)), .ref (B 1), .ref (B 2), .ref (B 3), .ref (B 4), .ref (B 5), .ref (B 6), .ref (B 7), .ref (B 8), .int (nI (S 0 1)), .ref (B 9), .int (nI (S 0 2)), .ref (B 10), .ref (B 11), .ref (B 12), .ref (B 13), .int (nI (T 0 0)), .int (nI (T 0 1)), .int (nI (T 0 2))])) ::
  (B 1, .inl (cy 0, 60, .inl (fun j => nI (S 1 j)))) :: (B 2, .inl (cy 0, 60, .inl (fun j => nI (S 2 j)))) :: (B 3, .inl (cy 0, 60, .inl (fun j => nI (S 3 j)))) :: (B 4, .inl (cy 0, 60, .inl (fun j => bI (S 4 j)))) ::
  (B 5, .inl (cy 2, 240, .inl (fun j => nI (S 5 j)))) :: (B 6, .inl (cy 2, 240, .inl (fun j => nI (S 6 j)))) :: (B 7, .inl (cy 0, 240, .inl (fun j => nI (S 7 j)))) :: (B 8, .inl (cy 0, 4, .inl (fun j => nI (S 8 j)))) ::
  (B 9, .inl (cy 0, 80, .inl (fun j => nI (S 9 j)))) :: (B 10, .inl (cy 0, 4, .inl (fun j => nI (S 10 j)))) :: (B 11, .inl (cy 1, 4, .inr (.inl (fun j => lN (S 11 j))))) :: (B 12, .inl (cy 0, 60, .inl (fun j => nI (T 1 j)))) :: (B 13, .inl (cy 0, 60, .inl (fun j => nI (T 2 j)))) :: Y
/-- a family of cells -/
def fam (n : Nat) (g : Nat → Nat) (c : Nat → va_E) : va_W := (List.range n).map fun i => (g i, c i)
theorem fam_len (n : Nat) (g : Nat → Nat) (c : Nat → va_E) : (fam n g c).length = n := by simp [fam]
theorem fam_get {n i : Nat} {g : Nat → Nat} {c : Nat → va_E} {Y : va_W} (h : i < n) : (fam n g c ++ Y)[i]? = some (g i, c i) := by
  rw [List.getElem?_append_left (by rw [fam_len]; exact h)]
  simp [fam, h]
theorem fam_skip {n k : Nat} {g : Nat → Nat} {c : Nat → va_E} {Y : va_W} : (fam n g c ++ Y)[n + k]? = Y[k]? := by
  rw [List.getElem?_append_right (by rw [fam_len]; omega), fam_len]
  congr 1
  omega
theorem fam_set {n i : Nat} {g : Nat → Nat} {c : Nat → va_E} {Y : va_W} {e : va_E} (h : i < n) : (fam n g c ++ Y).set i (g i, e) = fam n g (va_up c i e) ++ Y := by
  rw [List.set_append_left (h := by rw [fam_len]; exact h)]
  congr 1
  apply List.ext_getElem?
  intro j
  rw [List.getElem?_set]
  by_cases hj : i = j
  · subst hj
    simp [fam, h, va_up]
  · by_cases h2 : j < n
    · simp [fam, hj, h2, va_up, Ne.symm hj]
    · simp [fam, hj, h2]
theorem fam_setk {n k : Nat} {g : Nat → Nat} {c : Nat → va_E} {Y : va_W} {x : Nat × va_E} : (fam n g c ++ Y).set (n + k) x = fam n g c ++ Y.set k x := by
  rw [List.set_append_right (h := by rw [fam_len]; omega), fam_len]
  congr 2
  omega
/-- a sign's cells; g: its number to its address (100 + 3 i the sign, then its stamps, then its removals); nx: its successor in the chain -/
def sgC (G : Nat → Nat) (S : Nat → Nat → Nat) (nx : Nat → Option Nat) (i : Nat) : va_E := .inr (0, [.int (nI i), .int (nI (S 1 i)), .int (nI (S 2 i)), .int (nI (4 * S 3 i + S 1 i)), va_rf (if S 4 i = 0 then none else some (G (100 + 3 * (S 4 i - 1)))), va_rf ((nx i).map fun j => G (100 + 3 * j)), .ref (G (101 + 3 * i)), .ref (G (102 + 3 * i))])
def stV (S : Nat → Nat → Nat) (i a : Nat) : Int32 := if S 5 (60 * a + i) = 0 then -1 else nI (S 7 (60 * a + i))
def stC (cy : Nat → ClassId) (S : Nat → Nat → Nat) (i : Nat) : va_E := .inl (cy 0, 4, .inl (stV S i))
def rmC (cy : Nat → ClassId) (S : Nat → Nat → Nat) (i : Nat) : va_E := .inl (cy 2, 4, .inl (fun a => nI (S 6 (60 * a + i))))
def rwV (S : Nat → Nat → Nat) (e a : Nat) : Int32 := if a < 4 then nI (S 9 (4 * e + a)) else 0
def rwC (cy : Nat → ClassId) (S : Nat → Nat → Nat) (e : Nat) : va_E := .inl (cy 0, 4, .inl (rwV S e))
def sgW (cy : Nat → ClassId) (G : Nat → Nat) (S : Nat → Nat → Nat) (nx : Nat → Option Nat) (Y : va_W) : va_W :=
  fam (S 0 0) (fun i => G (100 + 3 * i)) (sgC G S nx) ++ (fam (S 0 0) (fun i => G (101 + 3 * i)) (stC cy S) ++ (fam (S 0 0) (fun i => G (102 + 3 * i)) (rmC cy S) ++ Y))
/-- the class's world: hd the chain's first, nx the successors -/
def CW (cy : Nat → ClassId) (G : Nat → Nat) (S : Nat → Nat → Nat) (hd : Option Nat) (nx : Nat → Option Nat) (Y : va_W) : va_W :=
  (G 0, .inr (1, [.ref (G 1), .int (nI (S 0 0)), va_rf (hd.map fun j => G (100 + 3 * j)), .ref (G 2), .ref (G 3), .int (nI (S 0 1)), .int (nI (S 0 2)), .ref (G 4), .ref (G 5)])) ::
  (G 1, .inl (cy 3, 60, .inr (.inr (.inr (.inr (fun i => if i < S 0 0 then some (G (100 + 3 * i)) else none)))))) ::
  (G 2, .inl (cy 0, 4, .inl (fun j => nI (S 8 j)))) ::
  (G 3, .inl (cy 4, 20, .inr (.inr (.inr (.inr (fun e => if e < 20 then some (G (10 + e)) else none)))))) ::
  (G 4, .inl (cy 0, 4, .inl (fun j => nI (S 10 j)))) ::
  (G 5, .inl (cy 1, 4, .inr (.inl (fun j => lN (S 11 j))))) ::
  (fam 20 (fun e => G (10 + e)) (rwC cy S) ++ sgW cy G S nx Y)
theorem CW_sg {cy : Nat → ClassId} {G : Nat → Nat} {S : Nat → Nat → Nat} {hd : Option Nat} {nx : Nat → Option Nat} {Y : va_W} {i : Nat} (h : i < S 0 0) : (CW cy G S hd nx Y)[6 + (20 + i)]? = some (G (100 + 3 * i), sgC G S nx i) := by
  rw [show 6 + (20 + i) = (20 + i) + 1 + 1 + 1 + 1 + 1 + 1 by omega]
  simp only [CW, List.getElem?_cons_succ]
  rw [fam_skip]
  exact fam_get h
theorem CW_st {cy : Nat → ClassId} {G : Nat → Nat} {S : Nat → Nat → Nat} {hd : Option Nat} {nx : Nat → Option Nat} {Y : va_W} {i : Nat} (h : i < S 0 0) : (CW cy G S hd nx Y)[6 + (20 + (S 0 0 + i))]? = some (G (101 + 3 * i), stC cy S i) := by
  rw [show 6 + (20 + (S 0 0 + i)) = (20 + (S 0 0 + i)) + 1 + 1 + 1 + 1 + 1 + 1 by omega]
  simp only [CW, sgW, List.getElem?_cons_succ]
  rw [fam_skip, fam_skip]
  exact fam_get h
theorem CW_rm {cy : Nat → ClassId} {G : Nat → Nat} {S : Nat → Nat → Nat} {hd : Option Nat} {nx : Nat → Option Nat} {Y : va_W} {i : Nat} (h : i < S 0 0) : (CW cy G S hd nx Y)[6 + (20 + (S 0 0 + (S 0 0 + i)))]? = some (G (102 + 3 * i), rmC cy S i) := by
  rw [show 6 + (20 + (S 0 0 + (S 0 0 + i))) = (20 + (S 0 0 + (S 0 0 + i))) + 1 + 1 + 1 + 1 + 1 + 1 by omega]
  simp only [CW, sgW, List.getElem?_cons_succ]
  rw [fam_skip, fam_skip, fam_skip]
  exact fam_get h
theorem CW_rw {cy : Nat → ClassId} {G : Nat → Nat} {S : Nat → Nat → Nat} {hd : Option Nat} {nx : Nat → Option Nat} {Y : va_W} {i : Nat} (h : i < 20) : (CW cy G S hd nx Y)[6 + i]? = some (G (10 + i), rwC cy S i) := by
  rw [show 6 + i = i + 1 + 1 + 1 + 1 + 1 + 1 by omega]
  simp only [CW, List.getElem?_cons_succ]
  exact fam_get h
