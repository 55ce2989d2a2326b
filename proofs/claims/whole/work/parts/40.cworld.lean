/-! ===== the class's world: its stores ===== -/
theorem fam_congr {n : Nat} {g g' : Nat → Nat} {c c' : Nat → va_E} (hg : ∀ i, i < n → g i = g' i) (hc : ∀ i, i < n → c i = c' i) : fam n g c = fam n g' c' := by
  apply List.map_congr_left
  intro i hi
  have := List.mem_range.mp hi
  rw [hg i this, hc i this]
theorem fam_succ (n : Nat) (g : Nat → Nat) (c : Nat → va_E) : fam (n + 1) g c = fam n g c ++ [(g n, c n)] := by
  simp [fam, List.range_succ]
theorem up2_comm (f : Nat → Nat → Nat) {k k' : Nat} (h : k ≠ k') (i i' v v' : Nat) : up2 (up2 f k i v) k' i' v' = up2 (up2 f k' i' v') k i v := by
  funext x y
  by_cases h1 : x = k
  · subst h1
    rw [up2_k _ h]
    by_cases h2 : y = i
    · subst h2; rw [up2_s, up2_s]
    · rw [up2_i _ h2, up2_i _ h2, up2_k _ h]
  · rw [up2_k _ h1]
    by_cases h2 : x = k'
    · subst h2
      by_cases h3 : y = i'
      · subst h3; rw [up2_s, up2_s]
      · rw [up2_i _ h3, up2_i _ h3, up2_k _ h1]
    · rw [up2_k _ h2, up2_k _ h1, up2_k _ h2]
theorem up2_same (f : Nat → Nat → Nat) (k i : Nat) : up2 f k i (f k i) = f := by
  funext x y
  by_cases h : x = k
  · subst h
    by_cases h2 : y = i
    · subst h2; rw [up2_s]
    · rw [up2_i _ h2]
  · rw [up2_k _ h]
theorem CW_app (cy : Nat → ClassId) (G : Nat → Nat) (S : Nat → Nat → Nat) (hd : Option Nat) (nx : Nat → Option Nat) (Y : va_W) : CW cy G S hd nx Y = CW cy G S hd nx [] ++ Y := by
  simp [CW, sgW, List.append_assoc]
theorem MW_app (cy : Nat → ClassId) (B : Nat → Nat) (S T : Nat → Nat → Nat) (Y : va_W) : MW cy B S T Y = MW cy B S T [] ++ Y := rfl
theorem stV_ne {S : Nat → Nat → Nat} {i : Nat} {c x v w j : Nat} (h : ∀ a, 60 * a + j ≠ 60 * c + i) : stV (up2 (up2 S 5 (60 * c + i) v) 7 (60 * c + i) w) j x = stV S j x := by
  simp only [stV]
  rw [up2_i _ (h x), up2_k _ (by decide), up2_i _ (h x), up2_k _ (by decide)]
theorem set_skip6 (x0 x1 x2 x3 x4 x5 : Nat × va_E) (r : va_W) (k : Nat) (y : Nat × va_E) : (x0 :: x1 :: x2 :: x3 :: x4 :: x5 :: r).set (6 + k) y = x0 :: x1 :: x2 :: x3 :: x4 :: x5 :: r.set k y := by
  rw [show 6 + k = k + 1 + 1 + 1 + 1 + 1 + 1 by omega]
  rfl
/-- a removal is written -/
theorem CW_setRm {cy : Nat → ClassId} {G : Nat → Nat} {S : Nat → Nat → Nat} {hd : Option Nat} {nx : Nat → Option Nat} {Y : va_W} {i c v : Nat} (hi : i < S 0 0) (hn : S 0 0 ≤ 60) :
    (CW cy G S hd nx Y).set (6 + (20 + (S 0 0 + (S 0 0 + i)))) (G (102 + 3 * i), .inl (cy 2, 4, .inl (upd (fun a => nI (S 6 (60 * a + i))) c (nI v)))) = CW cy G (up2 S 6 (60 * c + i) v) hd nx Y := by
  have e : ∀ j, j < S 0 0 → va_up (rmC cy S) i (.inl (cy 2, 4, .inl (upd (fun a => nI (S 6 (60 * a + i))) c (nI v)))) j = rmC cy (up2 S 6 (60 * c + i) v) j := fun j hj => by
    by_cases h : j = i
    · subst h
      simp only [va_up, if_true, rmC]
      congr 4
      funext a
      by_cases ha : a = c
      · subst ha; simp [upd, up2]
      · rw [up2_i _ (by omega)]; simp [upd, ha]
    · simp only [va_up, if_neg h, rmC]
      congr 4
      funext a
      rw [up2_i _ (by omega)]
  unfold CW
  rw [set_skip6]
  simp only [sgW]
  rw [fam_setk, fam_setk, fam_setk, fam_set hi, fam_congr (fun _ _ => rfl) e]
  rfl
/-- a stamp is written: the copy knows the sign then -/
theorem CW_setSt {cy : Nat → ClassId} {G : Nat → Nat} {S : Nat → Nat → Nat} {hd : Option Nat} {nx : Nat → Option Nat} {Y : va_W} {i c v : Nat} (hi : i < S 0 0) (hn : S 0 0 ≤ 60) :
    (CW cy G S hd nx Y).set (6 + (20 + (S 0 0 + i))) (G (101 + 3 * i), .inl (cy 0, 4, .inl (upd (stV S i) c (nI v)))) = CW cy G (up2 (up2 S 5 (60 * c + i) 1) 7 (60 * c + i) v) hd nx Y := by
  have e : ∀ j, j < S 0 0 → va_up (stC cy S) i (.inl (cy 0, 4, .inl (upd (stV S i) c (nI v)))) j = stC cy (up2 (up2 S 5 (60 * c + i) 1) 7 (60 * c + i) v) j := fun j hj => by
    by_cases h : j = i
    · subst h
      simp only [va_up, if_true, stC]
      congr 4
      funext a
      by_cases ha : a = c
      · subst ha; simp [upd, stV, up2]
      · simp only [upd, if_neg ha, stV]
        rw [up2_i _ (by omega), up2_k _ (by decide), up2_i _ (by omega), up2_k _ (by decide)]
    · simp only [va_up, if_neg h, stC]
      congr 4
      funext a
      exact (stV_ne (fun b => by omega)).symm
  unfold CW
  rw [set_skip6]
  simp only [sgW]
  rw [fam_setk, fam_setk, fam_set hi, fam_congr (fun _ _ => rfl) e]
  rfl
/-- the successor of a sign is written -/
theorem CW_setNx {cy : Nat → ClassId} {G : Nat → Nat} {S : Nat → Nat → Nat} {hd : Option Nat} {nx : Nat → Option Nat} {Y : va_W} {i : Nat} {o : Option Nat} (hi : i < S 0 0) :
    (CW cy G S hd nx Y).set (6 + (20 + i)) (G (100 + 3 * i), .inr (0, [.int (nI i), .int (nI (S 1 i)), .int (nI (S 2 i)), .int (nI (4 * S 3 i + S 1 i)), va_rf (if S 4 i = 0 then none else some (G (100 + 3 * (S 4 i - 1)))), va_rf (o.map fun j => G (100 + 3 * j)), .ref (G (101 + 3 * i)), .ref (G (102 + 3 * i))])) = CW cy G S hd (va_up nx i o) Y := by
  have e : ∀ j, j < S 0 0 → va_up (sgC G S nx) i (.inr (0, [.int (nI i), .int (nI (S 1 i)), .int (nI (S 2 i)), .int (nI (4 * S 3 i + S 1 i)), va_rf (if S 4 i = 0 then none else some (G (100 + 3 * (S 4 i - 1)))), va_rf (o.map fun j => G (100 + 3 * j)), .ref (G (101 + 3 * i)), .ref (G (102 + 3 * i))])) j = sgC G S (va_up nx i o) j := fun j hj => by
    by_cases h : j = i
    · subst h; simp [va_up, sgC]
    · simp [va_up, sgC, h]
  unfold CW
  rw [set_skip6]
  simp only [sgW]
  rw [fam_setk, fam_set hi, fam_congr (fun _ _ => rfl) e]
/-- an edition's row is written -/
theorem CW_setRw {cy : Nat → ClassId} {G : Nat → Nat} {S : Nat → Nat → Nat} {hd : Option Nat} {nx : Nat → Option Nat} {Y : va_W} {e c v : Nat} (he : e < 20) (hc : c < 4) :
    (CW cy G S hd nx Y).set (6 + e) (G (10 + e), .inl (cy 0, 4, .inl (upd (rwV S e) c (nI v)))) = CW cy G (up2 S 9 (4 * e + c) v) hd nx Y := by
  have h : ∀ j, j < 20 → va_up (rwC cy S) e (.inl (cy 0, 4, .inl (upd (rwV S e) c (nI v)))) j = rwC cy (up2 S 9 (4 * e + c) v) j := fun j hj => by
    by_cases h : j = e
    · subst h
      simp only [va_up, if_true, rwC]
      congr 4
      funext a
      by_cases ha : a = c
      · subst ha; simp [upd, rwV, up2, hc]
      · simp only [upd, if_neg ha, rwV]
        rw [up2_i _ (by omega)]
    · simp only [va_up, if_neg h, rwC]
      congr 4
      funext a
      simp only [rwV]
      by_cases ha : a < 4
      · rw [if_pos ha, if_pos ha, up2_i _ (by omega)]
      · rw [if_neg ha, if_neg ha]
  unfold CW
  rw [set_skip6]
  rw [fam_set he, fam_congr (fun _ _ => rfl) h]
  rfl
/-- worlds in another order -/
theorem P_iff {D : va_G} {ws : va_W} {H : Heap} : va_P D vwCl ws H ↔ ∀ q, q ∈ ws → va_at D vwCl q H := by
  refine ⟨fun h q hq => ?_, fun h k q hk => h q (List.mem_of_getElem? hk)⟩
  obtain ⟨k, hk⟩ := List.mem_iff_getElem?.mp hq
  exact h k q hk
theorem P_perm {D : va_G} {ws ws' : va_W} {H : Heap} (h : ws.Perm ws') (hP : va_P D vwCl ws H) : va_P D vwCl ws' H := P_iff.mpr (fun q hq => P_iff.mp hP q (h.mem_iff.mpr hq))
theorem D_iff {A : Nat → Prop} {ws : va_W} : va_D A ws ↔ (ws.map Prod.fst).Nodup ∧ ∀ q, q ∈ ws → A q.1 := by
  constructor
  · intro h
    refine ⟨?_, fun q hq => ?_⟩
    · rw [List.nodup_iff_pairwise_ne, List.pairwise_iff_getElem]
      intro i j hi hj hij he
      rw [List.length_map] at hi hj
      have := h.1 i j _ _ (List.getElem?_eq_getElem hi) (List.getElem?_eq_getElem hj) (by simpa using he)
      omega
    · obtain ⟨k, hk⟩ := List.mem_iff_getElem?.mp hq
      exact h.2 k q hk
  · intro h
    refine ⟨fun i j p q hp hq he => ?_, fun k q hk => h.2 q (List.mem_of_getElem? hk)⟩
    have hn := h.1
    rw [List.nodup_iff_pairwise_ne, List.pairwise_iff_getElem] at hn
    obtain ⟨hi, hp⟩ := List.getElem?_eq_some_iff.mp hp
    obtain ⟨hj, hq⟩ := List.getElem?_eq_some_iff.mp hq
    rcases Nat.lt_trichotomy i j with hlt | heq | hgt
    · exact (hn i j (by simpa using hi) (by simpa using hj) hlt (by simp [hp, hq, he])).elim
    · exact heq
    · exact (hn j i (by simpa using hj) (by simpa using hi) hgt (by simp [hp, hq, he])).elim
theorem D_perm {A : Nat → Prop} {ws ws' : va_W} (h : ws.Perm ws') (hD : va_D A ws) : va_D A ws' := by
  rw [D_iff] at hD ⊢
  exact ⟨(h.map _).nodup_iff.mp hD.1, fun q hq => hD.2 q (h.mem_iff.mpr hq)⟩
theorem G_inj {cy : Nat → ClassId} {G : Nat → Nat} {S : Nat → Nat → Nat} {hd : Option Nat} {nx : Nat → Option Nat} {Y : va_W} {A : Nat → Prop} {i j : Nat} (hD : va_D A (CW cy G S hd nx Y)) (hi : i < S 0 0) (hj : j < S 0 0) (h : G (100 + 3 * i) = G (100 + 3 * j)) : i = j := by
  have := hD.1 _ _ _ _ (CW_sg hi) (CW_sg hj) h
  omega
/-- the chain: hd the first, nx the successors, L the signs in order -/
def ChP (nx : Nat → Option Nat) : Option Nat → List Nat → Prop
  | o, [] => o = none
  | o, x :: r => o = some x ∧ ChP nx (nx x) r
theorem nI_m1 {x : Nat} (h : x < 2 ^ 31) : ¬ nI x = -1 := fun e => by
  have := congrArg Int32.toInt e
  rw [nI_toInt h] at this
  have h2 : (-1 : Int32).toInt = -1 := by decide
  omega
theorem m1_lt {x : Nat} (h : x < 2 ^ 31) : (-1 : Int32) < nI x := by
  rw [Int32.lt_iff_toInt_lt, nI_toInt h]
  have h2 : (-1 : Int32).toInt = -1 := by decide
  omega
