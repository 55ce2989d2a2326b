/-! ===== what each call does, once for both sides: (which exception, answer, state) ===== -/
def aN (p : Int32) : Nat := p.toNatClampNeg
theorem aN_n {a : Nat} (h : a < 2 ^ 31) : aN (nI a) = a := nI_clamp h
def vsb (S : Nat → Nat → Nat) (a i : Nat) : Bool := decide (S 5 (60 * a + i) = 1) && decide (S 6 (60 * a + i) = 0)
/-- the text of a copy -/
def txL (S : Nat → Nat → Nat) (O : List Nat) (a : Nat) : List Nat := O.filter (vsb S a)
abbrev Res : Type := Nat × Int32 × (Nat → Nat → Nat)
def insS (S : Nat → Nat → Nat) (a b c : Nat) : Nat → Nat → Nat := up2 (up2 (up2 (up2 (up2 (up2 (up2 S 8 a (S 8 a + 1)) 1 (S 0 0) a) 2 (S 0 0) c) 3 (S 0 0) (S 8 a + 1)) 4 (S 0 0) b) 5 (60 * a + S 0 0) 1) 0 0 (S 0 0 + 1)
def parL (S : Nat → Nat → Nat) (O : List Nat) (a k : Nat) : Nat := if k = 0 then 0 else (txL S O a).getD (k - 1) 0 + 1
def spInsert (S : Nat → Nat → Nat) (O : List Nat) (p0 p1 p2 : Int32) : Res :=
  if (isA p0 && inB p2 0 25) = false then (1, 0, S) else if inB p1 0 (nI (txL S O (aN p0)).length) = false then (2, 0, S) else if S 0 0 = 60 then (3, 0, S) else (0, nI (S 0 0), insS S (aN p0) (parL S O (aN p0) (aN p1)) (aN p2))
/-- removal (v = 1) or restoration (v = 0) of a sign -/
def setS (S : Nat → Nat → Nat) (a i v : Nat) : Nat → Nat → Nat := up2 (up2 (up2 S 6 (60 * a + i) v) 8 a (S 8 a + 1)) 7 (60 * a + i) (4 * (S 8 a + 1) + a)
def spRemove (S : Nat → Nat → Nat) (O : List Nat) (p0 p1 : Int32) : Res :=
  if isA p0 = false then (1, 0, S) else if inS p1 (txL S O (aN p0)).length = false then (2, 0, S) else (0, nI ((txL S O (aN p0)).getD (aN p1) 0), setS S (aN p0) ((txL S O (aN p0)).getD (aN p1) 0) 1)
/-- how many stand ahead of i -/
def posL : List Nat → Nat → Nat
  | [], _ => 0
  | x :: r, i => if x = i then 0 else posL r i + 1
theorem posL_at {i : Nat} : ∀ {L : List Nat}, i ∈ L → posL L i < L.length ∧ L[posL L i]? = some i
  | [], h => absurd h List.not_mem_nil
  | x :: r, h => by
    by_cases e : x = i
    · subst e
      simp [posL]
    · rcases List.mem_cons.mp h with h | h
      · exact absurd h.symm e
      · obtain ⟨h1, h2⟩ := posL_at h
        simp only [posL, if_neg e, List.length_cons, List.getElem?_cons_succ]
        exact ⟨by omega, h2⟩
theorem posL_eq {i : Nat} : ∀ {L : List Nat} {j : Nat}, L.Nodup → L[j]? = some i → j = posL L i
  | [], j, _, h => by simp at h
  | x :: r, 0, _, h => by
    have : x = i := by simpa using h
    simp [posL, this]
  | x :: r, j + 1, hn, h => by
    have h2 : r[j]? = some i := by simpa using h
    have hne : ¬ x = i := fun e => (List.nodup_cons.mp hn).1 (e ▸ List.mem_of_getElem? h2)
    simp only [posL, if_neg hne]
    rw [posL_eq (List.nodup_cons.mp hn).2 h2]
def spRestore (S : Nat → Nat → Nat) (O : List Nat) (p0 p1 : Int32) : Res :=
  if inS p1 (S 0 0) = false then (1, 0, S) else if isA p0 = false then (2, 0, S) else if S 5 (60 * aN p0 + aN p1) = 1 ∧ S 6 (60 * aN p0 + aN p1) = 1 then (0, nI (posL (txL (setS S (aN p0) (aN p1) 0) O (aN p0)) (aN p1)), setS S (aN p0) (aN p1) 0) else (3, 0, S)
/-- learning: done for the signs of P -/
def lrB (S : Nat → Nat → Nat) (a f i : Nat) : Bool := decide (S 5 (60 * f + i) = 1) && (decide (S 5 (60 * a + i) = 0) || decide (S 7 (60 * a + i) < S 7 (60 * f + i)))
def lrP (S : Nat → Nat → Nat) (a f : Nat) (P : Nat → Bool) : Nat → Nat → Nat := fun k j =>
  if k = 5 then (if 60 * a ≤ j ∧ j < 60 * a + 60 ∧ (P (j - 60 * a) && lrB S a f (j - 60 * a)) = true then 1 else S 5 j)
  else if k = 6 then (if 60 * a ≤ j ∧ j < 60 * a + 60 ∧ (P (j - 60 * a) && lrB S a f (j - 60 * a)) = true then S 6 (60 * f + (j - 60 * a)) else S 6 j)
  else if k = 7 then (if 60 * a ≤ j ∧ j < 60 * a + 60 ∧ (P (j - 60 * a) && lrB S a f (j - 60 * a)) = true then S 7 (60 * f + (j - 60 * a)) else S 7 j)
  else S k j
def nwB (S : Nat → Nat → Nat) (a f i : Nat) : Bool := decide (S 5 (60 * f + i) = 1) && decide (S 5 (60 * a + i) = 0)
def lrS (S : Nat → Nat → Nat) (a f : Nat) : Nat → Nat → Nat := up2 (lrP S a f (fun i => decide (i < S 0 0))) 8 a (max (S 8 a) (S 8 f))
def spLearn (S : Nat → Nat → Nat) (p0 p1 : Int32) : Res :=
  if (isA p0 && isA p1 && !decide (p0 = p1)) = false then (1, 0, S) else (0, nI ((List.range (S 0 0)).countP (nwB S (aN p0) (aN p1))), lrS S (aN p0) (aN p1))
def spLength (S : Nat → Nat → Nat) (O : List Nat) (p0 : Int32) : Res := if isA p0 = false then (1, 0, S) else (0, nI (txL S O (aN p0)).length, S)
def spSignAt (S : Nat → Nat → Nat) (O : List Nat) (p0 p1 : Int32) : Res :=
  if isA p0 = false then (1, 0, S) else if inS p1 (txL S O (aN p0)).length = false then (2, 0, S) else (0, nI ((txL S O (aN p0)).getD (aN p1) 0), S)
def spLetterAt (S : Nat → Nat → Nat) (O : List Nat) (p0 p1 : Int32) : Res :=
  if isA p0 = false then (1, 0, S) else if inS p1 (txL S O (aN p0)).length = false then (2, 0, S) else (0, nI (S 2 ((txL S O (aN p0)).getD (aN p1) 0)), S)
def alB (S : Nat → Nat → Nat) (a b n : Nat) : Bool := (List.range n).all (fun i => vsb S a i == vsb S b i)
def spAreAlike (S : Nat → Nat → Nat) (p0 p1 : Int32) : Res := if (isA p0 && isA p1) = false then (1, 0, S) else (0, nI (bN (alB S (aN p0) (aN p1) (S 0 0))), S)
def spAuthorOf (S : Nat → Nat → Nat) (p0 : Int32) : Res := if inS p0 (S 0 0) = false then (1, 0, S) else (0, nI (S 1 (aN p0)), S)
def spBehind (S : Nat → Nat → Nat) (p0 : Int32) : Res := if inS p0 (S 0 0) = false then (1, 0, S) else (0, bI (S 4 (aN p0)), S)
def spClock (S : Nat → Nat → Nat) (p0 : Int32) : Res := if isA p0 = false then (1, 0, S) else (0, nI (S 8 (aN p0)), S)
/-- the row of the next edition -/
def rowS (S : Nat → Nat → Nat) (f : Nat → Nat) : Nat → Nat → Nat := fun k j => if k = 9 then (if 4 * S 0 1 ≤ j ∧ j < 4 * S 0 1 + 4 then f (j - 4 * S 0 1) else S 9 j) else S k j
def cntA (S : Nat → Nat → Nat) (L : List Nat) (a : Nat) : Nat := L.countP (fun i => decide (S 1 i = a))
def prS (S : Nat → Nat → Nat) (L : List Nat) : Nat → Nat → Nat := up2 (rowS S (cntA S L)) 0 1 (S 0 1 + 1)
def spPrint (S : Nat → Nat → Nat) (O : List Nat) (p0 : Int32) : Res :=
  if isA p0 = false then (1, 0, S) else if (txL S O (aN p0)).length = 0 ∨ S 0 1 = 20 then (2, 0, S) else (0, nI (S 0 1), prS S (txL S O (aN p0)))
def spPrinted (S : Nat → Nat → Nat) (p0 p1 : Int32) : Res := if inS p0 (S 0 1) = false then (1, 0, S) else if isA p1 = false then (2, 0, S) else (0, nI (S 9 (4 * aN p0 + aN p1)), S)
def spSetFloor (S : Nat → Nat → Nat) (p0 : Int32) : Res := if inB p0 0 25 = false then (1, 0, S) else (0, nI (S 0 2), up2 S 0 2 (aN p0))
def spAdvance (S : Nat → Nat → Nat) (p0 p1 : Int32) : Res := if (isA p0 && inB p1 1 100000) = false then (1, 0, S) else (0, nI (S 10 (aN p0) + aN p1), up2 S 10 (aN p0) (S 10 (aN p0) + aN p1))
def spLeft (S : Nat → Nat → Nat) (p0 : Int32) : Res := if isA p0 = false then (1, 0, S) else (0, nI (S 10 (aN p0)), S)
def cPaid (p0 : Int32) : Nat := if isA p0 = false then 1 else 0
/-- splitting a sale of edition e for m -/
def s4 (f : Nat → Nat) : Nat := f 0 + f 1 + f 2 + f 3
def slF (S : Nat → Nat → Nat) (m : Nat) : Nat := m * S 0 2 / 100
def slW (S : Nat → Nat → Nat) (e : Nat) : Nat := s4 (fun a => if S 9 (4 * e + a) = 0 then 0 else 1)
def slL (S : Nat → Nat → Nat) (e m : Nat) : Nat := m - slW S e * slF S m
def slA (S : Nat → Nat → Nat) (e : Nat) : Nat := s4 (fun a => S 9 (4 * e + a))
def slP (S : Nat → Nat → Nat) (e m a : Nat) : Nat := slL S e m * S 9 (4 * e + a) / slA S e
def slR (S : Nat → Nat → Nat) (e m : Nat) : Nat := slL S e m - s4 (slP S e m)
def slI (S : Nat → Nat → Nat) (e : Nat) : Nat := if S 9 (4 * e + 0) = 0 then (if S 9 (4 * e + 1) = 0 then (if S 9 (4 * e + 2) = 0 then 3 else 2) else 1) else 0
/-- what an author gets -/
def slG (S : Nat → Nat → Nat) (e m a : Nat) : Nat := slP S e m a + (if S 9 (4 * e + a) = 0 then 0 else slF S m) + (if a = slI S e then slR S e m else 0)
def slH (S : Nat → Nat → Nat) (e m a : Nat) : Nat := min (slG S e m a) (S 10 a)
/-- done for the authors below n -/
def slS (S : Nat → Nat → Nat) (e m n : Nat) : Nat → Nat → Nat := fun k j => if k = 10 then (if j < n then S 10 j - slH S e m j else S 10 j) else if k = 11 then (if j < n then S 11 j + (slG S e m j - slH S e m j) else S 11 j) else S k j
def spSell (S : Nat → Nat → Nat) (p0 p1 : Int32) : Res :=
  if inS p0 (S 0 1) = false then (1, 0, S) else if inB p1 1 1000000 = false then (2, 0, S) else (0, nI (s4 (fun a => slG S (aN p0) (aN p1) a - slH S (aN p0) (aN p1) a)), slS S (aN p0) (aN p1) 4)
/-- what holds between calls: O is the order of all signs -/
def Inv (S : Nat → Nat → Nat) (O : List Nat) : Prop := Rng S ∧ growP S ∧ ordP S [] O ∧ O.Nodup ∧ (∀ i, i ∈ O ↔ i < S 0 0) ∧
  (∀ a i, a < 4 → i < S 0 0 → S 5 (60 * a + i) = 1 → (S 4 i = 0 ∨ S 5 (60 * a + (S 4 i - 1)) = 1) ∧ S 3 i ≤ S 8 a) ∧ (∀ i, i < S 0 0 → S 3 i ≤ S 8 (S 1 i)) ∧
  (∀ a i, a < 4 → S 0 0 ≤ i → i < 60 → S 5 (60 * a + i) = 0 ∧ S 6 (60 * a + i) = 0 ∧ S 7 (60 * a + i) = 0) ∧
  (∀ e a, S 0 1 ≤ e → a < 4 → S 9 (4 * e + a) = 0) ∧ (∀ e, e < S 0 1 → 0 < slA S e ∧ slA S e ≤ 60)
def layL (S : Nat → Nat → Nat) (O : List Nat) (a : Nat) : List Nat := O.filter (fun i => decide (S 5 (60 * a + i) = 1))
theorem lay_txt (S : Nat → Nat → Nat) (O : List Nat) (a : Nat) : (layL S O a).filter (visB S a) = txL S O a := by
  rw [layL, List.filter_filter, txL]
  apply List.filter_congr
  intro i _
  simp [vsb, visB, Bool.and_comm]
theorem sees_filter {S : Nat → Nat → Nat} {K : Nat → Bool} {t : Nat} (hK : S 4 t = 0 ∨ K (S 4 t - 1) = true) : ∀ {rp : List Nat}, sees S t rp → sees S t (rp.filter K)
  | [], h => h
  | u :: r, h => by
    rw [List.filter_cons]
    rcases h with h | ⟨h1, h2⟩
    · have : K u = true := by
        rcases hK with hK | hK
        · omega
        · rw [h] at hK; exact hK
      rw [if_pos this]
      exact Or.inl h
    · by_cases hu : K u = true
      · rw [if_pos hu]; exact Or.inr ⟨h1, sees_filter hK h2⟩
      · rw [if_neg hu]; exact sees_filter hK h2
theorem ord_filter {S : Nat → Nat → Nat} {K : Nat → Bool} : ∀ (suf rp : List Nat), (∀ t, t ∈ suf → K t = true → S 4 t = 0 ∨ K (S 4 t - 1) = true) → ordP S rp suf → ordP S (rp.filter K) (suf.filter K)
  | [], _, _, _ => trivial
  | t :: suf, rp, hK, h => by
    have ih := ord_filter suf (t :: rp) (fun u hu => hK u (List.mem_cons_of_mem _ hu)) h.2
    rw [List.filter_cons]
    by_cases ht : K t = true
    · rw [if_pos ht]
      refine ⟨sees_filter (hK t List.mem_cons_self ht) h.1, ?_⟩
      rw [List.filter_cons, if_pos ht] at ih
      exact ih
    · rw [if_neg ht]
      rw [List.filter_cons, if_neg ht] at ih
      exact ih
theorem Inv.lay {S : Nat → Nat → Nat} {O : List Nat} (h : Inv S O) {a : Nat} (ha : a < 4) : layP S a (layL S O a) := by
  obtain ⟨hR, hg, ho, hn, hm, hk, -⟩ := h
  refine ⟨hn.filter _, fun i => ?_, ?_⟩
  · rw [layL, List.mem_filter, hm i]
    simp
  · have := ord_filter (K := fun i => decide (S 5 (60 * a + i) = 1)) O [] (fun t ht h5 => by
      have := (hk a t ha ((hm t).mp ht) (by simpa using h5)).1
      simpa using this) ho
    exact this
theorem Inv.R {S : Nat → Nat → Nat} {O : List Nat} (h : Inv S O) : Rng S := h.1
theorem Inv.g {S : Nat → Nat → Nat} {O : List Nat} (h : Inv S O) : growP S := h.2.1
theorem Inv.len {S : Nat → Nat → Nat} {O : List Nat} (h : Inv S O) (a : Nat) : (txL S O a).length ≤ 60 := by
  have h1 : (txL S O a).length ≤ O.length := List.length_filter_le _ _
  have h2 : O.length ≤ S 0 0 := nd_len _ O h.2.2.2.1 (fun i hi => (h.2.2.2.2.1 i).mp hi)
  have := h.1.1
  omega
theorem txL_mem {S : Nat → Nat → Nat} {O : List Nat} (h : Inv S O) {a i : Nat} (hi : i ∈ txL S O a) : i < S 0 0 ∧ S 5 (60 * a + i) = 1 ∧ S 6 (60 * a + i) = 0 := by
  obtain ⟨h1, h2⟩ := List.mem_filter.mp hi
  simp only [vsb, Bool.and_eq_true, decide_eq_true_eq] at h2
  exact ⟨(h.2.2.2.2.1 i).mp h1, h2.1, h2.2⟩
theorem getD_lt {L : List Nat} {k : Nat} (h : k < L.length) : L.getD k 0 = L[k] := by
  rw [List.getD_eq_getElem?_getD, List.getElem?_eq_getElem h]
  rfl
theorem getD_mem {L : List Nat} {k : Nat} (h : k < L.length) : L.getD k 0 ∈ L := by
  rw [getD_lt h]
  exact List.getElem_mem h
theorem txt_at {T : Nat → Nat → Nat} {L : List Nat} (h : txtP T L) {k : Nat} (hk : k < L.length) : T 1 k = L.getD k 0 := by
  have h9 := h.2 k hk
  rw [List.getElem?_eq_getElem hk] at h9
  rw [getD_lt hk]
  exact Option.some.inj h9
theorem sees_congr {S S' : Nat → Nat → Nat} {t : Nat} (h4 : S' 4 t = S 4 t) (hk : ∀ i, keyS S' i = keyS S i) : ∀ {rp : List Nat}, sees S t rp → sees S' t rp
  | [], h => h4.trans h
  | u :: r, h => by
    rcases h with h | ⟨h1, h2⟩
    · exact Or.inl (h4.trans h)
    · exact Or.inr ⟨by rw [hk, hk]; exact h1, sees_congr h4 hk h2⟩
theorem ord_congr {S S' : Nat → Nat → Nat} (h4 : ∀ i, S' 4 i = S 4 i) (hk : ∀ i, keyS S' i = keyS S i) : ∀ (suf rp : List Nat), ordP S rp suf → ordP S' rp suf
  | [], _, _ => trivial
  | t :: suf, rp, h => ⟨sees_congr (h4 t) hk h.1, ord_congr h4 hk suf (t :: rp) h.2⟩
/-- clocks are far from their bound -/
def Few (S : Nat → Nat → Nat) : Prop := ∀ i, S 8 i < 100000
theorem Rng.set {S : Nat → Nat → Nat} (h : Rng S) (hf : Few S) {a i v : Nat} (ha : a < 4) (hv : v < 2) : Rng (setS S a i v) := by
  obtain ⟨h1, h2, h3, h4, h5, h6, h7, h8, h9, h10, h11, h12, h13⟩ := h
  refine ⟨h1, h2, h3, h4, h5, h6, h7, h8, fun j => ?_, fun j => ?_, fun j => ?_, h12, h13⟩
  · by_cases e : j = 60 * a + i
    · subst e; simp [setS, up2, hv]
    · have := h9 j; simp [setS, up2, e]; exact this
  · have := hf a
    by_cases e : j = 60 * a + i
    · subst e; simp [setS, up2]; omega
    · have := h10 j; simp [setS, up2, e]; exact this
  · have := hf a
    by_cases e : j = a
    · subst e; simp [setS, up2]; omega
    · have := h11 j; simp [setS, up2, e]; exact this
theorem grow_set {S : Nat → Nat → Nat} (h : growP S) (a i v : Nat) : growP (setS S a i v) := h
theorem lay_set {S : Nat → Nat → Nat} {b : Nat} {L : List Nat} (h : layP S b L) (a i v : Nat) : layP (setS S a i v) b L := ⟨h.1, h.2.1, ord_congr (S := S) (S' := setS S a i v) (fun _ => rfl) (fun _ => rfl) L [] h.2.2⟩
