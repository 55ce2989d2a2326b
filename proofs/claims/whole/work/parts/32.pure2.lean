/-! ===== the text, as the reference lays it ===== -/
theorem nd_len : ∀ (n : Nat) (L : List Nat), L.Nodup → (∀ i, i ∈ L → i < n) → L.length ≤ n
  | 0, L, _, h => by
    cases L with
    | nil => exact Nat.le_refl _
    | cons x r => exact absurd (h x List.mem_cons_self) (Nat.not_lt_zero x)
  | n + 1, L, hn, h => by
    by_cases hm : n ∈ L
    · have h1 := nd_len n (L.erase n) (hn.erase n) (fun i hi => by
        rw [hn.mem_erase_iff] at hi
        have := h i hi.2
        omega)
      rw [List.length_erase_of_mem hm] at h1
      omega
    · have h1 := nd_len n L hn (fun i hi => by
        have := h i hi
        have : i ≠ n := fun e => hm (e ▸ hi)
        omega)
      omega
theorem layP_len {S : Nat → Nat → Nat} {a : Nat} {L : List Nat} (h : layP S a L) : L.length ≤ S 0 0 := nd_len _ L h.1 (fun i hi => ((h.2.1 i).mp hi).1)
theorem ord_app {S : Nat → Nat → Nat} : ∀ (X Y rp : List Nat), ordP S rp (X ++ Y) → ordP S rp X ∧ ordP S (X.reverse ++ rp) Y
  | [], _, _, h => ⟨trivial, h⟩
  | x :: X, Y, rp, h => by
    obtain ⟨h1, h2⟩ := ord_app X Y (x :: rp) h.2
    refine ⟨⟨h.1, h1⟩, ?_⟩
    simpa using h2
theorem ord_par {S : Nat → Nat → Nat} : ∀ (X rp : List Nat), ordP S rp X → ∀ v, v ∈ X → S 4 v = 0 ∨ S 4 v - 1 ∈ rp ∨ S 4 v - 1 ∈ X
  | [], _, _, v, hv => absurd hv List.not_mem_nil
  | x :: X, rp, h, v, hv => by
    rcases List.mem_cons.mp hv with e | e
    · subst e
      have := sees_fr h.1
      simp only [frP, Bool.or_eq_true, decide_eq_true_eq] at this
      rcases this with h | h
      · exact Or.inl h
      · exact Or.inr (Or.inl h)
    · rcases ord_par X (x :: rp) h.2 v e with h | h | h
      · exact Or.inl h
      · rcases List.mem_cons.mp h with h | h
        · exact Or.inr (Or.inr (by rw [h]; exact List.mem_cons_self))
        · exact Or.inr (Or.inl h)
      · exact Or.inr (Or.inr (List.mem_cons_of_mem _ h))
theorem stk_step {S : Nat → Nat → Nat} {a s : Nat} {L rp suf : List Nat} (hL : layP S a L) (hg : growP S) (e : L = rp.reverse ++ s :: suf) : (kidsL S L (s + 1)).reverse ++ suf.filter (frP S rp) = suf.filter (frP S (s :: rp)) := by
  have hn := hL.1
  have ho := hL.2.2
  rw [e] at hn ho
  obtain ⟨ho1, ho2⟩ := ord_app _ _ _ ho
  simp only [List.reverse_reverse, List.append_nil] at ho2
  have hd := (List.nodup_append.mp hn)
  have hs : s ∉ rp := fun h => hd.2.2 s (List.mem_reverse.mpr h) s List.mem_cons_self rfl
  have hsn := List.nodup_cons.mp hd.2.1
  have hlt : ∀ z, z ∈ L → z < S 0 0 := fun z hz => ((hL.2.1 z).mp hz).1
  have hg2 : ∀ i, S 4 i = s + 1 → i < S 0 0 → keyS S s < keyS S i := fun i h1 h2 => by
    rcases hg i h2 with h | ⟨-, h⟩
    · omega
    · rw [h1] at h; exact h
  have h1 := fr_split hg2 hs suf [] (fun v hv => absurd hv List.not_mem_nil) (fun z hz => ⟨hlt z (by rw [e]; exact List.mem_append_right _ (List.mem_cons_of_mem _ hz)), fun h => hsn.1 (h ▸ hz), fun h => hd.2.2 z (List.mem_reverse.mpr h) z (List.mem_cons_of_mem _ hz) rfl⟩) ho2.2
  rw [h1]
  congr 1
  rw [kidsL, List.reverse_reverse, e, List.filter_append, List.filter_cons]
  have e1 : rp.reverse.filter (fun i => decide (S 4 i = s + 1)) = [] := by
    rw [List.filter_eq_nil_iff]
    intro v hv
    simp only [decide_eq_true_eq]
    intro h9
    rcases ord_par _ _ ho1 v hv with h | h | h
    · omega
    · exact absurd h List.not_mem_nil
    · rw [h9] at h
      exact hs (List.mem_reverse.mp h)
  have e2 : ¬ S 4 s = s + 1 := by
    intro h9
    have := sees_fr ho2.1
    simp only [frP, Bool.or_eq_true, decide_eq_true_eq] at this
    rcases this with h | h
    · omega
    · rw [h9] at h; exact hs h
  rw [e1]
  simp [e2]
theorem fr_head {S : Nat → Nat → Nat} {rp suf : List Nat} (ho : ordP S rp suf) (h : suf.filter (frP S rp) = []) : suf = [] := by
  cases suf with
  | nil => rfl
  | cons s r =>
    rw [List.filter_cons, if_pos (sees_fr ho.1)] at h
    cases h
theorem fr_0 (S : Nat → Nat → Nat) (L : List Nat) : (kidsL S L 0).reverse ++ [] = L.filter (frP S []) := by
  rw [kidsL, List.reverse_reverse, List.append_nil]
  apply List.filter_congr
  intro i _
  simp [frP]
def visB (S : Nat → Nat → Nat) (a i : Nat) : Bool := decide (S 6 (60 * a + i) = 0)
def txtP (T : Nat → Nat → Nat) (L : List Nat) : Prop := T 0 0 = L.length ∧ ∀ j, j < L.length → some (T 1 j) = L[j]?
theorem txtP_same {T T' : Nat → Nat → Nat} {L : List Nat} (h : txtP T L) (h0 : T' 0 0 = T 0 0) (h1 : T' 1 = T 1) : txtP T' L := ⟨by rw [h0]; exact h.1, fun j hj => by rw [h1]; exact h.2 j hj⟩
theorem txtP_add {T : Nat → Nat → Nat} {L : List Nat} {s : Nat} (h : txtP T L) : txtP (up2 (up2 T 1 (T 0 0) s) 0 0 (T 0 0 + 1)) (L ++ [s]) := by
  refine ⟨by rw [up2_s, h.1]; simp, fun j hj => ?_⟩
  by_cases e : j = T 0 0
  · subst e
    rw [List.getElem?_append_right (by rw [h.1]; exact Nat.le_refl _)]
    simp [up2, h.1]
  · have hk : j < L.length := by rw [List.length_append, List.length_singleton] at hj; rw [h.1] at e; omega
    rw [List.getElem?_append_left hk, ← h.2 j hk]
    simp [up2, e]
