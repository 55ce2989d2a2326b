/-! ===== putting a sign into the order ===== -/
def insK (S : Nat → Nat → Nat) (z : Nat) : List Nat → List Nat
  | [] => [z]
  | x :: r => if keyS S z < keyS S x then x :: insK S z r else z :: x :: r
def insO (S : Nat → Nat → Nat) (z : Nat) : List Nat → List Nat
  | [] => [z]
  | x :: r => if S 4 z = x + 1 then x :: insK S z r else x :: insO S z r
def ordI (S : Nat → Nat → Nat) (z : Nat) (O : List Nat) : List Nat := if S 4 z = 0 then insK S z O else insO S z O
theorem insO_split {S : Nat → Nat → Nat} {z y : Nat} (h : S 4 z = y + 1) : ∀ {O : List Nat}, y ∈ O → ∃ A B, O = A ++ y :: B ∧ insO S z O = A ++ y :: insK S z B
  | [], hy => absurd hy List.not_mem_nil
  | x :: r, hy => by
    by_cases e : x = y
    · subst e
      exact ⟨[], r, rfl, by rw [insO, if_pos h]; rfl⟩
    · rcases List.mem_cons.mp hy with h9 | h9
      · exact absurd h9.symm e
      · obtain ⟨A, B, h1, h2⟩ := insO_split h h9
        exact ⟨x :: A, B, by rw [h1]; rfl, by rw [insO, if_neg (by omega), h2]; rfl⟩
theorem insK_perm (S : Nat → Nat → Nat) (z : Nat) : ∀ O : List Nat, (insK S z O).Perm (z :: O)
  | [] => List.Perm.refl _
  | x :: r => by
    rw [insK]
    split
    · exact ((insK_perm S z r).cons x).trans (List.Perm.swap z x r)
    · exact List.Perm.refl _
theorem insO_perm (S : Nat → Nat → Nat) (z : Nat) : ∀ O : List Nat, (insO S z O).Perm (z :: O)
  | [] => List.Perm.refl _
  | x :: r => by
    rw [insO]
    split
    · exact ((insK_perm S z r).cons x).trans (List.Perm.swap z x r)
    · exact ((insO_perm S z r).cons x).trans (List.Perm.swap z x r)
theorem ordI_perm (S : Nat → Nat → Nat) (z : Nat) (O : List Nat) : (ordI S z O).Perm (z :: O) := by
  rw [ordI]
  split
  · exact insK_perm S z O
  · exact insO_perm S z O
theorem sees_ins {S : Nat → Nat → Nat} {t x z : Nat} {rp : List Nat} (hz : keyS S x < keyS S z) : ∀ {L : List Nat}, sees S t (L ++ x :: rp) → sees S t (L ++ x :: z :: rp)
  | [], h => by
    rcases h with h | ⟨h1, h2⟩
    · exact Or.inl h
    · exact Or.inr ⟨h1, Or.inr ⟨Nat.lt_trans h1 hz, h2⟩⟩
  | v :: L, h => by
    rcases h with h | ⟨h1, h2⟩
    · exact Or.inl h
    · exact Or.inr ⟨h1, sees_ins hz h2⟩
theorem ord_ins {S : Nat → Nat → Nat} {x z : Nat} {rp : List Nat} (hz : keyS S x < keyS S z) : ∀ (r L : List Nat), ordP S (L ++ x :: rp) r → ordP S (L ++ x :: z :: rp) r
  | [], _, _ => trivial
  | t :: r, L, h => ⟨sees_ins hz h.1, ord_ins hz r (t :: L) h.2⟩
theorem insK_ord {S : Nat → Nat → Nat} {z : Nat} : ∀ (B rp : List Nat), (∀ t, t ∈ B → keyS S t ≠ keyS S z) → sees S z rp → ordP S rp B → ordP S rp (insK S z B)
  | [], _, _, hs, _ => ⟨hs, trivial⟩
  | x :: r, rp, hk, hs, ho => by
    rw [insK]
    split
    · rename_i h
      exact ⟨ho.1, insK_ord r (x :: rp) (fun t ht => hk t (List.mem_cons_of_mem _ ht)) (Or.inr ⟨h, hs⟩) ho.2⟩
    · rename_i h
      have hx : keyS S x < keyS S z := by
        have := hk x List.mem_cons_self
        omega
      exact ⟨hs, Or.inr ⟨hx, ho.1⟩, ord_ins hx r [] ho.2⟩
theorem ord_join {S : Nat → Nat → Nat} : ∀ (X Y rp : List Nat), ordP S rp X → ordP S (X.reverse ++ rp) Y → ordP S rp (X ++ Y)
  | [], _, _, _, h => h
  | x :: X, Y, rp, h1, h2 => ⟨h1.1, ord_join X Y (x :: rp) h1.2 (by simpa using h2)⟩
theorem ordI_ord {S : Nat → Nat → Nat} {z : Nat} {O : List Nat} (hk : ∀ t, t ∈ O → keyS S t ≠ keyS S z) (hb : S 4 z = 0 ∨ S 4 z - 1 ∈ O) (ho : ordP S [] O) : ordP S [] (ordI S z O) := by
  rw [ordI]
  split
  · rename_i h
    exact insK_ord O [] hk h ho
  · rename_i h
    obtain ⟨y, hy⟩ : ∃ y, S 4 z = y + 1 := ⟨S 4 z - 1, by omega⟩
    have hyO : y ∈ O := by
      rcases hb with hb | hb
      · omega
      · rw [hy] at hb; exact hb
    obtain ⟨A, B, e1, e2⟩ := insO_split hy hyO
    rw [e2]
    rw [e1] at ho hk
    obtain ⟨h1, h2⟩ := ord_app A (y :: B) [] ho
    refine ord_join A _ [] h1 ⟨h2.1, insK_ord B _ (fun t ht => hk t (by simp [ht])) (Or.inl hy) h2.2⟩
theorem sees_congrM {S S' : Nat → Nat → Nat} {t : Nat} (h4 : S' 4 t = S 4 t) (ht : keyS S' t = keyS S t) : ∀ {rp : List Nat}, (∀ i, i ∈ rp → keyS S' i = keyS S i) → sees S t rp → sees S' t rp
  | [], _, h => h4.trans h
  | u :: r, hk, h => by
    rcases h with h | ⟨h1, h2⟩
    · exact Or.inl (h4.trans h)
    · exact Or.inr ⟨by rw [ht, hk u List.mem_cons_self]; exact h1, sees_congrM h4 ht (fun i hi => hk i (List.mem_cons_of_mem _ hi)) h2⟩
theorem ord_congrM {S S' : Nat → Nat → Nat} : ∀ (suf rp : List Nat), (∀ i, i ∈ suf → S' 4 i = S 4 i) → (∀ i, i ∈ suf → keyS S' i = keyS S i) → (∀ i, i ∈ rp → keyS S' i = keyS S i) → ordP S rp suf → ordP S' rp suf
  | [], _, _, _, _, _ => trivial
  | t :: suf, rp, h4, hk, hr, h => ⟨sees_congrM (h4 t List.mem_cons_self) (hk t List.mem_cons_self) hr h.1, ord_congrM suf (t :: rp) (fun i hi => h4 i (List.mem_cons_of_mem _ hi)) (fun i hi => hk i (List.mem_cons_of_mem _ hi)) (fun i hi => by
      rcases List.mem_cons.mp hi with h9 | h9
      · rw [h9]; exact hk t List.mem_cons_self
      · exact hr i h9) h.2⟩
/-- the chain, a successor changed that isn't in it -/
theorem ChP_ne {nx : Nat → Option Nat} {z : Nat} {v : Option Nat} : ∀ {L : List Nat} {o : Option Nat}, (∀ i, i ∈ L → i ≠ z) → ChP nx o L → ChP (va_up nx z v) o L
  | [], _, _, h => h
  | x :: r, o, hn, h => ⟨h.1, by
    have hx := hn x List.mem_cons_self
    rw [va_up_ne _ _ hx]
    exact ChP_ne (fun i hi => hn i (List.mem_cons_of_mem _ hi)) h.2⟩
theorem ChP_put0 {nx : Nat → Option Nat} {z : Nat} {o : Option Nat} {B : List Nat} (hz : ∀ i, i ∈ B → i ≠ z) (h : ChP nx o B) : ChP (va_up nx z o) (some z) (z :: B) := ⟨rfl, by rw [va_up_self]; exact ChP_ne hz h⟩
theorem ChP_put {nx : Nat → Option Nat} {z y : Nat} {o : Option Nat} {B : List Nat} (hzy : z ≠ y) (hB : ∀ i, i ∈ B → i ≠ z ∧ i ≠ y) (hob : ChP nx o B) : ∀ {A : List Nat} {hd : Option Nat}, (∀ i, i ∈ A → i ≠ z ∧ i ≠ y) → ChP nx hd (A ++ y :: B) → ChP (va_up (va_up nx z o) y (some z)) hd (A ++ y :: z :: B)
  | [], hd, _, h => ⟨h.1, by
    rw [va_up_self]
    refine ⟨rfl, ?_⟩
    rw [va_up_ne _ _ hzy, va_up_self]
    exact ChP_ne (fun i hi => (hB i hi).2) (ChP_ne (fun i hi => (hB i hi).1) hob)⟩
  | x :: A, hd, hA, h => ⟨h.1, by
    have hx := hA x List.mem_cons_self
    rw [va_up_ne _ _ hx.2, va_up_ne _ _ hx.1]
    exact ChP_put hzy hB hob (fun i hi => hA i (List.mem_cons_of_mem _ hi)) h.2⟩
theorem ChP_tail {nx : Nat → Option Nat} {y : Nat} {B : List Nat} : ∀ {A : List Nat} {hd : Option Nat}, ChP nx hd (A ++ y :: B) → ChP nx (nx y) B
  | [], _, h => h.2
  | _ :: _, _, h => ChP_tail h.2
theorem fitq (C : String) (x : Option Nat) : fits (.object C) (va_rf x) = true := by cases x <;> rfl
theorem narq (C : String) (x : Option Nat) : narrow (.object C) (va_rf x) = va_rf x := by cases x <;> rfl
