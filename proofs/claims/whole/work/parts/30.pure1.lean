/-! ===== the order, as pure facts ===== -/
def keyS (S : Nat → Nat → Nat) (i : Nat) : Nat := 4 * S 3 i + S 1 i
def chP (S : Nat → Nat → Nat) (a b i : Nat) : Prop := i < S 0 0 ∧ S 5 (60 * a + i) = 1 ∧ S 4 i = b
/-- ranges of what is held -/
def Rng (S : Nat → Nat → Nat) : Prop := S 0 0 ≤ 60 ∧ S 0 1 ≤ 20 ∧ S 0 2 ≤ 25 ∧ (∀ i, S 1 i < 4) ∧ (∀ i, S 2 i < 26) ∧ (∀ i, S 3 i < 1048576) ∧ (∀ i, S 4 i ≤ 60) ∧ (∀ i, S 5 i < 2) ∧ (∀ i, S 6 i < 2) ∧ (∀ i, S 7 i < 16777216) ∧ (∀ i, S 8 i < 1048576) ∧ (∀ i, S 9 i ≤ 60) ∧ (∀ i, S 10 i < 1073741824)
theorem Rng.key {S : Nat → Nat → Nat} (h : Rng S) (i : Nat) : keyS S i < 8388608 := by
  have h1 := h.2.2.2.1 i
  have h3 := h.2.2.2.2.2.1 i
  unfold keyS
  omega
/-- the candidate of least key at least lk among the signs below j; 0: none -/
def bestP (S : Nat → Nat → Nat) (a b lk j f : Nat) : Prop := (f = 0 ∧ ∀ i, i < j → chP S a b i → keyS S i < lk) ∨ (∃ g, f = g + 1 ∧ g < j ∧ chP S a b g ∧ lk ≤ keyS S g ∧ ∀ i, i < j → chP S a b i → lk ≤ keyS S i → keyS S g ≤ keyS S i)
theorem bestP_0 (S : Nat → Nat → Nat) (a b lk : Nat) : bestP S a b lk 0 0 := Or.inl ⟨rfl, fun i h => absurd h (Nat.not_lt_zero i)⟩
theorem bestP_no {S : Nat → Nat → Nat} {a b lk j f : Nat} (h : bestP S a b lk j f) (hn : ¬ (chP S a b j ∧ lk ≤ keyS S j)) : bestP S a b lk (j + 1) f := by
  rcases h with ⟨h1, h2⟩ | ⟨g, h1, h2, h3, h4, h5⟩
  · refine Or.inl ⟨h1, fun i hi hc => ?_⟩
    rcases Nat.lt_or_eq_of_le (Nat.lt_succ_iff.mp hi) with h | h
    · exact h2 i h hc
    · subst h
      exact Nat.not_le.mp (fun g => hn ⟨hc, g⟩)
  · refine Or.inr ⟨g, h1, by omega, h3, h4, fun i hi hc hl => ?_⟩
    rcases Nat.lt_or_eq_of_le (Nat.lt_succ_iff.mp hi) with h | h
    · exact h5 i h hc hl
    · subst h
      exact absurd ⟨hc, hl⟩ hn
theorem bestP_new {S : Nat → Nat → Nat} {a b lk j f : Nat} (h : bestP S a b lk j f) (hc0 : chP S a b j) (hl0 : lk ≤ keyS S j) (hf : f = 0 ∨ ∃ g, f = g + 1 ∧ keyS S j < keyS S g) : bestP S a b lk (j + 1) (j + 1) := by
  refine Or.inr ⟨j, rfl, by omega, hc0, hl0, fun i hi hc hl => ?_⟩
  rcases Nat.lt_or_eq_of_le (Nat.lt_succ_iff.mp hi) with hij | hij
  · rcases h with ⟨h1, h2⟩ | ⟨g, h1, h2, h3, h4, h5⟩
    · exact absurd (h2 i hij hc) (by omega)
    · rcases hf with hf | ⟨g', hf, hk⟩
      · omega
      · have : g' = g := by omega
        subst this
        have := h5 i hij hc hl
        omega
  · subst hij
    exact Nat.le_refl _
theorem bestP_old {S : Nat → Nat → Nat} {a b lk j g : Nat} (h : bestP S a b lk j (g + 1)) (hk : keyS S g ≤ keyS S j) : bestP S a b lk (j + 1) (g + 1) := by
  rcases h with ⟨h1, -⟩ | ⟨g', h1, h2, h3, h4, h5⟩
  · omega
  · have : g' = g := by omega
    subst this
    refine Or.inr ⟨g', rfl, by omega, h3, h4, fun i hi hc hl => ?_⟩
    rcases Nat.lt_or_eq_of_le (Nat.lt_succ_iff.mp hi) with hij | hij
    · exact h5 i hij hc hl
    · subst hij; exact hk
/-- cs: the candidates with a key of at least lk, ascending -/
def ascP (S : Nat → Nat → Nat) (a b lk : Nat) (cs : List Nat) : Prop := cs.Pairwise (fun i j => keyS S i < keyS S j) ∧ ∀ i, i ∈ cs ↔ chP S a b i ∧ lk ≤ keyS S i
theorem ascP_nil {S : Nat → Nat → Nat} {a b lk f : Nat} (h : ascP S a b lk []) (hb : bestP S a b lk (S 0 0) f) : f = 0 := by
  rcases hb with ⟨h1, -⟩ | ⟨g, -, h2, h3, h4, -⟩
  · exact h1
  · exact absurd ((h.2 g).mpr ⟨h3, h4⟩) List.not_mem_nil
theorem ascP_cons {S : Nat → Nat → Nat} {a b lk f c : Nat} {r : List Nat} (h : ascP S a b lk (c :: r)) (hb : bestP S a b lk (S 0 0) f) : f = c + 1 ∧ chP S a b c ∧ ascP S a b (keyS S c + 1) r := by
  obtain ⟨hp, hm⟩ := h
  rw [List.pairwise_cons] at hp
  have hc := (hm c).mp List.mem_cons_self
  refine ⟨?_, hc.1, hp.2, fun i => ⟨fun hi => ⟨((hm i).mp (List.mem_cons_of_mem _ hi)).1, hp.1 i hi⟩, fun hi => ?_⟩⟩
  · rcases hb with ⟨h1, h2⟩ | ⟨g, h1, h2, h3, h4, h5⟩
    · exact absurd (h2 c hc.1.1 hc.1) (by omega)
    · rcases List.mem_cons.mp ((hm g).mpr ⟨h3, h4⟩) with hg | hg
      · omega
      · have := hp.1 g hg
        have := h5 c hc.1.1 hc.1 hc.2
        omega
  · rcases List.mem_cons.mp ((hm i).mpr ⟨hi.1, by omega⟩) with h9 | h9
    · subst h9; omega
    · exact h9
/-- the stack, pushed on -/
def push1 (T : Nat → Nat → Nat) (c : Nat) : Nat → Nat → Nat := up2 (up2 T 2 (T 0 1) c) 0 1 (T 0 1 + 1)
def pushL (T : Nat → Nat → Nat) : List Nat → Nat → Nat → Nat
  | [] => T
  | c :: r => pushL (push1 T c) r
theorem push1_top (T : Nat → Nat → Nat) (c : Nat) : push1 T c 0 1 = T 0 1 + 1 := by simp [push1, up2]
theorem pushL_keep (r : List Nat) : ∀ (T : Nat → Nat → Nat), pushL T r 0 1 = T 0 1 + r.length ∧ pushL T r 0 0 = T 0 0 ∧ pushL T r 0 2 = T 0 2 ∧ pushL T r 1 = T 1 ∧ ∀ k, k < T 0 1 → pushL T r 2 k = T 2 k := by
  induction r with
  | nil => intro T; exact ⟨rfl, rfl, rfl, rfl, fun _ _ => rfl⟩
  | cons c r ih =>
    intro T
    obtain ⟨h1, h2, h3, h4, h5⟩ := ih (push1 T c)
    refine ⟨?_, ?_, ?_, ?_, fun k hk => ?_⟩
    · show pushL (push1 T c) r 0 1 = _
      rw [h1, push1_top, List.length_cons]; omega
    · exact h2.trans (by simp [push1, up2])
    · exact h3.trans (by simp [push1, up2])
    · exact h4.trans (by funext j; simp [push1, up2])
    · refine (h5 k (by rw [push1_top]; omega)).trans ?_
      simp [push1, up2, Nat.ne_of_lt hk]
/-- the stack holds stk, its top first -/
def stkP (T : Nat → Nat → Nat) (stk : List Nat) : Prop := T 0 1 = stk.length ∧ ∀ k, k < stk.length → some (T 2 k) = stk.reverse[k]?
theorem stkP_push {T : Nat → Nat → Nat} {stk : List Nat} {c : Nat} (h : stkP T stk) : stkP (push1 T c) (c :: stk) := by
  refine ⟨by rw [push1_top, h.1]; rfl, fun k hk => ?_⟩
  rw [List.reverse_cons]
  by_cases e : k = T 0 1
  · subst e
    rw [List.getElem?_append_right (by rw [List.length_reverse, h.1]; exact Nat.le_refl _)]
    simp [push1, up2, h.1]
  · have hk2 : k < stk.length := by rw [List.length_cons] at hk; rw [h.1] at e; omega
    rw [List.getElem?_append_left (by rw [List.length_reverse]; exact hk2), ← h.2 k hk2]
    simp [push1, up2, e]
theorem stkP_pushL (r : List Nat) : ∀ {T : Nat → Nat → Nat} {stk : List Nat}, stkP T stk → stkP (pushL T r) (r.reverse ++ stk) := by
  induction r with
  | nil => intro T stk h; exact h
  | cons c r ih =>
    intro T stk h
    rw [List.reverse_cons, List.append_assoc]
    exact ih (stkP_push h)
theorem stkP_pop {T : Nat → Nat → Nat} {s : Nat} {stk : List Nat} (h : stkP T (s :: stk)) : T 0 1 = stk.length + 1 ∧ T 2 stk.length = s ∧ stkP (up2 T 0 1 (T 0 1 - 1)) stk := by
  refine ⟨h.1, ?_, ?_, fun k hk => ?_⟩
  · have h9 := h.2 stk.length (by simp)
    rw [List.reverse_cons, List.getElem?_append_right (by simp)] at h9
    simpa using h9
  · rw [up2_s, h.1]; rfl
  · have h9 := h.2 k (by rw [List.length_cons]; omega)
    rw [List.reverse_cons, List.getElem?_append_left (by rw [List.length_reverse]; exact hk)] at h9
    rw [← h9]
    simp [up2]
/-- walking back from t over r (the nearest first) up to the sign behind which t was inserted, keys are greater than t's -/
def sees (S : Nat → Nat → Nat) (t : Nat) : List Nat → Prop
  | [] => S 4 t = 0
  | u :: r => S 4 t = u + 1 ∨ (keyS S t < keyS S u ∧ sees S t r)
/-- the list's order: rp what is ahead, reversed -/
def ordP (S : Nat → Nat → Nat) : List Nat → List Nat → Prop
  | _, [] => True
  | rp, t :: suf => sees S t rp ∧ ordP S (t :: rp) suf
/-- keys grow from a sign to those behind it -/
def growP (S : Nat → Nat → Nat) : Prop := ∀ i, i < S 0 0 → S 4 i = 0 ∨ (S 4 i - 1 < S 0 0 ∧ keyS S (S 4 i - 1) < keyS S i)
def frP (S : Nat → Nat → Nat) (rp : List Nat) (i : Nat) : Bool := decide (S 4 i = 0) || decide (S 4 i - 1 ∈ rp)
theorem sees_fr {S : Nat → Nat → Nat} {t : Nat} : ∀ {rp : List Nat}, sees S t rp → frP S rp t = true
  | [], h => by have h : S 4 t = 0 := h; simp [frP, h]
  | u :: r, h => by
    rcases h with h | ⟨-, h⟩
    · simp [frP, h]
    · have := sees_fr h
      simp only [frP, Bool.or_eq_true, decide_eq_true_eq] at this ⊢
      rcases this with h | h
      · exact Or.inl h
      · exact Or.inr (List.mem_cons_of_mem _ h)
theorem sees_key {S : Nat → Nat → Nat} {t u : Nat} {R : List Nat} : ∀ {L : List Nat}, sees S t (L ++ u :: R) → (∀ v, v ∈ L → S 4 t ≠ v + 1) → S 4 t ≠ u + 1 → keyS S t < keyS S u
  | [], h, _, h2 => by
    rcases h with h | ⟨h, -⟩
    · exact absurd h h2
    · exact h
  | v :: L, h, h1, h2 => by
    rcases h with h | ⟨-, h⟩
    · exact absurd h (h1 v List.mem_cons_self)
    · exact sees_key h (fun w hw => h1 w (List.mem_cons_of_mem _ hw)) h2
/-- behind a sign y that stands behind s but hangs further ahead, nothing hangs at s -/
theorem nochild {S : Nat → Nat → Nat} {s y : Nat} {rp L1 : List Nat} (hg : ∀ i, S 4 i = s + 1 → i < S 0 0 → keyS S s < keyS S i) (hys : keyS S y < keyS S s) (hyne : s ≠ y) : ∀ (r L2 : List Nat), (∀ v, v ∈ L2 → s ≠ v) → (∀ z, z ∈ r → z < S 0 0 ∧ s ≠ z) → ordP S (L2 ++ y :: (L1 ++ s :: rp)) r → ∀ z, z ∈ r → S 4 z ≠ s + 1
  | [], _, _, _, _, z, hz => absurd hz List.not_mem_nil
  | x :: r, L2, hL, hr, ho, z, hz => by
    rcases List.mem_cons.mp hz with h | h
    · subst h
      intro hc
      have h1 := sees_key ho.1 (fun v hv => by have := hL v hv; omega) (by omega)
      have h2 := hg z hc (hr z List.mem_cons_self).1
      omega
    · exact nochild hg hys hyne r (x :: L2) (fun v hv => by
        rcases List.mem_cons.mp hv with h9 | h9
        · rw [h9]; exact (hr x List.mem_cons_self).2
        · exact hL v h9) (fun z hz => hr z (List.mem_cons_of_mem _ hz)) ho.2 z h
theorem fr_cons (S : Nat → Nat → Nat) (s : Nat) (rp : List Nat) (i : Nat) : frP S (s :: rp) i = (decide (S 4 i = s + 1) || frP S rp i) := by
  simp only [frP, List.mem_cons]
  by_cases h0 : S 4 i = 0
  · simp [h0]
  · by_cases h1 : S 4 i = s + 1
    · simp [h1]
    · have : ¬ S 4 i - 1 = s := by omega
      simp [h0, h1, this]
/-- behind s: first what hangs at s, then what hangs further ahead -/
theorem fr_split {S : Nat → Nat → Nat} {s : Nat} {rp : List Nat} (hg : ∀ i, S 4 i = s + 1 → i < S 0 0 → keyS S s < keyS S i) (hs : s ∉ rp) : ∀ (r L1 : List Nat), (∀ v, v ∈ L1 → s ≠ v ∧ v ∉ rp) → (∀ z, z ∈ r → z < S 0 0 ∧ s ≠ z ∧ z ∉ rp) → ordP S (L1 ++ s :: rp) r → r.filter (frP S (s :: rp)) = r.filter (fun i => decide (S 4 i = s + 1)) ++ r.filter (frP S rp)
  | [], _, _, _, _ => rfl
  | y :: r, L1, hL, hr, ho => by
    have hy := hr y List.mem_cons_self
    have ih := fr_split hg hs r (y :: L1) (fun v hv => by
      rcases List.mem_cons.mp hv with h | h
      · rw [h]; exact hy.2
      · exact hL v h) (fun z hz => hr z (List.mem_cons_of_mem _ hz)) ho.2
    simp only [List.filter_cons, fr_cons]
    by_cases hc : S 4 y = s + 1
    · have hf : frP S rp y = false := by simp [frP, hc, hs]
      simp only [hc, hf, decide_true, Bool.or_false, if_true, List.cons_append]
      simpa [fr_cons] using ih
    · by_cases hf : frP S rp y = true
      · have hys : keyS S y < keyS S s := by
          refine sees_key ho.1 (fun v hv h => ?_) hc
          simp only [frP, Bool.or_eq_true, decide_eq_true_eq] at hf
          rcases hf with hf | hf
          · omega
          · rw [h] at hf
            exact (hL v hv).2 hf
        have hno := nochild (L1 := L1) (rp := rp) hg hys hy.2.1 r [] (fun v hv => absurd hv List.not_mem_nil) (fun z hz => ⟨(hr z (List.mem_cons_of_mem _ hz)).1, (hr z (List.mem_cons_of_mem _ hz)).2.1⟩) ho.2
        have e1 : r.filter (fun i => decide (S 4 i = s + 1)) = [] := by
          rw [List.filter_eq_nil_iff]
          intro z hz
          simpa using hno z hz
        simp only [hc, hf, e1, decide_false, Bool.or_true, if_true, List.nil_append, Bool.false_eq_true, if_false]
        congr 1
        apply List.filter_congr
        intro z hz
        rw [fr_cons]
        simp [hno z hz]
      · have hf : frP S rp y = false := by simpa using hf
        simp only [hc, hf, decide_false, Bool.or_false, Bool.false_eq_true, if_false]
        simpa [fr_cons] using ih
/-- siblings stand in falling order of their keys -/
theorem sib_key {S : Nat → Nat → Nat} {x : Nat} {rp : List Nat} (hx : frP S rp x = true) (hxr : x ∉ rp) : ∀ (r L : List Nat), (∀ v, v ∈ L → v ∉ rp) → (∀ z, z ∈ r → z ∉ rp) → ordP S (L ++ x :: rp) r → ∀ y, y ∈ r → S 4 y = S 4 x → keyS S y < keyS S x
  | [], _, _, _, _, y, hy, _ => absurd hy List.not_mem_nil
  | z :: r, L, hL, hr, ho, y, hy, he => by
    have hno : ∀ v, v ∉ rp → S 4 x ≠ v + 1 := fun v hv h => by
      simp only [frP, Bool.or_eq_true, decide_eq_true_eq] at hx
      rcases hx with hx | hx
      · omega
      · rw [h] at hx; exact hv hx
    rcases List.mem_cons.mp hy with h | h
    · subst h
      exact sees_key ho.1 (fun v hv => by rw [he]; exact hno v (hL v hv)) (by rw [he]; exact hno x hxr)
    · exact sib_key hx hxr r (z :: L) (fun v hv => by
        rcases List.mem_cons.mp hv with h9 | h9
        · rw [h9]; exact hr z List.mem_cons_self
        · exact hL v h9) (fun v hv => hr v (List.mem_cons_of_mem _ hv)) ho.2 y h he
theorem sib_pair {S : Nat → Nat → Nat} : ∀ (suf rp : List Nat), (rp.reverse ++ suf).Nodup → ordP S rp suf → suf.Pairwise (fun x y => S 4 y = S 4 x → keyS S y < keyS S x)
  | [], _, _, _ => List.Pairwise.nil
  | x :: suf, rp, hn, ho => by
    rw [List.pairwise_cons]
    have hn2 : ((x :: rp).reverse ++ suf).Nodup := by simpa using hn
    have hd : ∀ v, v ∈ rp → v ∉ x :: suf := fun v hv h => by
      rw [List.nodup_append] at hn
      exact hn.2.2 v (List.mem_reverse.mpr hv) v h rfl
    refine ⟨fun y hy he => ?_, sib_pair suf (x :: rp) hn2 ho.2⟩
    exact sib_key (sees_fr ho.1) (fun h => hd x h List.mem_cons_self) suf [] (fun v hv => absurd hv List.not_mem_nil) (fun z hz h => hd z h (List.mem_cons_of_mem _ hz)) ho.2 y hy he
/-- what is known, in order -/
def layP (S : Nat → Nat → Nat) (a : Nat) (L : List Nat) : Prop := L.Nodup ∧ (∀ i, i ∈ L ↔ i < S 0 0 ∧ S 5 (60 * a + i) = 1) ∧ ordP S [] L
/-- what hangs at b, ascending -/
def kidsL (S : Nat → Nat → Nat) (L : List Nat) (b : Nat) : List Nat := (L.filter (fun i => decide (S 4 i = b))).reverse
theorem kids_asc {S : Nat → Nat → Nat} {a b : Nat} {L : List Nat} (h : layP S a L) : ascP S a b 0 (kidsL S L b) := by
  refine ⟨?_, fun i => ?_⟩
  · rw [kidsL, List.pairwise_reverse]
    have h1 := sib_pair L [] (by simpa using h.1) h.2.2
    have h2 := h1.filter (fun i => decide (S 4 i = b))
    refine List.Pairwise.imp_of_mem (fun {x y} hx hy hxy => ?_) h2
    have ex := (List.mem_filter.mp hx).2
    have ey := (List.mem_filter.mp hy).2
    simp only [decide_eq_true_eq] at ex ey
    exact hxy (by rw [ex, ey])
  · rw [kidsL, List.mem_reverse, List.mem_filter, h.2.1 i]
    simp [chP, and_assoc]
