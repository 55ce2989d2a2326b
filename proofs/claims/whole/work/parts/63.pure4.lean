/-! ===== what holds between calls goes on holding ===== -/
theorem Inv.keep {S S' : Nat → Nat → Nat} {O : List Nat} (h : Inv S O) (hR : Rng S') (e0 : S' 0 0 = S 0 0) (e1 : ∀ i, S' 1 i = S 1 i) (e3 : ∀ i, S' 3 i = S 3 i) (e4 : ∀ i, S' 4 i = S 4 i) (h8 : ∀ i, S 8 i ≤ S' 8 i)
    (h6 : ∀ a i, a < 4 → i < S 0 0 → S' 5 (60 * a + i) = 1 → (S 4 i = 0 ∨ S' 5 (60 * a + (S 4 i - 1)) = 1) ∧ S 3 i ≤ S' 8 a)
    (hz : ∀ a i, a < 4 → S 0 0 ≤ i → i < 60 → S' 5 (60 * a + i) = 0 ∧ S' 6 (60 * a + i) = 0 ∧ S' 7 (60 * a + i) = 0)
    (h9 : ∀ e a, S' 0 1 ≤ e → a < 4 → S' 9 (4 * e + a) = 0) (h10 : ∀ e, e < S' 0 1 → 0 < slA S' e ∧ slA S' e ≤ 60) : Inv S' O := by
  have hk : ∀ i, keyS S' i = keyS S i := fun i => by unfold keyS; rw [e1, e3]
  refine ⟨hR, fun i hi => ?_, ord_congr e4 hk O [] h.2.2.1, h.2.2.2.1, fun i => by rw [e0]; exact h.2.2.2.2.1 i, fun a i ha hi h5 => ?_, fun i hi => ?_, fun a i ha hi hi2 => hz a i ha (by rw [← e0]; exact hi) hi2, h9, h10⟩
  · rw [e4, e0, hk, hk]
    exact h.2.1 i (by rw [← e0]; exact hi)
  · rw [e4, e3]
    exact h6 a i ha (by rw [← e0]; exact hi) h5
  · rw [e3, e1]
    exact Nat.le_trans (h.2.2.2.2.2.2.1 i (by rw [← e0]; exact hi)) (h8 _)
/-- nothing was learned: what is known is as it was, clocks may have grown -/
theorem Inv.i6 {S S' : Nat → Nat → Nat} {O : List Nat} (h : Inv S O) (e5 : ∀ i, S' 5 i = S 5 i) (h8 : ∀ i, S 8 i ≤ S' 8 i) : ∀ a i, a < 4 → i < S 0 0 → S' 5 (60 * a + i) = 1 → (S 4 i = 0 ∨ S' 5 (60 * a + (S 4 i - 1)) = 1) ∧ S 3 i ≤ S' 8 a := fun a i ha hi h5 => by
  rw [e5] at h5 ⊢
  have := h.2.2.2.2.2.1 a i ha hi h5
  exact ⟨this.1, Nat.le_trans this.2 (h8 a)⟩
theorem Inv.z8 {S : Nat → Nat → Nat} {O : List Nat} (h : Inv S O) : ∀ a i, a < 4 → S 0 0 ≤ i → i < 60 → S 5 (60 * a + i) = 0 ∧ S 6 (60 * a + i) = 0 ∧ S 7 (60 * a + i) = 0 := h.2.2.2.2.2.2.2.1
theorem Inv.z9 {S : Nat → Nat → Nat} {O : List Nat} (h : Inv S O) : ∀ e a, S 0 1 ≤ e → a < 4 → S 9 (4 * e + a) = 0 := h.2.2.2.2.2.2.2.2.1
theorem Inv.z10 {S : Nat → Nat → Nat} {O : List Nat} (h : Inv S O) : ∀ e, e < S 0 1 → 0 < slA S e ∧ slA S e ≤ 60 := h.2.2.2.2.2.2.2.2.2
/-- bounds by the number of calls -/
def Bd (n : Nat) (S : Nat → Nat → Nat) : Prop := (∀ i, S 8 i ≤ n) ∧ ∀ i, S 10 i ≤ 100000 * n
theorem Bd.few {n : Nat} {S : Nat → Nat → Nat} (h : Bd n S) (hn : n < 1000) : Few S := fun i => Nat.lt_of_le_of_lt (h.1 i) (by omega)
theorem Bd.up {n : Nat} {S : Nat → Nat → Nat} (h : Bd n S) : Bd (n + 1) S := ⟨fun i => Nat.le_succ_of_le (h.1 i), fun i => by have := h.2 i; omega⟩
theorem Inv.set {n : Nat} {S : Nat → Nat → Nat} {O : List Nat} (h : Inv S O) (hb : Bd n S) (hn : n < 1000) {a i v : Nat} (ha : a < 4) (hi : i < S 0 0) (hv : v < 2) : Inv (setS S a i v) O ∧ Bd (n + 1) (setS S a i v) := by
  have h8 : ∀ j, S 8 j ≤ setS S a i v 8 j := fun j => by
    by_cases e : j = a
    · subst e; simp [setS, up2]
    · simp [setS, up2, e]
  have h60 := h.R.1
  refine ⟨h.keep (h.R.set (hb.few hn) ha hv) rfl (fun _ => rfl) (fun _ => rfl) (fun _ => rfl) h8 (h.i6 (fun _ => rfl) h8) (fun a' j ha' hj hj2 => ?_) h.z9 h.z10, fun j => ?_, fun j => ?_⟩
  · have h9 : ¬ 60 * a' + j = 60 * a + i := by omega
    have := h.z8 a' j ha' hj hj2
    simp [setS, up2, h9]
    exact this
  · have := hb.1 j
    have h1 := hb.1 a
    by_cases e : j = a
    · subst e; simp [setS, up2]; omega
    · simp [setS, up2, e]; omega
  · have := hb.2 j
    show S 10 j ≤ _
    omega
theorem txL_par {S : Nat → Nat → Nat} {O : List Nat} (h : Inv S O) {a k : Nat} (hk : k ≤ (txL S O a).length) : parL S O a k = 0 ∨ (parL S O a k - 1 < S 0 0 ∧ S 5 (60 * a + (parL S O a k - 1)) = 1) := by
  unfold parL
  by_cases h0 : k = 0
  · rw [if_pos h0]; exact Or.inl rfl
  · rw [if_neg h0, Nat.add_sub_cancel]
    have := txL_mem h (getD_mem (show k - 1 < (txL S O a).length by omega))
    exact Or.inr ⟨this.1, this.2.1⟩
theorem Inv.ins {n : Nat} {S : Nat → Nat → Nat} {O : List Nat} (h : Inv S O) (hb : Bd n S) (hn : n < 1000) {a b c : Nat} (ha : a < 4) (hc : c < 26) (h59 : S 0 0 < 60) (hp : b = 0 ∨ (b - 1 < S 0 0 ∧ S 5 (60 * a + (b - 1)) = 1)) : Inv (insS S a b c) (ordI (insS S a b c) (S 0 0) O) ∧ Bd (n + 1) (insS S a b c) := by
  have hg := h.g
  have hm := h.2.2.2.2.1
  have h60 := h.R.1
  have h1 := h.R.2.2.2.1
  have i7 := h.2.2.2.2.2.2.1
  have i6 := h.2.2.2.2.2.1
  have e0 : insS S a b c 0 0 = S 0 0 + 1 := by simp [insS, up2]
  have e1 : insS S a b c 1 (S 0 0) = a := by simp [insS, up2]
  have e3 : insS S a b c 3 (S 0 0) = S 8 a + 1 := by simp [insS, up2]
  have e4 : insS S a b c 4 (S 0 0) = b := by simp [insS, up2]
  have e8 : insS S a b c 8 a = S 8 a + 1 := by simp [insS, up2]
  have k1 : ∀ i, i ≠ S 0 0 → insS S a b c 1 i = S 1 i := fun i hi => by simp [insS, up2, hi]
  have k3 : ∀ i, i ≠ S 0 0 → insS S a b c 3 i = S 3 i := fun i hi => by simp [insS, up2, hi]
  have k4 : ∀ i, i ≠ S 0 0 → insS S a b c 4 i = S 4 i := fun i hi => by simp [insS, up2, hi]
  have k8 : ∀ i, S 8 i ≤ insS S a b c 8 i := fun i => by
    by_cases e : i = a
    · subst e; rw [e8]; omega
    · simp [insS, up2, e]
  have k5 : ∀ i, i ≠ 60 * a + S 0 0 → insS S a b c 5 i = S 5 i := fun i hi => by simp [insS, up2, hi]
  have e5 : insS S a b c 5 (60 * a + S 0 0) = 1 := by simp [insS, up2]
  have kk : ∀ i, i ≠ S 0 0 → keyS (insS S a b c) i = keyS S i := fun i hi => by unfold keyS; rw [k1 i hi, k3 i hi]
  have ek : keyS (insS S a b c) (S 0 0) = 4 * (S 8 a + 1) + a := by unfold keyS; rw [e1, e3]
  have hnO : S 0 0 ∉ O := fun hh => Nat.lt_irrefl _ ((hm _).mp hh)
  have hne : ∀ i, i ∈ O → i ≠ S 0 0 := fun i hi e => hnO (e ▸ hi)
  have hpar : b = 0 ∨ b - 1 ∈ O := hp.imp id (fun q => (hm _).mpr q.1)
  have hb60 : b ≤ 60 := by omega
  have hperm := ordI_perm (insS S a b c) (S 0 0) O
  refine ⟨⟨h.R.ins (hb.few hn) ha hb60 hc h59, fun i hi => ?_, ?_, hperm.nodup_iff.mpr (List.nodup_cons.mpr ⟨hnO, h.2.2.2.1⟩), fun i => ?_, fun a' i ha' hi h5 => ?_, fun i hi => ?_, fun a' i ha' hi hi2 => ?_, h.z9, h.z10⟩, fun i => ?_, fun i => ?_⟩
  · -- keys grow
    rw [e0] at hi ⊢
    by_cases e : i = S 0 0
    · subst e
      rw [e4, ek]
      rcases hp with hp | ⟨hp1, hp2⟩
      · exact Or.inl hp
      · refine Or.inr ⟨by omega, ?_⟩
        rw [kk _ (by omega)]
        have hq := (i6 a (b - 1) ha hp1 hp2).2
        have := h1 (b - 1)
        unfold keyS
        omega
    · rw [k4 i e, kk i e]
      rcases hg i (by omega) with q | ⟨q1, q2⟩
      · exact Or.inl q
      · refine Or.inr ⟨by omega, ?_⟩
        rw [kk _ (by omega)]
        exact q2
  · refine ordI_ord (fun t ht => ?_) (by rw [e4]; exact hpar) (ord_congrM O [] (fun i hi => k4 i (hne i hi)) (fun i hi => kk i (hne i hi)) (fun i hi => absurd hi List.not_mem_nil) h.2.2.1)
    rw [kk t (hne t ht), ek]
    have hq := i7 t ((hm t).mp ht)
    have h1t := h1 t
    intro hh
    unfold keyS at hh
    have h9 : S 1 t = a := by omega
    rw [h9] at hq
    omega
  · rw [hperm.mem_iff, List.mem_cons, hm i, e0]
    omega
  · rw [e0] at hi
    by_cases e : i = S 0 0
    · subst e
      rw [e4, e3]
      by_cases ea : a' = a
      · subst ea
        rw [e8]
        refine ⟨?_, Nat.le_refl _⟩
        rcases hp with hp | ⟨hp1, hp2⟩
        · exact Or.inl hp
        · exact Or.inr (by rw [k5 _ (by omega)]; exact hp2)
      · rw [k5 _ (by omega), (h.z8 a' (S 0 0) ha' (Nat.le_refl _) h59).1] at h5
        cases h5
    · rw [k5 _ (by omega)] at h5
      have hq := i6 a' i ha' (by omega) h5
      rw [k4 i e, k3 i e]
      refine ⟨?_, Nat.le_trans hq.2 (k8 a')⟩
      rcases hq.1 with q | q
      · exact Or.inl q
      · rcases hg i (by omega) with q2 | ⟨q2, -⟩
        · exact Or.inl q2
        · exact Or.inr (by rw [k5 _ (by omega)]; exact q)
  · rw [e0] at hi
    by_cases e : i = S 0 0
    · subst e; rw [e3, e1, e8]; exact Nat.le_refl _
    · rw [k3 i e, k1 i e]
      exact Nat.le_trans (i7 i (by omega)) (k8 _)
  · rw [e0] at hi
    have := h.z8 a' i ha' (by omega) hi2
    rw [k5 _ (by omega)]
    exact this
  · have := hb.1 i
    have h2 := hb.1 a
    by_cases e : i = a
    · subst e; rw [e8]; omega
    · simp [insS, up2, e]; omega
  · have := hb.2 i
    show S 10 i ≤ _
    omega
theorem lr_at {S : Nat → Nat → Nat} {a f k j : Nat} (hk : k ≠ 8) (hj : j < 60) : lrS S a f k (60 * a + j) = if k = 5 then (if (decide (j < S 0 0) && lrB S a f j) = true then 1 else S 5 (60 * a + j)) else if k = 6 then (if (decide (j < S 0 0) && lrB S a f j) = true then S 6 (60 * f + j) else S 6 (60 * a + j)) else if k = 7 then (if (decide (j < S 0 0) && lrB S a f j) = true then S 7 (60 * f + j) else S 7 (60 * a + j)) else S k (60 * a + j) := by
  unfold lrS
  rw [up2_k _ hk]
  unfold lrP
  simp [hj]
theorem lr_no {S : Nat → Nat → Nat} {a f k j : Nat} (hk : k ≠ 8) (hj : j < 60 * a ∨ 60 * a + 60 ≤ j) : lrS S a f k j = S k j := by
  unfold lrS
  rw [up2_k _ hk]
  unfold lrP
  have h9 : ∀ P : Prop, ¬ (60 * a ≤ j ∧ j < 60 * a + 60 ∧ P) := fun P h => by omega
  simp only [h9, if_false]
  split
  · rename_i h; rw [h]
  · split
    · rename_i h; rw [h]
    · split
      · rename_i h; rw [h]
      · rfl
theorem lr_row {S : Nat → Nat → Nat} {a f k : Nat} (hk : k ≠ 8) (P : Nat → Prop) (h1 : ∀ j, P (S k j)) (h2 : k = 5 → P 1) : ∀ j, P (lrS S a f k j) := fun j => by
  by_cases hj : j < 60 * a ∨ 60 * a + 60 ≤ j
  · rw [lr_no hk hj]; exact h1 j
  · obtain ⟨i, rfl⟩ : ∃ i, j = 60 * a + i := ⟨j - 60 * a, by omega⟩
    rw [lr_at hk (by omega)]
    split
    · rename_i e; subst e
      split
      · exact h2 rfl
      · exact h1 _
    · split
      · rename_i e; subst e
        split <;> exact h1 _
      · split
        · rename_i e; subst e
          split <;> exact h1 _
        · exact h1 _
theorem lr_8 {S : Nat → Nat → Nat} {a f : Nat} (j : Nat) : lrS S a f 8 j = if j = a then max (S 8 a) (S 8 f) else S 8 j := by
  unfold lrS
  by_cases e : j = a
  · subst e; rw [up2_s, if_pos rfl]
  · rw [up2_i _ e, if_neg e]; rfl
theorem Inv.learn {n : Nat} {S : Nat → Nat → Nat} {O : List Nat} (h : Inv S O) (hb : Bd n S) {a f : Nat} (ha : a < 4) (hf : f < 4) : Inv (lrS S a f) O ∧ Bd (n + 1) (lrS S a f) := by
  have hR := h.R
  have hlow : ∀ k j, k ≠ 5 → k ≠ 6 → k ≠ 7 → k ≠ 8 → lrS S a f k j = S k j := fun k j h5 h6 h7 h8 => by
    unfold lrS
    rw [up2_k _ h8]
    unfold lrP
    rw [if_neg h5, if_neg h6, if_neg h7]
  have h8 : ∀ j, S 8 j ≤ lrS S a f 8 j := fun j => by
    rw [lr_8]
    split
    · rename_i e; rw [e]; exact Nat.le_max_left _ _
    · exact Nat.le_refl _
  have h8a : S 8 f ≤ lrS S a f 8 a := by rw [lr_8, if_pos rfl]; exact Nat.le_max_right _ _
  have hR2 : Rng (lrS S a f) := by
    obtain ⟨r1, r2, r3, r4, r5, r6, r7, r8, r9, r10, r11, r12, r13⟩ := hR
    refine ⟨?_, ?_, ?_, fun i => ?_, fun i => ?_, fun i => ?_, fun i => ?_, lr_row (by decide) (fun x => x < 2) r8 (fun _ => by decide), lr_row (by decide) (fun x => x < 2) r9 (fun h => by cases h), lr_row (by decide) (fun x => x < 16777216) r10 (fun h => by cases h), fun i => ?_, fun i => ?_, fun i => ?_⟩
    · rw [hlow 0 0 (by decide) (by decide) (by decide) (by decide)]; exact r1
    · rw [hlow 0 1 (by decide) (by decide) (by decide) (by decide)]; exact r2
    · rw [hlow 0 2 (by decide) (by decide) (by decide) (by decide)]; exact r3
    · rw [hlow 1 i (by decide) (by decide) (by decide) (by decide)]; exact r4 i
    · rw [hlow 2 i (by decide) (by decide) (by decide) (by decide)]; exact r5 i
    · rw [hlow 3 i (by decide) (by decide) (by decide) (by decide)]; exact r6 i
    · rw [hlow 4 i (by decide) (by decide) (by decide) (by decide)]; exact r7 i
    · rw [lr_8]
      split
      · exact Nat.max_lt.mpr ⟨r11 a, r11 f⟩
      · exact r11 i
    · rw [hlow 9 i (by decide) (by decide) (by decide) (by decide)]; exact r12 i
    · rw [hlow 10 i (by decide) (by decide) (by decide) (by decide)]; exact r13 i
  have h60 := h.R.1
  have h5r := h.R.2.2.2.2.2.2.2.1
  have up5 : ∀ j, j < S 0 0 → S 5 (60 * a + j) = 1 ∨ S 5 (60 * f + j) = 1 → lrS S a f 5 (60 * a + j) = 1 := fun j hj hh => by
    rw [lr_at (by decide) (by omega), if_pos rfl]
    split
    · rfl
    · rename_i hn
      rcases hh with hh | hh
      · exact hh
      · have q1 := h5r (60 * a + j)
        have q2 : S 5 (60 * a + j) ≠ 0 := fun h0 => hn (by simp [hj, lrB, hh, h0])
        omega
  refine ⟨h.keep hR2 (hlow 0 0 (by decide) (by decide) (by decide) (by decide)) (fun i => hlow 1 i (by decide) (by decide) (by decide) (by decide)) (fun i => hlow 3 i (by decide) (by decide) (by decide) (by decide)) (fun i => hlow 4 i (by decide) (by decide) (by decide) (by decide)) h8 (fun a' i ha' hi hh => ?_) (fun a' i ha' hi hi2 => ?_) ?_ ?_, fun i => ?_, fun i => ?_⟩
  · by_cases e : a' = a
    · subst e
      have hg := h.g i hi
      have hk : S 5 (60 * a' + i) = 1 ∨ S 5 (60 * f + i) = 1 := by
        rw [lr_at (by decide) (by omega), if_pos rfl] at hh
        split at hh
        · rename_i hc
          simp only [lrB, Bool.and_eq_true, decide_eq_true_eq] at hc
          exact Or.inr hc.2.1
        · exact Or.inl hh
      rcases hk with hk | hk
      · have q := h.2.2.2.2.2.1 a' i ha hi hk
        refine ⟨?_, Nat.le_trans q.2 (h8 a')⟩
        rcases q.1 with q1 | q1
        · exact Or.inl q1
        · rcases hg with q2 | ⟨q2, -⟩
          · exact Or.inl q2
          · exact Or.inr (up5 _ q2 (Or.inl q1))
      · have q := h.2.2.2.2.2.1 f i hf hi hk
        refine ⟨?_, Nat.le_trans q.2 h8a⟩
        rcases q.1 with q1 | q1
        · exact Or.inl q1
        · rcases hg with q2 | ⟨q2, -⟩
          · exact Or.inl q2
          · exact Or.inr (up5 _ q2 (Or.inr q1))
    · have hg := h.g i hi
      rw [lr_no (by decide) (by omega)] at hh
      have q := h.2.2.2.2.2.1 a' i ha' hi hh
      refine ⟨?_, Nat.le_trans q.2 (h8 a')⟩
      rcases q.1 with q1 | q1
      · exact Or.inl q1
      · rcases hg with q2 | ⟨q2, -⟩
        · exact Or.inl q2
        · exact Or.inr (by rw [lr_no (by decide) (by omega)]; exact q1)
  · have q := h.z8 a' i ha' hi hi2
    by_cases e : a' = a
    · subst e
      have hd : decide (i < S 0 0) = false := decide_eq_false (by omega)
      rw [lr_at (by decide) hi2, lr_at (by decide) hi2, lr_at (by decide) hi2]
      simp [hd]
      exact q
    · rw [lr_no (by decide) (by omega), lr_no (by decide) (by omega), lr_no (by decide) (by omega)]
      exact q
  · intro e a' he ha'
    rw [hlow 9 _ (by decide) (by decide) (by decide) (by decide)]
    rw [hlow 0 1 (by decide) (by decide) (by decide) (by decide)] at he
    exact h.z9 e a' he ha'
  · intro e he
    rw [hlow 0 1 (by decide) (by decide) (by decide) (by decide)] at he
    have e9 : slA (lrS S a f) e = slA S e := by
      unfold slA s4
      simp only [hlow 9 _ (by decide : (9 : Nat) ≠ 5) (by decide) (by decide) (by decide)]
    rw [e9]
    exact h.z10 e he
  · rw [lr_8]
    have q1 := hb.1 a
    have q2 := hb.1 f
    have q3 := hb.1 i
    split
    · exact Nat.max_le.mpr ⟨by omega, by omega⟩
    · omega
  · rw [hlow 10 i (by decide) (by decide) (by decide) (by decide)]
    have := hb.2 i
    omega
theorem cnt_sum {S : Nat → Nat → Nat} (h1 : ∀ i, S 1 i < 4) : ∀ L : List Nat, s4 (cntA S L) = L.length
  | [] => rfl
  | x :: r => by
    have ih := cnt_sum h1 r
    have hx := h1 x
    unfold s4 cntA at ih ⊢
    simp only [List.countP_cons, List.length_cons, decide_eq_true_eq]
    rcases (show S 1 x = 0 ∨ S 1 x = 1 ∨ S 1 x = 2 ∨ S 1 x = 3 by omega) with e | e | e | e <;> (rw [e]; simp; omega)
theorem cntA_le (S : Nat → Nat → Nat) (L : List Nat) (a : Nat) : cntA S L a ≤ L.length := List.countP_le_length
theorem Inv.print {n : Nat} {S : Nat → Nat → Nat} {O : List Nat} (h : Inv S O) (hb : Bd n S) {a : Nat} (h0 : (txL S O a).length ≠ 0) (h20 : S 0 1 ≠ 20) : Inv (prS S (txL S O a)) O ∧ Bd (n + 1) (prS S (txL S O a)) := by
  have hl := h.len a
  have h2 := h.R.2.1
  have e01 : prS S (txL S O a) 0 1 = S 0 1 + 1 := by simp [prS, up2]
  have hk : ∀ k j, k ≠ 9 → k ≠ 0 → prS S (txL S O a) k j = S k j := fun k j h9 hz => by
    unfold prS rowS
    rw [up2_k _ hz, if_neg h9]
  have hz : ∀ j, j ≠ 1 → prS S (txL S O a) 0 j = S 0 j := fun j hj => by
    unfold prS rowS
    rw [up2_i _ hj, if_neg (by decide)]
  have h9 : ∀ j, prS S (txL S O a) 9 j = if 4 * S 0 1 ≤ j ∧ j < 4 * S 0 1 + 4 then cntA S (txL S O a) (j - 4 * S 0 1) else S 9 j := fun j => by
    unfold prS rowS
    rw [up2_k _ (by decide), if_pos rfl]
  have hR2 : Rng (prS S (txL S O a)) := by
    obtain ⟨r1, r2, r3, r4, r5, r6, r7, r8, r9, r10, r11, r12, r13⟩ := h.R
    refine ⟨by rw [hz 0 (by decide)]; exact r1, by rw [e01]; omega, by rw [hz 2 (by decide)]; exact r3, fun i => by rw [hk 1 i (by decide) (by decide)]; exact r4 i, fun i => by rw [hk 2 i (by decide) (by decide)]; exact r5 i, fun i => by rw [hk 3 i (by decide) (by decide)]; exact r6 i, fun i => by rw [hk 4 i (by decide) (by decide)]; exact r7 i, fun i => by rw [hk 5 i (by decide) (by decide)]; exact r8 i, fun i => by rw [hk 6 i (by decide) (by decide)]; exact r9 i, fun i => by rw [hk 7 i (by decide) (by decide)]; exact r10 i, fun i => by rw [hk 8 i (by decide) (by decide)]; exact r11 i, fun i => ?_, fun i => by rw [hk 10 i (by decide) (by decide)]; exact r13 i⟩
    rw [h9]
    split
    · exact Nat.le_trans (cntA_le _ _ _) hl
    · exact r12 i
  have e8 : ∀ i, prS S (txL S O a) 8 i = S 8 i := fun i => hk 8 i (by decide) (by decide)
  refine ⟨h.keep hR2 (hz 0 (by decide)) (fun i => hk 1 i (by decide) (by decide)) (fun i => hk 3 i (by decide) (by decide)) (fun i => hk 4 i (by decide) (by decide)) (fun i => by rw [e8]; exact Nat.le_refl _) (h.i6 (fun i => hk 5 i (by decide) (by decide)) (fun i => by rw [e8]; exact Nat.le_refl _)) (fun a' i ha' hi hi2 => ?_) (fun e a' he ha' => ?_) (fun e he => ?_), fun i => ?_, fun i => ?_⟩
  · rw [hk 5 _ (by decide) (by decide), hk 6 _ (by decide) (by decide), hk 7 _ (by decide) (by decide)]
    exact h.z8 a' i ha' hi hi2
  · rw [e01] at he
    rw [h9, if_neg (by omega)]
    exact h.z9 e a' (by omega) ha'
  · rw [e01] at he
    by_cases e' : e = S 0 1
    · subst e'
      have : slA (prS S (txL S O a)) (S 0 1) = (txL S O a).length := by
        rw [← cnt_sum h.R.2.2.2.1 (txL S O a)]
        unfold slA s4
        dsimp only
        rw [h9, h9, h9, h9, if_pos (by omega), if_pos (by omega), if_pos (by omega), if_pos (by omega)]
        simp only [Nat.add_sub_cancel_left]
      rw [this]
      omega
    · have : slA (prS S (txL S O a)) e = slA S e := by
        unfold slA s4
        dsimp only
        rw [h9, h9, h9, h9, if_neg (by omega), if_neg (by omega), if_neg (by omega), if_neg (by omega)]
      rw [this]
      exact h.z10 e (by omega)
  · rw [e8]
    have := hb.1 i
    omega
  · rw [hk 10 i (by decide) (by decide)]
    have := hb.2 i
    omega
theorem Inv.floor {n : Nat} {S : Nat → Nat → Nat} {O : List Nat} (h : Inv S O) (hb : Bd n S) {v : Nat} (hv : v ≤ 25) : Inv (up2 S 0 2 v) O ∧ Bd (n + 1) (up2 S 0 2 v) := by
  refine ⟨h.keep ?_ rfl (fun _ => rfl) (fun _ => rfl) (fun _ => rfl) (fun _ => Nat.le_refl _) (h.i6 (fun _ => rfl) (fun _ => Nat.le_refl _)) h.z8 h.z9 h.z10, fun i => ?_, fun i => ?_⟩
  · obtain ⟨r1, r2, r3, r4⟩ := h.R
    exact ⟨r1, r2, by rw [up2_s]; exact hv, r4⟩
  · exact Nat.le_succ_of_le (hb.1 i)
  · have := hb.2 i
    show S 10 i ≤ _
    omega
theorem Inv.adv {n : Nat} {S : Nat → Nat → Nat} {O : List Nat} (h : Inv S O) (hb : Bd n S) (hn : n < 1000) {a v : Nat} (hv : v ≤ 100000) : Inv (up2 S 10 a (S 10 a + v)) O ∧ Bd (n + 1) (up2 S 10 a (S 10 a + v)) := by
  have h10 : ∀ i, up2 S 10 a (S 10 a + v) 10 i ≤ 100000 * (n + 1) := fun i => by
    have q1 := hb.2 i
    have q2 := hb.2 a
    by_cases e : i = a
    · subst e; rw [up2_s]; omega
    · rw [up2_i _ e]; omega
  refine ⟨h.keep ?_ rfl (fun _ => rfl) (fun _ => rfl) (fun _ => rfl) (fun _ => Nat.le_refl _) (h.i6 (fun _ => rfl) (fun _ => Nat.le_refl _)) h.z8 h.z9 h.z10, fun i => ?_, h10⟩
  · obtain ⟨r1, r2, r3, r4, r5, r6, r7, r8, r9, r10, r11, r12, r13⟩ := h.R
    exact ⟨r1, r2, r3, r4, r5, r6, r7, r8, r9, r10, r11, r12, fun i => by have := h10 i; omega⟩
  · exact Nat.le_succ_of_le (hb.1 i)
theorem Inv.sell {n : Nat} {S : Nat → Nat → Nat} {O : List Nat} (h : Inv S O) (hb : Bd n S) (e m : Nat) : Inv (slS S e m 4) O ∧ Bd (n + 1) (slS S e m 4) := by
  have h10 : ∀ i, slS S e m 4 10 i ≤ S 10 i := fun i => by
    unfold slS
    rw [if_pos rfl]
    split
    · exact Nat.sub_le _ _
    · exact Nat.le_refl _
  refine ⟨h.keep ?_ rfl (fun _ => rfl) (fun _ => rfl) (fun _ => rfl) (fun _ => Nat.le_refl _) (h.i6 (fun _ => rfl) (fun _ => Nat.le_refl _)) h.z8 h.z9 h.z10, fun i => ?_, fun i => ?_⟩
  · obtain ⟨r1, r2, r3, r4, r5, r6, r7, r8, r9, r10, r11, r12, r13⟩ := h.R
    exact ⟨r1, r2, r3, r4, r5, r6, r7, r8, r9, r10, r11, r12, fun i => Nat.lt_of_le_of_lt (h10 i) (r13 i)⟩
  · exact Nat.le_succ_of_le (hb.1 i)
  · have q1 := hb.2 i
    have := h10 i
    omega
