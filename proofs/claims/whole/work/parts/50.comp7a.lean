/-! ===== what is made anew: rows, worlds ===== -/
theorem RA_eq {U : State} {c1 c2 : ClassId} {ty : FieldType} (h1 : va_RA U c1 ty) (h2 : va_RA U c2 ty) : c1 = c2 := by
  cases ty with
  | object C =>
    obtain ⟨_, _, _, _, _, a⟩ := h1
    obtain ⟨_, _, _, _, _, b⟩ := h2
    exact Option.some.inj (a.symm.trans b)
  | _ => exact Option.some.inj (h1.symm.trans h2)
section ROWN
variable {p : Program} {l : Launch} {e : Env} {R : Room} {s : State} {m : MethodId} {args : Array Value} {below : List Frame} {meth : Method} {c : Code} {H : Heap} {locs : List Loc} {cells slots : Nat} {Q : State → Prop}
variable {cc : ByteArray} {pc : Nat} {ls : Array Slot} {rest : List Value} {D : va_G} {cy : Nat → ClassId} {A : Nat → Prop} {w w' : va_W} {a : Nat} {Ts : List Cond}
theorem r_newa {atype : ArrayType} {ty : FieldType} {n : Int32} {N' : Nat} {a0 : vp_A} (k : Nat) (hx : p.tables.exec = Jvm.exec) (hb : c.code = cc) (harr : (Cond.arrayClass (newarray.typeOf atype)).before args s = true) (hty : newarray.typeOf atype = ty) (hK : va_K D vwCl (TYS cy) s) (hP : va_P D vwCl w H) (hD : va_D A w) (hS : va_S A s.heap H locs) (hA : ∀ q, s.heap.size ≤ q → A q) (hk : (TYS cy)[k]? = some (cy k, ty)) (ha : ∀ cA : ClassId, vp_cell cA a0 = arrV cA N' (fun _ => defaultValue ty)) (hn : ¬ n < 0) (hN : n.toNatClampNeg = N') (hbytes : N' * componentBytes ty ≤ 536870912) (hcells : cells + 1 ≤ R.cells) (hslots : slots + N' ≤ R.slots) (hdg : decode cc pc = .ok (.newarray atype, 2))
    (kk : ∀ (q : Nat) (H1 : Heap), va_P D vwCl ((q, .inl (cy k, a0)) :: w) H1 → va_D A ((q, .inl (cy k, a0)) :: w) → va_S A s.heap H1 locs → W p l e R s m args below meth c H1 locs (cells + 1) (slots + N') Q (F0 m (pc + 2) ls (.ref q :: rest))) : W p l e R s m args below meth c H locs cells slots Q (F0 m pc ls (.int n :: rest)) :=
  va_newa hx hb harr hty hK hP hD hS hA ha hn hN hbytes hcells hslots hdg (fun q cA H1 hK1 h1 h2 h3 => by
    have e9 : cA = cy k := RA_eq (hK1.2 5 _ rfl).2 (hK.2 k _ hk).2
    subst e9
    exact kk q H1 (P_perm (List.perm_append_singleton _ _) h1) (D_perm (List.perm_append_singleton _ _) h2) h3)
theorem r_newq {own : String} {index : Nat} {n : Int32} {N' : Nat} (hx : p.tables.exec = Jvm.exec) (hb : c.code = cc) (hown : s.vm.findClass own = some m.cls) (hclink : (Cond.classLink own index "CoauthorText$Sign").before args s = true) (hover : va_AO "CoauthorText$Sign" s) (hK : va_K D vwCl (TYS cy) s) (hP : va_P D vwCl w H) (hD : va_D A w) (hS : va_S A s.heap H locs) (hA : ∀ q, s.heap.size ≤ q → A q) (hn : ¬ n < 0) (hN : n.toNatClampNeg = N') (hbytes : N' * 4 ≤ 536870912) (hcells : cells + 1 ≤ R.cells) (hslots : slots + N' ≤ R.slots) (hdg : decode cc pc = .ok (.anewarray index, 3))
    (kk : ∀ (q : Nat) (H1 : Heap), va_P D vwCl ((q, .inl (cy 3, N', .inr (.inr (.inr (.inr (fun _ => none)))))) :: w) H1 → va_D A ((q, .inl (cy 3, N', .inr (.inr (.inr (.inr (fun _ => none)))))) :: w) → va_S A s.heap H1 locs → W p l e R s m args below meth c H1 locs (cells + 1) (slots + N') Q (F0 m (pc + 3) ls (.ref q :: rest))) : W p l e R s m args below meth c H locs cells slots Q (F0 m pc ls (.int n :: rest)) :=
  va_newq hx hb hown hclink hover hK hP hD hS hA hn hN hbytes hcells hslots hdg (fun q cA H1 hK1 h1 h2 h3 => by
    have e9 : cA = cy 3 := RA_eq (hK1.2 5 _ rfl).2 (hK.2 3 _ rfl).2
    subst e9
    exact kk q H1 (P_perm (List.perm_append_singleton _ _) h1) (D_perm (List.perm_append_singleton _ _) h2) h3)
theorem r_new {own C : String} {T : u_T} {N ci index : Nat} {ty : Nat → FieldType} {fs : List Value} (hx : p.tables.exec = Jvm.exec) (hb : c.code = cc) (hts : ∀ w ∈ Ts, w.before args s = true) (hin : ∀ w ∈ u_ws C T N, w ∈ Ts) (hty : ∀ k, k < N → parseFieldDescriptor (T k).2.2.1 = some (ty k)) (hown : s.vm.findClass own = some m.cls) (hcl : Cond.classLink own index C ∈ Ts) (hinst : Cond.instantiable C N ∈ Ts) (hini : Cond.initialized C ∈ Ts) (hK : va_K D vwCl (TYS cy) s) (hP : va_P D vwCl w H) (hD : va_D A w) (hS : va_S A s.heap H locs) (hA : ∀ q, s.heap.size ≤ q → A q) (hc : vwCl[ci]? = some (C, T, N)) (hfs : ∀ j, j < N → defaultValue (ty j) = vp_V fs j) (hcells : cells + 1 ≤ R.cells) (hslots : slots + N ≤ R.slots) (hdg : decode cc pc = .ok (.new index, 3))
    (kk : ∀ (q : Nat) (H1 : Heap), va_P D vwCl ((q, .inr (ci, fs)) :: w) H1 → va_D A ((q, .inr (ci, fs)) :: w) → va_S A s.heap H1 locs → W p l e R s m args below meth c H1 locs (cells + 1) (slots + N) Q (F0 m (pc + 3) ls (.ref q :: rest))) : W p l e R s m args below meth c H locs cells slots Q (F0 m pc ls rest) :=
  va_new hx hb hts hin ty hty hown (hts _ hcl) (hts _ hinst) (hts _ hini) hK hP hD hS hA hc hfs hcells hslots hdg (fun q H1 h1 h2 h3 => kk q H1 (P_perm (List.perm_append_singleton _ _) h1) (D_perm (List.perm_append_singleton _ _) h2) h3)
theorem r_putF {own C : String} {T : u_T} {N ci index q0 k : Nat} {ty0 : Nat → FieldType} {fs : List Value} {v : Value} (hx : p.tables.exec = Jvm.exec) (hb : c.code = cc) (hts : ∀ w ∈ Ts, w.before args s = true) (hin : ∀ w ∈ u_ws C T N, w ∈ Ts) (hty : ∀ k, k < N → parseFieldDescriptor (T k).2.2.1 = some (ty0 k)) (hnm : ∀ a, a < N → ∀ b, b < N → a ≠ b → (T a).2.1 ≠ (T b).2.1) (hown : s.vm.findClass own = some m.cls) (hi2 : meth.name = "<init>") (hK : va_K D vwCl (TYS cy) s) (hP : va_P D vwCl w H) (hD : va_D A w) (hS : va_S A s.heap H locs) (he : w[q0]? = some (a, .inr (ci, fs))) (hc : vwCl[ci]? = some (C, T, N)) (hk : k < N) (hlink : Cond.fieldLink own index (T k).1 (T k).2.1 (T k).2.2.1 ∈ Ts) (hfin : (T k).2.2.2 = true) (hdecl : (T k).1 = own) {ty : FieldType} (hd : parseFieldDescriptor (T k).2.2.1 = some ty) (hn : narrow ty v = v) (hfit : fits ty v = true) (hl : k < fs.length) (hdg : decode cc pc = .ok (.putfield index, 3)) (hw : w.set q0 (a, .inr (ci, fs.set k v)) = w')
    (kk : ∀ (H1 : Heap) (locs1 : List Loc), va_P D vwCl w' H1 → va_D A w' → va_S A s.heap H1 locs1 → W p l e R s m args below meth c H1 locs1 cells slots Q (F0 m (pc + 3) ls rest)) : W p l e R s m args below meth c H locs cells slots Q (F0 m pc ls (v :: .ref a :: rest)) :=
  va_putF hx hb hts hin ty0 hty hnm hown hK hP hD hS q0 he hc k hk (hts _ hlink) (fun _ h => h) hfin hi2 hdecl hd hn hfit hl hdg (fun H1 l1 h1 h2 h3 => kk H1 l1 (hw ▸ h1) (hw ▸ h2) h3)
theorem r_astq {r : vw_C} {n k v q0 qk ci : Nat} {vs : List Value} {f : Nat → Option Nat} (t0 : Nat) (hx : p.tables.exec = Jvm.exec) (hb : c.code = cc) (hK : va_K D vwCl (TYS cy) s) (hP : va_P D vwCl w H) (hD : va_D A w) (hS : va_S A s.heap H locs) (ha : w[q0]? = some (a, .inl (cy t0, n, .inr (.inr (.inr (.inr f)))))) (ht : (TYS cy)[t0]? = some (cy t0, .object r.1)) (hv : w[qk]? = some (v, .inr (ci, vs))) (hc : vwCl[ci]? = some r) (hk : k < n) (hn : n < 2 ^ 31) (hdg : decode cc pc = .ok (.aastore, 1)) (hw : w.set q0 (a, .inl (cy t0, n, .inr (.inr (.inr (.inr (va_up f k (some v))))))) = w')
    (kk : ∀ (H1 : Heap) (locs1 : List Loc), va_P D vwCl w' H1 → va_D A w' → va_S A s.heap H1 locs1 → W p l e R s m args below meth c H1 locs1 cells slots Q (F0 m (pc + 1) ls rest)) : W p l e R s m args below meth c H locs cells slots Q (F0 m pc ls (.ref v :: .int (nI k) :: .ref a :: rest)) :=
  va_astq hx hb hK hP hD hS q0 t0 qk ci ha ht hv hc (vp_in_nI hk hn) hdg (fun H1 l1 h1 h2 h3 => by
    rw [nI_clamp (Nat.lt_trans hk hn), hw] at h1 h2
    exact kk H1 l1 h1 h2 h3)
end ROWN
section COREN
variable {l : Launch} {y : MethodName} {ws ws' : List Cond} {rm : Room} {D : va_G} {cy : Nat → ClassId} {av : List Value} {w : va_W} {mc ms maxL : Nat} {cc : ByteArray} {ret : Option FieldType}
/-- a constructor -/
theorem CVN.of {post : va_W → Prop} (hy : plainName y.cls = true) (hw : ws = Cond.code y cc maxL ret :: ws') (hn : (lg_sl av).length ≤ maxL)
    (body : ∀ (p : Program) (e : Env) (s : State) (m : MethodId) (below : List Frame) (meth : Method) (c : Code) (A : Nat → Prop) (ls : Array Slot), Ent p y.cls ws cc maxL ret D cy s m av.toArray meth c w A → meth.name = y.name → lv_has ls maxL (lv_args 0 av) →
      W p l e rm s m av.toArray below meth c s.heap [] 0 0 (MQ below (va_Qv post (fun w' t => wB D cy A w' t) A) av.toArray s mc ms A) (F0 m 0 ls [])) : CV l y ws rm D cy av w post mc ms := fun sz => by
  refine Met.ofW (cc := cc) (maxL := maxL) (ret := ret) hy hw ?_
  intro p e s m args below meth c s₁ B hml hv
  obtain ⟨rfl, hsz, E⟩ := Ent.of B hml hv
  have hl := lv_entry av (n := maxL) hn
  rw [lg_entry_eq]
  exact body p e s m below meth c _ _ E (name_of_methodNamed B.named B.method).1 hl
end COREN
/-- an array's values count below its length alone -/
theorem arrV_fn {cA : ClassId} {n : Nat} {f g : Nat → Value} (h : ∀ j, j < n → f j = g j) : arrV cA n f = arrV cA n g := by
  have e : (arrV cA n f).slots = (arrV cA n g).slots := by
    apply Array.ext_getElem?
    intro j
    by_cases hj : j < n
    · rw [arrV_read _ _ hj, arrV_read _ _ hj, h j hj]
    · rw [Array.getElem?_eq_none (by rw [arrV_size]; omega), Array.getElem?_eq_none (by rw [arrV_size]; omega)]
  exact congrArg (fun sl => ({ cls := cA, slots := sl, vm := .none } : Cell)) e
theorem at_fn {D : va_G} {cA : ClassId} {n q : Nat} {f g : Nat → Int32} {H : Heap} (h : ∀ j, j < n → f j = g j) (h1 : va_at D vwCl (q, .inl (cA, n, .inl f)) H) : va_at D vwCl (q, .inl (cA, n, .inl g)) H := by
  have e : vp_cell cA (n, .inl f) = vp_cell cA (n, .inl g) := by
    rw [vp_cell_i, vp_cell_i]
    exact arrV_fn (fun j hj => by rw [h j hj])
  show H[q]? = some (vp_cell cA (n, .inl g))
  rw [← e]
  exact h1
theorem P_cons {D : va_G} {x x' : Nat × va_E} {w w' : va_W} {H : Heap} (h : va_at D vwCl x H → va_at D vwCl x' H) (h2 : va_P D vwCl w H → va_P D vwCl w' H) (hP : va_P D vwCl (x :: w) H) : va_P D vwCl (x' :: w') H := by
  rw [P_iff] at hP ⊢
  intro q hq
  rcases List.mem_cons.mp hq with e | e
  · rw [e]; exact h (hP x List.mem_cons_self)
  · exact P_iff.mp (h2 (P_iff.mpr (fun r hr => hP r (List.mem_cons_of_mem _ hr)))) q e
theorem D_fst {A : Nat → Prop} {w w' : va_W} (h : w.map Prod.fst = w'.map Prod.fst) (hD : va_D A w) : va_D A w' := by
  rw [D_iff] at hD ⊢
  rw [← h]
  refine ⟨hD.1, fun q hq => ?_⟩
  have h1 : q.1 ∈ w.map Prod.fst := by rw [h]; exact List.mem_map_of_mem hq
  obtain ⟨r, hr, e⟩ := List.mem_map.mp h1
  rw [← e]
  exact hD.2 r hr
theorem perm3 (X0 X1 X2 Y : va_W) (s9 t r : Nat × va_E) : (X0 ++ s9 :: (X1 ++ t :: (X2 ++ r :: Y))).Perm (r :: t :: s9 :: (X0 ++ (X1 ++ (X2 ++ Y)))) := by
  have h1 : (t :: (X2 ++ r :: Y)).Perm (r :: t :: (X2 ++ Y)) := (List.perm_middle.cons t).trans (List.Perm.swap _ _ _)
  have h2 : (X1 ++ t :: (X2 ++ r :: Y)).Perm (r :: t :: (X1 ++ (X2 ++ Y))) := (h1.append_left X1).trans (List.perm_middle.trans (List.perm_middle.cons r))
  have h3 : (s9 :: (X1 ++ t :: (X2 ++ r :: Y))).Perm (r :: t :: s9 :: (X1 ++ (X2 ++ Y))) := (h2.cons s9).trans ((List.Perm.swap _ _ _).trans ((List.Perm.swap _ _ _).cons r))
  exact (h3.append_left X0).trans (List.perm_middle.trans ((List.perm_middle.trans (List.perm_middle.cons t)).cons r))
theorem CW_front {cy : Nat → ClassId} {G : Nat → Nat} {S : Nat → Nat → Nat} {hd : Option Nat} {nx : Nat → Option Nat} {Y : va_W} (x : Nat × va_E) : (x :: CW cy G S hd nx Y).Perm (CW cy G S hd nx (x :: Y)) := by
  rw [CW_app cy G S hd nx Y, CW_app cy G S hd nx (x :: Y)]
  exact List.perm_middle.symm
/-- the class's world, its count and its table of signs told apart -/
def CWx (cy : Nat → ClassId) (G : Nat → Nat) (S : Nat → Nat → Nat) (hd : Option Nat) (nx : Nat → Option Nat) (Y : va_W) (cnt : Nat) (f : Nat → Option Nat) : va_W :=
  (G 0, .inr (1, [.ref (G 1), .int (nI cnt), va_rf (hd.map fun j => G (100 + 3 * j)), .ref (G 2), .ref (G 3), .int (nI (S 0 1)), .int (nI (S 0 2)), .ref (G 4), .ref (G 5)])) ::
  (G 1, .inl (cy 3, 60, .inr (.inr (.inr (.inr f))))) ::
  (G 2, .inl (cy 0, 4, .inl (fun j => nI (S 8 j)))) ::
  (G 3, .inl (cy 4, 20, .inr (.inr (.inr (.inr (fun e => if e < 20 then some (G (10 + e)) else none)))))) ::
  (G 4, .inl (cy 0, 4, .inl (fun j => nI (S 10 j)))) ::
  (G 5, .inl (cy 1, 4, .inr (.inl (fun j => lN (S 11 j))))) ::
  (fam 20 (fun e => G (10 + e)) (rwC cy S) ++ sgW cy G S nx Y)
def sgF (S : Nat → Nat → Nat) (G : Nat → Nat) : Nat → Option Nat := fun i => if i < S 0 0 then some (G (100 + 3 * i)) else none
theorem CW_x (cy : Nat → ClassId) (G : Nat → Nat) (S : Nat → Nat → Nat) (hd : Option Nat) (nx : Nat → Option Nat) (Y : va_W) : CW cy G S hd nx Y = CWx cy G S hd nx Y (S 0 0) (sgF S G) := rfl
def gUp (G : Nat → Nat) (n z t r : Nat) : Nat → Nat := fun k => if k = 100 + 3 * n then z else if k = 101 + 3 * n then t else if k = 102 + 3 * n then r else G k
theorem gUp_lo {G : Nat → Nat} {n z t r k : Nat} (h : k < 100 + 3 * n) : gUp G n z t r k = G k := by
  unfold gUp
  rw [if_neg (by omega), if_neg (by omega), if_neg (by omega)]
theorem gUp_z (G : Nat → Nat) (n z t r : Nat) : gUp G n z t r (100 + 3 * n) = z := if_pos rfl
theorem gUp_t (G : Nat → Nat) (n z t r : Nat) : gUp G n z t r (101 + 3 * n) = t := by
  unfold gUp
  rw [if_neg (by omega), if_pos rfl]
theorem gUp_r (G : Nat → Nat) (n z t r : Nat) : gUp G n z t r (102 + 3 * n) = r := by
  unfold gUp
  rw [if_neg (by omega), if_neg (by omega), if_pos rfl]
theorem mapG {G : Nat → Nat} {n z t r : Nat} {o : Option Nat} (h : ∀ j, o = some j → j < n) : (o.map fun j => gUp G n z t r (100 + 3 * j)) = o.map fun j => G (100 + 3 * j) := by
  cases o with
  | none => rfl
  | some j =>
    have := h j rfl
    exact congrArg some (gUp_lo (by omega))
theorem ChP_in {nx : Nat → Option Nat} : ∀ {O : List Nat} {o : Option Nat}, ChP nx o O → (∀ j, o = some j → j ∈ O) ∧ ∀ i, i ∈ O → ∀ j, nx i = some j → j ∈ O
  | [], o, h => ⟨fun j e => (by rw [show o = none from h] at e; cases e), fun i hi => absurd hi List.not_mem_nil⟩
  | x :: r, o, h => by
    have h12 := ChP_in h.2
    have h1 := h12.1
    have h2 := h12.2
    refine ⟨fun j e => (by rw [h.1] at e; cases e; exact List.mem_cons_self), fun i hi j e => ?_⟩
    rcases List.mem_cons.mp hi with e9 | e9
    · subst e9; exact List.mem_cons_of_mem _ (h1 j e)
    · exact List.mem_cons_of_mem _ (h2 i e9 j e)
theorem ChP_upn {nx : Nat → Option Nat} {n : Nat} {v : Option Nat} : ∀ {O : List Nat} {o : Option Nat}, n ∉ O → ChP nx o O → ChP (va_up nx n v) o O
  | [], _, _, h => h
  | x :: r, o, hn, h => by
    have hx : ¬ x = n := fun e => hn (e ▸ List.mem_cons_self)
    refine ⟨h.1, ?_⟩
    rw [show va_up nx n v x = nx x from if_neg hx]
    exact ChP_upn (fun h9 => hn (List.mem_cons_of_mem _ h9)) h.2
/-- a new sign's cells, and the table that names it, are the world of one sign more -/
theorem CW_new {cy : Nat → ClassId} {D : va_G} {A : Nat → Prop} {H : Heap} {G : Nat → Nat} {S : Nat → Nat → Nat} {O : List Nat} {hd : Option Nat} {nx : Nat → Option Nat} {Y : va_W} {a b c z t r : Nat} (hI : Inv S O) (hO : ChP nx hd O) (hn : S 0 0 < 60) (ha : a < 4) (hb : b = 0 ∨ b - 1 < S 0 0)
    (hP : va_P D vwCl ((r, .inl (cy 2, 4, .inl (fun _ => 0))) :: (t, .inl (cy 0, 4, .inl (fun j => if j = a then nI 0 else -1))) :: (z, .inr (0, [.int (nI (S 0 0)), .int (nI a), .int (nI c), .int (nI (4 * (S 8 a + 1) + a)), va_rf (if b = 0 then none else some (G (100 + 3 * (b - 1)))), .null, .ref t, .ref r])) :: CWx cy G (up2 S 8 a (S 8 a + 1)) hd nx Y (S 0 0 + 1) (va_up (sgF S G) (S 0 0) (some z))) H)
    (hD : va_D A ((r, .inl (cy 2, 4, .inl (fun _ => 0))) :: (t, .inl (cy 0, 4, .inl (fun j => if j = a then nI 0 else -1))) :: (z, .inr (0, [.int (nI (S 0 0)), .int (nI a), .int (nI c), .int (nI (4 * (S 8 a + 1) + a)), va_rf (if b = 0 then none else some (G (100 + 3 * (b - 1)))), .null, .ref t, .ref r])) :: CWx cy G (up2 S 8 a (S 8 a + 1)) hd nx Y (S 0 0 + 1) (va_up (sgF S G) (S 0 0) (some z)))) :
    va_P D vwCl (CW cy (gUp G (S 0 0) z t r) (insS S a b c) hd (va_up nx (S 0 0) none) Y) H ∧ va_D A (CW cy (gUp G (S 0 0) z t r) (insS S a b c) hd (va_up nx (S 0 0) none) Y) := by
  have hz := hI.2.2.2.2.2.2.2.1
  obtain ⟨n, en⟩ : ∃ n, n = S 0 0 := ⟨_, rfl⟩
  have hin := ChP_in hO
  have hmm := hI.2.2.2.2.1
  have hhd : ∀ j, hd = some j → j < S 0 0 := fun j e => (hmm j).mp (hin.1 j e)
  have hnx : ∀ i, i < S 0 0 → ∀ j, nx i = some j → j < S 0 0 := fun i hi j e => (hmm j).mp (hin.2 i ((hmm i).mpr hi) j e)
  have hg := hI.g
  -- the three new cells in the world's own words
  have e5 : ∀ j, j < 4 → insS S a b c 5 (60 * j + S 0 0) = if j = a then 1 else 0 := fun j hj => by
    by_cases e : j = a
    · subst e; simp [insS, up2]
    · have := (hz j (S 0 0) hj (Nat.le_refl _) hn).1
      have h9 : ¬ 60 * j = 60 * a := by omega
      simp [insS, up2, e, h9, this]
  have e7 : ∀ j, j < 4 → insS S a b c 7 (60 * j + S 0 0) = 0 := fun j hj => by
    have := (hz j (S 0 0) hj (Nat.le_refl _) hn).2.2
    simp [insS, up2, this]
  have e6 : ∀ j, j < 4 → insS S a b c 6 (60 * j + S 0 0) = 0 := fun j hj => by
    have := (hz j (S 0 0) hj (Nat.le_refl _) hn).2.1
    simp [insS, up2, this]
  have hG : ∀ k, k < 100 + 3 * S 0 0 → gUp G (S 0 0) z t r k = G k := fun k hk => gUp_lo hk
  have sg0 : sgC (gUp G (S 0 0) z t r) (insS S a b c) (va_up nx (S 0 0) none) (S 0 0) = .inr (0, [.int (nI (S 0 0)), .int (nI a), .int (nI c), .int (nI (4 * (S 8 a + 1) + a)), va_rf (if b = 0 then none else some (G (100 + 3 * (b - 1)))), .null, .ref t, .ref r]) := by
    have eb : (if insS S a b c 4 (S 0 0) = 0 then none else some (gUp G (S 0 0) z t r (100 + 3 * (insS S a b c 4 (S 0 0) - 1)))) = (if b = 0 then none else some (G (100 + 3 * (b - 1)))) := by
      have e4 : insS S a b c 4 (S 0 0) = b := by simp [insS, up2]
      rw [e4]
      by_cases h0 : b = 0
      · rw [if_pos h0, if_pos h0]
      · rw [if_neg h0, if_neg h0, hG _ (by omega)]
    unfold sgC
    rw [eb, gUp_t, gUp_r]
    simp [insS, up2, va_up, va_rf]
  have P1 : va_P D vwCl ((r, rmC cy (insS S a b c) (S 0 0)) :: (t, stC cy (insS S a b c) (S 0 0)) :: (z, sgC (gUp G (S 0 0) z t r) (insS S a b c) (va_up nx (S 0 0) none) (S 0 0)) :: CWx cy G (up2 S 8 a (S 8 a + 1)) hd nx Y (S 0 0 + 1) (va_up (sgF S G) (S 0 0) (some z))) H := by
    rw [sg0]
    refine P_cons (at_fn fun j hj => by rw [e6 j hj]; rfl) (fun h => P_cons (at_fn fun j hj => ?_) (fun h => h) h) hP
    unfold stV
    rw [e5 j hj, e7 j hj]
    by_cases e : j = a
    · rw [if_pos e, if_pos e]; rfl
    · rw [if_neg e, if_neg e]; rfl
  have D1 : va_D A ((r, rmC cy (insS S a b c) (S 0 0)) :: (t, stC cy (insS S a b c) (S 0 0)) :: (z, sgC (gUp G (S 0 0) z t r) (insS S a b c) (va_up nx (S 0 0) none) (S 0 0)) :: CWx cy G (up2 S 8 a (S 8 a + 1)) hd nx Y (S 0 0 + 1) (va_up (sgF S G) (S 0 0) (some z))) := by
    refine D_fst ?_ hD
    rfl
  have hperm : (CW cy (gUp G (S 0 0) z t r) (insS S a b c) hd (va_up nx (S 0 0) none) Y).Perm ((r, rmC cy (insS S a b c) (S 0 0)) :: (t, stC cy (insS S a b c) (S 0 0)) :: (z, sgC (gUp G (S 0 0) z t r) (insS S a b c) (va_up nx (S 0 0) none) (S 0 0)) :: CWx cy G (up2 S 8 a (S 8 a + 1)) hd nx Y (S 0 0 + 1) (va_up (sgF S G) (S 0 0) (some z))) := by
    have en2 : insS S a b c 0 0 = S 0 0 + 1 := by simp [insS, up2]
    have f0 : sgF (insS S a b c) (gUp G (S 0 0) z t r) = va_up (sgF S G) (S 0 0) (some z) := by
      funext i
      unfold sgF va_up
      rw [en2]
      show _ = if i = S 0 0 then some z else if i < S 0 0 then some (G (100 + 3 * i)) else none
      by_cases e : i = S 0 0
      · subst e; rw [if_pos (by omega), if_pos rfl, gUp_z]
      · by_cases h : i < S 0 0
        · rw [if_pos (by omega), if_neg e, if_pos h, hG _ (by omega)]
        · rw [if_neg (by omega), if_neg e, if_neg h]
    have f3 : (fun e => if e < 20 then some (gUp G (S 0 0) z t r (10 + e)) else none) = fun e => if e < 20 then some (G (10 + e)) else none := by
      funext e
      by_cases h : e < 20
      · rw [if_pos h, if_pos h, hG _ (by omega)]
      · rw [if_neg h, if_neg h]
    have g20 : fam 20 (fun e => gUp G (S 0 0) z t r (10 + e)) (rwC cy (insS S a b c)) = fam 20 (fun e => G (10 + e)) (rwC cy (up2 S 8 a (S 8 a + 1))) :=
      fam_congr (fun i hi => hG _ (by omega)) (fun i _ => rfl)
    have gs : fam (S 0 0) (fun i => gUp G (S 0 0) z t r (100 + 3 * i)) (sgC (gUp G (S 0 0) z t r) (insS S a b c) (va_up nx (S 0 0) none)) = fam (S 0 0) (fun i => G (100 + 3 * i)) (sgC G (up2 S 8 a (S 8 a + 1)) nx) :=
      fam_congr (fun i hi => hG _ (by omega)) (fun i hi => by
        have hne : ¬ i = S 0 0 := by omega
        have h4 : S 4 i = 0 ∨ S 4 i - 1 < S 0 0 := (hg i hi).imp id And.left
        have eb : (if insS S a b c 4 i = 0 then none else some (gUp G (S 0 0) z t r (100 + 3 * (insS S a b c 4 i - 1)))) = (if S 4 i = 0 then none else some (G (100 + 3 * (S 4 i - 1)))) := by
          have e4 : insS S a b c 4 i = S 4 i := by simp [insS, up2, hne]
          rw [e4]
          by_cases h0 : S 4 i = 0
          · rw [if_pos h0, if_pos h0]
          · rw [if_neg h0, if_neg h0, hG _ (by omega)]
        unfold sgC
        rw [eb, hG _ (by omega), hG _ (by omega), show va_up nx (S 0 0) none i = nx i from if_neg hne, mapG (hnx i hi)]
        simp [insS, up2, hne])
    have gt : fam (S 0 0) (fun i => gUp G (S 0 0) z t r (101 + 3 * i)) (stC cy (insS S a b c)) = fam (S 0 0) (fun i => G (101 + 3 * i)) (stC cy (up2 S 8 a (S 8 a + 1))) :=
      fam_congr (fun i hi => hG _ (by omega)) (fun i hi => by
        unfold stC
        congr 4
        funext j
        have h9 : ¬ 60 * j + i = 60 * a + S 0 0 := by omega
        simp [stV, insS, up2, h9])
    have gr : fam (S 0 0) (fun i => gUp G (S 0 0) z t r (102 + 3 * i)) (rmC cy (insS S a b c)) = fam (S 0 0) (fun i => G (102 + 3 * i)) (rmC cy (up2 S 8 a (S 8 a + 1))) :=
      fam_congr (fun i hi => hG _ (by omega)) (fun i hi => by
        unfold rmC
        congr 4)
    rw [CW_x, f0, en2]
    unfold CWx sgW
    rw [en2, fam_succ (S 0 0), fam_succ (S 0 0), fam_succ (S 0 0), f3, g20, gs, gt, gr, mapG hhd, gUp_z, gUp_t, gUp_r, hG 0 (by omega), hG 1 (by omega), hG 2 (by omega), hG 3 (by omega), hG 4 (by omega), hG 5 (by omega)]
    have e8 : ∀ j, insS S a b c 8 j = up2 S 8 a (S 8 a + 1) 8 j := fun j => by simp [insS, up2]
    have e10 : ∀ k j, k = 10 ∨ k = 11 → insS S a b c k j = up2 S 8 a (S 8 a + 1) k j := fun k j h => by rcases h with h | h <;> (subst h; simp [insS, up2])
    have e01 : insS S a b c 0 1 = S 0 1 := by simp [insS, up2]
    have e02 : insS S a b c 0 2 = S 0 2 := by simp [insS, up2]
    simp only [e8, e10 10 _ (Or.inl rfl), e10 11 _ (Or.inr rfl), e01, e02]
    have e0 : ∀ j, up2 S 8 a (S 8 a + 1) 0 j = S 0 j := fun j => by simp [up2]
    simp only [e0]
    refine (List.Perm.of_eq ?_).trans ((perm3 (([(G 0, .inr (1, [.ref (G 1), .int (nI (S 0 0 + 1)), va_rf (hd.map fun j => G (100 + 3 * j)), .ref (G 2), .ref (G 3), .int (nI (S 0 1)), .int (nI (S 0 2)), .ref (G 4), .ref (G 5)])), (G 1, .inl (cy 3, 60, .inr (.inr (.inr (.inr (va_up (sgF S G) (S 0 0) (some z))))))), (G 2, .inl (cy 0, 4, .inl (fun j => nI (up2 S 8 a (S 8 a + 1) 8 j)))), (G 3, .inl (cy 4, 20, .inr (.inr (.inr (.inr (fun e => if e < 20 then some (G (10 + e)) else none)))))), (G 4, .inl (cy 0, 4, .inl (fun j => nI (up2 S 8 a (S 8 a + 1) 10 j)))), (G 5, .inl (cy 1, 4, .inr (.inl (fun j => lN (up2 S 8 a (S 8 a + 1) 11 j)))))] : va_W) ++ (fam 20 (fun e => G (10 + e)) (rwC cy (up2 S 8 a (S 8 a + 1))) ++ fam (S 0 0) (fun i => G (100 + 3 * i)) (sgC G (up2 S 8 a (S 8 a + 1)) nx))) (fam (S 0 0) (fun i => G (101 + 3 * i)) (stC cy (up2 S 8 a (S 8 a + 1)))) (fam (S 0 0) (fun i => G (102 + 3 * i)) (rmC cy (up2 S 8 a (S 8 a + 1)))) Y (z, sgC (gUp G (S 0 0) z t r) (insS S a b c) (va_up nx (S 0 0) none) (S 0 0)) (t, stC cy (insS S a b c) (S 0 0)) (r, rmC cy (insS S a b c) (S 0 0))).trans (List.Perm.of_eq ?_))
    · simp only [List.append_assoc, List.cons_append, List.nil_append]
    · simp only [List.append_assoc, List.cons_append, List.nil_append]
  exact ⟨P_perm hperm.symm P1, D_perm hperm.symm D1⟩
