/-! THE ABSTRACT MACHINE, 5: fields, arrays, new cells, the JDK's natives -/
/-- field k of the class ci, reached from own's pool entry idx -/
def FLk (own : String) (idx ci k : Nat) : Prop := ∃ (C : String) (T : u_T) (N : Nat), cls13[ci]? = some (C, T, N) ∧ k < N ∧ nF ci = N ∧ Cond.fieldLink own idx (T k).1 (T k).2.1 (T k).2.2.1 ∈ ws0 ∧ (∀ w ∈ u_ws C T N, w ∈ ws0)
/-- .. and written there (fin: it is final, and this is its own constructor) -/
def FPk (own nm : String) (idx ci k : Nat) : Prop := ∃ (C : String) (T : u_T) (N : Nat), cls13[ci]? = some (C, T, N) ∧ k < N ∧ nF ci = N ∧ Cond.fieldLink own idx (T k).1 (T k).2.1 (T k).2.2.1 ∈ ws0 ∧ (∀ w ∈ u_ws C T N, w ∈ ws0) ∧
  (∀ k, k < N → parseFieldDescriptor (T k).2.2.1 = some (tyF ci k)) ∧ (∀ a, a < N → ∀ b, b < N → a ≠ b → (T a).2.1 ≠ (T b).2.1) ∧ ((T k).2.2.2 = false ∨ ((T k).2.2.2 = true ∧ nm = "<init>" ∧ (T k).1 = own))
section AHeap
variable {Sc : SCR} {M : MD} {pc idx ci k q : Nat} {lv : List (Nat × Value)} {st : List Value} {K : List kd} {μ : Mem} {n : Nat × Nat} {Q : PQ}
theorem aw_get0 (hf : FLk M.1.cls idx ci k) (hK : K[q]? = some (.inl ci)) {t : Nat} (ht : ftc (tyF ci k) = t) {v : Value} (hv : ∀ ad, fv ad t μ q k = cv ad v) (d : decode M.2.1 pc = .ok (.getfield idx, 3))
    (h : AW Sc M (pc + 3) lv (v :: st) K μ n Q) : AW Sc M pc lv (.ref q :: st) K μ n Q := by
  intro p l e R s m args below meth c H locs cells slots Qf G ls hC hD hn hl hr
  obtain ⟨C, T, N, hc, hk, hN, hlk, hin⟩ := hf
  refine va_get (C := C) (T := T) (N := N) hC.1 hC.2.1 hC.2.2.2.2.1 hin hC.2.2.2.1 hD.1 hD.2.1 q (wl_get hK) hc k hk (hC.2.2.2.2.1 _ hlk) (fun _ h9 => h9) (fls_get (by rw [hN]; exact hk)) d ?_
  rw [ht, hv]
  exact h p l e R s m args below meth c H locs cells slots Qf G ls hC hD hn hl hr
theorem aw_getI (hf : FLk M.1.cls idx ci k) (hK : K[q]? = some (.inl ci)) (ht : ftc (tyF ci k) = 0) (d : decode M.2.1 pc = .ok (.getfield idx, 3)) (h : AW Sc M (pc + 3) lv (.int (μ.1 q k) :: st) K μ n Q) : AW Sc M pc lv (.ref q :: st) K μ n Q := aw_get0 hf hK ht (fun _ => rfl) d h
theorem aw_getJ (hf : FLk M.1.cls idx ci k) (hK : K[q]? = some (.inl ci)) (ht : ftc (tyF ci k) = 1) (d : decode M.2.1 pc = .ok (.getfield idx, 3)) (h : AW Sc M (pc + 3) lv (.long (μ.2.1 q k) :: st) K μ n Q) : AW Sc M pc lv (.ref q :: st) K μ n Q := aw_get0 hf hK ht (fun _ => rfl) d h
theorem aw_getR {r : Nat} (hf : FLk M.1.cls idx ci k) (hK : K[q]? = some (.inl ci)) (ht : ftc (tyF ci k) = 2) (hr : μ.2.2 q k = some r) (d : decode M.2.1 pc = .ok (.getfield idx, 3)) (h : AW Sc M (pc + 3) lv (.ref r :: st) K μ n Q) : AW Sc M pc lv (.ref q :: st) K μ n Q := aw_get0 hf hK ht (fun ad => by simp [fv, hr, va_rf, cv]) d h
/-- a store into the cell at place q -/
theorem Dy.put {G : GT} {s : State} {H H1 : Heap} {locs : List Loc} {μ' : Mem} {k0 : kd} (hD : Dy Sc G s H locs K μ) (hK : K[q]? = some k0) (he : va_at G.2.2.1 cls13 (G.1 q, cellE G k0 μ' q) H1) (ho : ∀ q', q' ≠ q → ∀ k, cellE G k μ' q' = cellE G k μ q') (z : H1.size = H.size) (oq : ∀ a, a ≠ G.1 q → H1[a]? = H[a]?) (i : Nat) : Dy Sc G s H1 (locs ++ [⟨G.1 q, i⟩]) K μ' := by
  have hap := hD.D
  obtain ⟨d1, d2, dS, d3, d4, d5, d6, d7⟩ := hD
  refine ⟨d1, ?_, dS.put z oq (hap.2 q _ (wl_get hK)), by rw [z]; exact d3, d4, d5, d6, d7⟩
  rw [← wl_set hK rfl ho]
  exact d2.set hap (wl_get hK) he oq
theorem aw_put0 {nmM : String} (hf : FPk M.1.cls M.1.name idx ci k) (hK : K[q]? = some (.inl ci)) {v : Value} {μ' : Mem} (hn1 : ∀ ad, narrow (tyF ci k) (cv ad v) = cv ad v) (hfit : ∀ ad, fits (tyF ci k) (cv ad v) = true) (hset : ∀ ad, (fls ad ci μ q).set k (cv ad v) = fls ad ci μ' q) (ho : ∀ (G : GT) q', q' ≠ q → ∀ k, cellE G k μ' q' = cellE G k μ q') (d : decode M.2.1 pc = .ok (.putfield idx, 3))
    (h : AW Sc M (pc + 3) lv st K μ' n Q) : AW Sc M pc lv (v :: .ref q :: st) K μ n Q := by
  intro p l e R s m args below meth c H locs cells slots Qf G ls hC hD hn hl hr
  obtain ⟨C, T, N, hc, hk, hN, hlk, hin, hty, hnm, hfin⟩ := hf
  obtain ⟨hx, hb, hml, hown, hts, hret, hlocks, hname, hR1, hR2⟩ := id hC
  have hap := va_apart (own := M.1.cls) hts hin (tyF ci) hty hnm hD.1 hc
  obtain ⟨r, h1, cell, q1, q2, q3, q4⟩ := hD.2.1 q _ (wl_get hK)
  cases h1.symm.trans hc
  obtain ⟨hS, hfc, kC, hkC, hkind⟩ := hD.1.1 ci _ hc
  obtain ⟨cf, kf, fi, f, hi, hsl⟩ := hS k hk
  have hst := (u_facts hfc hkC (u_lays hts hin hk) hi).1
  have hlay := hts _ (hin _ (u_in_lay hk))
  unfold u_lay at hlay
  have fin : ∀ H' : Heap, H'[G.1 q]? = some (cell.setSlot f.slot (cv G.1 v)) → H'.size = H.size → (∀ a, a ≠ G.1 q → H'[a]? = H[a]?) → W p l e R s m args below meth c H' (locs ++ [⟨G.1 q, f.slot⟩]) cells slots Qf (F0 m (pc + 3) ls (st.map (cv G.1))) := by
    intro H' e1 e2 e3
    refine h p l e R s m args below meth c H' _ cells slots Qf G ls hC (hD.put hK ⟨_, hc, ?_⟩ (ho G) e2 e3 f.slot) hn hl hr
    rw [← hset G.1]
    rw [hsl] at e1
    exact t_OB.to (V := updV (vp_V (fls G.1 ci μ q)) k (cv G.1 v)) ⟨_, e1, q2, q3, t_set q4 hap hk _⟩ (fun j _ => vp_updV_set (by rw [fls_len, hN]; exact hk) _ j)
  rcases hfin with hfin | ⟨hfin, hini, hdecl⟩
  · rw [if_neg (by rw [hfin]; decide)] at hlay
    have h6 := u_store hfc hkC hkind hlay hi (hty k hk) (hn1 G.1) (hfit G.1)
    exact W.putK hx hb (f := f) ⟨hown, hts _ hlk, ⟨_, _, _, hi⟩, hst⟩ (by rw [q2]; exact h6) q1 q3 (by rw [hsl]; exact k2_hasslot (q4 k hk)) rfl rfl d fin
  · rw [if_pos hfin] at hlay
    have hcf : m.cls = cf := by
      obtain ⟨_, _, c', _, _, _, -, -, hf', -, -, -, hown2, -⟩ := Cond.laysFinal_spec hlay
      have e1 : c' = cf := by have := hi.symm.trans hf'; simp at this; exact this.1.symm
      rw [hdecl] at hown2
      rw [← e1]; exact Option.some.inj (hown.symm.trans hown2)
    have h6 := u_fits hfc hkC hkind (Or.inr hlay) hi (hty k hk) (hn1 G.1) (hfit G.1)
    exact W.putFinK hx hb hown (hts _ hlk) hi hst hcf (hname.trans hini) (by rw [q2]; exact h6) q1 q3 (by rw [hsl]; exact k2_hasslot (q4 k hk)) rfl rfl d fin
theorem FLk.lt {own : String} (h : FLk own idx ci k) : k < nF ci := by
  obtain ⟨C, T, N, -, hk, hN, -⟩ := h
  rw [hN]; exact hk
theorem FPk.lt {own nm : String} (h : FPk own nm idx ci k) : k < nF ci := by
  obtain ⟨C, T, N, -, hk, hN, -⟩ := h
  rw [hN]; exact hk
theorem aw_putI {x : Int32} (hf : FPk M.1.cls M.1.name idx ci k) (hK : K[q]? = some (.inl ci)) (ht : ftc (tyF ci k) = 0) (hn1 : narrow (tyF ci k) (.int x) = .int x) (hfit : fits (tyF ci k) (.int x) = true) (d : decode M.2.1 pc = .ok (.putfield idx, 3)) (h : AW Sc M (pc + 3) lv st K (pI μ q k x) n Q) : AW Sc M pc lv (.int x :: .ref q :: st) K μ n Q :=
  aw_put0 (nmM := "") hf hK (fun _ => hn1) (fun _ => hfit) (fun _ => fls_pI hf.lt ht) (fun _ _ hq => cell_pI μ k x hq) d h
theorem aw_putJ {x : Int64} (hf : FPk M.1.cls M.1.name idx ci k) (hK : K[q]? = some (.inl ci)) (ht : tyF ci k = .long) (d : decode M.2.1 pc = .ok (.putfield idx, 3)) (h : AW Sc M (pc + 3) lv st K (pJ μ q k x) n Q) : AW Sc M pc lv (.long x :: .ref q :: st) K μ n Q :=
  aw_put0 (nmM := "") hf hK (fun _ => by rw [ht]; rfl) (fun _ => by rw [ht]; rfl) (fun _ => fls_pJ hf.lt (by rw [ht]; rfl)) (fun _ _ hq => cell_pJ μ k x hq) d h
theorem aw_putR {x : Nat} (hf : FPk M.1.cls M.1.name idx ci k) (hK : K[q]? = some (.inl ci)) (ht : ftc (tyF ci k) = 2) (hn1 : ∀ a, narrow (tyF ci k) (.ref a) = .ref a) (hfit : ∀ a, fits (tyF ci k) (.ref a) = true) (d : decode M.2.1 pc = .ok (.putfield idx, 3)) (h : AW Sc M (pc + 3) lv st K (pR μ q k (some x)) n Q) : AW Sc M pc lv (.ref x :: .ref q :: st) K μ n Q :=
  aw_put0 (nmM := "") hf hK (fun ad => hn1 (ad x)) (fun ad => hfit (ad x)) (fun _ => fls_pR hf.lt ht) (fun _ _ hq => cell_pR μ k (some x) hq) d h
/-! arrays -/
theorem aw_iaload {i : Int32} {N : Nat} (hK : K[q]? = some (.inr (0, N))) (hi : vp_in i N) (d : decode M.2.1 pc = .ok (.iaload, 1)) (h : AW Sc M (pc + 1) lv (.int (μ.1 q i.toNatClampNeg) :: st) K μ n Q) : AW Sc M pc lv (.int i :: .ref q :: st) K μ n Q :=
  fun p l e R s m args below meth c H locs cells slots Qf G ls hC hD hn hl hr => va_iald hC.1 hC.2.1 hD.1 hD.2.1 q 0 (wl_get hK) rfl hi d (h p l e R s m args below meth c H locs cells slots Qf G ls hC hD hn hl hr)
theorem aw_caload {i : Int32} {N : Nat} (hK : K[q]? = some (.inr (2, N))) (hi : vp_in i N) (d : decode M.2.1 pc = .ok (.caload, 1)) (h : AW Sc M (pc + 1) lv (.int (μ.1 q i.toNatClampNeg) :: st) K μ n Q) : AW Sc M pc lv (.int i :: .ref q :: st) K μ n Q :=
  fun p l e R s m args below meth c H locs cells slots Qf G ls hC hD hn hl hr => va_cald hC.1 hC.2.1 hD.1 hD.2.1 q 2 (wl_get hK) rfl hi d (h p l e R s m args below meth c H locs cells slots Qf G ls hC hD hn hl hr)
theorem aw_laload {i : Int32} {N : Nat} (hK : K[q]? = some (.inr (1, N))) (hi : vp_in i N) (d : decode M.2.1 pc = .ok (.laload, 1)) (h : AW Sc M (pc + 1) lv (.long (μ.2.1 q i.toNatClampNeg) :: st) K μ n Q) : AW Sc M pc lv (.int i :: .ref q :: st) K μ n Q :=
  fun p l e R s m args below meth c H locs cells slots Qf G ls hC hD hn hl hr => va_lald hC.1 hC.2.1 hD.1 hD.2.1 q 1 (wl_get hK) rfl hi d (h p l e R s m args below meth c H locs cells slots Qf G ls hC hD hn hl hr)
theorem aw_aaload {i : Int32} {N t r : Nat} {C : String} (hK : K[q]? = some (.inr (t + 3, N))) (ht : ∀ dA, (tyl dA)[t + 3]? = some (dA (t + 3), .object C)) (hi : vp_in i N) (hr : μ.2.2 q i.toNatClampNeg = some r) (d : decode M.2.1 pc = .ok (.aaload, 1)) (h : AW Sc M (pc + 1) lv (.ref r :: st) K μ n Q) : AW Sc M pc lv (.int i :: .ref q :: st) K μ n Q := by
  intro p l e R s m args below meth c H locs cells slots Qf G ls hC hD hn hl hr'
  refine va_aldq hC.1 hC.2.1 hD.1 hD.2.1 q (t + 3) (wl_get hK) (ht _) hi d ?_
  rw [hr]
  exact h p l e R s m args below meth c H locs cells slots Qf G ls hC hD hn hl hr'
theorem aw_alen {N t : Nat} {ty : FieldType} (hK : K[q]? = some (.inr (t, N))) (ht : ∀ dA, (tyl dA)[t]? = some (dA t, ty)) (d : decode M.2.1 pc = .ok (.arraylength, 1)) (h : AW Sc M (pc + 1) lv (.int (nI N) :: st) K μ n Q) : AW Sc M pc lv (.ref q :: st) K μ n Q :=
  fun p l e R s m args below meth c H locs cells slots Qf G ls hC hD hn hl hr => va_alen hC.1 hC.2.1 hD.1 hD.2.1 q t (wl_get hK) (ht _) (v := nI N) rfl d (h p l e R s m args below meth c H locs cells slots Qf G ls hC hD hn hl hr)
theorem arr_put {cA : ClassId} {N i : Nat} {f g : Nat → Value} {v : Value} {H1 : Heap} {a : Nat} (e : H1[a]? = some ((arrV cA N f).setSlot i v)) (hg : ∀ j, g j = if j = i then v else f j) : H1[a]? = some (arrV cA N g) := by
  rw [e, arrV_store]
  congr 2
  funext j
  exact (hg j).symm
theorem aw_iastore {i x : Int32} {N : Nat} (hK : K[q]? = some (.inr (0, N))) (hi : vp_in i N) (d : decode M.2.1 pc = .ok (.iastore, 1)) (h : AW Sc M (pc + 1) lv st K (pI μ q i.toNatClampNeg x) n Q) : AW Sc M pc lv (.int x :: .int i :: .ref q :: st) K μ n Q := by
  intro p l e R s m args below meth c H locs cells slots Qf G ls hC hD hn hl hr
  refine W.iast hC.1 hC.2.1 (hD.2.1 q _ (wl_get hK)) ((hD.1.2 0 _ rfl).1 N (fun j => .int (μ.1 q j))) (fun q => by cases q) (by show ¬ (i < 0 ∨ (arrV _ _ _).slots.size ≤ _); rw [arrV_size]; exact hi) rfl rfl d fun H1 e1 z oq => ?_
  refine h p l e R s m args below meth c H1 _ cells slots Qf G ls hC (hD.put hK ?_ (fun _ hq => cell_pI μ _ x hq) z oq _) hn hl hr
  show H1[G.1 q]? = some (arrV (G.2.1 0) N (fun j => .int ((pI μ q i.toNatClampNeg x).1 q j)))
  exact arr_put (f := fun j => .int (μ.1 q j)) e1 (fun j => by simp only [pI, va_up, upd, if_true]; split <;> rfl)
theorem aw_castore {i x : Int32} {N : Nat} (hK : K[q]? = some (.inr (2, N))) (hi : vp_in i N) (hx : narrow .char (.int x) = .int x) (d : decode M.2.1 pc = .ok (.castore, 1)) (h : AW Sc M (pc + 1) lv st K (pI μ q i.toNatClampNeg x) n Q) : AW Sc M pc lv (.int x :: .int i :: .ref q :: st) K μ n Q := by
  intro p l e R s m args below meth c H locs cells slots Qf G ls hC hD hn hl hr
  refine W.cast hC.1 hC.2.1 (hD.2.1 q _ (wl_get hK)) ((hD.1.2 2 _ rfl).1 N (fun j => .int (μ.1 q j))) (fun q => by cases q) (by show ¬ (i < 0 ∨ (arrV _ _ _).slots.size ≤ _); rw [arrV_size]; exact hi) rfl rfl d fun H1 e1 z oq => ?_
  refine h p l e R s m args below meth c H1 _ cells slots Qf G ls hC (hD.put hK ?_ (fun _ hq => cell_pI μ _ x hq) z oq _) hn hl hr
  rw [hx] at e1
  show H1[G.1 q]? = some (arrV (G.2.1 2) N (fun j => .int ((pI μ q i.toNatClampNeg x).1 q j)))
  exact arr_put (f := fun j => .int (μ.1 q j)) e1 (fun j => by simp only [pI, va_up, upd, if_true]; split <;> rfl)
theorem aw_lastore {i : Int32} {x : Int64} {N : Nat} (hK : K[q]? = some (.inr (1, N))) (hi : vp_in i N) (d : decode M.2.1 pc = .ok (.lastore, 1)) (h : AW Sc M (pc + 1) lv st K (pJ μ q i.toNatClampNeg x) n Q) : AW Sc M pc lv (.long x :: .int i :: .ref q :: st) K μ n Q := by
  intro p l e R s m args below meth c H locs cells slots Qf G ls hC hD hn hl hr
  refine W.last hC.1 hC.2.1 (hD.2.1 q _ (wl_get hK)) ((hD.1.2 1 _ rfl).1 N (fun j => .long (μ.2.1 q j))) (fun q => by cases q) (by show ¬ (i < 0 ∨ (arrV _ _ _).slots.size ≤ _); rw [arrV_size]; exact hi) rfl rfl d fun H1 e1 z oq => ?_
  refine h p l e R s m args below meth c H1 _ cells slots Qf G ls hC (hD.put hK ?_ (fun _ hq => cell_pJ μ _ x hq) z oq _) hn hl hr
  show H1[G.1 q]? = some (arrV (G.2.1 1) N (fun j => .long ((pJ μ q i.toNatClampNeg x).2.1 q j)))
  exact arr_put (f := fun j => .long (μ.2.1 q j)) e1 (fun j => by simp only [pJ, va_up, vp_updL, if_true]; split <;> rfl)
theorem aw_aastore {i : Int32} {N t r cr : Nat} {C C' : String} (hK : K[q]? = some (.inr (t + 3, N))) (ht : ∀ dA, (tyl dA)[t + 3]? = some (dA (t + 3), .object C)) (hi : vp_in i N) (hKr : K[r]? = some (.inl cr)) (hcr : (cls13[cr]?).map (fun r => r.1) = some C') (hca : C' = C ∨ (C = "EndlessTug$Man" ∧ C' ∈ castL)) (d : decode M.2.1 pc = .ok (.aastore, 1))
    (h : AW Sc M (pc + 1) lv st K (pR μ q i.toNatClampNeg (some r)) n Q) : AW Sc M pc lv (.ref r :: .int i :: .ref q :: st) K μ n Q := by
  intro p l e R s m args below meth c H locs cells slots Qf G ls hC hD hn hl hr
  have hlt : i.toNatClampNeg < N := Nat.not_le.mp fun q => hi (Or.inr q)
  have h0 : ¬ i < 0 := fun q => hi (Or.inl q)
  cases hc : cls13[cr]? with
  | none => rw [hc] at hcr; cases hcr
  | some rc =>
    rw [hc] at hcr
    cases hcr
    obtain ⟨r', hr', cellV, g1, g2, g3, -⟩ := hD.2.1 r _ (wl_get hKr)
    have hcls := (hD.1.1 cr rc hc).2
    obtain ⟨kA, comp, k1, k2, k3, -⟩ := (hD.1.2 (t + 3) _ (ht _)).2
    obtain ⟨kE, hkE, -⟩ := Vm.findClass_spec k3
    have hasg : s.vm.assignable (G.2.2.1.1 cr) comp = true := by
      rcases hca with hca | ⟨rfl, hca⟩
      · have e1 : s.vm.findClass rc.1 = some comp := by rw [show rc.1 = C from hca]; exact k3
        cases hcls.1.symm.trans e1
        exact va_assign hcls
      · obtain ⟨c0, t1, f1, f2, f3⟩ := Cond.castable_spec (va_Nw.use (A := args) rfl (hD.2.2.2.2.2.2.2.2.2.2.2.2.2.1 _ hca))
        cases hcls.1.symm.trans f1
        cases k3.symm.trans f2
        exact f3
    obtain ⟨kC, hkC, -⟩ := hcls.2
    refine W.aast hC.1 hC.2.1 (hD.2.1 q _ (wl_get hK)) (fun q h => by cases h) (fun h => by cases h) k1 k2 rfl hkE ⟨h0, by show _ < (arrV _ _ _).slots.size; rw [arrV_size]; exact hlt⟩ g1 (fun q h => by rw [g3] at h; cases h) (by rw [g2]; exact hkC) (by rw [g2]; exact hasg) rfl rfl d fun H1 e1 z oq => ?_
    refine h p l e R s m args below meth c H1 _ cells slots Qf G ls hC (hD.put hK ?_ (fun _ hq => cell_pR μ _ (some r) hq) z oq _) hn hl hr
    show H1[G.1 q]? = some (arrV (G.2.1 (t + 3)) N (fun j => va_rf (((pR μ q i.toNatClampNeg (some r)).2.2 q j).map G.1)))
    exact arr_put (f := fun j => va_rf ((μ.2.2 q j).map G.1)) e1 (fun j => by simp only [pR, va_up, if_true]; split <;> rfl)
/-! new cells -/
theorem Dy.push {G : GT} {s : State} {H H1 : Heap} {locs : List Loc} {k0 : kd} {μ' : Mem} (hD : Dy Sc G s H locs K μ) (hl : K.length < 400) (he : va_at G.2.2.1 cls13 (H.size, cellE G k0 μ' K.length) H1) (ho : ∀ q', q' ≠ K.length → ∀ k, cellE G k μ' q' = cellE G k μ q') (z : H1.size = H.size + 1) (oq : ∀ a, a < H.size → H1[a]? = H[a]?) : Dy Sc G s H1 locs (K ++ [k0]) μ' := by
  obtain ⟨d1, d2, dS, d3, d4, d5, d6, d7⟩ := hD
  refine ⟨d1, ?_, ⟨Nat.le_trans dS.1 (by omega), fun x h1 h2 => (oq x (Nat.lt_of_lt_of_le h1 dS.1)).trans (dS.2.1 x h1 h2), dS.2.2⟩, by rw [z, d3, List.length_append, List.length_singleton]; omega, d4, by rw [List.length_append, List.length_singleton]; omega, d6, d7⟩
  rw [wl_push ho]
  refine (d2.kept (fun k x hx => oq x.1 ((d2 k x hx).lt))).app (fun k x hx => ?_)
  have hz : k < 1 := (List.getElem?_eq_some_iff.mp hx).1
  rw [show k = 0 by omega] at hx
  cases hx
  rw [d6 _ hl, ← d3]
  exact he
def NWk (own : String) (idx ci : Nat) : Prop := ∃ (C : String) (T : u_T) (N : Nat), cls13[ci]? = some (C, T, N) ∧ nF ci = N ∧ (∀ w ∈ ([.classLink own idx C, .instantiable C N, .initialized C] : List Cond), w ∈ ws0) ∧ (∀ w ∈ u_ws C T N, w ∈ ws0) ∧ (∀ k, k < N → parseFieldDescriptor (T k).2.2.1 = some (tyF ci k)) ∧ (∀ k, k < N → ∀ ad p, defaultValue (tyF ci k) = fv ad (ftc (tyF ci k)) (p0 (fun _ _ => 0, fun _ _ => 0, fun _ _ => none) p) p k)
theorem fv_p0 (ad : Nat → Nat) (t : Nat) (μ μ' : Mem) (p k : Nat) : fv ad t (p0 μ p) p k = fv ad t (p0 μ' p) p k := by
  simp [fv, p0, va_up]
theorem aw_new (hk : NWk M.1.cls idx ci) (hl : K.length < 400) (hn1 : 1 ≤ n.1 ∧ nF ci ≤ n.2) (d : decode M.2.1 pc = .ok (.new idx, 3)) (h : AW Sc M (pc + 3) lv (.ref K.length :: st) (K ++ [.inl ci]) (p0 μ K.length) (n.1 - 1, n.2 - nF ci) Q) : AW Sc M pc lv st K μ n Q := by
  intro p l e R s m args below meth c H locs cells slots Qf G ls hC hD hn hl' hr
  obtain ⟨C, T, N, hc, hN, hw, hin, hty, hdf⟩ := hk
  have hKn := hD.1.1 ci _ hc
  have hts := hC.2.2.2.2.1
  refine W.newcK (C := C) (n := N) hC.1 hC.2.1 hC.2.2.2.1 (hts _ (hw _ (by simp))) (hts _ (hw _ (by simp))) (hts _ (hw _ (by simp))) rfl d (by omega) (by omega) hKn.2.1 rfl fun H1 kC hkC e1 z1 o1 => ?_
  have hD1 : Dy Sc G s H1 locs (K ++ [.inl ci]) (p0 μ K.length) := by
    refine hD.push hl ?_ (fun _ hq => cell_p0 μ hq) z1 o1
    refine ⟨_, hc, (u_born (tyF ci) hts hin hKn hkC e1 hty).to (fun j hj => ?_)⟩
    show _ = vp_V (fls G.1 ci (p0 μ K.length) K.length) j
    rw [vp_V, List.getD_eq_getElem?_getD, fls_get (by rw [hN]; exact hj), hdf j hj G.1 K.length]
    exact fv_p0 _ _ _ _ _ _
  have ha : H.size = G.1 K.length := by rw [hD.2.2.2.2.2.2.1 _ hl, hD.2.2.2.1]
  show W p l e R s m args below meth c H1 locs (cells + 1) (slots + N) Qf (F0 m (pc + 3) ls (.ref H.size :: st.map (cv G.1)))
  rw [ha]
  exact h p l e R s m args below meth c H1 locs _ _ Qf G ls hC hD1 ⟨by show cells + 1 + (n.1 - 1) ≤ _; omega, by show slots + N + (n.2 - nF ci) ≤ _; omega⟩ hl' hr
theorem arrV_ext {cA : ClassId} {N : Nat} {f g : Nat → Value} (h : ∀ j, f j = g j) : arrV cA N f = arrV cA N g := by
  rw [show f = g from funext h]
theorem aw_newarr {atype : ArrayType} {t N : Nat} {x : Int32} (hw : Cond.arrayClass (newarray.typeOf atype) ∈ ws0) (ht : ∀ dA, (tyl dA)[t]? = some (dA t, newarray.typeOf atype)) (hra : ∀ U cA, va_RA U cA (newarray.typeOf atype) → U.vm.findClass ("[" ++ (newarray.typeOf atype).toString) = some cA) (hdv : ∀ (G : GT) cA p j, defaultValue (newarray.typeOf atype) = (match arrC G.1 t (p0 (fun _ _ => 0, fun _ _ => 0, fun _ _ => none) p) p with | .inl f => Value.int (f j) | .inr (.inl f) => .long (f j) | _ => .null) ∧ ∀ μ, vp_cell cA (N, arrC G.1 t (p0 μ p) p) = arrV cA N (fun _ => defaultValue (newarray.typeOf atype)))
    (hx : x = nI N) (hN : N < 1000) (hl : K.length < 400) (hn1 : 1 ≤ n.1 ∧ N ≤ n.2) (hby : N * componentBytes (newarray.typeOf atype) ≤ 536870912) (d : decode M.2.1 pc = .ok (.newarray atype, 2)) (h : AW Sc M (pc + 2) lv (.ref K.length :: st) (K ++ [.inr (t, N)]) (p0 μ K.length) (n.1 - 1, n.2 - N) Q) : AW Sc M pc lv (.int x :: st) K μ n Q := by
  intro p l e R s m args below meth c H locs cells slots Qf G ls hC hD hn hl' hr
  have hts := hC.2.2.2.2.1
  subst hx
  refine va_newaK hC.1 hC.2.1 (hts _ hw) rfl d rfl (nI_pos (by omega)) (nI_clamp (by omega)) hby (by omega) (by omega) rfl fun H1 cA e1 z1 o1 hAr hNm => ?_
  have hcA : cA = G.2.1 t := by
    have h9 := hra s _ (hD.1.2 t _ (ht _)).2
    rw [hNm] at h9
    exact Option.some.inj h9
  have hD1 : Dy Sc G s H1 locs (K ++ [.inr (t, N)]) (p0 μ K.length) := by
    refine hD.push hl ?_ (fun _ hq => cell_p0 μ hq) z1 o1
    show H1[H.size]? = some (vp_cell (G.2.1 t) (N, arrC G.1 t (p0 μ K.length) K.length))
    rw [(hdv G (G.2.1 t) K.length 0).2 μ, ← hcA]
    exact e1
  have ha : H.size = G.1 K.length := by rw [hD.2.2.2.2.2.2.1 _ hl, hD.2.2.2.1]
  show W p l e R s m args below meth c H1 locs (cells + 1) (slots + N) Qf (F0 m (pc + 2) ls (.ref H.size :: st.map (cv G.1)))
  rw [ha]
  exact h p l e R s m args below meth c H1 locs _ _ Qf G ls hC hD1 ⟨by show cells + 1 + (n.1 - 1) ≤ _; omega, by show slots + N + (n.2 - N) ≤ _; omega⟩ hl' hr
theorem aw_newI {N : Nat} {x : Int32} (hw : Cond.arrayClass .int ∈ ws0) (hx : x = nI N) (hN : N < 1000) (hl : K.length < 400) (hn1 : 1 ≤ n.1 ∧ N ≤ n.2) (d : decode M.2.1 pc = .ok (.newarray .int, 2)) (h : AW Sc M (pc + 2) lv (.ref K.length :: st) (K ++ [.inr (0, N)]) (p0 μ K.length) (n.1 - 1, n.2 - N) Q) : AW Sc M pc lv (.int x :: st) K μ n Q :=
  aw_newarr (atype := .int) (t := 0) hw (fun _ => rfl) (fun _ _ h => h) (fun G cA p j => ⟨by simp [arrC, p0, va_up]; rfl, fun μ => by simp [vp_cell, arrC, p0, va_up]; rfl⟩) hx hN hl hn1 (by show N * 4 ≤ _; omega) d h
theorem aw_newJ {N : Nat} {x : Int32} (hw : Cond.arrayClass .long ∈ ws0) (hx : x = nI N) (hN : N < 1000) (hl : K.length < 400) (hn1 : 1 ≤ n.1 ∧ N ≤ n.2) (d : decode M.2.1 pc = .ok (.newarray .long, 2)) (h : AW Sc M (pc + 2) lv (.ref K.length :: st) (K ++ [.inr (1, N)]) (p0 μ K.length) (n.1 - 1, n.2 - N) Q) : AW Sc M pc lv (.int x :: st) K μ n Q :=
  aw_newarr (atype := .long) (t := 1) hw (fun _ => rfl) (fun _ _ h => h) (fun G cA p j => ⟨by simp [arrC, p0, va_up]; rfl, fun μ => by simp [vp_cell, arrC, p0, va_up]; rfl⟩) hx hN hl hn1 (by show N * 8 ≤ _; omega) d h
theorem aw_newC {N : Nat} {x : Int32} (hw : Cond.arrayClass .char ∈ ws0) (hx : x = nI N) (hN : N < 1000) (hl : K.length < 400) (hn1 : 1 ≤ n.1 ∧ N ≤ n.2) (d : decode M.2.1 pc = .ok (.newarray .char, 2)) (h : AW Sc M (pc + 2) lv (.ref K.length :: st) (K ++ [.inr (2, N)]) (p0 μ K.length) (n.1 - 1, n.2 - N) Q) : AW Sc M pc lv (.int x :: st) K μ n Q :=
  aw_newarr (atype := .char) (t := 2) hw (fun _ => rfl) (fun _ _ h => h) (fun G cA p j => ⟨by simp [arrC, p0, va_up]; rfl, fun μ => by simp [vp_cell, arrC, p0, va_up]; rfl⟩) hx hN hl hn1 (by show N * 2 ≤ _; omega) d h
theorem aw_newQ {N t : Nat} {x : Int32} {C : String} (hw : Cond.classLink M.1.cls idx C ∈ ws0) (hC0 : C ∈ overL) (ht : ∀ dA, (tyl dA)[t + 3]? = some (dA (t + 3), .object C)) (hx : x = nI N) (hN : N < 1000) (hl : K.length < 400) (hn1 : 1 ≤ n.1 ∧ N ≤ n.2) (d : decode M.2.1 pc = .ok (.anewarray idx, 3)) (h : AW Sc M (pc + 3) lv (.ref K.length :: st) (K ++ [.inr (t + 3, N)]) (p0 μ K.length) (n.1 - 1, n.2 - N) Q) : AW Sc M pc lv (.int x :: st) K μ n Q := by
  intro p l e R s m args below meth c H locs cells slots Qf G ls hC hD hn hl' hr
  have hts := hC.2.2.2.2.1
  subst hx
  have hcl : (nI N).toNatClampNeg = N := nI_clamp (by omega)
  refine W.anew hC.1 hC.2.1 hC.2.2.2.1 (hts _ hw) (va_AO.use (hD.2.2.2.2.2.2.2.2.2.2.2.2.2.2 _ hC0)) rfl d rfl (nI_pos (by omega)) (by rw [hcl]; omega) (by omega) (by rw [hcl]; omega) fun cA kA comp f1 f2 f3 f4 => ?_
  rw [hcl]
  generalize hH1 : H.push ({ cls := cA, slots := Array.replicate N .null, vm := .none } : Cell) = H1
  have z1 : H1.size = H.size + 1 := by rw [← hH1, Array.size_push]
  have e1 : H1[H.size]? = some (arrV cA N (fun _ => .null)) := by rw [← hH1, Array.getElem?_push_size, ← arrV_new]
  have o1 : ∀ q : Nat, q < H.size → H1[q]? = H[q]? := fun q hq => by rw [← hH1, Array.getElem?_push, if_neg (Nat.ne_of_lt hq)]
  have hcA : cA = G.2.1 (t + 3) := by
    obtain ⟨kA2, comp2, -, -, -, h9⟩ := (hD.1.2 (t + 3) _ (ht _)).2
    rw [f1] at h9
    exact Option.some.inj h9
  have hD1 : Dy Sc G s H1 locs (K ++ [.inr (t + 3, N)]) (p0 μ K.length) := by
    refine hD.push hl ?_ (fun _ hq => cell_p0 μ hq) z1 o1
    show H1[H.size]? = some (arrV (G.2.1 (t + 3)) N (fun j => va_rf (((p0 μ K.length).2.2 K.length j).map G.1)))
    rw [← hcA, e1]
    exact congrArg some (arrV_ext (fun j => by simp [p0, va_up, va_rf]))
  have ha : H.size = G.1 K.length := by rw [hD.2.2.2.2.2.2.1 _ hl, hD.2.2.2.1]
  show W p l e R s m args below meth c H1 locs (cells + 1) (slots + N) Qf (F0 m (pc + 3) ls (.ref H.size :: st.map (cv G.1)))
  rw [ha]
  exact h p l e R s m args below meth c H1 locs _ _ Qf G ls hC hD1 ⟨by show cells + 1 + (n.1 - 1) ≤ _; omega, by show slots + N + (n.2 - N) ≤ _; omega⟩ hl' hr
end AHeap
