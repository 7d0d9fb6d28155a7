/-! THE ABSTRACT MACHINE, 1: memory, pictures, the judgement.
A method is an MD (name, bytes, locals, return type, frames and words of room below it). References are places 0, 1, .. in the order of making
(the address of place i is base + i); places 400 .. are the String constants, 450 .. their bytes, 499 a static of the JDK's, 999 the script. -/
theorem mem_filter0 {l : List Cond} {w : Cond} (h : w ∈ l) (g : goodWord w = true) : w ∈ l.filter goodWord := List.mem_filter.mpr ⟨h, g⟩
def ws0 : List Cond := lw_tbl.filter goodWord
theorem ws0_mem {w : Cond} (h : w ∈ lw_tbl) (g : goodWord w = true) : w ∈ ws0 := mem_filter0 h g
theorem ws0_in {w : Cond} (h : w ∈ ws0) : w ∈ lw_tbl := (List.mem_filter.mp h).1
theorem ws0_good {w : Cond} (h : w ∈ ws0) : goodWord w = true := (List.mem_filter.mp h).2
def cdW (M : MD) : Cond := .code M.1 M.2.1 M.2.2.1 M.2.2.2.1
def wsM (M : MD) : List Cond := cdW M :: ws0
theorem goodIn0 {M : MD} (h : cdW M ∈ ws0) : GoodIn ws0 (wsM M) := by
  intro w hw
  rcases List.mem_cons.mp hw with rfl | hw
  · exact ⟨h, good_of_word (ws0_good h)⟩
  · exact ⟨hw, good_of_word (ws0_good hw)⟩
abbrev kd : Type := Nat ⊕ (Nat × Nat)
abbrev Mem : Type := (Nat → Nat → Int32) × (Nat → Nat → Int64) × (Nat → Nat → Option Nat)
/-- addresses of places, array classes, object classes, base -/
abbrev GT : Type := (Nat → Nat) × (Nat → ClassId) × va_G × Nat
/-- the script: its length and ints -/
abbrev SCR : Type := Nat × (Nat → Int32)
abbrev cls13 : List vw_C := [(RX0, TX0, 3), (RX1, TX1, 1), (RX2, TX2, 7), (RX3, TX3, 1), (RX4, TX4, 5), (RX5, TX5, 1), (RX6, TX6, 3), (RX7, TX7, 1), (RX8, TX8, 1), (RX9, TX9, 6), (RX10, TX10, 1), (RX11, TX11, 8), (RX12, TX12, 19)]
def tyF (ci : Nat) : Nat → FieldType := match ci with
  | 0 => tyX0 | 1 => tyX1 | 2 => tyX2 | 3 => tyX3 | 4 => tyX4 | 5 => tyX5 | 6 => tyX6 | 7 => tyX7 | 8 => tyX8 | 9 => tyX9 | 10 => tyX10 | 11 => tyX11 | _ => tyX12
def nF (ci : Nat) : Nat := match ci with
  | 0 => 3 | 1 => 1 | 2 => 7 | 3 => 1 | 4 => 5 | 5 => 1 | 6 => 3 | 7 => 1 | 8 => 1 | 9 => 6 | 10 => 1 | 11 => 8 | _ => 19
/-- 0: held as an int, 1: as a long, 2: a reference -/
def ftc (t : FieldType) : Nat := match t with
  | .long => 1 | .object _ => 2 | .array _ => 2 | _ => 0
def tyl (dA : Nat → ClassId) : List (ClassId × FieldType) := [(dA 0, .int), (dA 1, .long), (dA 2, .char), (dA 3, .object "EndlessTug$Man"), (dA 4, .object "EndlessTug$Person"), (dA 5, .object "EndlessTug$Sheet")]
def cv (ad : Nat → Nat) (v : Value) : Value := match v with
  | .ref q => .ref (ad q)
  | v => v
def fv (ad : Nat → Nat) (t : Nat) (μ : Mem) (p k : Nat) : Value := match t with
  | 0 => .int (μ.1 p k)
  | 1 => .long (μ.2.1 p k)
  | _ => va_rf ((μ.2.2 p k).map ad)
def fls (ad : Nat → Nat) (ci : Nat) (μ : Mem) (p : Nat) : List Value := (List.range (nF ci)).map (fun k => fv ad (ftc (tyF ci k)) μ p k)
def arrC (ad : Nat → Nat) (t : Nat) (μ : Mem) (p : Nat) : (Nat → Int32) ⊕ (Nat → Int64) ⊕ (Nat → UInt32) ⊕ (Nat → UInt64) ⊕ (Nat → Option Nat) := match t with
  | 0 => .inl (μ.1 p)
  | 1 => .inr (.inl (μ.2.1 p))
  | 2 => .inl (μ.1 p)
  | _ => .inr (.inr (.inr (.inr (fun k => (μ.2.2 p k).map ad))))
def cellE (G : GT) (k : kd) (μ : Mem) (p : Nat) : va_E := match k with
  | .inl ci => .inr (ci, fls G.1 ci μ p)
  | .inr (t, n) => .inl (G.2.1 t, n, arrC G.1 t μ p)
def wl (G : GT) (K : List kd) (μ : Mem) : va_W := (List.range K.length).map (fun i => (G.1 i, cellE G (K.getD i (.inl 0)) μ i))
theorem wl_get {G : GT} {K : List kd} {μ : Mem} {p : Nat} {k : kd} (h : K[p]? = some k) : (wl G K μ)[p]? = some (G.1 p, cellE G k μ p) := by
  have hp : p < K.length := (List.getElem?_eq_some_iff.mp h).1
  have hg : K.getD p (.inl 0) = k := by rw [List.getD_eq_getElem?_getD, h]; rfl
  simp only [wl, List.getElem?_map, List.getElem?_range hp, Option.map_some, hg]
theorem wl_len (G : GT) (K : List kd) (μ : Mem) : (wl G K μ).length = K.length := by simp [wl]
theorem wl_at {G : GT} {K : List kd} {μ : Mem} {p : Nat} {q : Nat × va_E} (h : (wl G K μ)[p]? = some q) : p < K.length ∧ q = (G.1 p, cellE G (K.getD p (.inl 0)) μ p) := by
  have hp : p < K.length := by
    have := (List.getElem?_eq_some_iff.mp h).1
    rwa [wl_len] at this
  refine ⟨hp, ?_⟩
  rw [wl_get (List.getElem?_eq_getElem hp)] at h
  rw [List.getD_eq_getElem?_getD, List.getElem?_eq_getElem hp]
  exact (Option.some.inj h).symm
theorem wl_set {G : GT} {K : List kd} {μ μ' : Mem} {p : Nat} {k : kd} {e : va_E} (h : K[p]? = some k) (he : cellE G k μ' p = e) (ho : ∀ q, q ≠ p → ∀ k, cellE G k μ' q = cellE G k μ q) : (wl G K μ).set p (G.1 p, e) = wl G K μ' := by
  have hp : p < K.length := (List.getElem?_eq_some_iff.mp h).1
  have hg : K.getD p (.inl 0) = k := by rw [List.getD_eq_getElem?_getD, h]; rfl
  apply List.ext_getElem?
  intro i
  rw [List.getElem?_set]
  by_cases hi : p = i
  · subst hi
    rw [if_pos rfl, if_pos (by rw [wl_len]; exact hp), wl_get h, he]
  · rw [if_neg hi]
    simp only [wl, List.getElem?_map]
    by_cases hl : i < K.length
    · rw [List.getElem?_range hl]
      simp [ho i (fun z => hi z.symm)]
    · rw [List.getElem?_eq_none (by simpa using hl)]
      rfl
theorem wl_push {G : GT} {K : List kd} {μ μ' : Mem} {k : kd} (ho : ∀ q, q ≠ K.length → ∀ k, cellE G k μ' q = cellE G k μ q) : wl G (K ++ [k]) μ' = wl G K μ ++ [(G.1 K.length, cellE G k μ' K.length)] := by
  simp only [wl, List.length_append, List.length_singleton, List.range_succ, List.map_append, List.map_cons, List.map_nil]
  congr 1
  · apply List.map_congr_left
    intro i hi
    have hi := List.mem_range.mp hi
    rw [List.getD_eq_getElem?_getD, List.getElem?_append_left hi, ho i (Nat.ne_of_lt hi), List.getD_eq_getElem?_getD]
  · rw [List.getD_eq_getElem?_getD, List.getElem?_append_right (Nat.le_refl _)]
    simp
def pI (μ : Mem) (p k : Nat) (v : Int32) : Mem := (va_up μ.1 p (upd (μ.1 p) k v), μ.2)
def pJ (μ : Mem) (p k : Nat) (v : Int64) : Mem := (μ.1, va_up μ.2.1 p (vp_updL (μ.2.1 p) k v), μ.2.2)
def pR (μ : Mem) (p k : Nat) (v : Option Nat) : Mem := (μ.1, μ.2.1, va_up μ.2.2 p (va_up (μ.2.2 p) k v))
def pRow (μ : Mem) (p : Nat) (f : Nat → Int64) : Mem := (μ.1, va_up μ.2.1 p f, μ.2.2)
def p0 (μ : Mem) (p : Nat) : Mem := (va_up μ.1 p (fun _ => 0), va_up μ.2.1 p (fun _ => 0), va_up μ.2.2 p (fun _ => none))
theorem cell_row {G : GT} {μ μ' : Mem} {q : Nat} (h1 : μ'.1 q = μ.1 q) (h2 : μ'.2.1 q = μ.2.1 q) (h3 : μ'.2.2 q = μ.2.2 q) (k : kd) : cellE G k μ' q = cellE G k μ q := by
  cases k with
  | inl ci => simp only [cellE, fls, fv, h1, h2, h3]
  | inr a => simp only [cellE, arrC, h1, h2, h3]
theorem cell_pI {G : GT} (μ : Mem) {p q : Nat} (k : Nat) (v : Int32) (h : q ≠ p) (c : kd) : cellE G c (pI μ p k v) q = cellE G c μ q := cell_row (μ := μ) (μ' := (pI μ p k v)) (va_up_ne _ _ h) rfl rfl c
theorem cell_pJ {G : GT} (μ : Mem) {p q : Nat} (k : Nat) (v : Int64) (h : q ≠ p) (c : kd) : cellE G c (pJ μ p k v) q = cellE G c μ q := cell_row (μ := μ) (μ' := (pJ μ p k v)) rfl (va_up_ne _ _ h) rfl c
theorem cell_pR {G : GT} (μ : Mem) {p q : Nat} (k : Nat) (v : Option Nat) (h : q ≠ p) (c : kd) : cellE G c (pR μ p k v) q = cellE G c μ q := cell_row (μ := μ) (μ' := (pR μ p k v)) rfl rfl (va_up_ne _ _ h) c
theorem cell_pRow {G : GT} (μ : Mem) {p q : Nat} (f : Nat → Int64) (h : q ≠ p) (c : kd) : cellE G c (pRow μ p f) q = cellE G c μ q := cell_row (μ := μ) (μ' := (pRow μ p f)) rfl (va_up_ne _ _ h) rfl c
theorem cell_p0 {G : GT} (μ : Mem) {p q : Nat} (h : q ≠ p) (c : kd) : cellE G c (p0 μ p) q = cellE G c μ q := cell_row (μ := μ) (μ' := (p0 μ p)) (va_up_ne _ _ h) (va_up_ne _ _ h) (va_up_ne _ _ h) c
theorem fls_get {ad : Nat → Nat} {ci k : Nat} {μ : Mem} {p : Nat} (h : k < nF ci) : (fls ad ci μ p)[k]? = some (fv ad (ftc (tyF ci k)) μ p k) := by
  simp [fls, h]
theorem fls_len {ad : Nat → Nat} {ci : Nat} {μ : Mem} {p : Nat} : (fls ad ci μ p).length = nF ci := by simp [fls]
theorem fls_set {ad : Nat → Nat} {ci k : Nat} {μ μ' : Mem} {p : Nat} {v : Value} (hk : k < nF ci) (hv : fv ad (ftc (tyF ci k)) μ' p k = v) (ho : ∀ j, j ≠ k → fv ad (ftc (tyF ci j)) μ' p j = fv ad (ftc (tyF ci j)) μ p j) : (fls ad ci μ p).set k v = fls ad ci μ' p := by
  apply List.ext_getElem?
  intro i
  rw [List.getElem?_set]
  by_cases hi : k = i
  · subst hi
    rw [if_pos rfl, if_pos (by rw [fls_len]; exact hk), fls_get hk, hv]
  · rw [if_neg hi]
    simp only [fls, List.getElem?_map]
    by_cases hl : i < nF ci
    · rw [List.getElem?_range hl]
      simp [ho i (fun z => hi z.symm)]
    · rw [List.getElem?_eq_none (by simpa using hl)]
      rfl
theorem fls_pI {ad : Nat → Nat} {ci k : Nat} {μ : Mem} {p : Nat} {v : Int32} (hk : k < nF ci) (ht : ftc (tyF ci k) = 0) : (fls ad ci μ p).set k (.int v) = fls ad ci (pI μ p k v) p := by
  refine fls_set hk (by rw [ht]; simp [fv, pI, va_up, upd]) (fun j hj => ?_)
  simp [fv, pI, va_up, upd, hj]
theorem fls_pJ {ad : Nat → Nat} {ci k : Nat} {μ : Mem} {p : Nat} {v : Int64} (hk : k < nF ci) (ht : ftc (tyF ci k) = 1) : (fls ad ci μ p).set k (.long v) = fls ad ci (pJ μ p k v) p := by
  refine fls_set hk (by rw [ht]; simp [fv, pJ, va_up, vp_updL]) (fun j hj => ?_)
  simp [fv, pJ, va_up, vp_updL, hj]
theorem fls_pR {ad : Nat → Nat} {ci k : Nat} {μ : Mem} {p q : Nat} (hk : k < nF ci) (ht : ftc (tyF ci k) = 2) : (fls ad ci μ p).set k (.ref (ad q)) = fls ad ci (pR μ p k (some q)) p := by
  refine fls_set hk (by rw [ht]; simp [fv, pR, va_up, va_rf]) (fun j hj => ?_)
  simp [fv, pR, va_up, hj]
