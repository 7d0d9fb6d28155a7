/-! THE ABSTRACT MACHINE, 2: what stays (String constants, statics, the script), the state of the world, the judgement AW and the call AM -/
def sIdx : List Nat := [116, 118, 120, 122, 124, 126, 109, 114, 82, 95, 99, 43, 52, 54, 59]
def sTxt : List String := ["man", "son", "drinker", "woman", "preacher", "stranger", "pub", "chapel", "strong", "tired", "on", "harvest", "plain", "knot", "slack"]
def sLen : List Nat := [3, 3, 7, 5, 8, 8, 3, 6, 6, 5, 2, 7, 5, 4, 5]
def sByt : List (List Int32) := [[109, 97, 110], [115, 111, 110], [100, 114, 105, 110, 107, 101, 114], [119, 111, 109, 97, 110], [112, 114, 101, 97, 99, 104, 101, 114], [115, 116, 114, 97, 110, 103, 101, 114], [112, 117, 98], [99, 104, 97, 112, 101, 108], [115, 116, 114, 111, 110, 103], [116, 105, 114, 101, 100], [111, 110], [104, 97, 114, 118, 101, 115, 116], [112, 108, 97, 105, 110], [107, 110, 111, 116], [115, 108, 97, 99, 107]]
abbrev bA (G : GT) : Nat → Prop := fun q => G.2.2.2 ≤ q
def nestL : List (String × Nat × MethodName) := [("EndlessTug", 24, ⟨"EndlessTug$Best", "<init>", "()V"⟩), ("EndlessTug", 31, ⟨"EndlessTug$Tape", "<init>", "()V"⟩), ("EndlessTug", 46, ⟨"EndlessTug$Sheet", "<init>", "()V"⟩), ("EndlessTug$Green", 68, ⟨"EndlessTug", "isKind", "(I)Z"⟩)]
def castL : List String := ["EndlessTug$Son", "EndlessTug$Drinker", "EndlessTug$Woman", "EndlessTug$Preacher", "EndlessTug$Stranger"]
def overL : List String := ["EndlessTug$Man", "EndlessTug$Person", "EndlessTug$Sheet"]
/-- what the rest of the world holds, and nobody changes -/
def Ro (Sc : SCR) (G : GT) (s : State) : Prop :=
  (∀ i, i < 15 → vk_R "EndlessTug$Tape" (sIdx.getD i 0) (sTxt.getD i "") (G.1 (400 + i)) s) ∧
  vk_S 15 sLen sByt (fun i => G.1 (400 + i)) (fun i => G.1 (450 + i)) (bA G) s s.heap ∧
  va_Z "java/lang/String" "COMPACT_STRINGS" "Z" (.int 1) (bA G) s s.heap ∧
  (va_Z "jdk/internal/util/Preconditions" "SIOOBE_FORMATTER" "Ljava/util/function/BiFunction;" .null (bA G) s s.heap ∨ va_Z "jdk/internal/util/Preconditions" "SIOOBE_FORMATTER" "Ljava/util/function/BiFunction;" (.ref (G.1 499)) (bA G) s s.heap) ∧
  (va_X (G.1 999) Sc.1 Sc.2 s s.heap ∧ G.1 999 < G.2.2.2 ∧ G.1 999 < s.heap.size) ∧
  (∀ q ∈ nestL, va_Nw (.methodLinkNest q.1 q.2.1 q.2.2 "EndlessTug") s) ∧
  (∀ C ∈ castL, va_Nw (.castable C "EndlessTug$Man") s) ∧ (∀ C ∈ overL, va_AO C s)
theorem Ro.warm {Sc : SCR} {G : GT} {s U : State} (h : Ro Sc G s) (hW : s.WarmedH U.vm) (hz : s.heap.size ≤ U.heap.size) (hk : ∀ q : Nat, q < s.heap.size → ¬ bA G q → U.heap[q]? = s.heap[q]?) : Ro Sc G U := by
  obtain ⟨h1, h2, h3, h4, ⟨h5, h5b, h5c⟩, h6, h7, h8⟩ := h
  refine ⟨fun i hi => (h1 i hi).warm hW, (h2.moved hW.alike).kept hk, (h3.moved hW.alike).kept hk, ?_, ⟨(h5.moved hW.alike).kept (hk _ h5c (Nat.not_le.mpr h5b)), h5b, Nat.lt_of_lt_of_le h5c hz⟩, fun q hq => (h6 q hq).warmM hW, fun C hC => (h7 C hC).warmC hW, fun C hC => (h8 C hC).moved hW.alike⟩
  rcases h4 with h4 | h4
  · exact Or.inl ((h4.moved hW.alike).kept hk)
  · exact Or.inr ((h4.moved hW.alike).kept hk)
/-- the world at a state: the places K with contents μ -/
def St (Sc : SCR) (G : GT) (U : State) (K : List kd) (μ : Mem) : Prop :=
  va_K G.2.2.1 cls13 (tyl G.2.1) U ∧ va_P G.2.2.1 cls13 (wl G K μ) U.heap ∧ U.heap.size = G.2.2.2 + K.length ∧ K.length ≤ 400 ∧ (∀ i, i < 400 → G.1 i = G.2.2.2 + i) ∧ Ro Sc G U
/-- the world inside a method that began at s, now with the heap H -/
def Dy (Sc : SCR) (G : GT) (s : State) (H : Heap) (locs : List Loc) (K : List kd) (μ : Mem) : Prop :=
  va_K G.2.2.1 cls13 (tyl G.2.1) s ∧ va_P G.2.2.1 cls13 (wl G K μ) H ∧ va_S (bA G) s.heap H locs ∧ H.size = G.2.2.2 + K.length ∧ G.2.2.2 ≤ s.heap.size ∧ K.length ≤ 400 ∧ (∀ i, i < 400 → G.1 i = G.2.2.2 + i) ∧ Ro Sc G s
theorem wl_apart {G : GT} {K : List kd} (μ : Mem) (hK : K.length ≤ 400) (ha : ∀ i, i < 400 → G.1 i = G.2.2.2 + i) : va_D (bA G) (wl G K μ) := by
  refine ⟨fun i j p q hp hq e => ?_, fun k q hq => ?_⟩
  · obtain ⟨h1, rfl⟩ := wl_at hp
    obtain ⟨h2, rfl⟩ := wl_at hq
    have e : G.1 i = G.1 j := e
    rw [ha i (by omega), ha j (by omega)] at e
    omega
  · obtain ⟨h1, rfl⟩ := wl_at hq
    show G.2.2.2 ≤ G.1 k
    rw [ha k (by omega)]
    omega
theorem Dy.D {Sc : SCR} {G : GT} {s : State} {H : Heap} {locs : List Loc} {K : List kd} {μ : Mem} (h : Dy Sc G s H locs K μ) : va_D (bA G) (wl G K μ) := wl_apart μ h.2.2.2.2.2.1 h.2.2.2.2.2.2.1
theorem Dy.A {Sc : SCR} {G : GT} {s : State} {H : Heap} {locs : List Loc} {K : List kd} {μ : Mem} (h : Dy Sc G s H locs K μ) : ∀ q, s.heap.size ≤ q → bA G q := fun _ hq => Nat.le_trans h.2.2.2.2.1 hq
/-- the fixed facts of a frame of method M -/
def Cx (M : MD) (p : Program) (R : Room) (s : State) (m : MethodId) (args : Array Value) (meth : Method) (c : Code) : Prop :=
  p.tables.exec = Jvm.exec ∧ c.code = M.2.1 ∧ c.maxLocals = M.2.2.1 ∧ s.vm.findClass M.1.cls = some m.cls ∧ (∀ w ∈ ws0, w.before args s = true) ∧ meth.sig.returnType = M.2.2.2.1 ∧ meth.locks = false ∧ meth.name = M.1.name ∧ M.2.2.2.2.1 ≤ R.frames ∧ M.2.2.2.2.2 ≤ R.locals
/-- a return of v may stand at pc -/
def RetAt (M : MD) (pc : Nat) (v : Option Value) : Prop := match v with
  | none => decode M.2.1 pc = .ok (.return_, 1) ∧ M.2.2.2.1 = none
  | some (.int x) => decode M.2.1 pc = .ok (.ireturn, 1) ∧ ∃ ty, M.2.2.2.1 = some ty ∧ narrow ty (.int x) = .int x
  | some (.long _) => decode M.2.1 pc = .ok (.lreturn, 1) ∧ M.2.2.2.1 = some .long
  | _ => False
def pushr (v : Option Value) (st : List Value) : List Value := match v with
  | some v => v :: st
  | none => st
abbrev PQ : Type := Option Value → List kd → Mem → Prop
/-- THE JUDGEMENT: method M at pc, with locals lv and stack st over the world K, μ, n cells and slots left to make, comes to a return that satisfies Q -/
def AW (Sc : SCR) (M : MD) (pc : Nat) (lv : List (Nat × Value)) (st : List Value) (K : List kd) (μ : Mem) (n : Nat × Nat) (Q : PQ) : Prop :=
  ∀ (p : Program) (l : Launch) (e : Env) (R : Room) (s : State) (m : MethodId) (args : Array Value) (below : List Frame) (meth : Method) (c : Code) (H : Heap) (locs : List Loc) (cells slots : Nat) (Qf : State → Prop) (G : GT) (ls : Array Slot),
    Cx M p R s m args meth c → Dy Sc G s H locs K μ → cells + n.1 ≤ R.cells ∧ slots + n.2 ≤ R.slots → lv_has ls M.2.2.1 (lv.map fun q => (q.1, cv G.1 q.2)) →
    (∀ (v : Option Value) (pc' : Nat) (ls' : Array Slot) (H' : Heap) (locs' : List Loc) (cells' slots' : Nat) (K' : List kd) (μ' : Mem), RetAt M pc' v → Q v K' μ' → Dy Sc G s H' locs' K' μ' → cells' ≤ R.cells ∧ slots' ≤ R.slots →
      W p l e R s m args below meth c H' locs' cells' slots' Qf (F0 m pc' ls' (pushr (v.map (cv G.1)) []))) →
    W p l e R s m args below meth c H locs cells slots Qf (F0 m pc ls (st.map (cv G.1)))
def PcOf (Sc : SCR) (G : GT) (av : List Value) (K : List kd) (μ : Mem) : Array Value → State → Prop := va_Pc (av.map (cv G.1)) (fun U => St Sc G U K μ)
def QcOf (G : GT) (Q : PQ) : Array Value → State → Outcome → State → Prop := fun _ st oc t => (∃ (v : Option Value) (K' : List kd) (μ' : Mem), oc = .returned (v.map (cv G.1)) ∧ Q v K' μ' ∧ va_P G.2.2.1 cls13 (wl G K' μ') t.heap ∧ t.heap.size = G.2.2.2 + K'.length ∧ K'.length ≤ 400) ∧ va_F (bA G) st t
def rmOf (M : MD) (n : Nat × Nat) : Room := { frames := M.2.2.2.2.1, cells := n.1, slots := n.2, locals := M.2.2.2.2.2 }
/-- THE CALL: method M with the arguments av -/
def AM (Sc : SCR) (M : MD) (av : List Value) (K : List kd) (μ : Mem) (n : Nat × Nat) (Q : PQ) : Prop := ∀ (l : Launch) (G : GT), Met l M.1 (wsM M) (rmOf M n) (PcOf Sc G av K μ) (QcOf G Q) n.1 n.2 (bA G)
theorem AW.mono {Sc : SCR} {M : MD} {pc : Nat} {lv : List (Nat × Value)} {st : List Value} {K : List kd} {μ : Mem} {n : Nat × Nat} {Q Q' : PQ} (h : AW Sc M pc lv st K μ n Q) (hq : ∀ v K μ, Q v K μ → Q' v K μ) : AW Sc M pc lv st K μ n Q' :=
  fun p l e R s m args below meth c H locs cells slots Qf G ls hC hD hn hl hr => h p l e R s m args below meth c H locs cells slots Qf G ls hC hD hn hl (fun v pc' ls' H' locs' c' s' K' μ' h1 h2 h3 h4 => hr v pc' ls' H' locs' c' s' K' μ' h1 (hq _ _ _ h2) h3 h4)
theorem lg_cat (ad : Nat → Nat) (v : Value) : (cv ad v).category = v.category := by cases v <;> rfl
theorem lv_args_cv (ad : Nat → Nat) : ∀ (vs : List Value) (i : Nat), lv_args i (vs.map (cv ad)) = (lv_args i vs).map fun q => (q.1, cv ad q.2)
  | [], _ => rfl
  | v :: vs, i => by
    simp only [List.map_cons, lv_args, lg_cat, lv_args_cv ad vs]
theorem FrameBlind_Pc (Sc : SCR) (G : GT) (av : List Value) (K : List kd) (μ : Mem) : FrameBlind (PcOf Sc G av K μ) := by
  intro a U g mk h
  obtain ⟨h1, h2, h3, h4, h5, h6, r1, r2, r3, r4, ⟨r5, r5b⟩, r6, r7, r8⟩ := h
  have hvm : (U.calling g mk a).vm = U.vm := rfl
  have hal : U.vm.Alike (U.calling g mk a).vm := Vm.Alike.refl U.vm
  refine ⟨h1, h2.moved (U := U.calling g mk a) hal, h3, h4, h5, h6, fun i hi => (r1 i hi).same hvm, r2.moved hal, r3.moved hal, ?_, ⟨r5.moved hal, r5b⟩, fun q hq => va_Nw.same rfl hvm.symm (r6 q hq), fun C hC => va_Nw.same rfl hvm.symm (r7 C hC), fun C hC => (r8 C hC).moved hal⟩
  rcases r4 with r4 | r4
  · exact Or.inl (r4.moved hal)
  · exact Or.inr (r4.moved hal)
