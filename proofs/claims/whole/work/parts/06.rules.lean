/-! THE ABSTRACT MACHINE, 4: a rule an instruction (printed by wip/whole/gen_rules.py) -/
def lget (lv : List (Nat × Value)) (i : Nat) : Option Value := match lv with
  | [] => none
  | q :: t => if q.1 = i then some q.2 else lget t i
def lins (i : Nat) (v : Value) (lv : List (Nat × Value)) : List (Nat × Value) := match lv with
  | [] => [(i, v)]
  | q :: t => if q.1 < i then q :: lins i v t else (i, v) :: q :: t
def lset1 (lv : List (Nat × Value)) (i : Nat) (v : Value) : List (Nat × Value) := lins i v (lv.filter (fun q => !(q.1 == i) && !(q.1 + 1 == i && q.2.category == 2)))
def lset2 (lv : List (Nat × Value)) (i : Nat) (v : Value) : List (Nat × Value) := lins i v (lv.filter (fun q => !(q.1 == i) && (!(q.1 == i + 1) && !(q.1 + 1 == i && q.2.category == 2))))
theorem lget_mem : ∀ {lv : List (Nat × Value)} {i : Nat} {v : Value}, lget lv i = some v → (i, v) ∈ lv
  | [], _, _, h => by cases h
  | q :: t, i, v, h => by
    unfold lget at h
    split at h
    · next e => cases h; cases e; exact List.mem_cons_self
    · exact List.mem_cons_of_mem _ (lget_mem h)
theorem lins_mem : ∀ {lv : List (Nat × Value)} {i : Nat} {v : Value} {q : Nat × Value}, q ∈ lins i v lv → q = (i, v) ∨ q ∈ lv
  | [], _, _, _, h => Or.inl (List.mem_singleton.mp h)
  | w :: t, i, v, q, h => by
    unfold lins at h
    split at h
    · rcases List.mem_cons.mp h with rfl | h
      · exact Or.inr List.mem_cons_self
      · rcases lins_mem h with h | h
        · exact Or.inl h
        · exact Or.inr (List.mem_cons_of_mem _ h)
    · rcases List.mem_cons.mp h with rfl | h
      · exact Or.inl rfl
      · exact Or.inr h
theorem lv_ld {ls : Array Slot} {nL : Nat} {lv : List (Nat × Value)} {ad : Nat → Nat} {i : Nat} {v : Value} (h : lv_has ls nL (lv.map fun q => (q.1, cv ad q.2))) (hv : lget lv i = some v) : ls[i]? = some (.val (cv ad v)) := h.2.2 (i, cv ad v) (List.mem_map.mpr ⟨(i, v), lget_mem hv, rfl⟩)
theorem lv_st1 {ls : Array Slot} {nL : Nat} {lv : List (Nat × Value)} {ad : Nat → Nat} {i : Nat} {v : Value} (h : lv_has ls nL ((i, cv ad v) :: (lv.map fun q => (q.1, cv ad q.2)).filter (fun q => !(q.1 == i) && !(q.1 + 1 == i && q.2.category == 2)))) : lv_has ls nL ((lset1 lv i v).map fun q => (q.1, cv ad q.2)) := by
  refine ⟨h.1, h.2.1, fun q hq => ?_⟩
  obtain ⟨w, hw, rfl⟩ := List.mem_map.mp hq
  refine h.2.2 _ ?_
  rcases lins_mem hw with rfl | hw
  · exact List.mem_cons_self
  · obtain ⟨h1, h2⟩ := List.mem_filter.mp hw
    exact List.mem_cons_of_mem _ (List.mem_filter.mpr ⟨List.mem_map.mpr ⟨w, h1, rfl⟩, by simpa only [lg_cat] using h2⟩)
theorem lv_st2 {ls : Array Slot} {nL : Nat} {lv : List (Nat × Value)} {ad : Nat → Nat} {i : Nat} {v : Value} (h : lv_has ls nL ((i, cv ad v) :: (lv.map fun q => (q.1, cv ad q.2)).filter (fun q => !(q.1 == i) && (!(q.1 == i + 1) && !(q.1 + 1 == i && q.2.category == 2))))) : lv_has ls nL ((lset2 lv i v).map fun q => (q.1, cv ad q.2)) := by
  refine ⟨h.1, h.2.1, fun q hq => ?_⟩
  obtain ⟨w, hw, rfl⟩ := List.mem_map.mp hq
  refine h.2.2 _ ?_
  rcases lins_mem hw with rfl | hw
  · exact List.mem_cons_self
  · obtain ⟨h1, h2⟩ := List.mem_filter.mp hw
    exact List.mem_cons_of_mem _ (List.mem_filter.mpr ⟨List.mem_map.mpr ⟨w, h1, rfl⟩, by simpa only [lg_cat] using h2⟩)
section ARules
variable {Sc : SCR} {M : MD} {pc : Nat} {lv : List (Nat × Value)} {st : List Value} {K : List kd} {μ : Mem} {n : Nat × Nat} {Q : PQ}
theorem aw_iadd {x y : Int32} (d : decode M.2.1 pc = .ok (.iadd, 1)) (h : AW Sc M (pc + 1) lv (.int (x + y) :: st) K μ n Q) : AW Sc M pc lv (.int y :: .int x :: st) K μ n Q :=
  fun p l e R s m args below meth c H locs cells slots Qf G ls hC hD hn hl hr => lv_iadd hC.1 hC.2.1 d (h p l e R s m args below meth c H locs cells slots Qf G ls hC hD hn hl hr)
theorem aw_isub {x y : Int32} (d : decode M.2.1 pc = .ok (.isub, 1)) (h : AW Sc M (pc + 1) lv (.int (x - y) :: st) K μ n Q) : AW Sc M pc lv (.int y :: .int x :: st) K μ n Q :=
  fun p l e R s m args below meth c H locs cells slots Qf G ls hC hD hn hl hr => lv_isub hC.1 hC.2.1 d (h p l e R s m args below meth c H locs cells slots Qf G ls hC hD hn hl hr)
theorem aw_imul {x y : Int32} (d : decode M.2.1 pc = .ok (.imul, 1)) (h : AW Sc M (pc + 1) lv (.int (x * y) :: st) K μ n Q) : AW Sc M pc lv (.int y :: .int x :: st) K μ n Q :=
  fun p l e R s m args below meth c H locs cells slots Qf G ls hC hD hn hl hr => lv_imul hC.1 hC.2.1 d (h p l e R s m args below meth c H locs cells slots Qf G ls hC hD hn hl hr)
theorem aw_iand {x y : Int32} (d : decode M.2.1 pc = .ok (.iand, 1)) (h : AW Sc M (pc + 1) lv (.int (x &&& y) :: st) K μ n Q) : AW Sc M pc lv (.int y :: .int x :: st) K μ n Q :=
  fun p l e R s m args below meth c H locs cells slots Qf G ls hC hD hn hl hr => lv_iand hC.1 hC.2.1 d (h p l e R s m args below meth c H locs cells slots Qf G ls hC hD hn hl hr)
theorem aw_ior {x y : Int32} (d : decode M.2.1 pc = .ok (.ior, 1)) (h : AW Sc M (pc + 1) lv (.int (x ||| y) :: st) K μ n Q) : AW Sc M pc lv (.int y :: .int x :: st) K μ n Q :=
  fun p l e R s m args below meth c H locs cells slots Qf G ls hC hD hn hl hr => lv_ior hC.1 hC.2.1 d (h p l e R s m args below meth c H locs cells slots Qf G ls hC hD hn hl hr)
theorem aw_ixor {x y : Int32} (d : decode M.2.1 pc = .ok (.ixor, 1)) (h : AW Sc M (pc + 1) lv (.int (x ^^^ y) :: st) K μ n Q) : AW Sc M pc lv (.int y :: .int x :: st) K μ n Q :=
  fun p l e R s m args below meth c H locs cells slots Qf G ls hC hD hn hl hr => lv_ixor hC.1 hC.2.1 d (h p l e R s m args below meth c H locs cells slots Qf G ls hC hD hn hl hr)
theorem aw_ishl {x y : Int32} (d : decode M.2.1 pc = .ok (.ishl, 1)) (h : AW Sc M (pc + 1) lv (.int (x <<< (y &&& 31)) :: st) K μ n Q) : AW Sc M pc lv (.int y :: .int x :: st) K μ n Q :=
  fun p l e R s m args below meth c H locs cells slots Qf G ls hC hD hn hl hr => lv_ishl hC.1 hC.2.1 d (h p l e R s m args below meth c H locs cells slots Qf G ls hC hD hn hl hr)
theorem aw_ishr {x y : Int32} (d : decode M.2.1 pc = .ok (.ishr, 1)) (h : AW Sc M (pc + 1) lv (.int (x >>> (y &&& 31)) :: st) K μ n Q) : AW Sc M pc lv (.int y :: .int x :: st) K μ n Q :=
  fun p l e R s m args below meth c H locs cells slots Qf G ls hC hD hn hl hr => lv_ishr hC.1 hC.2.1 d (h p l e R s m args below meth c H locs cells slots Qf G ls hC hD hn hl hr)
theorem aw_idiv {x y : Int32} (hy : ¬ y = 0) (d : decode M.2.1 pc = .ok (.idiv, 1)) (h : AW Sc M (pc + 1) lv (.int (x / y) :: st) K μ n Q) : AW Sc M pc lv (.int y :: .int x :: st) K μ n Q :=
  fun p l e R s m args below meth c H locs cells slots Qf G ls hC hD hn hl hr => lv_idiv hC.1 hC.2.1 d hy (h p l e R s m args below meth c H locs cells slots Qf G ls hC hD hn hl hr)
theorem aw_irem {x y : Int32} (hy : ¬ y = 0) (d : decode M.2.1 pc = .ok (.irem, 1)) (h : AW Sc M (pc + 1) lv (.int (x % y) :: st) K μ n Q) : AW Sc M pc lv (.int y :: .int x :: st) K μ n Q :=
  fun p l e R s m args below meth c H locs cells slots Qf G ls hC hD hn hl hr => lv_irem hC.1 hC.2.1 d hy (by rw [irem_eq_mod]; exact h p l e R s m args below meth c H locs cells slots Qf G ls hC hD hn hl hr)
theorem aw_iushr {x y : Int32} (d : decode M.2.1 pc = .ok (.iushr, 1)) (h : AW Sc M (pc + 1) lv (.int ((x.toUInt32 >>> (y.toUInt32 &&& Int32.toUInt32 31)).toInt32) :: st) K μ n Q) : AW Sc M pc lv (.int y :: .int x :: st) K μ n Q :=
  fun p l e R s m args below meth c H locs cells slots Qf G ls hC hD hn hl hr => lv_iushr hC.1 hC.2.1 d rfl (h p l e R s m args below meth c H locs cells slots Qf G ls hC hD hn hl hr)
theorem aw_ineg {x : Int32} (d : decode M.2.1 pc = .ok (.ineg, 1)) (h : AW Sc M (pc + 1) lv (.int (-x) :: st) K μ n Q) : AW Sc M pc lv (.int x :: st) K μ n Q :=
  fun p l e R s m args below meth c H locs cells slots Qf G ls hC hD hn hl hr => lv_ineg hC.1 hC.2.1 d (h p l e R s m args below meth c H locs cells slots Qf G ls hC hD hn hl hr)
theorem aw_ladd {x y : Int64} (d : decode M.2.1 pc = .ok (.ladd, 1)) (h : AW Sc M (pc + 1) lv (.long (x + y) :: st) K μ n Q) : AW Sc M pc lv (.long y :: .long x :: st) K μ n Q :=
  fun p l e R s m args below meth c H locs cells slots Qf G ls hC hD hn hl hr => lv_ladd hC.1 hC.2.1 d (h p l e R s m args below meth c H locs cells slots Qf G ls hC hD hn hl hr)
theorem aw_lsub {x y : Int64} (d : decode M.2.1 pc = .ok (.lsub, 1)) (h : AW Sc M (pc + 1) lv (.long (x - y) :: st) K μ n Q) : AW Sc M pc lv (.long y :: .long x :: st) K μ n Q :=
  fun p l e R s m args below meth c H locs cells slots Qf G ls hC hD hn hl hr => lv_lsub hC.1 hC.2.1 d (h p l e R s m args below meth c H locs cells slots Qf G ls hC hD hn hl hr)
theorem aw_lmul {x y : Int64} (d : decode M.2.1 pc = .ok (.lmul, 1)) (h : AW Sc M (pc + 1) lv (.long (x * y) :: st) K μ n Q) : AW Sc M pc lv (.long y :: .long x :: st) K μ n Q :=
  fun p l e R s m args below meth c H locs cells slots Qf G ls hC hD hn hl hr => lv_lmul hC.1 hC.2.1 d (h p l e R s m args below meth c H locs cells slots Qf G ls hC hD hn hl hr)
theorem aw_land {x y : Int64} (d : decode M.2.1 pc = .ok (.land, 1)) (h : AW Sc M (pc + 1) lv (.long (x &&& y) :: st) K μ n Q) : AW Sc M pc lv (.long y :: .long x :: st) K μ n Q :=
  fun p l e R s m args below meth c H locs cells slots Qf G ls hC hD hn hl hr => lv_land hC.1 hC.2.1 d (h p l e R s m args below meth c H locs cells slots Qf G ls hC hD hn hl hr)
theorem aw_lor {x y : Int64} (d : decode M.2.1 pc = .ok (.lor, 1)) (h : AW Sc M (pc + 1) lv (.long (x ||| y) :: st) K μ n Q) : AW Sc M pc lv (.long y :: .long x :: st) K μ n Q :=
  fun p l e R s m args below meth c H locs cells slots Qf G ls hC hD hn hl hr => lv_lor hC.1 hC.2.1 d (h p l e R s m args below meth c H locs cells slots Qf G ls hC hD hn hl hr)
theorem aw_lshl {x : Int64} {y : Int32} (d : decode M.2.1 pc = .ok (.lshl, 1)) (h : AW Sc M (pc + 1) lv (.long (x <<< (y.toInt64 &&& 63)) :: st) K μ n Q) : AW Sc M pc lv (.int y :: .long x :: st) K μ n Q :=
  fun p l e R s m args below meth c H locs cells slots Qf G ls hC hD hn hl hr => lv_lshl hC.1 hC.2.1 d rfl (h p l e R s m args below meth c H locs cells slots Qf G ls hC hD hn hl hr)
theorem aw_lcmp {x y : Int64} (d : decode M.2.1 pc = .ok (.lcmp, 1)) (h : AW Sc M (pc + 1) lv (.int (lg_cmp x y) :: st) K μ n Q) : AW Sc M pc lv (.long y :: .long x :: st) K μ n Q :=
  fun p l e R s m args below meth c H locs cells slots Qf G ls hC hD hn hl hr => W.lcmp hC.1 hC.2.1 d (h p l e R s m args below meth c H locs cells slots Qf G ls hC hD hn hl hr)
theorem aw_i2l {x : Int32} (d : decode M.2.1 pc = .ok (.i2l, 1)) (h : AW Sc M (pc + 1) lv (.long x.toInt64 :: st) K μ n Q) : AW Sc M pc lv (.int x :: st) K μ n Q :=
  fun p l e R s m args below meth c H locs cells slots Qf G ls hC hD hn hl hr => lv_i2l hC.1 hC.2.1 d rfl (h p l e R s m args below meth c H locs cells slots Qf G ls hC hD hn hl hr)
theorem aw_l2i {x : Int64} (d : decode M.2.1 pc = .ok (.l2i, 1)) (h : AW Sc M (pc + 1) lv (.int x.toInt32 :: st) K μ n Q) : AW Sc M pc lv (.long x :: st) K μ n Q :=
  fun p l e R s m args below meth c H locs cells slots Qf G ls hC hD hn hl hr => lv_l2i hC.1 hC.2.1 d rfl (h p l e R s m args below meth c H locs cells slots Qf G ls hC hD hn hl hr)
theorem aw_i2b {x : Int32} (d : decode M.2.1 pc = .ok (.i2b, 1)) (h : AW Sc M (pc + 1) lv (.int x.toInt8.toInt32 :: st) K μ n Q) : AW Sc M pc lv (.int x :: st) K μ n Q :=
  fun p l e R s m args below meth c H locs cells slots Qf G ls hC hD hn hl hr => lv_i2b hC.1 hC.2.1 d rfl (h p l e R s m args below meth c H locs cells slots Qf G ls hC hD hn hl hr)
theorem aw_i2s {x : Int32} (d : decode M.2.1 pc = .ok (.i2s, 1)) (h : AW Sc M (pc + 1) lv (.int x.toInt16.toInt32 :: st) K μ n Q) : AW Sc M pc lv (.int x :: st) K μ n Q :=
  fun p l e R s m args below meth c H locs cells slots Qf G ls hC hD hn hl hr => lv_i2s hC.1 hC.2.1 d rfl (h p l e R s m args below meth c H locs cells slots Qf G ls hC hD hn hl hr)
theorem aw_i2c {x : Int32} (d : decode M.2.1 pc = .ok (.i2c, 1)) (h : AW Sc M (pc + 1) lv (.int (x.toUInt32 % 65536).toInt32 :: st) K μ n Q) : AW Sc M pc lv (.int x :: st) K μ n Q :=
  fun p l e R s m args below meth c H locs cells slots Qf G ls hC hD hn hl hr => lv_i2c hC.1 hC.2.1 d rfl (h p l e R s m args below meth c H locs cells slots Qf G ls hC hD hn hl hr)
theorem aw_iconst {k : Int} {v : Int32} (hv : Int32.ofInt k = v) (d : decode M.2.1 pc = .ok (.iconst k, 1)) (h : AW Sc M (pc + 1) lv (.int v :: st) K μ n Q) : AW Sc M pc lv st K μ n Q :=
  fun p l e R s m args below meth c H locs cells slots Qf G ls hC hD hn hl hr => lv_iconst hC.1 hC.2.1 d hv (h p l e R s m args below meth c H locs cells slots Qf G ls hC hD hn hl hr)
theorem aw_bipush {k : Int} {v : Int32} (hv : (Int8.ofInt k).toInt32 = v) (d : decode M.2.1 pc = .ok (.bipush k, 2)) (h : AW Sc M (pc + 2) lv (.int v :: st) K μ n Q) : AW Sc M pc lv st K μ n Q :=
  fun p l e R s m args below meth c H locs cells slots Qf G ls hC hD hn hl hr => lv_bipush hC.1 hC.2.1 d hv (h p l e R s m args below meth c H locs cells slots Qf G ls hC hD hn hl hr)
theorem aw_sipush {k : Int} {v : Int32} (hv : (Int16.ofInt k).toInt32 = v) (d : decode M.2.1 pc = .ok (.sipush k, 3)) (h : AW Sc M (pc + 3) lv (.int v :: st) K μ n Q) : AW Sc M pc lv st K μ n Q :=
  fun p l e R s m args below meth c H locs cells slots Qf G ls hC hD hn hl hr => lv_sipush hC.1 hC.2.1 d hv (h p l e R s m args below meth c H locs cells slots Qf G ls hC hD hn hl hr)
theorem aw_lconst {k : Fin 2} {v : Int64} (hv : Int64.ofNat (k : Nat) = v) (d : decode M.2.1 pc = .ok (.lconst k, 1)) (h : AW Sc M (pc + 1) lv (.long v :: st) K μ n Q) : AW Sc M pc lv st K μ n Q :=
  fun p l e R s m args below meth c H locs cells slots Qf G ls hC hD hn hl hr => lv_lconst hC.1 hC.2.1 d hv (h p l e R s m args below meth c H locs cells slots Qf G ls hC hD hn hl hr)
theorem aw_null (d : decode M.2.1 pc = .ok (.aconst_null, 1)) (h : AW Sc M (pc + 1) lv (.null :: st) K μ n Q) : AW Sc M pc lv st K μ n Q :=
  fun p l e R s m args below meth c H locs cells slots Qf G ls hC hD hn hl hr => lv_null hC.1 hC.2.1 d (h p l e R s m args below meth c H locs cells slots Qf G ls hC hD hn hl hr)
theorem aw_ldc {k : Nat} {v : Int32} (hw : Cond.constant M.1.cls k v ∈ ws0) (d : decode M.2.1 pc = .ok (.ldc k, 2)) (h : AW Sc M (pc + 2) lv (.int v :: st) K μ n Q) : AW Sc M pc lv st K μ n Q :=
  fun p l e R s m args below meth c H locs cells slots Qf G ls hC hD hn hl hr => lv_ldc hC.1 hC.2.1 hC.2.2.2.1 (hC.2.2.2.2.1 _ hw) d (h p l e R s m args below meth c H locs cells slots Qf G ls hC hD hn hl hr)
theorem aw_ldc_w {k : Nat} {v : Int32} (hw : Cond.constant M.1.cls k v ∈ ws0) (d : decode M.2.1 pc = .ok (.ldc_w k, 3)) (h : AW Sc M (pc + 3) lv (.int v :: st) K μ n Q) : AW Sc M pc lv st K μ n Q :=
  fun p l e R s m args below meth c H locs cells slots Qf G ls hC hD hn hl hr => lv_ldcw hC.1 hC.2.1 hC.2.2.2.1 (hC.2.2.2.2.1 _ hw) d (h p l e R s m args below meth c H locs cells slots Qf G ls hC hD hn hl hr)
theorem aw_ldc2 {k : Nat} {v : Int64} (hw : Cond.constantLong M.1.cls k v ∈ ws0) (d : decode M.2.1 pc = .ok (.ldc2_w k, 3)) (h : AW Sc M (pc + 3) lv (.long v :: st) K μ n Q) : AW Sc M pc lv st K μ n Q :=
  fun p l e R s m args below meth c H locs cells slots Qf G ls hC hD hn hl hr => lv_ldc2 hC.1 hC.2.1 hC.2.2.2.1 (hC.2.2.2.2.1 _ hw) d (h p l e R s m args below meth c H locs cells slots Qf G ls hC hD hn hl hr)
theorem aw_ldcS (i : Nat) (hi : i < 15) (ho : M.1.cls = "EndlessTug$Tape") {k : Nat} (hk : sIdx.getD i 0 = k) (d : decode M.2.1 pc = .ok (.ldc k, 2)) (h : AW Sc M (pc + 2) lv (.ref (400 + i) :: st) K μ n Q) : AW Sc M pc lv st K μ n Q :=
  fun p l e R s m args below meth c H locs cells slots Qf G ls hC hD hn hl hr => va_ldcS (own := "EndlessTug$Tape") (tx := sTxt.getD i "") hC.1 hC.2.1 (by rw [← ho]; exact hC.2.2.2.1) (by rw [← hk]; exact hD.2.2.2.2.2.2.2.1 i hi) d (h p l e R s m args below meth c H locs cells slots Qf G ls hC hD hn hl hr)
theorem aw_iload_n {k : Fin 4} {x : Int32} (hv : lget lv (k : Nat) = some (.int x)) (d : decode M.2.1 pc = .ok (.iload_n k, 1)) (h : AW Sc M (pc + 1) lv (.int x :: st) K μ n Q) : AW Sc M pc lv st K μ n Q :=
  fun p l e R s m args below meth c H locs cells slots Qf G ls hC hD hn hl hr => lv_iload_n hC.1 hC.2.1 d rfl (lv_ld hl hv) (h p l e R s m args below meth c H locs cells slots Qf G ls hC hD hn hl hr)
theorem aw_iload {k : Nat} {x : Int32} (hv : lget lv k = some (.int x)) (d : decode M.2.1 pc = .ok (.iload k, 2)) (h : AW Sc M (pc + 2) lv (.int x :: st) K μ n Q) : AW Sc M pc lv st K μ n Q :=
  fun p l e R s m args below meth c H locs cells slots Qf G ls hC hD hn hl hr => lv_iload hC.1 hC.2.1 d (lv_ld hl hv) (h p l e R s m args below meth c H locs cells slots Qf G ls hC hD hn hl hr)
theorem aw_lload_n {k : Fin 4} {x : Int64} (hv : lget lv (k : Nat) = some (.long x)) (d : decode M.2.1 pc = .ok (.lload_n k, 1)) (h : AW Sc M (pc + 1) lv (.long x :: st) K μ n Q) : AW Sc M pc lv st K μ n Q :=
  fun p l e R s m args below meth c H locs cells slots Qf G ls hC hD hn hl hr => lv_lload_n hC.1 hC.2.1 d rfl (lv_ld hl hv) (h p l e R s m args below meth c H locs cells slots Qf G ls hC hD hn hl hr)
theorem aw_lload {k : Nat} {x : Int64} (hv : lget lv k = some (.long x)) (d : decode M.2.1 pc = .ok (.lload k, 2)) (h : AW Sc M (pc + 2) lv (.long x :: st) K μ n Q) : AW Sc M pc lv st K μ n Q :=
  fun p l e R s m args below meth c H locs cells slots Qf G ls hC hD hn hl hr => lv_lload hC.1 hC.2.1 d (lv_ld hl hv) (h p l e R s m args below meth c H locs cells slots Qf G ls hC hD hn hl hr)
theorem aw_aload_n {k : Fin 4} {x : Nat} (hv : lget lv (k : Nat) = some (.ref x)) (d : decode M.2.1 pc = .ok (.aload_n k, 1)) (h : AW Sc M (pc + 1) lv (.ref x :: st) K μ n Q) : AW Sc M pc lv st K μ n Q :=
  fun p l e R s m args below meth c H locs cells slots Qf G ls hC hD hn hl hr => lv_aload_n hC.1 hC.2.1 d rfl (lv_ld hl hv) (h p l e R s m args below meth c H locs cells slots Qf G ls hC hD hn hl hr)
theorem aw_aload {k : Nat} {x : Nat} (hv : lget lv k = some (.ref x)) (d : decode M.2.1 pc = .ok (.aload k, 2)) (h : AW Sc M (pc + 2) lv (.ref x :: st) K μ n Q) : AW Sc M pc lv st K μ n Q :=
  fun p l e R s m args below meth c H locs cells slots Qf G ls hC hD hn hl hr => lv_aload hC.1 hC.2.1 d (lv_ld hl hv) (h p l e R s m args below meth c H locs cells slots Qf G ls hC hD hn hl hr)
theorem aw_istore_n {k : Fin 4} {x : Int32} (hk : (k : Nat) < M.2.2.1) (d : decode M.2.1 pc = .ok (.istore_n k, 1)) (h : AW Sc M (pc + 1) (lset1 lv (k : Nat) (.int x)) st K μ n Q) : AW Sc M pc lv (.int x :: st) K μ n Q :=
  fun p l e R s m args below meth c H locs cells slots Qf G ls hC hD hn hl hr => lv_istore_n hC.1 hC.2.1 d rfl hl hk rfl (fun ls' hl' => h p l e R s m args below meth c H locs cells slots Qf G ls' hC hD hn (lv_st1 hl') hr)
theorem aw_istore {k : Nat} {x : Int32} (hk : k < M.2.2.1) (d : decode M.2.1 pc = .ok (.istore k, 2)) (h : AW Sc M (pc + 2) (lset1 lv k (.int x)) st K μ n Q) : AW Sc M pc lv (.int x :: st) K μ n Q :=
  fun p l e R s m args below meth c H locs cells slots Qf G ls hC hD hn hl hr => lv_istore hC.1 hC.2.1 d hl hk rfl (fun ls' hl' => h p l e R s m args below meth c H locs cells slots Qf G ls' hC hD hn (lv_st1 hl') hr)
theorem aw_astore_n {k : Fin 4} {x : Nat} (hk : (k : Nat) < M.2.2.1) (d : decode M.2.1 pc = .ok (.astore_n k, 1)) (h : AW Sc M (pc + 1) (lset1 lv (k : Nat) (.ref x)) st K μ n Q) : AW Sc M pc lv (.ref x :: st) K μ n Q :=
  fun p l e R s m args below meth c H locs cells slots Qf G ls hC hD hn hl hr => lv_astore_n hC.1 hC.2.1 d rfl hl hk rfl (fun ls' hl' => h p l e R s m args below meth c H locs cells slots Qf G ls' hC hD hn (lv_st1 hl') hr)
theorem aw_astore {k : Nat} {x : Nat} (hk : k < M.2.2.1) (d : decode M.2.1 pc = .ok (.astore k, 2)) (h : AW Sc M (pc + 2) (lset1 lv k (.ref x)) st K μ n Q) : AW Sc M pc lv (.ref x :: st) K μ n Q :=
  fun p l e R s m args below meth c H locs cells slots Qf G ls hC hD hn hl hr => lv_astore hC.1 hC.2.1 d hl hk rfl (fun ls' hl' => h p l e R s m args below meth c H locs cells slots Qf G ls' hC hD hn (lv_st1 hl') hr)
theorem aw_lstore_n {k : Fin 4} {x : Int64} (hk : (k : Nat) + 1 < M.2.2.1) (d : decode M.2.1 pc = .ok (.lstore_n k, 1)) (h : AW Sc M (pc + 1) (lset2 lv (k : Nat) (.long x)) st K μ n Q) : AW Sc M pc lv (.long x :: st) K μ n Q :=
  fun p l e R s m args below meth c H locs cells slots Qf G ls hC hD hn hl hr => lv_lstore_n hC.1 hC.2.1 d rfl hl hk rfl (fun ls' hl' => h p l e R s m args below meth c H locs cells slots Qf G ls' hC hD hn (lv_st2 hl') hr)
theorem aw_lstore {k : Nat} {x : Int64} (hk : k + 1 < M.2.2.1) (d : decode M.2.1 pc = .ok (.lstore k, 2)) (h : AW Sc M (pc + 2) (lset2 lv k (.long x)) st K μ n Q) : AW Sc M pc lv (.long x :: st) K μ n Q :=
  fun p l e R s m args below meth c H locs cells slots Qf G ls hC hD hn hl hr => lv_lstore hC.1 hC.2.1 d hl hk rfl (fun ls' hl' => h p l e R s m args below meth c H locs cells slots Qf G ls' hC hD hn (lv_st2 hl') hr)
theorem aw_iinc {i : Nat} {k : Int} {x v : Int32} (hx : lget lv i = some (.int x)) (hv : Int32.ofInt k = v) (hk : i < M.2.2.1) (d : decode M.2.1 pc = .ok (.iinc i k, 3)) (h : AW Sc M (pc + 3) (lset1 lv i (.int (x + v))) st K μ n Q) : AW Sc M pc lv st K μ n Q := by
  intro p l e R s m args below meth c H locs cells slots Qf G ls hC hD hn hl hr
  subst hv
  obtain ⟨j, hj⟩ := List.getElem?_of_mem (List.mem_map.mpr ⟨(i, .int x), lget_mem hx, rfl⟩ : (i, cv G.1 (.int x)) ∈ lv.map fun q => (q.1, cv G.1 q.2))
  exact lv_iinc (v := x + Int32.ofInt k) hC.1 hC.2.1 d hl (k := j) hj rfl hk rfl (fun ls' hl' => h p l e R s m args below meth c H locs cells slots Qf G ls' hC hD hn (lv_st1 hl') hr)
theorem aw_dup {v : Value} (hv : v.category = 1) (d : decode M.2.1 pc = .ok (.dup, 1)) (h : AW Sc M (pc + 1) lv (v :: v :: st) K μ n Q) : AW Sc M pc lv (v :: st) K μ n Q :=
  fun p l e R s m args below meth c H locs cells slots Qf G ls hC hD hn hl hr => lv_dup hC.1 hC.2.1 d (by rw [lg_cat]; exact hv) (h p l e R s m args below meth c H locs cells slots Qf G ls hC hD hn hl hr)
theorem aw_pop {v : Value} (hv : v.category = 1) (d : decode M.2.1 pc = .ok (.pop, 1)) (h : AW Sc M (pc + 1) lv st K μ n Q) : AW Sc M pc lv (v :: st) K μ n Q :=
  fun p l e R s m args below meth c H locs cells slots Qf G ls hC hD hn hl hr => lv_pop hC.1 hC.2.1 d (by rw [lg_cat]; exact hv) (h p l e R s m args below meth c H locs cells slots Qf G ls hC hD hn hl hr)
theorem aw_dup2 {v w : Value} (hv : v.category = 1) (hw : w.category = 1) (d : decode M.2.1 pc = .ok (.dup2, 1)) (h : AW Sc M (pc + 1) lv (v :: w :: v :: w :: st) K μ n Q) : AW Sc M pc lv (v :: w :: st) K μ n Q :=
  fun p l e R s m args below meth c H locs cells slots Qf G ls hC hD hn hl hr => lv_dup2_11 hC.1 hC.2.1 d (by rw [lg_cat]; exact hv) (by rw [lg_cat]; exact hw) (h p l e R s m args below meth c H locs cells slots Qf G ls hC hD hn hl hr)
theorem aw_if_eq {x : Int32} {off : Int} (tgt : Nat) (ht : (pc : Int) + off = (tgt : Int)) (d : decode M.2.1 pc = .ok (.ifCond .eq off, 3)) (kt : x = 0 → AW Sc M tgt lv st K μ n Q) (kf : ¬ x = 0 → AW Sc M (pc + 3) lv st K μ n Q) : AW Sc M pc lv (.int x :: st) K μ n Q :=
  fun p l e R s m args below meth c H locs cells slots Qf G ls hC hD hn hl hr => lv_if_eq (tgt := tgt) hC.1 hC.2.1 d ht (fun z => kt z p l e R s m args below meth c H locs cells slots Qf G ls hC hD hn hl hr) (fun z => kf z p l e R s m args below meth c H locs cells slots Qf G ls hC hD hn hl hr)
theorem aw_icmp_eq {x y : Int32} {off : Int} (tgt : Nat) (ht : (pc : Int) + off = (tgt : Int)) (d : decode M.2.1 pc = .ok (.if_icmp .eq off, 3)) (kt : x = y → AW Sc M tgt lv st K μ n Q) (kf : ¬ x = y → AW Sc M (pc + 3) lv st K μ n Q) : AW Sc M pc lv (.int y :: .int x :: st) K μ n Q :=
  fun p l e R s m args below meth c H locs cells slots Qf G ls hC hD hn hl hr => lv_icmp_eq (tgt := tgt) hC.1 hC.2.1 d ht (fun z => kt z p l e R s m args below meth c H locs cells slots Qf G ls hC hD hn hl hr) (fun z => kf z p l e R s m args below meth c H locs cells slots Qf G ls hC hD hn hl hr)
theorem aw_if_ne {x : Int32} {off : Int} (tgt : Nat) (ht : (pc : Int) + off = (tgt : Int)) (d : decode M.2.1 pc = .ok (.ifCond .ne off, 3)) (kt : ¬ x = 0 → AW Sc M tgt lv st K μ n Q) (kf : x = 0 → AW Sc M (pc + 3) lv st K μ n Q) : AW Sc M pc lv (.int x :: st) K μ n Q :=
  fun p l e R s m args below meth c H locs cells slots Qf G ls hC hD hn hl hr => lv_if_ne (tgt := tgt) hC.1 hC.2.1 d ht (fun z => kt z p l e R s m args below meth c H locs cells slots Qf G ls hC hD hn hl hr) (fun z => kf z p l e R s m args below meth c H locs cells slots Qf G ls hC hD hn hl hr)
theorem aw_icmp_ne {x y : Int32} {off : Int} (tgt : Nat) (ht : (pc : Int) + off = (tgt : Int)) (d : decode M.2.1 pc = .ok (.if_icmp .ne off, 3)) (kt : ¬ x = y → AW Sc M tgt lv st K μ n Q) (kf : x = y → AW Sc M (pc + 3) lv st K μ n Q) : AW Sc M pc lv (.int y :: .int x :: st) K μ n Q :=
  fun p l e R s m args below meth c H locs cells slots Qf G ls hC hD hn hl hr => lv_icmp_ne (tgt := tgt) hC.1 hC.2.1 d ht (fun z => kt z p l e R s m args below meth c H locs cells slots Qf G ls hC hD hn hl hr) (fun z => kf z p l e R s m args below meth c H locs cells slots Qf G ls hC hD hn hl hr)
theorem aw_if_lt {x : Int32} {off : Int} (tgt : Nat) (ht : (pc : Int) + off = (tgt : Int)) (d : decode M.2.1 pc = .ok (.ifCond .lt off, 3)) (kt : x < 0 → AW Sc M tgt lv st K μ n Q) (kf : ¬ x < 0 → AW Sc M (pc + 3) lv st K μ n Q) : AW Sc M pc lv (.int x :: st) K μ n Q :=
  fun p l e R s m args below meth c H locs cells slots Qf G ls hC hD hn hl hr => lv_if_lt (tgt := tgt) hC.1 hC.2.1 d ht (fun z => kt z p l e R s m args below meth c H locs cells slots Qf G ls hC hD hn hl hr) (fun z => kf z p l e R s m args below meth c H locs cells slots Qf G ls hC hD hn hl hr)
theorem aw_icmp_lt {x y : Int32} {off : Int} (tgt : Nat) (ht : (pc : Int) + off = (tgt : Int)) (d : decode M.2.1 pc = .ok (.if_icmp .lt off, 3)) (kt : x < y → AW Sc M tgt lv st K μ n Q) (kf : ¬ x < y → AW Sc M (pc + 3) lv st K μ n Q) : AW Sc M pc lv (.int y :: .int x :: st) K μ n Q :=
  fun p l e R s m args below meth c H locs cells slots Qf G ls hC hD hn hl hr => lv_icmp_lt (tgt := tgt) hC.1 hC.2.1 d ht (fun z => kt z p l e R s m args below meth c H locs cells slots Qf G ls hC hD hn hl hr) (fun z => kf z p l e R s m args below meth c H locs cells slots Qf G ls hC hD hn hl hr)
theorem aw_if_ge {x : Int32} {off : Int} (tgt : Nat) (ht : (pc : Int) + off = (tgt : Int)) (d : decode M.2.1 pc = .ok (.ifCond .ge off, 3)) (kt : 0 ≤ x → AW Sc M tgt lv st K μ n Q) (kf : ¬ 0 ≤ x → AW Sc M (pc + 3) lv st K μ n Q) : AW Sc M pc lv (.int x :: st) K μ n Q :=
  fun p l e R s m args below meth c H locs cells slots Qf G ls hC hD hn hl hr => lv_if_ge (tgt := tgt) hC.1 hC.2.1 d ht (fun z => kt z p l e R s m args below meth c H locs cells slots Qf G ls hC hD hn hl hr) (fun z => kf z p l e R s m args below meth c H locs cells slots Qf G ls hC hD hn hl hr)
theorem aw_icmp_ge {x y : Int32} {off : Int} (tgt : Nat) (ht : (pc : Int) + off = (tgt : Int)) (d : decode M.2.1 pc = .ok (.if_icmp .ge off, 3)) (kt : y ≤ x → AW Sc M tgt lv st K μ n Q) (kf : ¬ y ≤ x → AW Sc M (pc + 3) lv st K μ n Q) : AW Sc M pc lv (.int y :: .int x :: st) K μ n Q :=
  fun p l e R s m args below meth c H locs cells slots Qf G ls hC hD hn hl hr => lv_icmp_ge (tgt := tgt) hC.1 hC.2.1 d ht (fun z => kt z p l e R s m args below meth c H locs cells slots Qf G ls hC hD hn hl hr) (fun z => kf z p l e R s m args below meth c H locs cells slots Qf G ls hC hD hn hl hr)
theorem aw_if_gt {x : Int32} {off : Int} (tgt : Nat) (ht : (pc : Int) + off = (tgt : Int)) (d : decode M.2.1 pc = .ok (.ifCond .gt off, 3)) (kt : 0 < x → AW Sc M tgt lv st K μ n Q) (kf : ¬ 0 < x → AW Sc M (pc + 3) lv st K μ n Q) : AW Sc M pc lv (.int x :: st) K μ n Q :=
  fun p l e R s m args below meth c H locs cells slots Qf G ls hC hD hn hl hr => lv_if_gt (tgt := tgt) hC.1 hC.2.1 d ht (fun z => kt z p l e R s m args below meth c H locs cells slots Qf G ls hC hD hn hl hr) (fun z => kf z p l e R s m args below meth c H locs cells slots Qf G ls hC hD hn hl hr)
theorem aw_icmp_gt {x y : Int32} {off : Int} (tgt : Nat) (ht : (pc : Int) + off = (tgt : Int)) (d : decode M.2.1 pc = .ok (.if_icmp .gt off, 3)) (kt : y < x → AW Sc M tgt lv st K μ n Q) (kf : ¬ y < x → AW Sc M (pc + 3) lv st K μ n Q) : AW Sc M pc lv (.int y :: .int x :: st) K μ n Q :=
  fun p l e R s m args below meth c H locs cells slots Qf G ls hC hD hn hl hr => lv_icmp_gt (tgt := tgt) hC.1 hC.2.1 d ht (fun z => kt z p l e R s m args below meth c H locs cells slots Qf G ls hC hD hn hl hr) (fun z => kf z p l e R s m args below meth c H locs cells slots Qf G ls hC hD hn hl hr)
theorem aw_if_le {x : Int32} {off : Int} (tgt : Nat) (ht : (pc : Int) + off = (tgt : Int)) (d : decode M.2.1 pc = .ok (.ifCond .le off, 3)) (kt : x ≤ 0 → AW Sc M tgt lv st K μ n Q) (kf : ¬ x ≤ 0 → AW Sc M (pc + 3) lv st K μ n Q) : AW Sc M pc lv (.int x :: st) K μ n Q :=
  fun p l e R s m args below meth c H locs cells slots Qf G ls hC hD hn hl hr => lv_if_le (tgt := tgt) hC.1 hC.2.1 d ht (fun z => kt z p l e R s m args below meth c H locs cells slots Qf G ls hC hD hn hl hr) (fun z => kf z p l e R s m args below meth c H locs cells slots Qf G ls hC hD hn hl hr)
theorem aw_icmp_le {x y : Int32} {off : Int} (tgt : Nat) (ht : (pc : Int) + off = (tgt : Int)) (d : decode M.2.1 pc = .ok (.if_icmp .le off, 3)) (kt : x ≤ y → AW Sc M tgt lv st K μ n Q) (kf : ¬ x ≤ y → AW Sc M (pc + 3) lv st K μ n Q) : AW Sc M pc lv (.int y :: .int x :: st) K μ n Q :=
  fun p l e R s m args below meth c H locs cells slots Qf G ls hC hD hn hl hr => lv_icmp_le (tgt := tgt) hC.1 hC.2.1 d ht (fun z => kt z p l e R s m args below meth c H locs cells slots Qf G ls hC hD hn hl hr) (fun z => kf z p l e R s m args below meth c H locs cells slots Qf G ls hC hD hn hl hr)
theorem aw_goto {off : Int} (tgt : Nat) (ht : (pc : Int) + off = (tgt : Int)) (d : decode M.2.1 pc = .ok (.goto off, 3)) (h : AW Sc M tgt lv st K μ n Q) : AW Sc M pc lv st K μ n Q :=
  fun p l e R s m args below meth c H locs cells slots Qf G ls hC hD hn hl hr => lv_goto (tgt := tgt) hC.1 hC.2.1 d ht (h p l e R s m args below meth c H locs cells slots Qf G ls hC hD hn hl hr)
theorem aw_ifnull_r {q : Nat} {off : Int} (d : decode M.2.1 pc = .ok (.ifnull off, 3)) (h : AW Sc M (pc + 3) lv st K μ n Q) : AW Sc M pc lv (.ref q :: st) K μ n Q :=
  fun p l e R s m args below meth c H locs cells slots Qf G ls hC hD hn hl hr => lv_ifnull hC.1 hC.2.1 d (h p l e R s m args below meth c H locs cells slots Qf G ls hC hD hn hl hr)
theorem aw_ifnull_n {off : Int} (tgt : Nat) (ht : (pc : Int) + off = (tgt : Int)) (d : decode M.2.1 pc = .ok (.ifnull off, 3)) (h : AW Sc M tgt lv st K μ n Q) : AW Sc M pc lv (.null :: st) K μ n Q :=
  fun p l e R s m args below meth c H locs cells slots Qf G ls hC hD hn hl hr => lv_ifnullN (tgt := tgt) hC.1 hC.2.1 d ht (h p l e R s m args below meth c H locs cells slots Qf G ls hC hD hn hl hr)
theorem aw_tabOut {x : Int32} {dflt lo hi : Int} {offs : Array Int} {len : Nat} (tgt : Nat) (hx : x.toInt < lo ∨ hi < x.toInt) (ht : (pc : Int) + dflt = (tgt : Int)) (d : decode M.2.1 pc = .ok (.tableswitch dflt lo hi offs, len)) (h : AW Sc M tgt lv st K μ n Q) : AW Sc M pc lv (.int x :: st) K μ n Q :=
  fun p l e R s m args below meth c H locs cells slots Qf G ls hC hD hn hl hr => lv_tableOut (tgt := tgt) hC.1 hC.2.1 d hx ht (h p l e R s m args below meth c H locs cells slots Qf G ls hC hD hn hl hr)
theorem aw_tabIn {x : Int32} {dflt lo hi off : Int} {offs : Array Int} {len : Nat} (tgt : Nat) (h1 : ¬ x.toInt < lo) (h2 : ¬ hi < x.toInt) (ho : offs[(x.toInt - lo).toNat]? = some off) (ht : (pc : Int) + off = (tgt : Int)) (d : decode M.2.1 pc = .ok (.tableswitch dflt lo hi offs, len)) (h : AW Sc M tgt lv st K μ n Q) : AW Sc M pc lv (.int x :: st) K μ n Q :=
  fun p l e R s m args below meth c H locs cells slots Qf G ls hC hD hn hl hr => lv_tableIn (tgt := tgt) hC.1 hC.2.1 d h1 h2 ho ht (h p l e R s m args below meth c H locs cells slots Qf G ls hC hD hn hl hr)
theorem aw_ireturn {x : Int32} (d : decode M.2.1 pc = .ok (.ireturn, 1)) (hr : ∃ ty, M.2.2.2.1 = some ty ∧ narrow ty (.int x) = .int x) (hq : Q (some (.int x)) K μ) : AW Sc M pc lv [.int x] K μ n Q :=
  fun _ _ _ _ _ _ _ _ _ _ H locs cells slots _ _ ls _ hD hn _ h => h (some (.int x)) pc ls H locs cells slots K μ ⟨d, hr⟩ hq hD ⟨by omega, by omega⟩
theorem aw_iret {x : Int32} (d : decode M.2.1 pc = .ok (.ireturn, 1)) (hr : M.2.2.2.1 = some .int) (hq : Q (some (.int x)) K μ) : AW Sc M pc lv [.int x] K μ n Q := aw_ireturn d ⟨.int, hr, rfl⟩ hq
theorem aw_lreturn {x : Int64} (d : decode M.2.1 pc = .ok (.lreturn, 1)) (hr : M.2.2.2.1 = some .long) (hq : Q (some (.long x)) K μ) : AW Sc M pc lv [.long x] K μ n Q :=
  fun _ _ _ _ _ _ _ _ _ _ H locs cells slots _ _ ls _ hD hn _ h => h (some (.long x)) pc ls H locs cells slots K μ ⟨d, hr⟩ hq hD ⟨by omega, by omega⟩
theorem aw_return (d : decode M.2.1 pc = .ok (.return_, 1)) (hr : M.2.2.2.1 = none) (hq : Q none K μ) : AW Sc M pc lv [] K μ n Q :=
  fun _ _ _ _ _ _ _ _ _ _ H locs cells slots _ _ ls _ hD hn _ h => h none pc ls H locs cells slots K μ ⟨d, hr⟩ hq hD ⟨by omega, by omega⟩
end ARules
