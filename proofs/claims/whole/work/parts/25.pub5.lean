/-! THE MODEL'S CALLS, 5: traitor, fewest (the first rows out of kit/laws: numbers) -/
theorem fb_rng (x : Int32) : -2147483648 ≤ x.toInt ∧ x.toInt < 2147483648 := by
  have h1 := Int32.le_toInt x
  have h2 := Int32.toInt_lt x
  omega
theorem fb_bmod {z : Int} (h1 : -2147483648 ≤ z) (h2 : z < 2147483648) : z.bmod (2 ^ 32) = z := by
  rw [Int.bmod_eq_of_le (by omega) (by omega)]
theorem fb_addI {x y : Int32} (h1 : -2147483648 ≤ x.toInt + y.toInt) (h2 : x.toInt + y.toInt < 2147483648) : (x + y).toInt = x.toInt + y.toInt := by
  rw [Int32.toInt_add, fb_bmod h1 h2]
theorem fb_subI {x y : Int32} (h1 : -2147483648 ≤ x.toInt - y.toInt) (h2 : x.toInt - y.toInt < 2147483648) : (x - y).toInt = x.toInt - y.toInt := by
  rw [Int32.toInt_sub, fb_bmod h1 h2]
theorem fb_negI {x : Int32} (h : x.toInt ≠ -2147483648) : (-x).toInt = -x.toInt := by
  have := fb_rng x
  rw [Int32.toInt_neg, fb_bmod (by omega) (by omega)]
theorem fa_lt (a b : Int32) : a < b ↔ a.toInt < b.toInt := Int32.lt_iff_toInt_lt
theorem fa_le (a b : Int32) : a ≤ b ↔ a.toInt ≤ b.toInt := Int32.le_iff_toInt_le
theorem fa_eq (a b : Int32) : a = b ↔ a.toInt = b.toInt := Int32.toInt_inj.symm
theorem fa_and (a b : Nat) : nI a &&& nI b = nI (a &&& b) := by
  apply Int32.toBitVec_inj.1
  show BitVec.ofNat 32 a &&& BitVec.ofNat 32 b = BitVec.ofNat 32 (a &&& b)
  apply BitVec.eq_of_getLsbD_eq
  intro i hi
  simp [BitVec.getLsbD_ofNat, Nat.testBit_and, hi]
theorem held_rng (v : Int32) : (-9999 : Int) ≤ (held v (-9999) 9999).toInt ∧ (held v (-9999) 9999).toInt ≤ 9999 := by
  unfold held
  split
  · decide
  · next h1 =>
    split
    · decide
    · next h2 =>
      rw [fa_lt] at h1 h2
      have e1 : ((-9999 : Int32)).toInt = -9999 := by decide
      have e2 : ((9999 : Int32)).toInt = 9999 := by decide
      omega
theorem lives_1 (s : Nat → Int32) (k : Nat) {j : Nat} (hj : j < 5) : lives s k j = s j := by
  unfold lives tiredS
  split
  · rw [upd_ne (by omega), upd_ne (by omega)]
  · rw [upd_ne (by omega)]
theorem livesAll_1 (s : Nat → Int32) {j : Nat} (hj : j < 5) : ∀ k, livesAll s k j = s j
  | 0 => rfl
  | k + 1 => by rw [livesAll, lives_1 _ _ hj, livesAll_1 s hj k]
theorem comes_1 (s : Nat → Int32) (x : Int32) (m : Nat) {j : Nat} (hj : j < 5) : comes s x m j = s j := by
  unfold comes
  split
  · rfl
  · cases bst s x m with
    | none => rfl
    | some b => exact upd_ne (by omega)
theorem dayS_1 (m : Nat) (s : Nat → Int32) : dayS m s 1 = knotG m s := by
  unfold dayS
  rw [upd_ne (by decide), comes_1 _ _ _ (by decide), comes_1 _ _ _ (by decide), livesAll_1 _ (by decide), upd_eq]
theorem dayS_lo (m : Nat) (s : Nat → Int32) {j : Nat} (hj : j < 5) (h0 : j ≠ 0) (h1 : j ≠ 1) : dayS m s j = s j := by
  unfold dayS
  rw [upd_ne h0, comes_1 _ _ _ hj, comes_1 _ _ _ hj, livesAll_1 _ hj, upd_ne h1]
theorem goes_rng {m t : Nat} (ht : 1 ≤ t) (s : Nat → Int32) : (-9999 : Int) ≤ (goesN m t s 1).toInt ∧ (goesN m t s 1).toInt ≤ 9999 := by
  obtain ⟨j, rfl⟩ : ∃ j, t = j + 1 := ⟨t - 1, by omega⟩
  rw [goesN_succ, dayS_1]
  exact held_rng _
def absd (d : Int32) : Int32 := if d < 0 then -d else d
theorem absd_pos {a b : Int32} (ha : (-9999 : Int) ≤ a.toInt ∧ a.toInt ≤ 9999) (hb : (-9999 : Int) ≤ b.toInt ∧ b.toInt ≤ 9999) : (0 : Int) ≤ (absd (a - b)).toInt ∧ (absd (a - b)).toInt ≤ 19998 := by
  have e := fb_subI (x := a) (y := b) (by omega) (by omega)
  unfold absd
  split
  · next h =>
    rw [fa_lt, e] at h
    have h : a.toInt - b.toInt < 0 := h
    rw [fb_negI (by omega), e]
    omega
  · next h =>
    rw [fa_lt, e] at h
    have h : ¬ a.toInt - b.toInt < 0 := h
    rw [e]
    omega
def trV (s : Nat → Int32) (t : Nat) (k : Nat) : Int32 := absd (goesN (mny s) t (upd s (5 + 5 * k + 1) (1 - s (5 + 5 * k + 1))) 1 - goesN (mny s) t s 1)
def sp_traitor (t : Int32) (S : SG) : Int32 × SG := if in1 t 1 60 then ansB S (bestF (fun _ => true) (trV S.1 (ix t)) (mny S.1)) else fnd S 0
def oM (o : OB) : Int32 := match o with
  | none => -1
  | some q => q.2
/-- how many steps the taking away of lowest bits takes -/
def kern : Nat → Nat → Nat
  | 0, _ => 0
  | f + 1, a => if a = 0 then 0 else kern f (a &&& (a - 1)) + 1
def kernD : Nat → Nat → Bool
  | 0, a => a == 0
  | f + 1, a => a == 0 || kernD f (a &&& (a - 1))
theorem kern_all : ∀ a, a < 1024 → kernD 11 a = true := by decide +kernel
theorem kern_le : ∀ f a, kern f a ≤ f
  | 0, _ => Nat.le_refl _
  | f + 1, a => by
    unfold kern
    split
    · omega
    · have := kern_le f (a &&& (a - 1))
      omega
def offS (s : Nat → Int32) (d : Int32) : Nat → Int32
  | 0 => 0
  | k + 1 => offS s d k ||| (if s (5 + 5 * k + 1) = d ∧ s (5 + 5 * k + 2) = 0 then (1 : Int32) <<< (nI k &&& 31) else 0)
def sumF (s : Nat → Int32) (a : Int32) (o : Int32) : Nat → Int32
  | 0 => o
  | k + 1 => sumF s a o k + (if (a >>> (nI k &&& 31)) &&& 1 = 1 then pulls s k else 0)
def fwOk (s : Nat → Int32) (d : Int32) (m a : Nat) : Bool := decide (nI a &&& (offS s d m ^^^ -1) = 0) && decide (sideP s (1 - d) m < sumF s (nI a) (sideP s d m) m)
def fwV (a : Nat) : Int32 := -nI (kern 11 a)
def sp_fewest (d : Int32) (S : SG) : Int32 × SG := if in1 d 0 1 then ansB S (bestF (fwOk S.1 d (mny S.1)) fwV (2 ^ mny S.1)) else fnd S 0
theorem bestF_val {ok : Nat → Bool} {val : Nat → Int32} : ∀ {k : Nat} {q : Nat × Int32}, bestF ok val k = some q → q.2 = val q.1
  | 0, _, h => by cases h
  | k + 1, q, h => by
    unfold bestF at h
    split at h
    · cases hb : bestF ok val k with
      | none => rw [hb] at h; cases h; rfl
      | some c =>
        have hc := bestF_val hb
        rw [hb] at h
        unfold stepB at h
        dsimp only at h
        split at h
        · cases h; rfl
        · cases h; exact hc
    · exact bestF_val h
theorem shl1 : ∀ m, m ≤ 10 → (1 : Int32) <<< (nI m &&& 31) = nI (2 ^ m) := by decide +kernel
theorem pow10 : ∀ m, m ≤ 10 → 2 ^ m ≤ 1024 := by decide +kernel
section Pub5
variable {Sc : SCR} {μ μ0 : Mem} {n : Nat × Nat} {Q : PQ} {S : SG} {s : Nat → Int32}
theorem q_traitor {t : Int32} (h : MJ μ0 μ S) (hW : WF S) (hQ : ∀ μ', MJ μ0 μ' (sp_traitor t S).2 → Q (some (.int (sp_traitor t S).1)) K0 μ') : AM Sc mX12_traitor [.ref 71, .int t] K0 μ n Q := by
  refine AM.of rfl (ble rfl) ?_
  have hs := h.hs
  have hM := h.hM
  obtain ⟨h4, hm, -⟩ := hW.1
  unfold sp_traitor at hQ
  refine aw_iload_n rfl dX12_traitor_0 ?_
  refine aw_iconst (v := 1) (by decide) dX12_traitor_1 ?_
  refine aw_bipush (v := 60) (by decide) dX12_traitor_2 ?_
  refine aw_s3 kX12_52 ⟨ble rfl, ble rfl⟩ (ble rfl) dX12_traitor_4 (k_in1 ?_)
  refine aw_zne 16 rfl dX12_traitor_7 (fun c => ?_) (fun c => ?_)
  · rw [c] at hQ
    obtain ⟨k, hk1, hk, hx⟩ := in1_t (a := 1) (b := 60) (by decide) (by decide) c
    have hix : ix t = k := by rw [hx]; exact ix_nI (by omega)
    rw [hix] at hQ
    simp only [if_true] at hQ
    refine aw_aload_n rfl dX12_traitor_16 ?_
    refine aw_v0 kX12_145 ⟨ble rfl, ble rfl⟩ (rcM) (ble rfl) dX12_traitor_17 (k_setsAside hM hs ?_)
    refine aw_aload_n rfl dX12_traitor_20 ?_
    refine aw_iconst (v := 1) (by decide) dX12_traitor_21 ?_
    refine aw_iload_n rfl dX12_traitor_22 ?_
    refine aw_v2 kX12_148 ⟨ble rfl, ble rfl⟩ (rcM) (ble rfl) dX12_traitor_23 (k_towardsBy (s := S.1) (a := S.1) hM (by rw [rowI_ne _ _ (by decide)]; exact hs) (rowI_get _ _ _) h4 hm hx (by omega) ?_)
    have h0 := (h.asd S.1).row' (s := S.1) rfl
    generalize rowI (rowI μ 74 S.1) 72 S.1 = μ1 at h0 ⊢
    generalize hT : bestF _ _ _ = T at hQ
    have loop : ∀ j i (ν : Mem), i + j = mny S.1 → MJ μ0 ν S → AW Sc mX12_traitor 35 [(0, .ref 71), (1, .int t), (2, .int (goesN (mny S.1) k S.1 1)), (3, .int (oI (bestF (fun _ => true) (trV S.1 k) i))), (4, .int (oM (bestF (fun _ => true) (trV S.1 k) i))), (5, .int (nI i))] [] K0 ν n Q := by
      intro j
      induction j with
      | zero =>
        intro i ν hi h'
        have hM := h'.hM
        refine aw_iload rfl dX12_traitor_35 ?_
        refine aw_aload_n rfl dX12_traitor_37 ?_
        refine aw_getR gX12_9_12 kM rfl (hM.s) dX12_traitor_38 ?_
        refine aw_iconst (v := 4) (by decide) dX12_traitor_41 ?_
        refine aw_ialoadN kS (c := 4) rfl (by decide) (by decide) dX12_traitor_42 ?_
        rw [h'.hs, h4]
        refine aw_icmp_ge 127 rfl dX12_traitor_43 (fun _ => ?_) (fun c_ => absurd (nI_le (by omega) (by omega)) c_)
        rw [show i = mny S.1 by omega, hT]
        refine aw_iload_n rfl dX12_traitor_127 ?_
        cases T with
        | none =>
          refine aw_if_ge 139 rfl dX12_traitor_128 (fun c_ => absurd c_ ((by decide))) (fun _ => ?_)
          refine aw_aload_n rfl dX12_traitor_131 ?_
          refine aw_iconst (v := 3) (by decide) dX12_traitor_132 ?_
          refine aw_v1 kX12_118 ⟨ble rfl, ble rfl⟩ (rcM) (ble rfl) dX12_traitor_133 (q_no h' (k := 3) rfl (by decide) (fun μ' h' => ?_))
          refine aw_goto 140 rfl dX12_traitor_136 ?_
          refine aw_iret dX12_traitor_140 rfl ?_
          exact hQ μ' h'
        | some q =>
          have hq := bestF_lt hT
          refine aw_if_ge 139 rfl dX12_traitor_128 (fun _ => ?_) (fun c_ => absurd (nI_pos' (by omega)) c_)
          refine aw_iload_n rfl dX12_traitor_139 ?_
          refine aw_iret dX12_traitor_140 rfl ?_
          exact hQ _ h'
      | succ j ih =>
        intro i ν hi h'
        have hs' := h'.hs
        have hM := h'.hM
        refine aw_iload rfl dX12_traitor_35 ?_
        refine aw_aload_n rfl dX12_traitor_37 ?_
        refine aw_getR gX12_9_12 kM rfl (hM.s) dX12_traitor_38 ?_
        refine aw_iconst (v := 4) (by decide) dX12_traitor_41 ?_
        refine aw_ialoadN kS (c := 4) rfl (by decide) (by decide) dX12_traitor_42 ?_
        rw [hs', h4]
        refine aw_icmp_ge 127 rfl dX12_traitor_43 (fun c_ => absurd c_ (nI_ge (by omega) (by omega))) (fun _ => ?_)
        have ih' := fun ν => ih (i + 1) ν (by omega)
        rw [bestF] at ih'
        simp only [if_true] at ih'
        have hv := absd_pos (goes_rng (m := mny S.1) hk1 (upd S.1 (5 + 5 * i + 1) (1 - S.1 (5 + 5 * i + 1)))) (goes_rng (m := mny S.1) hk1 S.1)
        generalize hB : bestF (fun _ => true) (trV S.1 k) i = B at ih' ⊢
        refine aw_aload_n rfl dX12_traitor_46 ?_
        refine aw_v0 kX12_145 ⟨ble rfl, ble rfl⟩ (rcM) (ble rfl) dX12_traitor_47 (k_setsAside hM hs' ?_)
        refine aw_aload_n rfl dX12_traitor_50 ?_
        refine aw_iload rfl dX12_traitor_51 ?_
        refine aw_iconst (v := 1) (by decide) dX12_traitor_53 ?_
        refine aw_iconst (v := 1) (by decide) dX12_traitor_54 ?_
        refine aw_aload_n rfl dX12_traitor_55 ?_
        refine aw_iload rfl dX12_traitor_56 ?_
        refine aw_iconst (v := 1) (by decide) dX12_traitor_58 ?_
        refine aw_v2 kX12_60 ⟨ble rfl, ble rfl⟩ (rcM) (ble rfl) dX12_traitor_59 (g_get (s := S.1) hM (by rw [rowI_ne _ _ (by decide)]; exact hs') (k := i) rfl (j := 1) rfl (by omega) (by decide) ?_)
        refine aw_isub dX12_traitor_62 ?_
        refine aw_v3 kX12_88 ⟨ble rfl, ble rfl⟩ (rcM) (ble rfl) dX12_traitor_63 (g_puts (s := S.1) hM (by rw [rowI_ne _ _ (by decide)]; exact hs') (k := i) rfl (j := 1) rfl (by omega) (by decide) ?_)
        refine aw_aload_n rfl dX12_traitor_66 ?_
        refine aw_iconst (v := 1) (by decide) dX12_traitor_67 ?_
        refine aw_iload_n rfl dX12_traitor_68 ?_
        refine aw_v2 kX12_148 ⟨ble rfl, ble rfl⟩ (rcM) (ble rfl) dX12_traitor_69 (k_towardsBy (a := S.1) hM (rowI_get _ _ _) (by rw [rowI_ne _ _ (by decide), rowI_get]) (by rw [upd_ne (by omega)]; exact h4) hm hx (by omega) ?_)
        refine aw_iload_n rfl dX12_traitor_72 ?_
        refine aw_isub dX12_traitor_73 ?_
        refine aw_istore (ble rfl) dX12_traitor_74 ?_
        rw [rowI_rowI]
        have h2 := (h'.asd S.1).row' (s := S.1) rfl
        generalize rowI (rowI ν 74 S.1) 72 S.1 = ν2 at h2 ⊢
        have fin : AW Sc mX12_traitor 89 [(0, .ref 71), (1, .int t), (2, .int (goesN (mny S.1) k S.1 1)), (3, .int (oI B)), (4, .int (oM B)), (5, .int (nI i)), (6, .int (goesN (mny S.1) k (upd S.1 (5 + 5 * i + 1) (1 - S.1 (5 + 5 * i + 1))) 1 - goesN (mny S.1) k S.1 1))] [.int (trV S.1 k i)] K0 ν2 n Q := by
          have hv : (0 : Int) ≤ (trV S.1 k i).toInt ∧ (trV S.1 k i).toInt ≤ 19998 := hv
          generalize trV S.1 k i = v at ih' hv ⊢
          refine aw_istore (ble rfl) dX12_traitor_89 ?_
          refine aw_iload rfl dX12_traitor_91 ?_
          refine aw_iload rfl dX12_traitor_93 ?_
          have yes : oM B < v → stepB B i v = some (i, v) → AW Sc mX12_traitor 98 [(0, .ref 71), (1, .int t), (2, .int (goesN (mny S.1) k S.1 1)), (3, .int (oI B)), (4, .int (oM B)), (5, .int (nI i)), (6, .int v)] [] K0 ν2 n Q := by
            intro e1 e
            rw [e] at ih'
            refine aw_iload rfl dX12_traitor_98 ?_
            refine aw_goto 104 rfl dX12_traitor_100 ?_
            refine aw_istore_n (ble rfl) dX12_traitor_104 ?_
            refine aw_iload rfl dX12_traitor_105 ?_
            refine aw_iload rfl dX12_traitor_107 ?_
            refine aw_icmp_le 117 rfl dX12_traitor_109 (fun c_ => absurd c_ (Int32.not_le.mpr e1)) (fun _ => ?_)
            refine aw_iload rfl dX12_traitor_112 ?_
            refine aw_goto 119 rfl dX12_traitor_114 ?_
            refine aw_istore (ble rfl) dX12_traitor_119 ?_
            refine aw_iinc rfl (v := 1) (by decide) (ble rfl) dX12_traitor_121 ?_
            refine aw_goto 35 rfl dX12_traitor_124 ?_
            refine aw_keep [0, 1, 2, 3, 4, 5] ?_
            rw [nI_1]
            exact ih' ν2 h2
          cases B with
          | none =>
            have e1 : (-1 : Int32) < v := (fa_lt _ _).mpr (by rw [show ((-1 : Int32)).toInt = -1 by decide]; omega)
            refine aw_icmp_le 103 rfl dX12_traitor_95 (fun c_ => absurd c_ (Int32.not_le.mpr e1)) (fun _ => ?_)
            exact yes e1 rfl
          | some q =>
            refine aw_icmp_le 103 rfl dX12_traitor_95 (fun c5 => ?_) (fun c5 => ?_)
            · have e : stepB (some q) i v = some q := if_neg (Int32.not_lt.mpr c5)
              rw [e] at ih'
              refine aw_iload_n rfl dX12_traitor_103 ?_
              refine aw_istore_n (ble rfl) dX12_traitor_104 ?_
              refine aw_iload rfl dX12_traitor_105 ?_
              refine aw_iload rfl dX12_traitor_107 ?_
              refine aw_icmp_le 117 rfl dX12_traitor_109 (fun _ => ?_) (fun c_ => absurd (c5) c_)
              refine aw_iload rfl dX12_traitor_117 ?_
              refine aw_istore (ble rfl) dX12_traitor_119 ?_
              refine aw_iinc rfl (v := 1) (by decide) (ble rfl) dX12_traitor_121 ?_
              refine aw_goto 35 rfl dX12_traitor_124 ?_
              refine aw_keep [0, 1, 2, 3, 4, 5] ?_
              rw [nI_1]
              exact ih' ν2 h2
            · exact yes (Int32.not_le.mp c5) (if_pos (Int32.not_le.mp c5))
        refine aw_iload rfl dX12_traitor_76 ?_
        refine aw_if_ge 87 rfl dX12_traitor_78 (fun c6 => ?_) (fun c6 => ?_)
        · refine aw_iload rfl dX12_traitor_87 ?_
          have e : trV S.1 k i = goesN (mny S.1) k (upd S.1 (5 + 5 * i + 1) (1 - S.1 (5 + 5 * i + 1))) 1 - goesN (mny S.1) k S.1 1 := if_neg (Int32.not_lt.mpr c6)
          rw [e] at fin
          exact fin
        · refine aw_iload rfl dX12_traitor_81 ?_
          refine aw_ineg dX12_traitor_83 ?_
          refine aw_goto 89 rfl dX12_traitor_84 ?_
          have e : trV S.1 k i = -(goesN (mny S.1) k (upd S.1 (5 + 5 * i + 1) (1 - S.1 (5 + 5 * i + 1))) 1 - goesN (mny S.1) k S.1 1) := if_pos (Int32.not_le.mp c6)
          rw [e] at fin
          exact fin
    refine aw_istore_n (ble rfl) dX12_traitor_26 ?_
    refine aw_iconst (v := (-1)) (by decide) dX12_traitor_27 ?_
    refine aw_istore_n (ble rfl) dX12_traitor_28 ?_
    refine aw_iconst (v := (-1)) (by decide) dX12_traitor_29 ?_
    refine aw_istore (ble rfl) dX12_traitor_30 ?_
    refine aw_iconst (v := 0) (by decide) dX12_traitor_32 ?_
    refine aw_istore (ble rfl) dX12_traitor_33 ?_
    exact loop (mny S.1) 0 μ1 (by omega) h0
  · rw [c] at hQ
    refine aw_aload_n rfl dX12_traitor_10 ?_
    refine aw_iconst (v := 0) (by decide) dX12_traitor_11 ?_
    refine aw_v1 kX12_118 ⟨ble rfl, ble rfl⟩ (rcM) (ble rfl) dX12_traitor_12 (q_no h rfl (by decide) (fun μ' h' => ?_))
    refine aw_iret dX12_traitor_15 rfl ?_
    exact hQ μ' h'
theorem k_ones {a : Nat} {x : Int32} (hx : x = nI a) (ha : a < 1024) (hQ : Q (some (.int (nI (kern 11 a)))) K0 μ) : AM Sc mX12_ones [.int x] K0 μ n Q := by
  subst hx
  refine AM.of rfl (ble rfl) ?_
  have loop : ∀ f b r, b < 1024 → kernD f b = true → r + kern f b = kern 11 a → AW Sc mX12_ones 4 [(0, .int (nI a)), (1, .int (nI r)), (2, .int (nI b))] [] K0 μ n Q := by
    intro f
    induction f with
    | zero =>
      intro b r hb hd hr
      have hb0 : b = 0 := by simpa [kernD] using hd
      subst hb0
      refine aw_iload_n rfl dX12_ones_4 ?_
      refine aw_if_eq 20 rfl dX12_ones_5 (fun _ => ?_) (fun c_ => absurd (rfl) c_)
      refine aw_iload_n rfl dX12_ones_20 ?_
      refine aw_iret dX12_ones_21 rfl ?_
      have hr : r = kern 11 a := hr
      rw [hr]
      exact hQ
    | succ f ih =>
      intro b r hb hd hr
      have hr : r + (if b = 0 then 0 else kern f (b &&& (b - 1)) + 1) = kern 11 a := hr
      refine aw_iload_n rfl dX12_ones_4 ?_
      by_cases hb0 : b = 0
      · subst hb0
        refine aw_if_eq 20 rfl dX12_ones_5 (fun _ => ?_) (fun c_ => absurd (rfl) c_)
        refine aw_iload_n rfl dX12_ones_20 ?_
        refine aw_iret dX12_ones_21 rfl ?_
        have hr : r = kern 11 a := hr
        rw [hr]
        exact hQ
      · rw [if_neg hb0] at hr
        have hd2 : kernD f (b &&& (b - 1)) = true := by
          unfold kernD at hd
          rcases Bool.or_eq_true_iff.mp hd with q | q
          · exact absurd (by simpa using q) hb0
          · exact q
        refine aw_if_eq 20 rfl dX12_ones_5 (fun c_ => absurd c_ (nI_ne0 (by omega) (by omega))) (fun _ => ?_)
        refine aw_iinc rfl (v := 1) (by decide) (ble rfl) dX12_ones_8 ?_
        refine aw_iload_n rfl dX12_ones_11 ?_
        refine aw_iload_n rfl dX12_ones_12 ?_
        refine aw_iconst (v := 1) (by decide) dX12_ones_13 ?_
        refine aw_isub dX12_ones_14 ?_
        refine aw_iand dX12_ones_15 ?_
        refine aw_istore_n (ble rfl) dX12_ones_16 ?_
        refine aw_goto 4 rfl dX12_ones_17 ?_
        have e : nI b &&& (nI b - 1) = nI (b &&& (b - 1)) := by
          obtain ⟨c, rfl⟩ : ∃ c, b = c + 1 := ⟨b - 1, by omega⟩
          rw [nI_pred, fa_and]
          rfl
        rw [e, nI_1]
        exact ih (b &&& (b - 1)) (r + 1) (Nat.lt_of_le_of_lt Nat.and_le_left hb) hd2 (by omega)
  refine aw_iconst (v := 0) (by decide) dX12_ones_0 ?_
  refine aw_istore_n (ble rfl) dX12_ones_1 ?_
  refine aw_iload_n rfl dX12_ones_2 ?_
  refine aw_istore_n (ble rfl) dX12_ones_3 ?_
  exact loop 11 a 0 ha (kern_all a ha) (Nat.zero_add _)
theorem q_fewest {d : Int32} (h : MJ μ0 μ S) (hW : WF S) (hQ : ∀ μ', MJ μ0 μ' (sp_fewest d S).2 → Q (some (.int (sp_fewest d S).1)) K0 μ') : AM Sc mX12_fewest [.ref 71, .int d] K0 μ n Q := by
  refine AM.of rfl (ble rfl) ?_
  have hs := h.hs
  have hM := h.hM
  obtain ⟨h4, hm, -⟩ := hW.1
  have h4' : μ.1 72 4 = nI (mny S.1) := by rw [hs]; exact h4
  unfold sp_fewest at hQ
  refine aw_iload_n rfl dX12_fewest_0 ?_
  refine aw_s1 kX12_127 ⟨ble rfl, ble rfl⟩ (ble rfl) dX12_fewest_1 (k_isSide ?_)
  refine aw_zne 13 rfl dX12_fewest_4 (fun c => ?_) (fun c => ?_)
  · rw [c] at hQ
    simp only [if_true] at hQ
    generalize hT : bestF _ _ _ = T at hQ
    have hp := pow10 _ hm
    have main : ∀ j i, i + j = 2 ^ mny S.1 → AW Sc mX12_fewest 83 [(0, .ref 71), (1, .int d), (2, .int (offS S.1 d (mny S.1))), (3, .int (sideP S.1 d (mny S.1))), (4, .int (sideP S.1 (1 - d) (mny S.1))), (5, .int (oI (bestF (fwOk S.1 d (mny S.1)) fwV i))), (6, .int (nI i))] [] K0 μ n Q := by
      intro j
      induction j with
      | zero =>
        intro i hi
        refine aw_iload rfl dX12_fewest_83 ?_
        refine aw_iconst (v := 1) (by decide) dX12_fewest_85 ?_
        refine aw_aload_n rfl dX12_fewest_86 ?_
        refine aw_getR gX12_9_12 kM rfl (hM.s) dX12_fewest_87 ?_
        refine aw_iconst (v := 4) (by decide) dX12_fewest_90 ?_
        refine aw_ialoadN kS (c := 4) rfl (by decide) (by decide) dX12_fewest_91 ?_
        refine aw_ishl dX12_fewest_92 ?_
        rw [h4', shl1 _ hm]
        refine aw_icmp_ge 194 rfl dX12_fewest_93 (fun _ => ?_) (fun c_ => absurd (nI_le (by omega) (by omega)) c_)
        rw [show i = 2 ^ mny S.1 by omega, hT]
        refine aw_iload rfl dX12_fewest_194 ?_
        cases T with
        | none =>
          refine aw_if_ge 207 rfl dX12_fewest_196 (fun c_ => absurd c_ ((by decide))) (fun _ => ?_)
          refine aw_aload_n rfl dX12_fewest_199 ?_
          refine aw_iconst (v := 3) (by decide) dX12_fewest_200 ?_
          refine aw_v1 kX12_118 ⟨ble rfl, ble rfl⟩ (rcM) (ble rfl) dX12_fewest_201 (q_no h (k := 3) rfl (by decide) (fun μ' h' => ?_))
          refine aw_goto 209 rfl dX12_fewest_204 ?_
          refine aw_iret dX12_fewest_209 rfl ?_
          exact hQ μ' h'
        | some q =>
          have hq := bestF_lt hT
          refine aw_if_ge 207 rfl dX12_fewest_196 (fun _ => ?_) (fun c_ => absurd (nI_pos' (by omega)) c_)
          refine aw_iload rfl dX12_fewest_207 ?_
          refine aw_iret dX12_fewest_209 rfl ?_
          exact hQ _ h
      | succ j ih =>
        intro i hi
        refine aw_iload rfl dX12_fewest_83 ?_
        refine aw_iconst (v := 1) (by decide) dX12_fewest_85 ?_
        refine aw_aload_n rfl dX12_fewest_86 ?_
        refine aw_getR gX12_9_12 kM rfl (hM.s) dX12_fewest_87 ?_
        refine aw_iconst (v := 4) (by decide) dX12_fewest_90 ?_
        refine aw_ialoadN kS (c := 4) rfl (by decide) (by decide) dX12_fewest_91 ?_
        refine aw_ishl dX12_fewest_92 ?_
        rw [h4', shl1 _ hm]
        refine aw_icmp_ge 194 rfl dX12_fewest_93 (fun c_ => absurd c_ (nI_ge (by omega) (by omega))) (fun _ => ?_)
        have ih' := ih (i + 1) (by omega)
        rw [bestF] at ih'
        generalize hB : bestF (fwOk S.1 d (mny S.1)) fwV i = B at ih' ⊢
        have skip : (if fwOk S.1 d (mny S.1) i = true then stepB B i (fwV i) else B) = B → AW Sc mX12_fewest 188 [(0, .ref 71), (1, .int d), (2, .int (offS S.1 d (mny S.1))), (3, .int (sideP S.1 d (mny S.1))), (4, .int (sideP S.1 (1 - d) (mny S.1))), (5, .int (oI B)), (6, .int (nI i))] [] K0 μ n Q := by
          intro e
          rw [e] at ih'
          refine aw_iinc rfl (v := 1) (by decide) (ble rfl) dX12_fewest_188 ?_
          refine aw_goto 83 rfl dX12_fewest_191 ?_
          rw [nI_1]
          exact ih'
        refine aw_iload rfl dX12_fewest_96 ?_
        refine aw_iload_n rfl dX12_fewest_98 ?_
        refine aw_iconst (v := (-1)) (by decide) dX12_fewest_99 ?_
        refine aw_ixor dX12_fewest_100 ?_
        refine aw_iand dX12_fewest_101 ?_
        refine aw_if_ne 188 rfl dX12_fewest_102 (fun c2 => ?_) (fun c2 => ?_)
        · exact skip (if_neg (by rw [fwOk, decide_eq_false c2, Bool.false_and]; decide))
        · have sums : (stepB B i (fwV i) = some (i, fwV i)) → AW Sc mX12_fewest 123 [(0, .ref 71), (1, .int d), (2, .int (offS S.1 d (mny S.1))), (3, .int (sideP S.1 d (mny S.1))), (4, .int (sideP S.1 (1 - d) (mny S.1))), (5, .int (oI B)), (6, .int (nI i))] [] K0 μ n Q := by
            intro hst
            have inner : ∀ j2 i2, i2 + j2 = mny S.1 → AW Sc mX12_fewest 129 [(0, .ref 71), (1, .int d), (2, .int (offS S.1 d (mny S.1))), (3, .int (sideP S.1 d (mny S.1))), (4, .int (sideP S.1 (1 - d) (mny S.1))), (5, .int (oI B)), (6, .int (nI i)), (7, .int (sumF S.1 (nI i) (sideP S.1 d (mny S.1)) i2)), (8, .int (nI i2))] [] K0 μ n Q := by
              intro j2
              induction j2 with
              | zero =>
                intro i2 hi2
                refine aw_iload rfl dX12_fewest_129 ?_
                refine aw_aload_n rfl dX12_fewest_131 ?_
                refine aw_getR gX12_9_12 kM rfl (hM.s) dX12_fewest_132 ?_
                refine aw_iconst (v := 4) (by decide) dX12_fewest_135 ?_
                refine aw_ialoadN kS (c := 4) rfl (by decide) (by decide) dX12_fewest_136 ?_
                rw [h4']
                refine aw_icmp_ge 172 rfl dX12_fewest_137 (fun _ => ?_) (fun c_ => absurd (nI_le (by omega) (by omega)) c_)
                obtain rfl : i2 = mny S.1 := by omega
                refine aw_iload rfl dX12_fewest_172 ?_
                refine aw_iload rfl dX12_fewest_174 ?_
                refine aw_icmp_le 184 rfl dX12_fewest_176 (fun c4 => ?_) (fun c4 => ?_)
                · refine aw_iload rfl dX12_fewest_184 ?_
                  refine aw_istore (ble rfl) dX12_fewest_186 ?_
                  refine aw_keep [0, 1, 2, 3, 4, 5, 6] ?_
                  exact skip (if_neg (by rw [fwOk, decide_eq_false (Int32.not_lt.mpr c4), Bool.and_false]; decide))
                · rw [if_pos (by rw [fwOk, decide_eq_true c2, decide_eq_true (Int32.not_le.mp c4)]; rfl), hst] at ih'
                  refine aw_iload rfl dX12_fewest_179 ?_
                  refine aw_goto 186 rfl dX12_fewest_181 ?_
                  refine aw_istore (ble rfl) dX12_fewest_186 ?_
                  refine aw_iinc rfl (v := 1) (by decide) (ble rfl) dX12_fewest_188 ?_
                  refine aw_goto 83 rfl dX12_fewest_191 ?_
                  refine aw_keep [0, 1, 2, 3, 4, 5, 6] ?_
                  rw [nI_1]
                  exact ih'
              | succ j2 ih2 =>
                intro i2 hi2
                have back : ∀ y : Int32, (if (nI i >>> (nI i2 &&& 31)) &&& 1 = 1 then pulls S.1 i2 else 0) = y → AW Sc mX12_fewest 163 [(0, .ref 71), (1, .int d), (2, .int (offS S.1 d (mny S.1))), (3, .int (sideP S.1 d (mny S.1))), (4, .int (sideP S.1 (1 - d) (mny S.1))), (5, .int (oI B)), (6, .int (nI i)), (7, .int (sumF S.1 (nI i) (sideP S.1 d (mny S.1)) i2)), (8, .int (nI i2))] [.int y, .int (sumF S.1 (nI i) (sideP S.1 d (mny S.1)) i2)] K0 μ n Q := by
                  intro y hy
                  refine aw_iadd dX12_fewest_163 ?_
                  refine aw_istore (ble rfl) dX12_fewest_164 ?_
                  refine aw_iinc rfl (v := 1) (by decide) (ble rfl) dX12_fewest_166 ?_
                  refine aw_goto 129 rfl dX12_fewest_169 ?_
                  rw [nI_1]
                  have := ih2 (i2 + 1) (by omega)
                  rw [sumF, hy] at this
                  exact this
                refine aw_iload rfl dX12_fewest_129 ?_
                refine aw_aload_n rfl dX12_fewest_131 ?_
                refine aw_getR gX12_9_12 kM rfl (hM.s) dX12_fewest_132 ?_
                refine aw_iconst (v := 4) (by decide) dX12_fewest_135 ?_
                refine aw_ialoadN kS (c := 4) rfl (by decide) (by decide) dX12_fewest_136 ?_
                rw [h4']
                refine aw_icmp_ge 172 rfl dX12_fewest_137 (fun c_ => absurd c_ (nI_ge (by omega) (by omega))) (fun _ => ?_)
                refine aw_iload rfl dX12_fewest_140 ?_
                refine aw_iload rfl dX12_fewest_142 ?_
                refine aw_iload rfl dX12_fewest_144 ?_
                refine aw_ishr dX12_fewest_146 ?_
                refine aw_iconst (v := 1) (by decide) dX12_fewest_147 ?_
                refine aw_iand dX12_fewest_148 ?_
                refine aw_iconst (v := 1) (by decide) dX12_fewest_149 ?_
                refine aw_icmp_ne 162 rfl dX12_fewest_150 (fun c4 => ?_) (fun c4 => ?_)
                · refine aw_iconst (v := 0) (by decide) dX12_fewest_162 ?_
                  exact back 0 (if_neg c4)
                · refine aw_aload_n rfl dX12_fewest_153 ?_
                  refine aw_iload rfl dX12_fewest_154 ?_
                  refine aw_v1 kX12_74 ⟨ble rfl, ble rfl⟩ (rcM) (ble rfl) dX12_fewest_156 (k_pullsOf hM hs rfl (by omega) ?_)
                  refine aw_goto 163 rfl dX12_fewest_159 ?_
                  exact back _ (if_pos c4)
            refine aw_iload_n rfl dX12_fewest_123 ?_
            refine aw_istore (ble rfl) dX12_fewest_124 ?_
            refine aw_iconst (v := 0) (by decide) dX12_fewest_126 ?_
            refine aw_istore (ble rfl) dX12_fewest_127 ?_
            exact inner (mny S.1) 0 (by omega)
          refine aw_iload rfl dX12_fewest_105 ?_
          cases B with
          | none =>
            refine aw_if_lt 123 rfl dX12_fewest_107 (fun _ => ?_) (fun c_ => absurd ((by decide)) c_)
            exact sums rfl
          | some q =>
            have hq := bestF_lt hB
            have hw := bestF_val hB
            refine aw_if_lt 123 rfl dX12_fewest_107 (fun c_ => absurd c_ (nI_pos (by omega))) (fun _ => ?_)
            refine aw_iload rfl dX12_fewest_110 ?_
            refine aw_s1 kX12_151 ⟨ble rfl, ble rfl⟩ (ble rfl) dX12_fewest_112 (k_ones rfl (by omega) ?_)
            refine aw_iload rfl dX12_fewest_115 ?_
            refine aw_s1 kX12_151 ⟨ble rfl, ble rfl⟩ (ble rfl) dX12_fewest_117 (k_ones (a := q.1) rfl (by omega) ?_)
            have kl := kern_le 11 i
            have kl2 := kern_le 11 q.1
            have cmp : q.2 < fwV i ↔ kern 11 i < kern 11 q.1 := by
              rw [hw, fwV, fwV]
              exact sb_nlt (by omega) (by omega)
            refine aw_icmp_ge 188 rfl dX12_fewest_120 (fun c5 => ?_) (fun c5 => ?_)
            · have c6 := (nI_leI (by omega) (by omega)).mp c5
              refine skip ?_
              have e : stepB (some q) i (fwV i) = some q := if_neg (fun z => by have := cmp.mp z; omega)
              rw [e]
              split <;> rfl
            · have c6 : ¬ kern 11 q.1 ≤ kern 11 i := fun z => c5 (nI_le z (by omega))
              exact sums (if_pos (cmp.mpr (by omega)))
    have mayL : ∀ j i, i + j = mny S.1 → AW Sc mX12_fewest 17 [(0, .ref 71), (1, .int d), (2, .int (offS S.1 d i)), (3, .int (nI i))] [] K0 μ n Q := by
      intro j
      induction j with
      | zero =>
        intro i hi
        refine aw_iload_n rfl dX12_fewest_17 ?_
        refine aw_aload_n rfl dX12_fewest_18 ?_
        refine aw_getR gX12_9_12 kM rfl (hM.s) dX12_fewest_19 ?_
        refine aw_iconst (v := 4) (by decide) dX12_fewest_22 ?_
        refine aw_ialoadN kS (c := 4) rfl (by decide) (by decide) dX12_fewest_23 ?_
        rw [h4']
        refine aw_icmp_ge 62 rfl dX12_fewest_24 (fun _ => ?_) (fun c_ => absurd (nI_le (by omega) (by omega)) c_)
        obtain rfl : i = mny S.1 := by omega
        refine aw_aload_n rfl dX12_fewest_62 ?_
        refine aw_iload_n rfl dX12_fewest_63 ?_
        refine aw_v1 kX12_78 ⟨ble rfl, ble rfl⟩ (rcM) (ble rfl) dX12_fewest_64 (k_sidePulls hM hs h4 hm ?_)
        refine aw_istore_n (ble rfl) dX12_fewest_67 ?_
        refine aw_aload_n rfl dX12_fewest_68 ?_
        refine aw_iconst (v := 1) (by decide) dX12_fewest_69 ?_
        refine aw_iload_n rfl dX12_fewest_70 ?_
        refine aw_isub dX12_fewest_71 ?_
        refine aw_v1 kX12_78 ⟨ble rfl, ble rfl⟩ (rcM) (ble rfl) dX12_fewest_72 (k_sidePulls hM hs h4 hm ?_)
        refine aw_istore (ble rfl) dX12_fewest_75 ?_
        refine aw_iconst (v := (-1)) (by decide) dX12_fewest_77 ?_
        refine aw_istore (ble rfl) dX12_fewest_78 ?_
        refine aw_iconst (v := 0) (by decide) dX12_fewest_80 ?_
        refine aw_istore (ble rfl) dX12_fewest_81 ?_
        exact main (2 ^ mny S.1) 0 (by omega)
      | succ j ih =>
        intro i hi
        have back : ∀ y : Int32, (if S.1 (5 + 5 * i + 1) = d ∧ S.1 (5 + 5 * i + 2) = 0 then (1 : Int32) <<< (nI i &&& 31) else 0) = y → AW Sc mX12_fewest 54 [(0, .ref 71), (1, .int d), (2, .int (offS S.1 d i)), (3, .int (nI i))] [.int y, .int (offS S.1 d i)] K0 μ n Q := by
          intro y hy
          refine aw_ior dX12_fewest_54 ?_
          refine aw_istore_n (ble rfl) dX12_fewest_55 ?_
          refine aw_iinc rfl (v := 1) (by decide) (ble rfl) dX12_fewest_56 ?_
          refine aw_goto 17 rfl dX12_fewest_59 ?_
          rw [nI_1]
          have := ih (i + 1) (by omega)
          rw [offS, hy] at this
          exact this
        refine aw_iload_n rfl dX12_fewest_17 ?_
        refine aw_aload_n rfl dX12_fewest_18 ?_
        refine aw_getR gX12_9_12 kM rfl (hM.s) dX12_fewest_19 ?_
        refine aw_iconst (v := 4) (by decide) dX12_fewest_22 ?_
        refine aw_ialoadN kS (c := 4) rfl (by decide) (by decide) dX12_fewest_23 ?_
        rw [h4']
        refine aw_icmp_ge 62 rfl dX12_fewest_24 (fun c_ => absurd c_ (nI_ge (by omega) (by omega))) (fun _ => ?_)
        refine aw_iload_n rfl dX12_fewest_27 ?_
        refine aw_aload_n rfl dX12_fewest_28 ?_
        refine aw_iload_n rfl dX12_fewest_29 ?_
        refine aw_iconst (v := 1) (by decide) dX12_fewest_30 ?_
        refine aw_v2 kX12_60 ⟨ble rfl, ble rfl⟩ (rcM) (ble rfl) dX12_fewest_31 (g_get hM hs rfl (j := 1) rfl (by omega) (by decide) ?_)
        refine aw_iload_n rfl dX12_fewest_34 ?_
        refine aw_icmp_ne 53 rfl dX12_fewest_35 (fun c2 => ?_) (fun c2 => ?_)
        · refine aw_iconst (v := 0) (by decide) dX12_fewest_53 ?_
          exact back 0 (if_neg (fun q => c2 q.1))
        · refine aw_aload_n rfl dX12_fewest_38 ?_
          refine aw_iload_n rfl dX12_fewest_39 ?_
          refine aw_iconst (v := 2) (by decide) dX12_fewest_40 ?_
          refine aw_v2 kX12_60 ⟨ble rfl, ble rfl⟩ (rcM) (ble rfl) dX12_fewest_41 (g_get hM hs rfl (j := 2) rfl (by omega) (by decide) ?_)
          refine aw_if_ne 53 rfl dX12_fewest_44 (fun c3 => ?_) (fun c3 => ?_)
          · refine aw_iconst (v := 0) (by decide) dX12_fewest_53 ?_
            exact back 0 (if_neg (fun q => c3 q.2))
          · refine aw_iconst (v := 1) (by decide) dX12_fewest_47 ?_
            refine aw_iload_n rfl dX12_fewest_48 ?_
            refine aw_ishl dX12_fewest_49 ?_
            refine aw_goto 54 rfl dX12_fewest_50 ?_
            exact back _ (if_pos ⟨c2, c3⟩)
    refine aw_iconst (v := 0) (by decide) dX12_fewest_13 ?_
    refine aw_istore_n (ble rfl) dX12_fewest_14 ?_
    refine aw_iconst (v := 0) (by decide) dX12_fewest_15 ?_
    refine aw_istore_n (ble rfl) dX12_fewest_16 ?_
    exact mayL (mny S.1) 0 (by omega)
  · rw [c] at hQ
    refine aw_aload_n rfl dX12_fewest_7 ?_
    refine aw_iconst (v := 0) (by decide) dX12_fewest_8 ?_
    refine aw_v1 kX12_118 ⟨ble rfl, ble rfl⟩ (rcM) (ble rfl) dX12_fewest_9 (q_no h rfl (by decide) (fun μ' h' => ?_))
    refine aw_iret dX12_fewest_12 rfl ?_
    exact hQ μ' h'
end Pub5
