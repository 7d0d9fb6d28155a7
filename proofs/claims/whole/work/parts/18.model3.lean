/-! THE MODEL, 3: letting go, sums, the day -/
def held (v a b : Int32) : Int32 := if v < a then a else if b < v then b else v
def sideP (s : Nat → Int32) (x : Int32) : Nat → Int32
  | 0 => 0
  | k + 1 => sideP s x k + (if s (5 + 5 * k + 1) = x ∧ s (5 + 5 * k + 2) = 1 then pulls s k else 0)
def knotG (m : Nat) (s : Nat → Int32) : Int32 :=
  let more := sideP s 1 m - sideP s 0 m
  let way := if more < 0 then -more - s 2 else more - s 2
  let far := if way < 0 then 0 else way
  held (s 1 + (if more < 0 then -far else far)) (-9999) 9999
def tiredS (s : Nat → Int32) (k : Nat) : Nat → Int32 := upd s (5 + 5 * k + 3) (held (s (5 + 5 * k + 3) + tires s k) 0 99)
def lives (s : Nat → Int32) (k : Nat) : Nat → Int32 :=
  if s (5 + 5 * k + 2) = 1 then upd (tiredS s k) (5 + 5 * k + 2) (if letsG (tiredS s k) k then 0 else 1)
  else upd s (5 + 5 * k + 3) (held (s (5 + 5 * k + 3) - 10) 0 99)
def livesAll (s : Nat → Int32) : Nat → (Nat → Int32)
  | 0 => s
  | k + 1 => lives (livesAll s k) k
def hasOn (s : Nat → Int32) (x : Int32) : Nat → Bool
  | 0 => false
  | k + 1 => hasOn s x k || (decide (s (5 + 5 * k + 1) = x) && decide (s (5 + 5 * k + 2) = 1))
def bst (s : Nat → Int32) (x : Int32) : Nat → Option Nat
  | 0 => none
  | k + 1 => if s (5 + 5 * k + 1) = x then (match bst s x k with
      | none => some k
      | some b => if s (5 + 5 * k + 3) < s (5 + 5 * b + 3) then some k else some b) else bst s x k
def comes (s : Nat → Int32) (x : Int32) (m : Nat) : Nat → Int32 := if hasOn s x m then s else match bst s x m with
  | none => s
  | some b => upd s (5 + 5 * b + 2) 1
def dayS (m : Nat) (s : Nat → Int32) : Nat → Int32 :=
  let t := comes (comes (livesAll (upd s 1 (knotG m s)) m) 0 m) 1 m
  upd t 0 (t 0 + 1)
def goesN (m : Nat) : Nat → (Nat → Int32) → (Nat → Int32)
  | 0, s => s
  | n + 1, s => goesN m n (dayS m s)
def optI (o : Option Nat) : Int32 := match o with
  | none => -1
  | some b => nI b
theorem bst_lt {s : Nat → Int32} {x : Int32} : ∀ {k b : Nat}, bst s x k = some b → b < k
  | 0, _, h => by cases h
  | k + 1, b, h => by
    unfold bst at h
    split at h
    · cases hb : bst s x k with
      | none => rw [hb] at h; cases h; omega
      | some c =>
        have hc := bst_lt hb
        rw [hb] at h
        dsimp only at h
        split at h <;> cases h <;> omega
    · have := bst_lt h
      omega
section Mod3
variable {Sc : SCR} {μ : Mem} {n : Nat × Nat} {Q : PQ} {s : Nat → Int32}
theorem k_letsGo {k : Nat} {x : Int32} (hM : MR μ.2.2) (hs : μ.1 72 = s) (hx : x = nI k) (hk : k < 10) (hQ : Q (some (.int (bI (letsG s k)))) K0 μ) : AM Sc mX12_letsGo [.ref 71, .int x] K0 μ n Q := by
  refine AM.of rfl (ble rfl) ?_
  refine aw_aload_n rfl dX12_letsGo_0 ?_
  refine aw_iload_n rfl dX12_letsGo_1 ?_
  refine aw_iconst (v := 3) (by decide) dX12_letsGo_2 ?_
  refine aw_v2 kX12_60 ⟨ble rfl, ble rfl⟩ (rcM) (ble rfl) dX12_letsGo_3 (g_get hM hs hx (j := 3) rfl hk (by decide) ?_)
  refine aw_istore_n (ble rfl) dX12_letsGo_6 ?_
  refine aw_aload_n rfl dX12_letsGo_7 ?_
  refine aw_iload_n rfl dX12_letsGo_8 ?_
  refine aw_iconst (v := 0) (by decide) dX12_letsGo_9 ?_
  refine aw_v2 kX12_60 ⟨ble rfl, ble rfl⟩ (rcM) (ble rfl) dX12_letsGo_10 (g_get hM hs hx (j := 0) rfl hk (by decide) ?_)
  show AW Sc mX12_letsGo 13 _ [.int (s (5 + 5 * k))] K0 μ n Q
  have e : ∀ b : Bool, letsG s k = b → Q (some (.int (bI b))) K0 μ := fun b h => by rw [← h]; exact hQ
  clear hQ
  unfold letsG at e
  rcases sw15 (s (5 + 5 * k)) with ⟨h, h1, h2, h3, h4, h5⟩ | h | h | h | h | h
  · refine aw_tabOut 142 (h) rfl dX12_letsGo_13 ?_
    simp only [h1, h2, h3, h4, h5, or_self, if_false] at e
    refine aw_iload_n rfl dX12_letsGo_142 ?_
    refine aw_bipush (v := 90) (by decide) dX12_letsGo_143 ?_
    refine aw_icmp_lt 152 rfl dX12_letsGo_145 (fun c => ?_) (fun c => ?_)
    · refine aw_iconst (v := 0) (by decide) dX12_letsGo_152 ?_
      exact aw_zret (b := false) rfl dX12_letsGo_153 rfl (e _ (decide_eq_false (Int32.not_le.mpr c)))
    · refine aw_iconst (v := 1) (by decide) dX12_letsGo_148 ?_
      refine aw_goto 153 rfl dX12_letsGo_149 ?_
      exact aw_zret (b := true) rfl dX12_letsGo_153 rfl (e _ (decide_eq_true (Int32.not_lt.mp c)))
  · rw [h] at e ⊢
    refine aw_tabIn 48 (by decide) (by decide) rfl rfl dX12_letsGo_13 ?_
    refine aw_iload_n rfl dX12_letsGo_48 ?_
    refine aw_bipush (v := 95) (by decide) dX12_letsGo_49 ?_
    refine aw_icmp_lt 58 rfl dX12_letsGo_51 (fun c => ?_) (fun c => ?_)
    · refine aw_iconst (v := 0) (by decide) dX12_letsGo_58 ?_
      exact aw_zret (b := false) rfl dX12_letsGo_59 rfl (e _ (decide_eq_false (Int32.not_le.mpr c)))
    · refine aw_iconst (v := 1) (by decide) dX12_letsGo_54 ?_
      refine aw_goto 59 rfl dX12_letsGo_55 ?_
      exact aw_zret (b := true) rfl dX12_letsGo_59 rfl (e _ (decide_eq_true (Int32.not_lt.mp c)))
  · rw [h] at e ⊢
    refine aw_tabIn 60 (by decide) (by decide) rfl rfl dX12_letsGo_13 ?_
    refine aw_iload_n rfl dX12_letsGo_60 ?_
    refine aw_bipush (v := 90) (by decide) dX12_letsGo_61 ?_
    refine aw_icmp_ge 73 rfl dX12_letsGo_63 (fun c => ?_) (fun c => ?_)
    · refine aw_iconst (v := 1) (by decide) dX12_letsGo_73 ?_
      refine aw_goto 78 rfl dX12_letsGo_74 ?_
      exact aw_zret (b := true) rfl dX12_letsGo_78 rfl (e _ (by simp [c]))
    · refine aw_aload_n rfl dX12_letsGo_66 ?_
      refine aw_v0 kX12_64 ⟨ble rfl, ble rfl⟩ (rcM) (ble rfl) dX12_letsGo_67 (k_isSunday hM hs ?_)
      refine aw_zeq 77 rfl dX12_letsGo_70 (fun c2 => ?_) (fun c2 => ?_)
      · refine aw_iconst (v := 0) (by decide) dX12_letsGo_77 ?_
        exact aw_zret (b := false) rfl dX12_letsGo_78 rfl (e _ (by simp [c, c2]))
      · refine aw_iconst (v := 1) (by decide) dX12_letsGo_73 ?_
        refine aw_goto 78 rfl dX12_letsGo_74 ?_
        exact aw_zret (b := true) rfl dX12_letsGo_78 rfl (e _ (by simp [c2]))
  · rw [h] at e ⊢
    refine aw_tabIn 79 (by decide) (by decide) rfl rfl dX12_letsGo_13 ?_
    refine aw_iload_n rfl dX12_letsGo_79 ?_
    refine aw_bipush (v := 90) (by decide) dX12_letsGo_80 ?_
    refine aw_icmp_ge 98 rfl dX12_letsGo_82 (fun c => ?_) (fun c => ?_)
    · refine aw_iconst (v := 1) (by decide) dX12_letsGo_98 ?_
      refine aw_goto 103 rfl dX12_letsGo_99 ?_
      exact aw_zret (b := true) rfl dX12_letsGo_103 rfl (e _ (by simp [c]))
    · refine aw_aload_n rfl dX12_letsGo_85 ?_
      refine aw_v0 kX12_68 ⟨ble rfl, ble rfl⟩ (rcM) (ble rfl) dX12_letsGo_86 (k_isHarvest hM hs ?_)
      refine aw_zne 102 rfl dX12_letsGo_89 (fun c2 => ?_) (fun c2 => ?_)
      · refine aw_iconst (v := 0) (by decide) dX12_letsGo_102 ?_
        exact aw_zret (b := false) rfl dX12_letsGo_103 rfl (e _ (by simp [c, c2]))
      · refine aw_iload_n rfl dX12_letsGo_92 ?_
        refine aw_bipush (v := 30) (by decide) dX12_letsGo_93 ?_
        refine aw_icmp_lt 102 rfl dX12_letsGo_95 (fun c3 => ?_) (fun c3 => ?_)
        · refine aw_iconst (v := 0) (by decide) dX12_letsGo_102 ?_
          exact aw_zret (b := false) rfl dX12_letsGo_103 rfl (e _ (by simp [c, c2, Int32.not_le.mpr c3]))
        · refine aw_iconst (v := 1) (by decide) dX12_letsGo_98 ?_
          refine aw_goto 103 rfl dX12_letsGo_99 ?_
          exact aw_zret (b := true) rfl dX12_letsGo_103 rfl (e _ (by simp [c2, Int32.not_lt.mp c3]))
  · rw [h] at e ⊢
    refine aw_tabIn 48 (by decide) (by decide) rfl rfl dX12_letsGo_13 ?_
    refine aw_iload_n rfl dX12_letsGo_48 ?_
    refine aw_bipush (v := 95) (by decide) dX12_letsGo_49 ?_
    refine aw_icmp_lt 58 rfl dX12_letsGo_51 (fun c => ?_) (fun c => ?_)
    · refine aw_iconst (v := 0) (by decide) dX12_letsGo_58 ?_
      exact aw_zret (b := false) rfl dX12_letsGo_59 rfl (e _ (decide_eq_false (Int32.not_le.mpr c)))
    · refine aw_iconst (v := 1) (by decide) dX12_letsGo_54 ?_
      refine aw_goto 59 rfl dX12_letsGo_55 ?_
      exact aw_zret (b := true) rfl dX12_letsGo_59 rfl (e _ (decide_eq_true (Int32.not_lt.mp c)))
  · rw [h] at e ⊢
    refine aw_tabIn 104 (by decide) (by decide) rfl rfl dX12_letsGo_13 ?_
    refine aw_iload_n rfl dX12_letsGo_104 ?_
    refine aw_bipush (v := 90) (by decide) dX12_letsGo_105 ?_
    refine aw_icmp_ge 136 rfl dX12_letsGo_107 (fun c => ?_) (fun c => ?_)
    · refine aw_iconst (v := 1) (by decide) dX12_letsGo_136 ?_
      refine aw_goto 141 rfl dX12_letsGo_137 ?_
      exact aw_zret (b := true) rfl dX12_letsGo_141 rfl (e _ (by simp [c]))
    · refine aw_aload_n rfl dX12_letsGo_110 ?_
      refine aw_v0 kX12_64 ⟨ble rfl, ble rfl⟩ (rcM) (ble rfl) dX12_letsGo_111 (k_isSunday hM hs ?_)
      refine aw_zne 136 rfl dX12_letsGo_114 (fun c2 => ?_) (fun c2 => ?_)
      · refine aw_iconst (v := 1) (by decide) dX12_letsGo_136 ?_
        refine aw_goto 141 rfl dX12_letsGo_137 ?_
        exact aw_zret (b := true) rfl dX12_letsGo_141 rfl (e _ (by simp [c2]))
      · refine aw_aload_n rfl dX12_letsGo_117 ?_
        refine aw_v0 kX12_71 ⟨ble rfl, ble rfl⟩ (rcM) (ble rfl) dX12_letsGo_118 (k_aheadNow hM hs ?_)
        refine aw_aload_n rfl dX12_letsGo_121 ?_
        refine aw_iload_n rfl dX12_letsGo_122 ?_
        refine aw_iconst (v := 1) (by decide) dX12_letsGo_123 ?_
        refine aw_v2 kX12_60 ⟨ble rfl, ble rfl⟩ (rcM) (ble rfl) dX12_letsGo_124 (g_get hM hs hx (j := 1) rfl hk (by decide) ?_)
        refine aw_icmp_eq 140 rfl dX12_letsGo_127 (fun c3 => ?_) (fun c3 => ?_)
        · refine aw_iconst (v := 0) (by decide) dX12_letsGo_140 ?_
          exact aw_zret (b := false) rfl dX12_letsGo_141 rfl (e _ (by simp [c, c2, c3]))
        · refine aw_iload_n rfl dX12_letsGo_130 ?_
          refine aw_bipush (v := 20) (by decide) dX12_letsGo_131 ?_
          refine aw_icmp_lt 140 rfl dX12_letsGo_133 (fun c4 => ?_) (fun c4 => ?_)
          · refine aw_iconst (v := 0) (by decide) dX12_letsGo_140 ?_
            exact aw_zret (b := false) rfl dX12_letsGo_141 rfl (e _ (by simp [c, c2, Int32.not_le.mpr c4]))
          · refine aw_iconst (v := 1) (by decide) dX12_letsGo_136 ?_
            refine aw_goto 141 rfl dX12_letsGo_137 ?_
            exact aw_zret (b := true) rfl dX12_letsGo_141 rfl (e _ (by simp [c3, Int32.not_lt.mp c4]))
theorem k_held {v a b : Int32} (hQ : Q (some (.int (held v a b))) K0 μ) : AM Sc mX12_held [.int v, .int a, .int b] K0 μ n Q := by
  refine AM.of rfl (ble rfl) ?_
  unfold held at hQ
  refine aw_iload_n rfl dX12_held_0 ?_
  refine aw_iload_n rfl dX12_held_1 ?_
  refine aw_icmp_ge 9 rfl dX12_held_2 (fun c => ?_) (fun c => ?_)
  · rw [if_neg (Int32.not_lt.mpr c)] at hQ
    refine aw_iload_n rfl dX12_held_9 ?_
    refine aw_iload_n rfl dX12_held_10 ?_
    refine aw_icmp_le 18 rfl dX12_held_11 (fun c2 => ?_) (fun c2 => ?_)
    · rw [if_neg (Int32.not_lt.mpr c2)] at hQ
      refine aw_iload_n rfl dX12_held_18 ?_
      refine aw_iret dX12_held_19 rfl ?_
      exact hQ
    · rw [if_pos (Int32.not_le.mp c2)] at hQ
      refine aw_iload_n rfl dX12_held_14 ?_
      refine aw_goto 19 rfl dX12_held_15 ?_
      refine aw_iret dX12_held_19 rfl ?_
      exact hQ
  · rw [if_pos (Int32.not_le.mp c)] at hQ
    refine aw_iload_n rfl dX12_held_5 ?_
    refine aw_goto 19 rfl dX12_held_6 ?_
    refine aw_iret dX12_held_19 rfl ?_
    exact hQ
theorem k_sidePulls {m : Nat} {x : Int32} (hM : MR μ.2.2) (hs : μ.1 72 = s) (h4 : s 4 = nI m) (hm : m ≤ 10) (hQ : Q (some (.int (sideP s x m))) K0 μ) : AM Sc mX12_sidePulls [.ref 71, .int x] K0 μ n Q := by
  refine AM.of rfl (ble rfl) ?_
  have h4' : μ.1 72 4 = nI m := by rw [hs]; exact h4
  have loop : ∀ j i, i + j = m → AW Sc mX12_sidePulls 4 [(0, .ref 71), (1, .int x), (2, .int (sideP s x i)), (3, .int (nI i))] [] K0 μ n Q := by
    intro j
    induction j with
    | zero =>
      intro i hi
      refine aw_iload_n rfl dX12_sidePulls_4 ?_
      refine aw_aload_n rfl dX12_sidePulls_5 ?_
      refine aw_getR gX12_9_12 kM rfl (hM.s) dX12_sidePulls_6 ?_
      refine aw_iconst (v := 4) (by decide) dX12_sidePulls_9 ?_
      refine aw_ialoadN kS (c := 4) rfl (by decide) (by decide) dX12_sidePulls_10 ?_
      rw [h4']
      refine aw_icmp_ge 52 rfl dX12_sidePulls_11 (fun _ => ?_) (fun c_ => absurd (nI_le (by omega) (by omega)) c_)
      refine aw_iload_n rfl dX12_sidePulls_52 ?_
      refine aw_iret dX12_sidePulls_53 rfl ?_
      rw [show i = m by omega]
      exact hQ
    | succ j ih =>
      intro i hi
      refine aw_iload_n rfl dX12_sidePulls_4 ?_
      refine aw_aload_n rfl dX12_sidePulls_5 ?_
      refine aw_getR gX12_9_12 kM rfl (hM.s) dX12_sidePulls_6 ?_
      refine aw_iconst (v := 4) (by decide) dX12_sidePulls_9 ?_
      refine aw_ialoadN kS (c := 4) rfl (by decide) (by decide) dX12_sidePulls_10 ?_
      rw [h4']
      refine aw_icmp_ge 52 rfl dX12_sidePulls_11 (fun c_ => absurd c_ (nI_ge (by omega) (by omega))) (fun _ => ?_)
      have back : ∀ y : Int32, (if s (5 + 5 * i + 1) = x ∧ s (5 + 5 * i + 2) = 1 then pulls s i else 0) = y → AW Sc mX12_sidePulls 44 [(0, .ref 71), (1, .int x), (2, .int (sideP s x i)), (3, .int (nI i))] [.int y, .int (sideP s x i)] K0 μ n Q := by
        intro y hy
        refine aw_iadd dX12_sidePulls_44 ?_
        refine aw_istore_n (ble rfl) dX12_sidePulls_45 ?_
        refine aw_iinc rfl (v := 1) (by decide) (ble rfl) dX12_sidePulls_46 ?_
        refine aw_goto 4 rfl dX12_sidePulls_49 ?_
        rw [nI_1]
        have := ih (i + 1) (by omega)
        rw [sideP, hy] at this
        exact this
      refine aw_iload_n rfl dX12_sidePulls_14 ?_
      refine aw_aload_n rfl dX12_sidePulls_15 ?_
      refine aw_iload_n rfl dX12_sidePulls_16 ?_
      refine aw_iconst (v := 1) (by decide) dX12_sidePulls_17 ?_
      refine aw_v2 kX12_60 ⟨ble rfl, ble rfl⟩ (rcM) (ble rfl) dX12_sidePulls_18 (g_get hM hs rfl (j := 1) rfl (by omega) (by decide) ?_)
      refine aw_iload_n rfl dX12_sidePulls_21 ?_
      refine aw_icmp_ne 43 rfl dX12_sidePulls_22 (fun c => ?_) (fun c => ?_)
      · refine aw_iconst (v := 0) (by decide) dX12_sidePulls_43 ?_
        exact back 0 (by rw [if_neg (fun q => c q.1)])
      · refine aw_aload_n rfl dX12_sidePulls_25 ?_
        refine aw_iload_n rfl dX12_sidePulls_26 ?_
        refine aw_iconst (v := 2) (by decide) dX12_sidePulls_27 ?_
        refine aw_v2 kX12_60 ⟨ble rfl, ble rfl⟩ (rcM) (ble rfl) dX12_sidePulls_28 (g_get hM hs rfl (j := 2) rfl (by omega) (by decide) ?_)
        refine aw_iconst (v := 1) (by decide) dX12_sidePulls_31 ?_
        refine aw_icmp_ne 43 rfl dX12_sidePulls_32 (fun c2 => ?_) (fun c2 => ?_)
        · refine aw_iconst (v := 0) (by decide) dX12_sidePulls_43 ?_
          exact back 0 (by rw [if_neg (fun q => c2 q.2)])
        · refine aw_aload_n rfl dX12_sidePulls_35 ?_
          refine aw_iload_n rfl dX12_sidePulls_36 ?_
          refine aw_v1 kX12_74 ⟨ble rfl, ble rfl⟩ (rcM) (ble rfl) dX12_sidePulls_37 (k_pullsOf hM hs rfl (by omega) ?_)
          refine aw_goto 44 rfl dX12_sidePulls_40 ?_
          exact back _ (by rw [if_pos ⟨c, c2⟩])
  refine aw_iconst (v := 0) (by decide) dX12_sidePulls_0 ?_
  refine aw_istore_n (ble rfl) dX12_sidePulls_1 ?_
  refine aw_iconst (v := 0) (by decide) dX12_sidePulls_2 ?_
  refine aw_istore_n (ble rfl) dX12_sidePulls_3 ?_
  exact loop m 0 (by omega)
end Mod3
