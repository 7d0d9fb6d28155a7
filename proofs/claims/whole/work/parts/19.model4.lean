/-! THE MODEL, 4: the day and its parts, the row aside -/
theorem upd_ne {f : Nat → Int32} {k j : Nat} {x : Int32} (h : j ≠ k) : upd f k x j = f j := pk_un h
theorem upd_eq {f : Nat → Int32} {k : Nat} {x : Int32} : upd f k x k = x := pk_us
theorem lives_4 (s : Nat → Int32) (k : Nat) : lives s k 4 = s 4 := by
  unfold lives tiredS
  split
  · rw [upd_ne (by omega), upd_ne (by omega)]
  · rw [upd_ne (by omega)]
theorem livesAll_4 (s : Nat → Int32) : ∀ k, livesAll s k 4 = s 4
  | 0 => rfl
  | k + 1 => by rw [livesAll, lives_4, livesAll_4 s k]
theorem comes_4 (s : Nat → Int32) (x : Int32) (m : Nat) : comes s x m 4 = s 4 := by
  unfold comes
  split
  · rfl
  · cases bst s x m with
    | none => rfl
    | some b => exact upd_ne (by omega)
theorem dayS_4 (m : Nat) (s : Nat → Int32) : dayS m s 4 = s 4 := by
  unfold dayS
  rw [upd_ne (by omega), comes_4, comes_4, livesAll_4, upd_ne (by omega)]
theorem goesN_4 (m : Nat) : ∀ (n : Nat) (s : Nat → Int32), goesN m n s 4 = s 4
  | 0, _ => rfl
  | n + 1, s => by rw [goesN, goesN_4 m n, dayS_4]
theorem goesN_succ (m : Nat) : ∀ (n : Nat) (s : Nat → Int32), goesN m (n + 1) s = dayS m (goesN m n s)
  | 0, _ => rfl
  | n + 1, s => by rw [goesN, goesN_succ m n, goesN]
theorem hasOn_mono {s : Nat → Int32} {x : Int32} {i : Nat} (h : hasOn s x i = true) : ∀ j, hasOn s x (i + j) = true
  | 0 => h
  | j + 1 => by rw [← Nat.add_assoc, hasOn, hasOn_mono h j]; rfl
def fil (f g : Nat → Int32) (i : Nat) : Nat → Int32 := fun k => if k < i then f k else g k
theorem fil_0 (f g : Nat → Int32) : fil f g 0 = g := by funext k; simp [fil]
theorem fil_up (f g : Nat → Int32) (i : Nat) : upd (fil f g i) i (f i) = fil f g (i + 1) := by
  funext k
  by_cases h : k = i
  · subst h; simp [upd, fil]
  · simp only [upd, fil, if_neg h]
    by_cases h2 : k < i
    · rw [if_pos h2, if_pos (by omega)]
    · rw [if_neg h2, if_neg (by omega)]
section Mod4
variable {Sc : SCR} {μ : Mem} {n : Nat × Nat} {Q : PQ} {s : Nat → Int32}
theorem k_setsAside (hM : MR μ.2.2) (hs : μ.1 72 = s) (hQ : Q none K0 (rowI μ 74 s)) : AM Sc mX12_setsAside [.ref 71] K0 μ n Q := by
  refine AM.of rfl (ble rfl) ?_
  subst hs
  have loop : ∀ j i, i + j = 55 → AW Sc mX12_setsAside 2 [(0, .ref 71), (1, .int (nI i))] [] K0 (rowI μ 74 (fil (μ.1 72) (μ.1 74) i)) n Q := by
    intro j
    induction j with
    | zero =>
      intro i hi
      obtain rfl : i = 55 := by omega
      refine aw_iload_n rfl dX12_setsAside_2 ?_
      refine aw_bipush (v := 55) (by decide) dX12_setsAside_3 ?_
      refine aw_icmp_ge 26 rfl dX12_setsAside_5 (fun _ => ?_) (fun c_ => absurd (nI_le (by decide) (by decide)) c_)
      refine aw_rowI kAside (Or.inl rfl) (μ.1 72) (fun k hk => by rw [rowI_get]; simp [fil, hk]) ?_
      rw [rowI_rowI]
      refine aw_return dX12_setsAside_26 rfl ?_
      exact hQ
    | succ j ih =>
      intro i hi
      refine aw_iload_n rfl dX12_setsAside_2 ?_
      refine aw_bipush (v := 55) (by decide) dX12_setsAside_3 ?_
      refine aw_icmp_ge 26 rfl dX12_setsAside_5 (fun c_ => absurd c_ (nI_ge (b := 55) (by omega) (by decide))) (fun _ => ?_)
      refine aw_aload_n rfl dX12_setsAside_8 ?_
      refine aw_getR gX12_16_12 kM rfl (hM.aside) dX12_setsAside_9 ?_
      refine aw_iload_n rfl dX12_setsAside_12 ?_
      refine aw_aload_n rfl dX12_setsAside_13 ?_
      refine aw_getR gX12_9_12 kM rfl (hM.s) dX12_setsAside_14 ?_
      refine aw_iload_n rfl dX12_setsAside_17 ?_
      refine aw_ialoadN kS rfl (by omega) (by decide) dX12_setsAside_18 ?_
      refine aw_iastoreN kAside rfl (by omega) (by decide) dX12_setsAside_19 ?_
      refine aw_iinc rfl (v := 1) (by decide) (ble rfl) dX12_setsAside_20 ?_
      refine aw_goto 2 rfl dX12_setsAside_23 ?_
      rw [nI_1]
      have := ih (i + 1) (by omega)
      rw [← fil_up] at this
      have e : pI (rowI μ 74 (fil (μ.1 72) (μ.1 74) i)) 74 i ((rowI μ 74 (fil (μ.1 72) (μ.1 74) i)).1 72 i) = rowI μ 74 (upd (fil (μ.1 72) (μ.1 74) i) i (μ.1 72 i)) := by
        show rowI (rowI μ 74 (fil (μ.1 72) (μ.1 74) i)) 74 (upd ((rowI μ 74 (fil (μ.1 72) (μ.1 74) i)).1 74) i ((rowI μ 74 (fil (μ.1 72) (μ.1 74) i)).1 72 i)) = _
        rw [rowI_rowI, rowI_get, rowI_ne μ _ (by decide)]
      rw [e]
      exact this
  refine aw_iconst (v := 0) (by decide) dX12_setsAside_0 ?_
  refine aw_istore_n (ble rfl) dX12_setsAside_1 ?_
  have := loop 55 0 rfl
  rw [fil_0, rowI_self] at this
  exact this
theorem k_laysBack {a : Nat → Int32} (hM : MR μ.2.2) (ha : μ.1 74 = a) (hQ : Q none K0 (rowI μ 72 a)) : AM Sc mX12_laysBack [.ref 71] K0 μ n Q := by
  refine AM.of rfl (ble rfl) ?_
  subst ha
  have loop : ∀ j i, i + j = 55 → AW Sc mX12_laysBack 2 [(0, .ref 71), (1, .int (nI i))] [] K0 (rowI μ 72 (fil (μ.1 74) (μ.1 72) i)) n Q := by
    intro j
    induction j with
    | zero =>
      intro i hi
      obtain rfl : i = 55 := by omega
      refine aw_iload_n rfl dX12_laysBack_2 ?_
      refine aw_bipush (v := 55) (by decide) dX12_laysBack_3 ?_
      refine aw_icmp_ge 26 rfl dX12_laysBack_5 (fun _ => ?_) (fun c_ => absurd (nI_le (by decide) (by decide)) c_)
      refine aw_rowI kS (Or.inl rfl) (μ.1 74) (fun k hk => by rw [rowI_get]; simp [fil, hk]) ?_
      rw [rowI_rowI]
      refine aw_return dX12_laysBack_26 rfl ?_
      exact hQ
    | succ j ih =>
      intro i hi
      refine aw_iload_n rfl dX12_laysBack_2 ?_
      refine aw_bipush (v := 55) (by decide) dX12_laysBack_3 ?_
      refine aw_icmp_ge 26 rfl dX12_laysBack_5 (fun c_ => absurd c_ (nI_ge (b := 55) (by omega) (by decide))) (fun _ => ?_)
      refine aw_aload_n rfl dX12_laysBack_8 ?_
      refine aw_getR gX12_9_12 kM rfl (hM.s) dX12_laysBack_9 ?_
      refine aw_iload_n rfl dX12_laysBack_12 ?_
      refine aw_aload_n rfl dX12_laysBack_13 ?_
      refine aw_getR gX12_16_12 kM rfl (hM.aside) dX12_laysBack_14 ?_
      refine aw_iload_n rfl dX12_laysBack_17 ?_
      refine aw_ialoadN kAside rfl (by omega) (by decide) dX12_laysBack_18 ?_
      refine aw_iastoreN kS rfl (by omega) (by decide) dX12_laysBack_19 ?_
      refine aw_iinc rfl (v := 1) (by decide) (ble rfl) dX12_laysBack_20 ?_
      refine aw_goto 2 rfl dX12_laysBack_23 ?_
      rw [nI_1]
      have := ih (i + 1) (by omega)
      rw [← fil_up] at this
      have e : pI (rowI μ 72 (fil (μ.1 74) (μ.1 72) i)) 72 i ((rowI μ 72 (fil (μ.1 74) (μ.1 72) i)).1 74 i) = rowI μ 72 (upd (fil (μ.1 74) (μ.1 72) i) i (μ.1 74 i)) := by
        show rowI (rowI μ 72 (fil (μ.1 74) (μ.1 72) i)) 72 (upd ((rowI μ 72 (fil (μ.1 74) (μ.1 72) i)).1 72) i ((rowI μ 72 (fil (μ.1 74) (μ.1 72) i)).1 74 i)) = _
        rw [rowI_rowI, rowI_get, rowI_ne μ _ (by decide)]
      rw [e]
      exact this
  refine aw_iconst (v := 0) (by decide) dX12_laysBack_0 ?_
  refine aw_istore_n (ble rfl) dX12_laysBack_1 ?_
  have := loop 55 0 rfl
  rw [fil_0, rowI_self] at this
  exact this
theorem k_knotGoes {m : Nat} (hM : MR μ.2.2) (hs : μ.1 72 = s) (h4 : s 4 = nI m) (hm : m ≤ 10) (hQ : Q none K0 (rowI μ 72 (upd s 1 (knotG m s)))) : AM Sc mX12_knotGoes [.ref 71] K0 μ n Q := by
  refine AM.of rfl (ble rfl) ?_
  refine aw_aload_n rfl dX12_knotGoes_0 ?_
  refine aw_iconst (v := 1) (by decide) dX12_knotGoes_1 ?_
  refine aw_v1 kX12_78 ⟨ble rfl, ble rfl⟩ (rcM) (ble rfl) dX12_knotGoes_2 (k_sidePulls hM hs h4 hm ?_)
  refine aw_aload_n rfl dX12_knotGoes_5 ?_
  refine aw_iconst (v := 0) (by decide) dX12_knotGoes_6 ?_
  refine aw_v1 kX12_78 ⟨ble rfl, ble rfl⟩ (rcM) (ble rfl) dX12_knotGoes_7 (k_sidePulls hM hs h4 hm ?_)
  refine aw_isub dX12_knotGoes_10 ?_
  refine aw_istore_n (ble rfl) dX12_knotGoes_11 ?_
  unfold knotG at hQ
  dsimp only at hQ
  generalize sideP s 1 m - sideP s 0 m = more at hQ ⊢
  have fin : ∀ way : Int32, (if more < 0 then -more - s 2 else more - s 2) = way → AW Sc mX12_knotGoes 36 [(0, .ref 71), (1, .int more)] [.int way] K0 μ n Q := by
    intro way hw
    rw [hw] at hQ
    have fin2 : ∀ far : Int32, (if way < 0 then 0 else way) = far → AW Sc mX12_knotGoes 46 [(0, .ref 71), (1, .int more), (2, .int way)] [.int far] K0 μ n Q := by
      intro far hf
      rw [hf] at hQ
      have fin3 : ∀ y : Int32, (if more < 0 then -far else far) = y → AW Sc mX12_knotGoes 68 [(0, .ref 71), (1, .int more), (2, .int way), (3, .int far)] [.int y, .int (s 1), .int 1, .ref 72] K0 μ n Q := by
        intro y hy
        rw [hy] at hQ
        refine aw_iadd dX12_knotGoes_68 ?_
        refine aw_sipush (v := (-9999)) (by decide) dX12_knotGoes_69 ?_
        refine aw_sipush (v := 9999) (by decide) dX12_knotGoes_72 ?_
        refine aw_s3 kX12_81 ⟨ble rfl, ble rfl⟩ (ble rfl) dX12_knotGoes_75 (k_held ?_)
        refine aw_iastoreN kS (c := 1) rfl (by decide) (by decide) dX12_knotGoes_78 ?_
        refine aw_return dX12_knotGoes_79 rfl ?_
        subst hs
        exact hQ
      refine aw_istore_n (ble rfl) dX12_knotGoes_46 ?_
      refine aw_aload_n rfl dX12_knotGoes_47 ?_
      refine aw_getR gX12_9_12 kM rfl (hM.s) dX12_knotGoes_48 ?_
      refine aw_iconst (v := 1) (by decide) dX12_knotGoes_51 ?_
      refine aw_aload_n rfl dX12_knotGoes_52 ?_
      refine aw_getR gX12_9_12 kM rfl (hM.s) dX12_knotGoes_53 ?_
      refine aw_iconst (v := 1) (by decide) dX12_knotGoes_56 ?_
      refine aw_ialoadN kS (c := 1) rfl (by decide) (by decide) dX12_knotGoes_57 ?_
      refine aw_iload_n rfl dX12_knotGoes_58 ?_
      rw [hs]
      refine aw_if_ge 67 rfl dX12_knotGoes_59 (fun c => ?_) (fun c => ?_)
      · refine aw_iload_n rfl dX12_knotGoes_67 ?_
        exact fin3 _ (by rw [if_neg (Int32.not_lt.mpr c)])
      · refine aw_iload_n rfl dX12_knotGoes_62 ?_
        refine aw_ineg dX12_knotGoes_63 ?_
        refine aw_goto 68 rfl dX12_knotGoes_64 ?_
        exact fin3 _ (by rw [if_pos (Int32.not_le.mp c)])
    refine aw_istore_n (ble rfl) dX12_knotGoes_36 ?_
    refine aw_iload_n rfl dX12_knotGoes_37 ?_
    refine aw_if_ge 45 rfl dX12_knotGoes_38 (fun c => ?_) (fun c => ?_)
    · refine aw_iload_n rfl dX12_knotGoes_45 ?_
      exact fin2 _ (by rw [if_neg (Int32.not_lt.mpr c)])
    · refine aw_iconst (v := 0) (by decide) dX12_knotGoes_41 ?_
      refine aw_goto 46 rfl dX12_knotGoes_42 ?_
      exact fin2 _ (by rw [if_pos (Int32.not_le.mp c)])
  refine aw_iload_n rfl dX12_knotGoes_12 ?_
  refine aw_if_ge 28 rfl dX12_knotGoes_13 (fun c => ?_) (fun c => ?_)
  · refine aw_iload_n rfl dX12_knotGoes_28 ?_
    refine aw_aload_n rfl dX12_knotGoes_29 ?_
    refine aw_getR gX12_9_12 kM rfl (hM.s) dX12_knotGoes_30 ?_
    refine aw_iconst (v := 2) (by decide) dX12_knotGoes_33 ?_
    refine aw_ialoadN kS (c := 2) rfl (by decide) (by decide) dX12_knotGoes_34 ?_
    refine aw_isub dX12_knotGoes_35 ?_
    rw [hs]
    exact fin _ (by rw [if_neg (Int32.not_lt.mpr c)])
  · refine aw_iload_n rfl dX12_knotGoes_16 ?_
    refine aw_ineg dX12_knotGoes_17 ?_
    refine aw_aload_n rfl dX12_knotGoes_18 ?_
    refine aw_getR gX12_9_12 kM rfl (hM.s) dX12_knotGoes_19 ?_
    refine aw_iconst (v := 2) (by decide) dX12_knotGoes_22 ?_
    refine aw_ialoadN kS (c := 2) rfl (by decide) (by decide) dX12_knotGoes_23 ?_
    refine aw_isub dX12_knotGoes_24 ?_
    refine aw_goto 36 rfl dX12_knotGoes_25 ?_
    rw [hs]
    exact fin _ (by rw [if_pos (Int32.not_le.mp c)])
theorem k_livesOn {k : Nat} {x : Int32} (hM : MR μ.2.2) (hs : μ.1 72 = s) (hx : x = nI k) (hk : k < 10) (hQ : Q none K0 (rowI μ 72 (lives s k))) : AM Sc mX12_livesOn [.ref 71, .int x] K0 μ n Q := by
  refine AM.of rfl (ble rfl) ?_
  refine aw_aload_n rfl dX12_livesOn_0 ?_
  refine aw_iload_n rfl dX12_livesOn_1 ?_
  refine aw_iconst (v := 2) (by decide) dX12_livesOn_2 ?_
  refine aw_v2 kX12_60 ⟨ble rfl, ble rfl⟩ (rcM) (ble rfl) dX12_livesOn_3 (g_get hM hs hx (j := 2) rfl hk (by decide) ?_)
  refine aw_iconst (v := 1) (by decide) dX12_livesOn_6 ?_
  unfold lives at hQ
  refine aw_icmp_ne 56 rfl dX12_livesOn_7 (fun c => ?_) (fun c => ?_)
  · rw [if_neg c] at hQ
    refine aw_aload_n rfl dX12_livesOn_56 ?_
    refine aw_iload_n rfl dX12_livesOn_57 ?_
    refine aw_iconst (v := 3) (by decide) dX12_livesOn_58 ?_
    refine aw_aload_n rfl dX12_livesOn_59 ?_
    refine aw_iload_n rfl dX12_livesOn_60 ?_
    refine aw_iconst (v := 3) (by decide) dX12_livesOn_61 ?_
    refine aw_v2 kX12_60 ⟨ble rfl, ble rfl⟩ (rcM) (ble rfl) dX12_livesOn_62 (g_get hM hs hx (j := 3) rfl hk (by decide) ?_)
    refine aw_bipush (v := 10) (by decide) dX12_livesOn_65 ?_
    refine aw_isub dX12_livesOn_67 ?_
    refine aw_iconst (v := 0) (by decide) dX12_livesOn_68 ?_
    refine aw_bipush (v := 99) (by decide) dX12_livesOn_69 ?_
    refine aw_s3 kX12_81 ⟨ble rfl, ble rfl⟩ (ble rfl) dX12_livesOn_71 (k_held ?_)
    refine aw_v3 kX12_88 ⟨ble rfl, ble rfl⟩ (rcM) (ble rfl) dX12_livesOn_74 (g_puts hM hs hx (j := 3) rfl hk (by decide) ?_)
    refine aw_return dX12_livesOn_77 rfl ?_
    exact hQ
  · rw [if_pos c] at hQ
    refine aw_aload_n rfl dX12_livesOn_10 ?_
    refine aw_iload_n rfl dX12_livesOn_11 ?_
    refine aw_iconst (v := 3) (by decide) dX12_livesOn_12 ?_
    refine aw_aload_n rfl dX12_livesOn_13 ?_
    refine aw_iload_n rfl dX12_livesOn_14 ?_
    refine aw_iconst (v := 3) (by decide) dX12_livesOn_15 ?_
    refine aw_v2 kX12_60 ⟨ble rfl, ble rfl⟩ (rcM) (ble rfl) dX12_livesOn_16 (g_get hM hs hx (j := 3) rfl hk (by decide) ?_)
    refine aw_aload_n rfl dX12_livesOn_19 ?_
    refine aw_iload_n rfl dX12_livesOn_20 ?_
    refine aw_v1 kX12_85 ⟨ble rfl, ble rfl⟩ (rcM) (ble rfl) dX12_livesOn_21 (k_tiresOf hM hs hx hk ?_)
    refine aw_iadd dX12_livesOn_24 ?_
    refine aw_iconst (v := 0) (by decide) dX12_livesOn_25 ?_
    refine aw_bipush (v := 99) (by decide) dX12_livesOn_26 ?_
    refine aw_s3 kX12_81 ⟨ble rfl, ble rfl⟩ (ble rfl) dX12_livesOn_28 (k_held ?_)
    refine aw_v3 kX12_88 ⟨ble rfl, ble rfl⟩ (rcM) (ble rfl) dX12_livesOn_31 (g_puts hM hs hx (j := 3) rfl hk (by decide) ?_)
    refine aw_aload_n rfl dX12_livesOn_34 ?_
    refine aw_iload_n rfl dX12_livesOn_35 ?_
    refine aw_iconst (v := 2) (by decide) dX12_livesOn_36 ?_
    refine aw_aload_n rfl dX12_livesOn_37 ?_
    refine aw_iload_n rfl dX12_livesOn_38 ?_
    refine aw_v1 kX12_92 ⟨ble rfl, ble rfl⟩ (rcM) (ble rfl) dX12_livesOn_39 (k_letsGo (s := tiredS s k) hM (rowI_get _ _ _) hx hk ?_)
    refine aw_zeq 49 rfl dX12_livesOn_42 (fun c2 => ?_) (fun c2 => ?_)
    · rw [c2] at hQ
      refine aw_iconst (v := 1) (by decide) dX12_livesOn_49 ?_
      refine aw_v3 kX12_88 ⟨ble rfl, ble rfl⟩ (rcM) (ble rfl) dX12_livesOn_50 (g_puts (s := tiredS s k) hM (rowI_get _ _ _) hx (j := 2) rfl hk (by decide) ?_)
      refine aw_goto 77 rfl dX12_livesOn_53 ?_
      refine aw_return dX12_livesOn_77 rfl ?_
      rw [rowI_rowI]
      exact hQ
    · rw [c2] at hQ
      refine aw_iconst (v := 0) (by decide) dX12_livesOn_45 ?_
      refine aw_goto 50 rfl dX12_livesOn_46 ?_
      refine aw_v3 kX12_88 ⟨ble rfl, ble rfl⟩ (rcM) (ble rfl) dX12_livesOn_50 (g_puts (s := tiredS s k) hM (rowI_get _ _ _) hx (j := 2) rfl hk (by decide) ?_)
      refine aw_goto 77 rfl dX12_livesOn_53 ?_
      refine aw_return dX12_livesOn_77 rfl ?_
      rw [rowI_rowI]
      exact hQ
theorem k_someComes {m : Nat} {x : Int32} (hM : MR μ.2.2) (hs : μ.1 72 = s) (h4 : s 4 = nI m) (hm : m ≤ 10) (hQ : Q none K0 (rowI μ 72 (comes s x m))) : AM Sc mX12_someComes [.ref 71, .int x] K0 μ n Q := by
  refine AM.of rfl (ble rfl) ?_
  have h4' : μ.1 72 4 = nI m := by rw [hs]; exact h4
  have same : comes s x m = s → Q none K0 μ := by
    intro e
    rw [e, ← hs, rowI_self] at hQ
    exact hQ
  have loop : ∀ j i, i + j = m → hasOn s x i = false → AW Sc mX12_someComes 4 [(0, .ref 71), (1, .int x), (2, .int (optI (bst s x i))), (3, .int (nI i))] [] K0 μ n Q := by
    intro j
    induction j with
    | zero =>
      intro i hi ho
      refine aw_iload_n rfl dX12_someComes_4 ?_
      refine aw_aload_n rfl dX12_someComes_5 ?_
      refine aw_getR gX12_9_12 kM rfl (hM.s) dX12_someComes_6 ?_
      refine aw_iconst (v := 4) (by decide) dX12_someComes_9 ?_
      refine aw_ialoadN kS (c := 4) rfl (by decide) (by decide) dX12_someComes_10 ?_
      rw [h4']
      refine aw_icmp_ge 66 rfl dX12_someComes_11 (fun _ => ?_) (fun c_ => absurd (nI_le (by omega) (by omega)) c_)
      obtain rfl : i = m := by omega
      refine aw_iload_n rfl dX12_someComes_66 ?_
      unfold comes at hQ
      rw [ho] at hQ
      cases hb : bst s x i with
      | none =>
        refine aw_if_lt 77 rfl dX12_someComes_67 (fun _ => ?_) (fun c_ => absurd ((by decide)) c_)
        refine aw_return dX12_someComes_77 rfl ?_
        refine same ?_
        simp [comes, ho, hb]
      | some b =>
        have hlt := bst_lt hb
        rw [hb] at hQ
        refine aw_if_lt 77 rfl dX12_someComes_67 (fun c_ => absurd c_ ((nI_pos (by omega)))) (fun _ => ?_)
        refine aw_aload_n rfl dX12_someComes_70 ?_
        refine aw_iload_n rfl dX12_someComes_71 ?_
        refine aw_iconst (v := 2) (by decide) dX12_someComes_72 ?_
        refine aw_iconst (v := 1) (by decide) dX12_someComes_73 ?_
        refine aw_v3 kX12_88 ⟨ble rfl, ble rfl⟩ (rcM) (ble rfl) dX12_someComes_74 (g_puts hM hs (k := b) rfl (j := 2) rfl (by omega) (by decide) ?_)
        refine aw_return dX12_someComes_77 rfl ?_
        exact hQ
    | succ j ih =>
      intro i hi ho
      refine aw_iload_n rfl dX12_someComes_4 ?_
      refine aw_aload_n rfl dX12_someComes_5 ?_
      refine aw_getR gX12_9_12 kM rfl (hM.s) dX12_someComes_6 ?_
      refine aw_iconst (v := 4) (by decide) dX12_someComes_9 ?_
      refine aw_ialoadN kS (c := 4) rfl (by decide) (by decide) dX12_someComes_10 ?_
      rw [h4']
      refine aw_icmp_ge 66 rfl dX12_someComes_11 (fun c_ => absurd c_ (nI_ge (by omega) (by omega))) (fun _ => ?_)
      have back : ∀ y : Option Nat, bst s x (i + 1) = y → hasOn s x (i + 1) = false → AW Sc mX12_someComes 60 [(0, .ref 71), (1, .int x), (2, .int (optI y)), (3, .int (nI i))] [] K0 μ n Q := by
        intro y hy h2
        refine aw_iinc rfl (v := 1) (by decide) (ble rfl) dX12_someComes_60 ?_
        refine aw_goto 4 rfl dX12_someComes_63 ?_
        rw [nI_1]
        have := ih (i + 1) (by omega) h2
        rw [hy] at this
        exact this
      refine aw_aload_n rfl dX12_someComes_14 ?_
      refine aw_iload_n rfl dX12_someComes_15 ?_
      refine aw_iconst (v := 1) (by decide) dX12_someComes_16 ?_
      refine aw_v2 kX12_60 ⟨ble rfl, ble rfl⟩ (rcM) (ble rfl) dX12_someComes_17 (g_get hM hs rfl (j := 1) rfl (by omega) (by decide) ?_)
      refine aw_iload_n rfl dX12_someComes_20 ?_
      refine aw_icmp_ne 60 rfl dX12_someComes_21 (fun c => ?_) (fun c => ?_)
      · exact back _ (by rw [bst, if_neg c]) (by simp [hasOn, ho, c])
      · refine aw_aload_n rfl dX12_someComes_24 ?_
        refine aw_iload_n rfl dX12_someComes_25 ?_
        refine aw_iconst (v := 2) (by decide) dX12_someComes_26 ?_
        refine aw_v2 kX12_60 ⟨ble rfl, ble rfl⟩ (rcM) (ble rfl) dX12_someComes_27 (g_get hM hs rfl (j := 2) rfl (by omega) (by decide) ?_)
        refine aw_iconst (v := 1) (by decide) dX12_someComes_30 ?_
        refine aw_icmp_ne 35 rfl dX12_someComes_31 (fun c2 => ?_) (fun c2 => ?_)
        · refine aw_iload_n rfl dX12_someComes_35 ?_
          have ho' : hasOn s x (i + 1) = false := by simp [hasOn, ho, c2]
          cases hb : bst s x i with
          | none =>
            refine aw_if_lt 54 rfl dX12_someComes_36 (fun _ => ?_) (fun c_ => absurd ((by decide)) c_)
            refine aw_iload_n rfl dX12_someComes_54 ?_
            refine aw_goto 59 rfl dX12_someComes_55 ?_
            refine aw_istore_n (ble rfl) dX12_someComes_59 ?_
            exact back (some i) (by rw [bst, if_pos c, hb]) ho'
          | some b =>
            have hlt := bst_lt hb
            refine aw_if_lt 54 rfl dX12_someComes_36 (fun c_ => absurd c_ ((nI_pos (by omega)))) (fun _ => ?_)
            refine aw_aload_n rfl dX12_someComes_39 ?_
            refine aw_iload_n rfl dX12_someComes_40 ?_
            refine aw_iconst (v := 3) (by decide) dX12_someComes_41 ?_
            refine aw_v2 kX12_60 ⟨ble rfl, ble rfl⟩ (rcM) (ble rfl) dX12_someComes_42 (g_get hM hs rfl (j := 3) rfl (by omega) (by decide) ?_)
            refine aw_aload_n rfl dX12_someComes_45 ?_
            refine aw_iload_n rfl dX12_someComes_46 ?_
            refine aw_iconst (v := 3) (by decide) dX12_someComes_47 ?_
            refine aw_v2 kX12_60 ⟨ble rfl, ble rfl⟩ (rcM) (ble rfl) dX12_someComes_48 (g_get hM hs (k := b) rfl (j := 3) rfl (by omega) (by decide) ?_)
            refine aw_icmp_ge 58 rfl dX12_someComes_51 (fun c3 => ?_) (fun c3 => ?_)
            · refine aw_iload_n rfl dX12_someComes_58 ?_
              refine aw_istore_n (ble rfl) dX12_someComes_59 ?_
              exact back (some b) (by rw [bst, if_pos c, hb]; exact if_neg (Int32.not_lt.mpr c3)) ho'
            · refine aw_iload_n rfl dX12_someComes_54 ?_
              refine aw_goto 59 rfl dX12_someComes_55 ?_
              refine aw_istore_n (ble rfl) dX12_someComes_59 ?_
              exact back (some i) (by rw [bst, if_pos c, hb]; exact if_pos (Int32.not_le.mp c3)) ho'
        · refine aw_return dX12_someComes_34 rfl ?_
          have h2 : hasOn s x (i + 1) = true := by simp [hasOn, c, c2]
          have h3 := hasOn_mono h2 j
          rw [show i + 1 + j = m by omega] at h3
          exact same (by simp [comes, h3])
  refine aw_iconst (v := (-1)) (by decide) dX12_someComes_0 ?_
  refine aw_istore_n (ble rfl) dX12_someComes_1 ?_
  refine aw_iconst (v := 0) (by decide) dX12_someComes_2 ?_
  refine aw_istore_n (ble rfl) dX12_someComes_3 ?_
  exact loop m 0 (by omega) rfl
theorem aw_keep {Sc : SCR} {M : MD} {pc : Nat} {lv : List (Nat × Value)} {st : List Value} {K : List kd} {μ : Mem} {n : Nat × Nat} {Q : PQ} (ks : List Nat) (h : AW Sc M pc (lv.filter (fun q => ks.contains q.1)) st K μ n Q) : AW Sc M pc lv st K μ n Q :=
  fun p l e R s m args below meth c H locs cells slots Qf G ls hC hD hn hl hr => h p l e R s m args below meth c H locs cells slots Qf G ls hC hD hn ⟨hl.1, hl.2.1, fun q hq => by
    obtain ⟨w, hw, rfl⟩ := List.mem_map.mp hq
    exact hl.2.2 _ (List.mem_map.mpr ⟨w, (List.mem_filter.mp hw).1, rfl⟩)⟩ hr
theorem k_goes {m t : Nat} {x : Int32} (hM : MR μ.2.2) (hs : μ.1 72 = s) (h4 : s 4 = nI m) (hm : m ≤ 10) (hx : x = nI t) (ht : t < 1000) (hQ : Q none K0 (rowI μ 72 (goesN m t s))) : AM Sc mX12_goes [.ref 71, .int x] K0 μ n Q := by
  subst hx
  refine AM.of rfl (ble rfl) ?_
  have loop : ∀ j i, i + j = t → AW Sc mX12_goes 2 [(0, .ref 71), (1, .int (nI t)), (2, .int (nI i))] [] K0 (rowI μ 72 (goesN m i s)) n Q := by
    intro j
    induction j with
    | zero =>
      intro i hi
      refine aw_iload_n rfl dX12_goes_2 ?_
      refine aw_iload_n rfl dX12_goes_3 ?_
      refine aw_icmp_ge 60 rfl dX12_goes_4 (fun _ => ?_) (fun c_ => absurd (nI_le (by omega) (by omega)) c_)
      refine aw_return dX12_goes_60 rfl ?_
      rw [show i = t by omega]
      exact hQ
    | succ j ih =>
      intro i hi
      refine aw_iload_n rfl dX12_goes_2 ?_
      refine aw_iload_n rfl dX12_goes_3 ?_
      refine aw_icmp_ge 60 rfl dX12_goes_4 (fun c_ => absurd c_ (nI_ge (by omega) (by omega))) (fun _ => ?_)
      have e4 : goesN m i s 4 = nI m := by rw [goesN_4, h4]
      refine aw_aload_n rfl dX12_goes_7 ?_
      refine aw_v0 kX12_96 ⟨ble rfl, ble rfl⟩ (rcM) (ble rfl) dX12_goes_8 (k_knotGoes hM (rowI_get _ _ _) e4 hm ?_)
      refine aw_iconst (v := 0) (by decide) dX12_goes_11 ?_
      refine aw_istore_n (ble rfl) dX12_goes_12 ?_
      rw [rowI_rowI]
      have inner : ∀ j2 i2, i2 + j2 = m → AW Sc mX12_goes 13 [(0, .ref 71), (1, .int (nI t)), (2, .int (nI i)), (3, .int (nI i2))] [] K0 (rowI μ 72 (livesAll (upd (goesN m i s) 1 (knotG m (goesN m i s))) i2)) n Q := by
        intro j2
        induction j2 with
        | zero =>
          intro i2 hi2
          have e5 : livesAll (upd (goesN m i s) 1 (knotG m (goesN m i s))) i2 4 = nI m := by rw [livesAll_4, upd_ne (by decide), e4]
          refine aw_iload_n rfl dX12_goes_13 ?_
          refine aw_aload_n rfl dX12_goes_14 ?_
          refine aw_getR gX12_9_12 kM rfl (hM.s) dX12_goes_15 ?_
          refine aw_iconst (v := 4) (by decide) dX12_goes_18 ?_
          refine aw_ialoadN kS (c := 4) rfl (by decide) (by decide) dX12_goes_19 ?_
          rw [rowI_get, e5]
          refine aw_icmp_ge 34 rfl dX12_goes_20 (fun _ => ?_) (fun c_ => absurd (nI_le (by omega) (by omega)) c_)
          obtain rfl : i2 = m := by omega
          refine aw_aload_n rfl dX12_goes_34 ?_
          refine aw_iconst (v := 0) (by decide) dX12_goes_35 ?_
          refine aw_v1 kX12_103 ⟨ble rfl, ble rfl⟩ (rcM) (ble rfl) dX12_goes_36 (k_someComes hM (rowI_get _ _ _) e5 hm ?_)
          rw [rowI_rowI]
          refine aw_aload_n rfl dX12_goes_39 ?_
          refine aw_iconst (v := 1) (by decide) dX12_goes_40 ?_
          refine aw_v1 kX12_103 ⟨ble rfl, ble rfl⟩ (rcM) (ble rfl) dX12_goes_41 (k_someComes hM (rowI_get _ _ _) (by rw [comes_4]; exact e5) hm ?_)
          rw [rowI_rowI]
          refine aw_aload_n rfl dX12_goes_44 ?_
          refine aw_getR gX12_9_12 kM rfl (hM.s) dX12_goes_45 ?_
          refine aw_iconst (v := 0) (by decide) dX12_goes_48 ?_
          refine aw_dup2 rfl rfl dX12_goes_49 ?_
          refine aw_ialoadN kS (c := 0) rfl (by decide) (by decide) dX12_goes_50 ?_
          refine aw_iconst (v := 1) (by decide) dX12_goes_51 ?_
          refine aw_iadd dX12_goes_52 ?_
          refine aw_iastoreN kS (c := 0) rfl (by decide) (by decide) dX12_goes_53 ?_
          refine aw_iinc rfl (v := 1) (by decide) (ble rfl) dX12_goes_54 ?_
          refine aw_goto 2 rfl dX12_goes_57 ?_
          refine aw_keep [0, 1, 2] ?_
          rw [nI_1]
          have := ih (i + 1) (by omega)
          rw [goesN_succ, dayS] at this
          rw [rowI_get]
          show AW Sc mX12_goes 2 _ [] K0 (rowI (rowI μ 72 _) 72 (upd ((rowI μ 72 _).1 72) 0 _)) n Q
          rw [rowI_get, rowI_rowI]
          exact this
        | succ j2 ih2 =>
          intro i2 hi2
          have e5 : livesAll (upd (goesN m i s) 1 (knotG m (goesN m i s))) i2 4 = nI m := by rw [livesAll_4, upd_ne (by decide), e4]
          refine aw_iload_n rfl dX12_goes_13 ?_
          refine aw_aload_n rfl dX12_goes_14 ?_
          refine aw_getR gX12_9_12 kM rfl (hM.s) dX12_goes_15 ?_
          refine aw_iconst (v := 4) (by decide) dX12_goes_18 ?_
          refine aw_ialoadN kS (c := 4) rfl (by decide) (by decide) dX12_goes_19 ?_
          rw [rowI_get, e5]
          refine aw_icmp_ge 34 rfl dX12_goes_20 (fun c_ => absurd c_ (nI_ge (by omega) (by omega))) (fun _ => ?_)
          refine aw_aload_n rfl dX12_goes_23 ?_
          refine aw_iload_n rfl dX12_goes_24 ?_
          refine aw_v1 kX12_99 ⟨ble rfl, ble rfl⟩ (rcM) (ble rfl) dX12_goes_25 (k_livesOn hM (rowI_get _ _ _) rfl (by omega) ?_)
          rw [rowI_rowI]
          refine aw_iinc rfl (v := 1) (by decide) (ble rfl) dX12_goes_28 ?_
          refine aw_goto 13 rfl dX12_goes_31 ?_
          rw [nI_1]
          exact ih2 (i2 + 1) (by omega)
      exact inner m 0 (by omega)
  refine aw_iconst (v := 0) (by decide) dX12_goes_0 ?_
  refine aw_istore_n (ble rfl) dX12_goes_1 ?_
  have := loop t 0 (by omega)
  rw [goesN, ← hs, rowI_self] at this
  exact this
theorem k_towards {x : Int32} (hM : MR μ.2.2) (hs : μ.1 72 = s) (hQ : Q (some (.int (if x = 1 then s 1 else -s 1))) K0 μ) : AM Sc mX12_towards [.ref 71, .int x] K0 μ n Q := by
  subst hs
  refine AM.of rfl (ble rfl) ?_
  refine aw_iload_n rfl dX12_towards_0 ?_
  refine aw_iconst (v := 1) (by decide) dX12_towards_1 ?_
  refine aw_icmp_ne 14 rfl dX12_towards_2 (fun c => ?_) (fun c => ?_)
  · rw [if_neg c] at hQ
    refine aw_aload_n rfl dX12_towards_14 ?_
    refine aw_getR gX12_9_12 kM rfl (hM.s) dX12_towards_15 ?_
    refine aw_iconst (v := 1) (by decide) dX12_towards_18 ?_
    refine aw_ialoadN kS (c := 1) rfl (by decide) (by decide) dX12_towards_19 ?_
    refine aw_ineg dX12_towards_20 ?_
    refine aw_iret dX12_towards_21 rfl ?_
    exact hQ
  · rw [if_pos c] at hQ
    refine aw_aload_n rfl dX12_towards_5 ?_
    refine aw_getR gX12_9_12 kM rfl (hM.s) dX12_towards_6 ?_
    refine aw_iconst (v := 1) (by decide) dX12_towards_9 ?_
    refine aw_ialoadN kS (c := 1) rfl (by decide) (by decide) dX12_towards_10 ?_
    refine aw_goto 21 rfl dX12_towards_11 ?_
    refine aw_iret dX12_towards_21 rfl ?_
    exact hQ
def tow (x : Int32) (s : Nat → Int32) : Int32 := if x = 1 then s 1 else -s 1
/-- over a row laid aside: how far the knot is t days on, and the row is laid back -/
theorem k_towardsBy {m t : Nat} {x y : Int32} {a : Nat → Int32} (hM : MR μ.2.2) (hs : μ.1 72 = s) (ha : μ.1 74 = a) (h4 : s 4 = nI m) (hm : m ≤ 10) (hy : y = nI t) (ht : t < 1000) (hQ : Q (some (.int (tow x (goesN m t s)))) K0 (rowI μ 72 a)) : AM Sc mX12_towardsBy [.ref 71, .int x, .int y] K0 μ n Q := by
  refine AM.of rfl (ble rfl) ?_
  refine aw_aload_n rfl dX12_towardsBy_0 ?_
  refine aw_iload_n rfl dX12_towardsBy_1 ?_
  refine aw_v1 kX12_106 ⟨ble rfl, ble rfl⟩ (rcM) (ble rfl) dX12_towardsBy_2 (k_goes hM hs h4 hm hy ht ?_)
  refine aw_aload_n rfl dX12_towardsBy_5 ?_
  refine aw_iload_n rfl dX12_towardsBy_6 ?_
  refine aw_v1 kX12_109 ⟨ble rfl, ble rfl⟩ (rcM) (ble rfl) dX12_towardsBy_7 (k_towards hM (rowI_get _ _ _) ?_)
  refine aw_istore_n (ble rfl) dX12_towardsBy_10 ?_
  refine aw_aload_n rfl dX12_towardsBy_11 ?_
  refine aw_v0 kX12_112 ⟨ble rfl, ble rfl⟩ (rcM) (ble rfl) dX12_towardsBy_12 (k_laysBack (a := a) hM ?_ ?_)
  · rw [rowI_ne _ _ (by decide)]
    exact ha
  · rw [rowI_rowI]
    refine aw_iload_n rfl dX12_towardsBy_15 ?_
    refine aw_iret dX12_towardsBy_16 rfl ?_
    exact hQ
theorem k_becomes {k : Nat} {x v : Int32} (hM : MR μ.2.2) (hs : μ.1 72 = s) (hx : x = nI k) (hk : k < 55) (hQ : Q (some (.int (s k))) K0 (rowI μ 72 (upd s k v))) : AM Sc mX12_becomes [.ref 71, .int x, .int v] K0 μ n Q := by
  subst hs
  refine AM.of rfl (ble rfl) ?_
  refine aw_aload_n rfl dX12_becomes_0 ?_
  refine aw_getR gX12_9_12 kM rfl (hM.s) dX12_becomes_1 ?_
  refine aw_iload_n rfl dX12_becomes_4 ?_
  refine aw_ialoadN kS hx hk (by decide) dX12_becomes_5 ?_
  refine aw_istore_n (ble rfl) dX12_becomes_6 ?_
  refine aw_aload_n rfl dX12_becomes_7 ?_
  refine aw_getR gX12_9_12 kM rfl (hM.s) dX12_becomes_8 ?_
  refine aw_iload_n rfl dX12_becomes_11 ?_
  refine aw_iload_n rfl dX12_becomes_12 ?_
  refine aw_iastoreN kS hx hk (by decide) dX12_becomes_13 ?_
  refine aw_iload_n rfl dX12_becomes_14 ?_
  refine aw_iret dX12_becomes_15 rfl ?_
  exact hQ
def ropeS (s : Nat → Int32) : Nat → Int32
  | 0 => 0
  | k + 1 => ropeS s k ||| (s (5 + 5 * k + 2) <<< (nI k &&& 31))
theorem k_onRope {m : Nat} (hM : MR μ.2.2) (hs : μ.1 72 = s) (h4 : s 4 = nI m) (hm : m ≤ 10) (hQ : Q (some (.int (ropeS s m))) K0 μ) : AM Sc mX12_onRope [.ref 71] K0 μ n Q := by
  refine AM.of rfl (ble rfl) ?_
  have h4' : μ.1 72 4 = nI m := by rw [hs]; exact h4
  have loop : ∀ j i, i + j = m → AW Sc mX12_onRope 4 [(0, .ref 71), (1, .int (ropeS s i)), (2, .int (nI i))] [] K0 μ n Q := by
    intro j
    induction j with
    | zero =>
      intro i hi
      refine aw_iload_n rfl dX12_onRope_4 ?_
      refine aw_aload_n rfl dX12_onRope_5 ?_
      refine aw_getR gX12_9_12 kM rfl (hM.s) dX12_onRope_6 ?_
      refine aw_iconst (v := 4) (by decide) dX12_onRope_9 ?_
      refine aw_ialoadN kS (c := 4) rfl (by decide) (by decide) dX12_onRope_10 ?_
      rw [h4']
      refine aw_icmp_ge 31 rfl dX12_onRope_11 (fun _ => ?_) (fun c_ => absurd (nI_le (by omega) (by omega)) c_)
      refine aw_iload_n rfl dX12_onRope_31 ?_
      refine aw_iret dX12_onRope_32 rfl ?_
      rw [show i = m by omega]
      exact hQ
    | succ j ih =>
      intro i hi
      refine aw_iload_n rfl dX12_onRope_4 ?_
      refine aw_aload_n rfl dX12_onRope_5 ?_
      refine aw_getR gX12_9_12 kM rfl (hM.s) dX12_onRope_6 ?_
      refine aw_iconst (v := 4) (by decide) dX12_onRope_9 ?_
      refine aw_ialoadN kS (c := 4) rfl (by decide) (by decide) dX12_onRope_10 ?_
      rw [h4']
      refine aw_icmp_ge 31 rfl dX12_onRope_11 (fun c_ => absurd c_ (nI_ge (by omega) (by omega))) (fun _ => ?_)
      refine aw_iload_n rfl dX12_onRope_14 ?_
      refine aw_aload_n rfl dX12_onRope_15 ?_
      refine aw_iload_n rfl dX12_onRope_16 ?_
      refine aw_iconst (v := 2) (by decide) dX12_onRope_17 ?_
      refine aw_v2 kX12_60 ⟨ble rfl, ble rfl⟩ (rcM) (ble rfl) dX12_onRope_18 (g_get hM hs rfl (j := 2) rfl (by omega) (by decide) ?_)
      refine aw_iload_n rfl dX12_onRope_21 ?_
      refine aw_ishl dX12_onRope_22 ?_
      refine aw_ior dX12_onRope_23 ?_
      refine aw_istore_n (ble rfl) dX12_onRope_24 ?_
      refine aw_iinc rfl (v := 1) (by decide) (ble rfl) dX12_onRope_25 ?_
      refine aw_goto 4 rfl dX12_onRope_28 ?_
      rw [nI_1]
      exact ih (i + 1) (by omega)
  refine aw_iconst (v := 0) (by decide) dX12_onRope_0 ?_
  refine aw_istore_n (ble rfl) dX12_onRope_1 ?_
  refine aw_iconst (v := 0) (by decide) dX12_onRope_2 ?_
  refine aw_istore_n (ble rfl) dX12_onRope_3 ?_
  exact loop m 0 (by omega)
def addS (s : Nat → Int32) (m : Nat) (kind side : Int32) : Nat → Int32 := upd (upd (upd (upd (upd (upd s (5 + 5 * m) kind) (5 + 5 * m + 1) side) (5 + 5 * m + 2) 0) (5 + 5 * m + 3) 0) (5 + 5 * m + 4) 8) 4 (nI (m + 1))
theorem k_addsPerson {m : Nat} {x y : Int32} (hM : MR μ.2.2) (hs : μ.1 72 = s) (h4 : s 4 = nI m) (hm : m < 10) (hQ : Q none K0 (rowI μ 72 (addS s m x y))) : AM Sc mX12_addsPerson [.ref 71, .int x, .int y] K0 μ n Q := by
  refine AM.of rfl (ble rfl) ?_
  have h4' : μ.1 72 4 = nI m := by rw [hs]; exact h4
  refine aw_aload_n rfl dX12_addsPerson_0 ?_
  refine aw_getR gX12_9_12 kM rfl (hM.s) dX12_addsPerson_1 ?_
  refine aw_iconst (v := 4) (by decide) dX12_addsPerson_4 ?_
  refine aw_ialoadN kS (c := 4) rfl (by decide) (by decide) dX12_addsPerson_5 ?_
  rw [h4']
  refine aw_istore_n (ble rfl) dX12_addsPerson_6 ?_
  refine aw_aload_n rfl dX12_addsPerson_7 ?_
  refine aw_iload_n rfl dX12_addsPerson_8 ?_
  refine aw_iconst (v := 0) (by decide) dX12_addsPerson_9 ?_
  refine aw_iload_n rfl dX12_addsPerson_10 ?_
  refine aw_v3 kX12_88 ⟨ble rfl, ble rfl⟩ (rcM) (ble rfl) dX12_addsPerson_11 (g_puts hM hs (k := m) rfl (j := 0) rfl hm (by decide) ?_)
  refine aw_aload_n rfl dX12_addsPerson_14 ?_
  refine aw_iload_n rfl dX12_addsPerson_15 ?_
  refine aw_iconst (v := 1) (by decide) dX12_addsPerson_16 ?_
  refine aw_iload_n rfl dX12_addsPerson_17 ?_
  refine aw_v3 kX12_88 ⟨ble rfl, ble rfl⟩ (rcM) (ble rfl) dX12_addsPerson_18 (g_puts hM (rowI_get _ _ _) (k := m) rfl (j := 1) rfl hm (by decide) ?_)
  rw [rowI_rowI]
  refine aw_aload_n rfl dX12_addsPerson_21 ?_
  refine aw_iload_n rfl dX12_addsPerson_22 ?_
  refine aw_iconst (v := 2) (by decide) dX12_addsPerson_23 ?_
  refine aw_iconst (v := 0) (by decide) dX12_addsPerson_24 ?_
  refine aw_v3 kX12_88 ⟨ble rfl, ble rfl⟩ (rcM) (ble rfl) dX12_addsPerson_25 (g_puts hM (rowI_get _ _ _) (k := m) rfl (j := 2) rfl hm (by decide) ?_)
  rw [rowI_rowI]
  refine aw_aload_n rfl dX12_addsPerson_28 ?_
  refine aw_iload_n rfl dX12_addsPerson_29 ?_
  refine aw_iconst (v := 3) (by decide) dX12_addsPerson_30 ?_
  refine aw_iconst (v := 0) (by decide) dX12_addsPerson_31 ?_
  refine aw_v3 kX12_88 ⟨ble rfl, ble rfl⟩ (rcM) (ble rfl) dX12_addsPerson_32 (g_puts hM (rowI_get _ _ _) (k := m) rfl (j := 3) rfl hm (by decide) ?_)
  rw [rowI_rowI]
  refine aw_aload_n rfl dX12_addsPerson_35 ?_
  refine aw_iload_n rfl dX12_addsPerson_36 ?_
  refine aw_iconst (v := 4) (by decide) dX12_addsPerson_37 ?_
  refine aw_bipush (v := 8) (by decide) dX12_addsPerson_38 ?_
  refine aw_v3 kX12_88 ⟨ble rfl, ble rfl⟩ (rcM) (ble rfl) dX12_addsPerson_40 (g_puts hM (rowI_get _ _ _) (k := m) rfl (j := 4) rfl hm (by decide) ?_)
  rw [rowI_rowI]
  refine aw_aload_n rfl dX12_addsPerson_43 ?_
  refine aw_getR gX12_9_12 kM rfl (hM.s) dX12_addsPerson_44 ?_
  refine aw_iconst (v := 4) (by decide) dX12_addsPerson_47 ?_
  refine aw_dup2 rfl rfl dX12_addsPerson_48 ?_
  refine aw_ialoadN kS (c := 4) rfl (by decide) (by decide) dX12_addsPerson_49 ?_
  refine aw_iconst (v := 1) (by decide) dX12_addsPerson_50 ?_
  refine aw_iadd dX12_addsPerson_51 ?_
  refine aw_iastoreN kS (c := 4) rfl (by decide) (by decide) dX12_addsPerson_52 ?_
  refine aw_return dX12_addsPerson_53 rfl ?_
  rw [rowI_get, upd_ne (by omega), upd_ne (by omega), upd_ne (by omega), upd_ne (by omega), upd_ne (by omega), h4, nI_1]
  show Q none K0 (rowI (rowI μ 72 _) 72 (upd ((rowI μ 72 _).1 72) 4 _))
  rw [rowI_get, rowI_rowI]
  exact hQ
end Mod4
