/-! THE CLASS, 20: write, sheet -/
theorem nI_ltD {a b : Nat} (ha : a < 2 ^ 31) (hb : b < 2 ^ 31) (h : nI a < nI b) : a < b := by
  rw [fa_lt, nI_toInt ha, nI_toInt hb] at h
  omega
theorem in1_sz {x : Int32} {m : Nat} (hm : m < 1000) : in1 x 0 (nI m - 1) = (decide (¬ x < 0) && decide (x < nI m)) := by
  unfold in1
  rw [← Bool.decide_and, ← Bool.decide_and]
  refine decide_eq_decide.mpr ?_
  have l1 : (0 : Int32) ≤ x ↔ ¬ x < 0 := Int32.not_lt.symm
  have l2 : x ≤ nI m - 1 ↔ x < nI m := by
    rw [fa_le, fa_lt, fb_subI (by rw [nI_toInt (by omega)]; show (-2147483648 : Int) ≤ (m : Int) - 1; omega) (by rw [nI_toInt (by omega)]; show (m : Int) - 1 < (2147483648 : Int); omega), nI_toInt (by omega)]
    show x.toInt ≤ (m : Int) - 1 ↔ _
    omega
  rw [l1, l2]
section CIs3
variable {μ0 μ μ' : Mem} {S : SG}
theorem CI.cel {i : Nat} {f c' : Nat → Int64} (h : CI μ0 μ S) (hi : i < 4) (hf : ∀ j, j < 40 → f j = c' (40 * i + j)) (ho : ∀ k, k < 4 → k ≠ i → ∀ j, j < 40 → c' (40 * k + j) = gC S (40 * k + j)) : CI μ0 (pRow μ (64 + 2 * i) f) (sC S c') := by
  obtain ⟨a, x, c, d, e, f', t1, t2, t3, t4, t5⟩ := h
  refine ⟨fun q hq => ⟨(a q hq).1, ?_, (a q hq).2.2⟩, x, c, d, e, f', t1, t2, t3, t4, fun k hk j hj => ?_⟩
  · rw [pRow_ne _ _ (by omega)]; exact (a q hq).2.1
  · by_cases e : k = i
    · subst e
      rw [pRow_get]
      exact hf j hj
    · rw [pRow_ne _ _ (by omega), t5 k hk j hj]
      exact (ho k hk e j hj).symm
theorem CI.hz (h : CI μ0 μ S) {i : Nat} (hi : i < 4) : μ.1 (63 + 2 * i) 1 = gZ S i := (h.2.2.2.2.2.2.2.2.2.1 i hi).2
theorem CI.hw (h : CI μ0 μ S) {i : Nat} (hi : i < 4) : μ.1 (63 + 2 * i) 0 = gW S i := (h.2.2.2.2.2.2.2.2.2.1 i hi).1
theorem CI.hc (h : CI μ0 μ S) {i j : Nat} (hi : i < 4) (hj : j < 40) : μ.2.1 (64 + 2 * i) j = gC S (40 * i + j) := h.2.2.2.2.2.2.2.2.2.2 i hi j hj
/-- one number of a sheet -/
theorem CI.cel1 {i j : Nat} {v : Int64} (h : CI μ0 μ S) (hi : i < 4) (hj : j < 40) : CI μ0 (pJ μ (64 + 2 * i) j v) (sC S (vp_updL (gC S) (40 * i + j) v)) := by
  refine h.cel (f := vp_updL (μ.2.1 (64 + 2 * i)) j v) hi (fun q hq => ?_) (fun k hk hne q hq => ?_)
  · unfold vp_updL
    by_cases e : q = j
    · rw [if_pos e, if_pos (by omega)]
    · rw [if_neg e, if_neg (by omega)]
      exact h.hc hi hq
  · unfold vp_updL
    rw [if_neg (by omega)]
theorem CI.beg {k : Nat} {w : Nat → Int32} {f : Nat → Int64} {b z : Int32} (hW : WF S) (h : CI μ0 μ S) (hk : k < 4) (w0 : w 0 = b) (w1 : w 1 = z) (hf : ∀ j, j < 40 → f j = 0) : CI μ0 (pRow (rowI μ (63 + 2 * k) w) (64 + 2 * k) f) (hM1 S (upd (gW S) k b) (upd (gZ S) k z) (zer (gC S) (40 * k) 40)) := by
  obtain ⟨a, x, c, d, e, f', t1, t2, t3, t4, t5⟩ := h
  refine ⟨fun q hq => ?_, x, fun j k' hj hk' => ?_, d.rowO g1 hW.1.2.1 (by omega), fun e' => (e e').rowO g39 (hW.2.1 e').2.1 (by omega), ?_, fun j hj => ?_, ?_, fun j hj => ?_, fun i hi => ?_, fun i hi j hj => ?_⟩
  · exact ⟨(rowI_ne _ _ (by omega)).trans (a q hq).1, (pRow_ne _ _ (by omega)).trans (a q hq).2.1, (a q hq).2.2⟩
  · exact (congrFun (rowI_ne _ _ (by rcases hj with rfl | rfl | rfl <;> omega)) 0).trans (c j k' hj hk')
  · exact (congrFun (rowI_ne _ _ (by omega)) 3).trans f'
  · exact (congrFun (rowI_ne _ _ (by omega)) j).trans (t1 j hj)
  · exact (congrFun (rowI_ne _ _ (by omega)) 1).trans t2
  · exact (congrFun (rowI_ne _ _ (by omega)) j).trans (t3 j hj)
  · by_cases e2 : i = k
    · subst e2
      exact ⟨(congrFun (rowI_get _ _ _) 0).trans (w0.trans upd_eq.symm), (congrFun (rowI_get _ _ _) 1).trans (w1.trans upd_eq.symm)⟩
    · exact ⟨(congrFun (rowI_ne _ _ (by omega)) 0).trans ((t4 i hi).1.trans (upd_ne e2).symm), (congrFun (rowI_ne _ _ (by omega)) 1).trans ((t4 i hi).2.trans (upd_ne e2).symm)⟩
  · show (pRow (rowI μ (63 + 2 * k) w) (64 + 2 * k) f).2.1 (64 + 2 * i) j = zer (gC S) (40 * k) 40 (40 * i + j)
    unfold zer
    by_cases e2 : i = k
    · subst e2
      rw [pRow_get, if_pos (by omega)]
      exact hf j hj
    · rw [pRow_ne _ _ (by omega), if_neg (by omega)]
      exact t5 i hi j hj
end CIs3
section Cls20
variable {Sc : SCR} {μ μ0 : Mem} {n : Nat × Nat} {Q : PQ} {S : SG}
theorem e_write {x i : Int32} {v : Int64} (h : CI μ0 μ S) (hW : WF S) (hQ : ∀ μ', CI μ0 μ' (sp_write x i v S).2 → Q (some (.long (sp_write x i v S).1)) K0 μ') : AM Sc mX11_write [.ref 0, .int x, .int i, .long v] K0 μ n Q := by
  refine AM.of rfl (ble rfl) ?_
  have hX := h.hX
  unfold sp_write at hQ
  refine aw_iload_n rfl dX11_write_0 ?_
  refine aw_s1 kX11_216 ⟨ble rfl, ble rfl⟩ (ble rfl) dX11_write_1 (c_isSheet ?_)
  refine aw_zne 15 rfl dX11_write_4 (fun c => ?_) (fun c => ?_)
  · obtain ⟨k, -, hk, hx⟩ := in1_t (a := 0) (b := 3) (by decide) (by decide) c
    have hk4 : k < 4 := by omega
    have hix : ix x = k := by rw [hx]; exact ix_nI (by omega)
    have hw := h.hw hk4
    have hz := h.hz hk4
    refine aw_aload_n rfl dX11_write_15 ?_
    refine aw_getR gX11_38_11 kX rfl (hX.sheets) dX11_write_16 ?_
    refine aw_iload_n rfl dX11_write_19 ?_
    refine aw_aaloadN kShs (fun _ => rfl) hx hk4 (by decide) (hX.2.2.2.1 k hk4) dX11_write_20 ?_
    refine aw_astore (ble rfl) dX11_write_21 ?_
    refine aw_aload rfl dX11_write_23 ?_
    refine aw_v0 kX11_224 ⟨ble rfl, ble rfl⟩ (rcSh hk4) (ble rfl) dX11_write_25 (c_isMissing hk4 ?_)
    rw [hw]
    have ew : wrS S x = if gW S k = 0 then some 5 else none := by
      unfold wrS
      rw [c, if_pos rfl, hix]
    refine aw_zeq 39 rfl dX11_write_28 (fun c2 => ?_) (fun c2 => ?_)
    · have c2 := of_decide_eq_false c2
      rw [ew, if_neg c2] at hQ
      simp only at hQ
      rw [hix] at hQ
      obtain ⟨z, hzl, hzk⟩ := hW.2.2.2.1 k hk4
      have hzk : gZ S k = nI z := hzk
      have hzz : μ.1 (63 + 2 * k) 1 = nI z := hz.trans hzk
      rw [hzk, in1_sz (by omega)] at hQ
      have no : (decide (¬ i < 0) && decide (i < nI z)) = false → AW Sc mX11_write 52 [(0, .ref 0)] [] K0 μ n Q := by
        intro e
        rw [e, if_neg (by decide)] at hQ
        refine aw_aload_n rfl dX11_write_52 ?_
        refine aw_ldc (v := (-1000000001)) w_316 dX11_write_53 ?_
        refine aw_v1 kX11_52 ⟨ble rfl, ble rfl⟩ (rcX) (ble rfl) dX11_write_55 (e_finding (k := 0) h hW (by decide) (by decide) (fun μ' h' => ?_))
        refine aw_i2l dX11_write_58 ?_
        refine aw_lreturn dX11_write_59 rfl ?_
        exact hQ μ' h'
      refine aw_iload_n rfl dX11_write_39 ?_
      refine aw_if_lt 52 rfl dX11_write_40 (fun d1 => ?_) (fun d1 => ?_)
      · refine aw_keep [0] ?_
        exact no (by rw [decide_eq_false (fun q => q d1)]; rfl)
      · refine aw_iload_n rfl dX11_write_43 ?_
        refine aw_aload rfl dX11_write_44 ?_
        refine aw_getI gX11_223_6 (kSh hk4) rfl dX11_write_46 ?_
        rw [hzz]
        refine aw_icmp_lt 60 rfl dX11_write_49 (fun d2 => ?_) (fun d2 => ?_)
        · rw [decide_eq_true d1, decide_eq_true d2, if_pos (by decide)] at hQ
          obtain ⟨j, hj, rfl⟩ := nI_of d1
          have hjz := nI_ltD hj (by omega) d2
          rw [ix_nI hj] at hQ
          refine aw_aload rfl dX11_write_60 ?_
          refine aw_getR gX11_228_6 (kSh hk4) rfl (hX.2.2.2.2 k hk4) dX11_write_62 ?_
          refine aw_iload_n rfl dX11_write_65 ?_
          refine aw_laloadN (kNu hk4) rfl (by omega) (by decide) dX11_write_66 ?_
          refine aw_lstore (ble rfl) dX11_write_67 ?_
          refine aw_aload rfl dX11_write_69 ?_
          refine aw_iload_n rfl dX11_write_71 ?_
          refine aw_lload_n rfl dX11_write_72 ?_
          rw [h.hc hk4 (by omega)]
          refine aw_v2 kX11_232 ⟨ble rfl, ble rfl⟩ (rcSh hk4) (ble rfl) dX11_write_73 (c_put (k := j) hk4 (hX.2.2.2.2 k hk4) hzz hzl rfl hjz ?_)
          refine aw_lload rfl dX11_write_76 ?_
          refine aw_lreturn dX11_write_78 rfl ?_
          rw [hw]
          exact hQ _ (h.cel1 hk4 (by omega))
        · refine aw_keep [0] ?_
          exact no (by rw [decide_eq_false d2, Bool.and_false])
    · have c2 := of_decide_eq_true c2
      rw [ew, if_pos c2] at hQ
      simp only at hQ
      refine aw_aload_n rfl dX11_write_31 ?_
      refine aw_ldc (v := (-1000000006)) w_799 dX11_write_32 ?_
      refine aw_v1 kX11_52 ⟨ble rfl, ble rfl⟩ (rcX) (ble rfl) dX11_write_34 (e_finding (k := 5) h hW (by decide) (by decide) (fun μ' h' => ?_))
      refine aw_i2l dX11_write_37 ?_
      refine aw_lreturn dX11_write_38 rfl ?_
      exact hQ μ' h'
  · have ew : wrS S x = some 0 := by
      unfold wrS
      rw [c, if_neg (by decide)]
    rw [ew] at hQ
    simp only at hQ
    refine aw_aload_n rfl dX11_write_7 ?_
    refine aw_ldc (v := (-1000000001)) w_316 dX11_write_8 ?_
    refine aw_v1 kX11_52 ⟨ble rfl, ble rfl⟩ (rcX) (ble rfl) dX11_write_10 (e_finding (k := 0) h hW (by decide) (by decide) (fun μ' h' => ?_))
    refine aw_i2l dX11_write_13 ?_
    refine aw_lreturn dX11_write_14 rfl ?_
    exact hQ μ' h'
theorem e_sheet {x b t : Int32} (h : CI μ0 μ S) (hW : WF S) (hQ : ∀ μ', CI μ0 μ' (sp_sheet x b t S).2 → Q (some (.int (sp_sheet x b t S).1)) K0 μ') : AM Sc mX11_sheet [.ref 0, .int x, .int b, .int t] K0 μ n Q := by
  refine AM.of rfl (ble rfl) ?_
  have hX := h.hX
  unfold sp_sheet at hQ
  have rest : ∀ y : Bool, okB b = y → AW Sc mX11_sheet 27 [(0, .ref 0), (1, .int x), (2, .int b), (3, .int t)] [.int (bI y)] K0 μ n Q := by
    intro y hy
    have bad : (in1 x 0 3 && y) = false → AW Sc mX11_sheet 41 [(0, .ref 0), (1, .int x), (2, .int b), (3, .int t), (4, .int (bI y))] [] K0 μ n Q := by
      intro e
      rw [hy, e, if_neg (by decide)] at hQ
      refine aw_aload_n rfl dX11_sheet_41 ?_
      refine aw_ldc (v := (-1000000001)) w_316 dX11_sheet_42 ?_
      refine aw_v1 kX11_52 ⟨ble rfl, ble rfl⟩ (rcX) (ble rfl) dX11_sheet_44 (e_finding (k := 0) h hW (by decide) (by decide) (fun μ' h' => ?_))
      refine aw_iret dX11_sheet_47 rfl ?_
      exact hQ μ' h'
    refine aw_istore (ble rfl) dX11_sheet_27 ?_
    refine aw_iload_n rfl dX11_sheet_29 ?_
    refine aw_s1 kX11_216 ⟨ble rfl, ble rfl⟩ (ble rfl) dX11_sheet_30 (c_isSheet ?_)
    refine aw_zeq 41 rfl dX11_sheet_33 (fun c => ?_) (fun c => ?_)
    · exact bad (by rw [c]; rfl)
    · refine aw_iload rfl dX11_sheet_36 ?_
      refine aw_zne 48 rfl dX11_sheet_38 (fun c2 => ?_) (fun c2 => ?_)
      · have e : (in1 x 0 3 && okB b) = true := by rw [c, hy, c2]; rfl
        rw [if_pos e] at hQ
        obtain ⟨k, -, hk, hx⟩ := in1_t (a := 0) (b := 3) (by decide) (by decide) c
        have hk4 : k < 4 := by omega
        have hix : ix x = k := by rw [hx]; exact ix_nI (by omega)
        rw [hix] at hQ
        refine aw_iload_n rfl dX11_sheet_48 ?_
        refine aw_if_ge 59 rfl dX11_sheet_49 (fun c3 => ?_) (fun c3 => ?_)
        · rw [if_neg (Int32.not_lt.mpr c3)] at hQ
          refine aw_iload_n rfl dX11_sheet_59 ?_
          refine aw_bipush (v := 40) (by decide) dX11_sheet_60 ?_
          refine aw_icmp_le 72 rfl dX11_sheet_62 (fun c4 => ?_) (fun c4 => ?_)
          · rw [if_neg (Int32.not_lt.mpr c4)] at hQ
            refine aw_aload_n rfl dX11_sheet_72 ?_
            refine aw_getR gX11_38_11 kX rfl (hX.sheets) dX11_sheet_73 ?_
            refine aw_iload_n rfl dX11_sheet_76 ?_
            refine aw_aaloadN kShs (fun _ => rfl) hx hk4 (by decide) (hX.2.2.2.1 k hk4) dX11_sheet_77 ?_
            refine aw_iload_n rfl dX11_sheet_78 ?_
            refine aw_iload_n rfl dX11_sheet_79 ?_
            refine aw_v2 kX11_220 ⟨ble rfl, ble rfl⟩ (rcSh hk4) (ble rfl) dX11_sheet_80 (c_begin hk4 (hX.2.2.2.2 k hk4) (fun w f w0 w1 hf => ?_))
            have i1 := h.beg hW hk4 w0 w1 hf
            have ew : (pRow (rowI μ (63 + 2 * k) w) (64 + 2 * k) f).1 (63 + 2 * k) 1 = (if b = 0 then 0 else t) := (congrFun (rowI_get _ _ _) 1).trans w1
            generalize pRow (rowI μ (63 + 2 * k) w) (64 + 2 * k) f = μ1 at i1 ew ⊢
            have hX := i1.hX
            refine aw_aload_n rfl dX11_sheet_83 ?_
            refine aw_getR gX11_38_11 kX rfl (hX.sheets) dX11_sheet_84 ?_
            refine aw_iload_n rfl dX11_sheet_87 ?_
            refine aw_aaloadN kShs (fun _ => rfl) hx hk4 (by decide) (hX.2.2.2.1 k hk4) dX11_sheet_88 ?_
            refine aw_getI gX11_223_6 (kSh hk4) rfl dX11_sheet_89 ?_
            refine aw_iret dX11_sheet_92 rfl ?_
            rw [ew]
            exact hQ _ i1
          · rw [if_pos (Int32.not_le.mp c4)] at hQ
            refine aw_aload_n rfl dX11_sheet_65 ?_
            refine aw_ldc (v := (-1000000001)) w_316 dX11_sheet_66 ?_
            refine aw_v1 kX11_52 ⟨ble rfl, ble rfl⟩ (rcX) (ble rfl) dX11_sheet_68 (e_finding (k := 0) h hW (by decide) (by decide) (fun μ' h' => ?_))
            refine aw_iret dX11_sheet_71 rfl ?_
            exact hQ μ' h'
        · rw [if_pos (Int32.not_le.mp c3)] at hQ
          refine aw_aload_n rfl dX11_sheet_52 ?_
          refine aw_ldc (v := (-1000000007)) w_783 dX11_sheet_53 ?_
          refine aw_v1 kX11_52 ⟨ble rfl, ble rfl⟩ (rcX) (ble rfl) dX11_sheet_55 (e_finding (k := 6) h hW (by decide) (by decide) (fun μ' h' => ?_))
          refine aw_iret dX11_sheet_58 rfl ?_
          exact hQ μ' h'
      · exact bad (by rw [c2, Bool.and_false])
  have yes : okB b = true → AW Sc mX11_sheet 22 [(0, .ref 0), (1, .int x), (2, .int b), (3, .int t)] [] K0 μ n Q := by
    intro e
    refine aw_iconst (v := 1) (by decide) dX11_sheet_22 ?_
    refine aw_goto 27 rfl dX11_sheet_23 ?_
    exact rest true e
  refine aw_iload_n rfl dX11_sheet_0 ?_
  refine aw_if_eq 22 rfl dX11_sheet_1 (fun d0 => ?_) (fun d0 => ?_)
  · exact yes (by simp [okB, d0])
  · refine aw_iload_n rfl dX11_sheet_4 ?_
    refine aw_bipush (v := 8) (by decide) dX11_sheet_5 ?_
    refine aw_icmp_eq 22 rfl dX11_sheet_7 (fun d1 => ?_) (fun d1 => ?_)
    · exact yes (by simp [okB, d1])
    · refine aw_iload_n rfl dX11_sheet_10 ?_
      refine aw_bipush (v := 16) (by decide) dX11_sheet_11 ?_
      refine aw_icmp_eq 22 rfl dX11_sheet_13 (fun d2 => ?_) (fun d2 => ?_)
      · exact yes (by simp [okB, d2])
      · refine aw_iload_n rfl dX11_sheet_16 ?_
        refine aw_bipush (v := 64) (by decide) dX11_sheet_17 ?_
        refine aw_icmp_ne 26 rfl dX11_sheet_19 (fun d3 => ?_) (fun d3 => ?_)
        · refine aw_iconst (v := 0) (by decide) dX11_sheet_26 ?_
          exact rest false (by simp [okB, d0, d1, d2, d3])
        · exact yes (by simp [okB, d3])
end Cls20
