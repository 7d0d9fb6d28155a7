/-! THE MODEL'S CALLS, 8: copy, lays, book, read -/
section Pub8
variable {Sc : SCR} {μ μ0 : Mem} {n : Nat × Nat} {Q : PQ} {S : SG} {s : Nat → Int32}
theorem wrS_lt {x : Int32} {k : Nat} (h : wrS S x = some k) : k < 7 := by
  unfold wrS at h
  split at h
  · split at h <;> cases h
    decide
  · cases h; decide
theorem wrS_none {x : Int32} (h : wrS S x = none) : ∃ k : Nat, k < 4 ∧ x = nI k ∧ ix x = k ∧ ¬ gW S k = 0 := by
  unfold wrS at h
  split at h
  · next c =>
    obtain ⟨k, -, hk, hx⟩ := in1_t (a := 0) (b := 3) (by decide) (by decide) c
    have hix : ix x = k := by rw [hx]; exact ix_nI (by omega)
    rw [hix] at h
    split at h
    · cases h
    · next c2 => exact ⟨k, by omega, hx, hix, c2⟩
  · cases h
def cpL (f g : Nat → Int64) (a k : Nat) : Nat → Int64 := fun j => if j < k then f (a + j) else g j
theorem cpL_up (f g : Nat → Int64) (a k : Nat) : vp_updL (cpL f g a k) k (f (a + k)) = cpL f g a (k + 1) := by
  funext j
  simp only [vp_updL, cpL]
  by_cases h : j = k
  · subst h; rw [if_pos rfl, if_pos (by omega)]
  · rw [if_neg h]
    by_cases h2 : j < k
    · rw [if_pos h2, if_pos (by omega)]
    · rw [if_neg h2, if_neg (by omega)]
theorem cpy_up (f g : Nat → Int64) (a b k : Nat) : vp_updL (va_cpy f g a b k) (b + k) (f (a + k)) = va_cpy f g a b (k + 1) := by
  funext j
  simp only [vp_updL, va_cpy]
  by_cases h : j = b + k
  · subst h
    rw [if_pos rfl, if_pos (by omega), show b + k - b = k by omega]
  · rw [if_neg h]
    by_cases h2 : b ≤ j ∧ j < b + k
    · rw [if_pos h2, if_pos (by omega)]
    · rw [if_neg h2, if_neg (by omega)]
theorem cpy_0 (f g : Nat → Int64) (a b : Nat) : va_cpy f g a b 0 = g := by
  funext j
  simp only [va_cpy]
  rw [if_neg (by omega)]
theorem sub_nn {z t : Int32} {c a : Nat} (hz : z = nI c) (hc : c ≤ 40) (ht : ¬ t < 0) (ha : ¬ z - t < nI a) (ha2 : a < 2 ^ 31) : ∃ k : Nat, t = nI k ∧ a + k ≤ c := by
  obtain ⟨k, hk, rfl⟩ := nI_of ht
  refine ⟨k, rfl, ?_⟩
  rw [hz, fa_lt, fb_subI (by rw [nI_toInt (by omega), nI_toInt hk]; omega) (by rw [nI_toInt (by omega), nI_toInt hk]; omega), nI_toInt (by omega), nI_toInt hk, nI_toInt ha2] at ha
  omega
theorem q_copy {x a y b t : Int32} (h : MJ μ0 μ S) (hW : WF S) (hQ : ∀ μ', MJ μ0 μ' (sp_copy x a y b t S).2 → Q (some (.int (sp_copy x a y b t S).1)) K0 μ') : AM Sc mX12_copy [.ref 71, .int x, .int a, .int y, .int b, .int t] K0 μ n Q := by
  refine AM.of rfl (ble rfl) ?_
  have hM := h.hM
  have hw : μ.1 81 = gW S := h.hw
  have hz : μ.1 82 = gZ S := h.hz
  unfold sp_copy at hQ
  have bad : (in1 x 0 3 && in1 y 0 3) = false → AW Sc mX12_copy 14 [(0, .ref 71), (1, .int x), (2, .int a), (3, .int y), (4, .int b), (5, .int t)] [] K0 μ n Q := by
    intro e
    rw [e] at hQ
    refine aw_aload_n rfl dX12_copy_14 ?_
    refine aw_iconst (v := 0) (by decide) dX12_copy_15 ?_
    refine aw_v1 kX12_118 ⟨ble rfl, ble rfl⟩ (rcM) (ble rfl) dX12_copy_16 (q_no h rfl (by decide) (fun μ' h' => ?_))
    refine aw_iret dX12_copy_19 rfl ?_
    exact hQ μ' h'
  refine aw_iload_n rfl dX12_copy_0 ?_
  refine aw_s1 kX12_212 ⟨ble rfl, ble rfl⟩ (ble rfl) dX12_copy_1 (k_isSheet ?_)
  refine aw_zeq 14 rfl dX12_copy_4 (fun c => ?_) (fun c => ?_)
  · exact bad (by rw [c]; rfl)
  · refine aw_iload_n rfl dX12_copy_7 ?_
    refine aw_s1 kX12_212 ⟨ble rfl, ble rfl⟩ (ble rfl) dX12_copy_8 (k_isSheet ?_)
    refine aw_zne 20 rfl dX12_copy_11 (fun c2 => ?_) (fun c2 => ?_)
    · rw [c, c2] at hQ
      obtain ⟨k, -, hk, hx⟩ := in1_t (a := 0) (b := 3) (by decide) (by decide) c
      have hix : ix x = k := by rw [hx]; exact ix_nI (by omega)
      obtain ⟨l, -, hl, hy⟩ := in1_t (a := 0) (b := 3) (by decide) (by decide) c2
      have hiy : ix y = l := by rw [hy]; exact ix_nI (by omega)
      unfold cpOk at hQ
      rw [hix, hiy] at hQ
      simp only [Bool.and_self, if_true] at hQ
      have miss : (gW S k = 0 ∨ gW S l = 0) → AW Sc mX12_copy 38 [(0, .ref 71), (1, .int x), (2, .int a), (3, .int y), (4, .int b), (5, .int t)] [] K0 μ n Q := by
        intro e
        rw [if_pos e] at hQ
        refine aw_aload_n rfl dX12_copy_38 ?_
        refine aw_iconst (v := 5) (by decide) dX12_copy_39 ?_
        refine aw_v1 kX12_118 ⟨ble rfl, ble rfl⟩ (rcM) (ble rfl) dX12_copy_40 (q_no h (k := 5) rfl (by decide) (fun μ' h' => ?_))
        refine aw_iret dX12_copy_43 rfl ?_
        exact hQ μ' h'
      refine aw_aload_n rfl dX12_copy_20 ?_
      refine aw_getR gX12_38_12 kM rfl (hM.widths) dX12_copy_21 ?_
      refine aw_iload_n rfl dX12_copy_24 ?_
      refine aw_ialoadN kWidths hx (by omega) (by decide) dX12_copy_25 ?_
      rw [hw]
      refine aw_if_eq 38 rfl dX12_copy_26 (fun c3 => ?_) (fun c3 => ?_)
      · exact miss (Or.inl c3)
      · refine aw_aload_n rfl dX12_copy_29 ?_
        refine aw_getR gX12_38_12 kM rfl (hM.widths) dX12_copy_30 ?_
        refine aw_iload_n rfl dX12_copy_33 ?_
        refine aw_ialoadN kWidths hy (by omega) (by decide) dX12_copy_34 ?_
        rw [hw]
        refine aw_if_ne 44 rfl dX12_copy_35 (fun c4 => ?_) (fun c4 => ?_)
        · rw [if_neg (fun z => z.elim c3 c4)] at hQ
          refine aw_aload_n rfl dX12_copy_44 ?_
          refine aw_getR gX12_38_12 kM rfl (hM.widths) dX12_copy_45 ?_
          refine aw_iload_n rfl dX12_copy_48 ?_
          refine aw_ialoadN kWidths hx (by omega) (by decide) dX12_copy_49 ?_
          refine aw_aload_n rfl dX12_copy_50 ?_
          refine aw_getR gX12_38_12 kM rfl (hM.widths) dX12_copy_51 ?_
          refine aw_iload_n rfl dX12_copy_54 ?_
          refine aw_ialoadN kWidths hy (by omega) (by decide) dX12_copy_55 ?_
          rw [hw]
          refine aw_icmp_eq 65 rfl dX12_copy_56 (fun c5 => ?_) (fun c5 => ?_)
          · rw [if_pos c5] at hQ
            have no : (!decide (t < 0) && (!decide (a < 0) && (!decide (b < 0) && (!decide (gZ S k - t < a) && !decide (gZ S l - t < b))))) = false → AW Sc mX12_copy 106 [(0, .ref 71), (1, .int x), (2, .int a), (3, .int y), (4, .int b), (5, .int t)] [] K0 μ n Q := by
              intro e
              rw [e] at hQ
              refine aw_aload_n rfl dX12_copy_106 ?_
              refine aw_iconst (v := 0) (by decide) dX12_copy_107 ?_
              refine aw_v1 kX12_118 ⟨ble rfl, ble rfl⟩ (rcM) (ble rfl) dX12_copy_108 (q_no h rfl (by decide) (fun μ' h' => ?_))
              refine aw_iret dX12_copy_111 rfl ?_
              exact hQ μ' h'
            refine aw_iload rfl dX12_copy_65 ?_
            refine aw_if_lt 106 rfl dX12_copy_67 (fun e1 => ?_) (fun e1 => ?_)
            · exact no (by simp [e1])
            · refine aw_iload_n rfl dX12_copy_70 ?_
              refine aw_if_lt 106 rfl dX12_copy_71 (fun e2 => ?_) (fun e2 => ?_)
              · exact no (by simp [e2])
              · refine aw_iload rfl dX12_copy_74 ?_
                refine aw_if_lt 106 rfl dX12_copy_76 (fun e3 => ?_) (fun e3 => ?_)
                · exact no (by simp [e3])
                · refine aw_iload_n rfl dX12_copy_79 ?_
                  refine aw_aload_n rfl dX12_copy_80 ?_
                  refine aw_getR gX12_41_12 kM rfl (hM.sizes) dX12_copy_81 ?_
                  refine aw_iload_n rfl dX12_copy_84 ?_
                  refine aw_ialoadN kSizes hx (by omega) (by decide) dX12_copy_85 ?_
                  refine aw_iload rfl dX12_copy_86 ?_
                  refine aw_isub dX12_copy_88 ?_
                  rw [hz]
                  refine aw_icmp_gt 106 rfl dX12_copy_89 (fun e4 => ?_) (fun e4 => ?_)
                  · exact no (by simp [e4])
                  · refine aw_iload rfl dX12_copy_92 ?_
                    refine aw_aload_n rfl dX12_copy_94 ?_
                    refine aw_getR gX12_41_12 kM rfl (hM.sizes) dX12_copy_95 ?_
                    refine aw_iload_n rfl dX12_copy_98 ?_
                    refine aw_ialoadN kSizes hy (by omega) (by decide) dX12_copy_99 ?_
                    refine aw_iload rfl dX12_copy_100 ?_
                    refine aw_isub dX12_copy_102 ?_
                    rw [hz]
                    refine aw_icmp_le 112 rfl dX12_copy_103 (fun e5 => ?_) (fun e5 => ?_)
                    · have e5' : ¬ gZ S l - t < b := Int32.not_lt.mpr e5
                      simp only [decide_eq_false e1, decide_eq_false e2, decide_eq_false e3, decide_eq_false e4, decide_eq_false e5', Bool.not_false, Bool.and_self, if_true] at hQ
                      obtain ⟨ak, hak, rfl⟩ := nI_of e2
                      obtain ⟨bk, hbk, rfl⟩ := nI_of e3
                      obtain ⟨z1, hz1, hzk⟩ := hW.2.2.2.1 k (by omega)
                      obtain ⟨z2, hz2, hzl⟩ := hW.2.2.2.1 l (by omega)
                      obtain ⟨tk, rfl, ht1⟩ := sub_nn hzk hz1 e1 e4 hak
                      obtain ⟨tk2, htt, ht2⟩ := sub_nn hzl hz2 e1 e5' hbk
                      have htk : tk < 2 ^ 31 := by omega
                      have : tk = tk2 := by
                        have q := congrArg Int32.toNatClampNeg htt
                        rwa [nI_clamp htk, nI_clamp (by omega)] at q
                      subst this
                      rw [ix_nI hak, ix_nI hbk, ix_nI htk] at hQ
                      have loop2 : ∀ j i (ν : Mem) (f : Nat → Int64), i + j = tk → ν.2.1 84 = f → (∀ q, q < tk → f q = gC S (40 * k + ak + q)) → MJ μ0 ν (sC S (va_cpy (gC S) (gC S) (40 * k + ak) (40 * l + bk) i)) → AW Sc mX12_copy 147 [(0, .ref 71), (1, .int x), (2, .int (nI ak)), (3, .int y), (4, .int (nI bk)), (5, .int (nI tk)), (6, .int (nI i))] [] K0 ν n Q := by
                        intro j
                        induction j with
                        | zero =>
                          intro i ν f hi hf hff h'
                          refine aw_iload rfl dX12_copy_147 ?_
                          refine aw_iload rfl dX12_copy_149 ?_
                          refine aw_icmp_ge 182 rfl dX12_copy_151 (fun _ => ?_) (fun c_ => absurd (nI_le (by omega) (by omega)) c_)
                          obtain rfl : i = tk := by omega
                          refine aw_iload rfl dX12_copy_182 ?_
                          refine aw_iret dX12_copy_184 rfl ?_
                          exact hQ _ h'
                        | succ j ih =>
                          intro i ν f hi hf hff h'
                          have hM := h'.hM
                          have hcc : ν.2.1 83 = va_cpy (gC S) (gC S) (40 * k + ak) (40 * l + bk) i := h'.hc
                          refine aw_iload rfl dX12_copy_147 ?_
                          refine aw_iload rfl dX12_copy_149 ?_
                          refine aw_icmp_ge 182 rfl dX12_copy_151 (fun c_ => absurd c_ (nI_ge (by omega) (by omega))) (fun _ => ?_)
                          refine aw_aload_n rfl dX12_copy_154 ?_
                          refine aw_getR gX12_44_12 kM rfl (hM.cells) dX12_copy_155 ?_
                          refine aw_bipush (v := 40) (by decide) dX12_copy_158 ?_
                          refine aw_iload_n rfl dX12_copy_160 ?_
                          refine aw_imul dX12_copy_161 ?_
                          refine aw_iload rfl dX12_copy_162 ?_
                          refine aw_iadd dX12_copy_164 ?_
                          refine aw_iload rfl dX12_copy_165 ?_
                          refine aw_iadd dX12_copy_167 ?_
                          refine aw_aload_n rfl dX12_copy_168 ?_
                          refine aw_getR gX12_48_12 kM rfl (hM.carried) dX12_copy_169 ?_
                          refine aw_iload rfl dX12_copy_172 ?_
                          refine aw_laloadN kCarried rfl (by omega) (by decide) dX12_copy_174 ?_
                          refine aw_lastoreN kCells (c := 40 * l + bk + i) (by rw [hy, ix_told, nI_add]) (by omega) (by decide) dX12_copy_175 ?_
                          refine aw_iinc rfl (v := 1) (by decide) (ble rfl) dX12_copy_176 ?_
                          refine aw_goto 147 rfl dX12_copy_179 ?_
                          rw [nI_1, hf, hff i (by omega)]
                          refine ih (i + 1) _ f (by omega) ((pJ_ne _ _ _ (by decide)).trans hf) hff ?_
                          have h2 := h'.cells (va_cpy (gC S) (gC S) (40 * k + ak) (40 * l + bk) (i + 1))
                          have e : pJ ν 83 (40 * l + bk + i) (gC S (40 * k + ak + i)) = pRow ν 83 (va_cpy (gC S) (gC S) (40 * k + ak) (40 * l + bk) (i + 1)) := by
                            rw [← cpy_up, ← hcc]; rfl
                          rw [e]
                          exact h2
                      have loop1 : ∀ j i (ν : Mem), i + j = tk → ν.2.1 84 = cpL (gC S) (μ.2.1 84) (40 * k + ak) i → MJ μ0 ν S → AW Sc mX12_copy 115 [(0, .ref 71), (1, .int x), (2, .int (nI ak)), (3, .int y), (4, .int (nI bk)), (5, .int (nI tk)), (6, .int (nI i))] [] K0 ν n Q := by
                        intro j
                        induction j with
                        | zero =>
                          intro i ν hi hf h'
                          refine aw_iload rfl dX12_copy_115 ?_
                          refine aw_iload rfl dX12_copy_117 ?_
                          refine aw_icmp_ge 144 rfl dX12_copy_119 (fun _ => ?_) (fun c_ => absurd (nI_le (by omega) (by omega)) c_)
                          refine aw_iconst (v := 0) (by decide) dX12_copy_144 ?_
                          refine aw_istore (ble rfl) dX12_copy_145 ?_
                          refine loop2 tk 0 ν _ (by omega) hf (fun q hq => ?_) ?_
                          · simp only [cpL]
                            rw [if_pos (by omega)]
                          · rw [cpy_0]
                            exact h'
                        | succ j ih =>
                          intro i ν hi hf h'
                          have hM := h'.hM
                          refine aw_iload rfl dX12_copy_115 ?_
                          refine aw_iload rfl dX12_copy_117 ?_
                          refine aw_icmp_ge 144 rfl dX12_copy_119 (fun c_ => absurd c_ (nI_ge (by omega) (by omega))) (fun _ => ?_)
                          refine aw_aload_n rfl dX12_copy_122 ?_
                          refine aw_getR gX12_48_12 kM rfl (hM.carried) dX12_copy_123 ?_
                          refine aw_iload rfl dX12_copy_126 ?_
                          refine aw_aload_n rfl dX12_copy_128 ?_
                          refine aw_iload_n rfl dX12_copy_129 ?_
                          refine aw_iload_n rfl dX12_copy_130 ?_
                          refine aw_iload rfl dX12_copy_131 ?_
                          refine aw_iadd dX12_copy_133 ?_
                          refine aw_v2 kX12_218 ⟨ble rfl, ble rfl⟩ (rcM) (ble rfl) dX12_copy_134 (k_told h' hx (j := ak + i) (nI_add ak i) (by omega) (by omega) ?_)
                          refine aw_lastoreN kCarried rfl (by omega) (by decide) dX12_copy_137 ?_
                          refine aw_iinc rfl (v := 1) (by decide) (ble rfl) dX12_copy_138 ?_
                          refine aw_goto 115 rfl dX12_copy_141 ?_
                          rw [nI_1]
                          refine ih (i + 1) _ (by omega) ?_ ?_
                          · show (pRow ν 84 (vp_updL (ν.2.1 84) i (gC S (40 * k + (ak + i))))).2.1 84 = _
                            rw [pRow_get, hf, ← cpL_up, Nat.add_assoc]
                          · exact h'.carr (vp_updL (ν.2.1 84) i (gC S (40 * k + (ak + i))))
                      refine aw_iconst (v := 0) (by decide) dX12_copy_112 ?_
                      refine aw_istore (ble rfl) dX12_copy_113 ?_
                      refine loop1 tk 0 μ (by omega) ?_ h
                      funext j
                      simp [cpL]
                    · exact no (by simp [Int32.not_le.mp e5])
          · rw [if_neg c5] at hQ
            refine aw_aload_n rfl dX12_copy_59 ?_
            refine aw_iconst (v := 2) (by decide) dX12_copy_60 ?_
            refine aw_v1 kX12_118 ⟨ble rfl, ble rfl⟩ (rcM) (ble rfl) dX12_copy_61 (q_no h (k := 2) rfl (by decide) (fun μ' h' => ?_))
            refine aw_iret dX12_copy_64 rfl ?_
            exact hQ μ' h'
        · exact miss (Or.inr c4)
    · exact bad (by rw [c2, Bool.and_false])
theorem q_lays {x : Int32} (h : MJ μ0 μ S) (hW : WF S) (hQ : ∀ μ', MJ μ0 μ' (sp_lays x S).2 → Q (some (.int (sp_lays x S).1)) K0 μ') : AM Sc mX12_lays [.ref 71, .int x] K0 μ n Q := by
  refine AM.of rfl (ble rfl) ?_
  have hM := h.hM
  obtain ⟨h4, hm, -⟩ := hW.1
  unfold sp_lays at hQ
  refine aw_aload_n rfl dX12_lays_0 ?_
  refine aw_iload_n rfl dX12_lays_1 ?_
  refine aw_v1 kX12_215 ⟨ble rfl, ble rfl⟩ (rcM) (ble rfl) dX12_lays_2 (k_wrongSheet h ?_)
  refine aw_istore_n (ble rfl) dX12_lays_5 ?_
  refine aw_iload_n rfl dX12_lays_6 ?_
  cases hwr : wrS S x with
  | some k =>
    rw [hwr] at hQ
    have hk := wrS_lt hwr
    refine aw_if_lt 16 rfl dX12_lays_7 (fun c_ => absurd c_ (nI_pos (by omega))) (fun _ => ?_)
    refine aw_aload_n rfl dX12_lays_10 ?_
    refine aw_iload_n rfl dX12_lays_11 ?_
    refine aw_v1 kX12_118 ⟨ble rfl, ble rfl⟩ (rcM) (ble rfl) dX12_lays_12 (q_no h rfl hk (fun μ' h' => ?_))
    refine aw_iret dX12_lays_15 rfl ?_
    exact hQ μ' h'
  | none =>
    rw [hwr] at hQ
    refine aw_if_lt 16 rfl dX12_lays_7 (fun _ => ?_) (fun c_ => absurd ((by decide)) c_)
    obtain ⟨k, hk, hx, hix, -⟩ := wrS_none hwr
    obtain ⟨z, hz, hzk⟩ := hW.2.2.2.1 k hk
    have hzk : gZ S k = nI z := hzk
    have hrow : rowC S x = fun j => gC S (40 * k + j) := by unfold rowC; rw [hix]
    rw [hix, hzk, ix_nI (by omega)] at hQ
    have loop : ∀ j i (ν : Mem), i + j = min z (mny S.1) → MJ μ0 ν (wS S (layS S.1 (rowC S x) i).1) → AW Sc mX12_lays 21 [(0, .ref 71), (1, .int x), (2, .int (-1)), (3, .int (nI (layS S.1 (rowC S x) i).2)), (4, .int (nI i))] [] K0 ν n Q := by
      intro j
      induction j with
      | zero =>
        intro i ν hi h'
        have hM := h'.hM
        have hi : i = min z (mny S.1) := by omega
        have fin : AW Sc mX12_lays 93 [(0, .ref 71), (1, .int x), (2, .int (-1)), (3, .int (nI (layS S.1 (rowC S x) i).2)), (4, .int (nI i))] [] K0 ν n Q := by
          refine aw_iload_n rfl dX12_lays_93 ?_
          refine aw_iret dX12_lays_94 rfl ?_
          subst hi
          exact hQ _ h'
        refine aw_iload rfl dX12_lays_21 ?_
        refine aw_aload_n rfl dX12_lays_23 ?_
        refine aw_getR gX12_41_12 kM rfl (hM.sizes) dX12_lays_24 ?_
        refine aw_iload_n rfl dX12_lays_27 ?_
        refine aw_ialoadN kSizes hx (by omega) (by decide) dX12_lays_28 ?_
        rw [h'.hz, show (wS S (layS S.1 (rowC S x) i).1).2.2.2.2.2.2.2.1 k = nI z from hzk]
        by_cases hc : z ≤ i
        · refine aw_icmp_ge 93 rfl dX12_lays_29 (fun _ => ?_) (fun c_ => absurd (nI_le hc (by omega)) c_)
          exact fin
        · refine aw_icmp_ge 93 rfl dX12_lays_29 (fun c_ => absurd c_ (nI_ge (by omega) (by omega))) (fun _ => ?_)
          refine aw_iload rfl dX12_lays_32 ?_
          refine aw_aload_n rfl dX12_lays_34 ?_
          refine aw_getR gX12_9_12 kM rfl (hM.s) dX12_lays_35 ?_
          refine aw_iconst (v := 4) (by decide) dX12_lays_38 ?_
          refine aw_ialoadN kS (c := 4) rfl (by decide) (by decide) dX12_lays_39 ?_
          rw [h'.hs, show (wS S (layS S.1 (rowC S x) i).1).1 4 = nI (mny S.1) from (layS_4 _ _ _).trans h4]
          refine aw_icmp_ge 93 rfl dX12_lays_40 (fun _ => ?_) (fun c_ => absurd (nI_le (by omega) (by omega)) c_)
          exact fin
      | succ j ih =>
        intro i ν hi h'
        have hM := h'.hM
        refine aw_iload rfl dX12_lays_21 ?_
        refine aw_aload_n rfl dX12_lays_23 ?_
        refine aw_getR gX12_41_12 kM rfl (hM.sizes) dX12_lays_24 ?_
        refine aw_iload_n rfl dX12_lays_27 ?_
        refine aw_ialoadN kSizes hx (by omega) (by decide) dX12_lays_28 ?_
        rw [h'.hz, show (wS S (layS S.1 (rowC S x) i).1).2.2.2.2.2.2.2.1 k = nI z from hzk]
        refine aw_icmp_ge 93 rfl dX12_lays_29 (fun c_ => absurd c_ (nI_ge (by omega) (by omega))) (fun _ => ?_)
        refine aw_iload rfl dX12_lays_32 ?_
        refine aw_aload_n rfl dX12_lays_34 ?_
        refine aw_getR gX12_9_12 kM rfl (hM.s) dX12_lays_35 ?_
        refine aw_iconst (v := 4) (by decide) dX12_lays_38 ?_
        refine aw_ialoadN kS (c := 4) rfl (by decide) (by decide) dX12_lays_39 ?_
        rw [h'.hs, show (wS S (layS S.1 (rowC S x) i).1).1 4 = nI (mny S.1) from (layS_4 _ _ _).trans h4]
        refine aw_icmp_ge 93 rfl dX12_lays_40 (fun c_ => absurd c_ (nI_ge (by omega) (by omega))) (fun _ => ?_)
        have ih' := fun ν => ih (i + 1) ν (by omega)
        rw [layS] at ih'
        have e : rowC S x i = gC S (40 * k + i) := by rw [hrow]
        have skip : ¬ (1 ≤ rowC S x i ∧ rowC S x i ≤ 20) → AW Sc mX12_lays 87 [(0, .ref 71), (1, .int x), (2, .int (-1)), (3, .int (nI (layS S.1 (rowC S x) i).2)), (4, .int (nI i))] [] K0 ν n Q := by
          intro hc
          rw [if_neg hc] at ih'
          refine aw_iinc rfl (v := 1) (by decide) (ble rfl) dX12_lays_87 ?_
          refine aw_goto 21 rfl dX12_lays_90 ?_
          rw [nI_1]
          exact ih' ν h'
        refine aw_aload_n rfl dX12_lays_43 ?_
        refine aw_iload_n rfl dX12_lays_44 ?_
        refine aw_iload rfl dX12_lays_45 ?_
        refine aw_v2 kX12_218 ⟨ble rfl, ble rfl⟩ (rcM) (ble rfl) dX12_lays_47 (k_told h' hx (j := i) rfl hk (by omega) ?_)
        refine aw_lconst (v := 1) (by decide) dX12_lays_50 ?_
        refine aw_lcmp dX12_lays_51 ?_
        refine aw_if_lt 87 rfl dX12_lays_52 (fun c1 => ?_) (fun c1 => ?_)
        · exact skip (fun q => absurd ((lg_cmp_lt _ _).mp c1) (by rw [e] at q; exact Int64.not_lt.mpr q.1))
        · have c1 : (1 : Int64) ≤ gC S (40 * k + i) := Int64.not_lt.mp (fun q => c1 ((lg_cmp_lt _ _).mpr q))
          refine aw_aload_n rfl dX12_lays_55 ?_
          refine aw_iload_n rfl dX12_lays_56 ?_
          refine aw_iload rfl dX12_lays_57 ?_
          refine aw_v2 kX12_218 ⟨ble rfl, ble rfl⟩ (rcM) (ble rfl) dX12_lays_59 (k_told h' hx (j := i) rfl hk (by omega) ?_)
          refine aw_ldc2 (v := 20) w_1217 dX12_lays_62 ?_
          refine aw_lcmp dX12_lays_65 ?_
          refine aw_if_gt 87 rfl dX12_lays_66 (fun c2 => ?_) (fun c2 => ?_)
          · exact skip (fun q => absurd ((lg_cmp_gt _ _).mp c2) (by rw [e] at q; exact Int64.not_lt.mpr q.2))
          · have c2 : gC S (40 * k + i) ≤ (20 : Int64) := Int64.not_lt.mp (fun q => c2 ((lg_cmp_gt _ _).mpr q))
            rw [if_pos (by rw [e]; exact ⟨c1, c2⟩), e] at ih'
            refine aw_aload_n rfl dX12_lays_69 ?_
            refine aw_iload rfl dX12_lays_70 ?_
            refine aw_iconst (v := 4) (by decide) dX12_lays_72 ?_
            refine aw_aload_n rfl dX12_lays_73 ?_
            refine aw_iload_n rfl dX12_lays_74 ?_
            refine aw_iload rfl dX12_lays_75 ?_
            refine aw_v2 kX12_218 ⟨ble rfl, ble rfl⟩ (rcM) (ble rfl) dX12_lays_77 (k_told h' hx (j := i) rfl hk (by omega) ?_)
            refine aw_l2i dX12_lays_80 ?_
            refine aw_v3 kX12_88 ⟨ble rfl, ble rfl⟩ (rcM) (ble rfl) dX12_lays_81 (g_puts hM h'.hs (k := i) rfl (j := 4) rfl (by omega) (by decide) ?_)
            refine aw_iinc rfl (v := 1) (by decide) (ble rfl) dX12_lays_84 ?_
            refine aw_iinc rfl (v := 1) (by decide) (ble rfl) dX12_lays_87 ?_
            refine aw_goto 21 rfl dX12_lays_90 ?_
            rw [nI_1, nI_1]
            exact ih' _ (h'.row _)
    refine aw_iconst (v := 0) (by decide) dX12_lays_16 ?_
    refine aw_istore_n (ble rfl) dX12_lays_17 ?_
    refine aw_iconst (v := 0) (by decide) dX12_lays_18 ?_
    refine aw_istore (ble rfl) dX12_lays_19 ?_
    exact loop (min z (mny S.1)) 0 μ (by omega) h
theorem q_book {x : Int32} (h : MJ μ0 μ S) (hW : WF S) (hQ : ∀ μ', MJ μ0 μ' (sp_book x S).2 → Q (some (.int (sp_book x S).1)) K0 μ') : AM Sc mX12_book [.ref 71, .int x] K0 μ n Q := by
  refine AM.of rfl (ble rfl) ?_
  have hM := h.hM
  have hs := h.hs
  obtain ⟨h4, hm, -⟩ := hW.1
  unfold sp_book at hQ
  refine aw_aload_n rfl dX12_book_0 ?_
  refine aw_iload_n rfl dX12_book_1 ?_
  refine aw_v1 kX12_215 ⟨ble rfl, ble rfl⟩ (rcM) (ble rfl) dX12_book_2 (k_wrongSheet h ?_)
  refine aw_istore_n (ble rfl) dX12_book_5 ?_
  refine aw_iload_n rfl dX12_book_6 ?_
  cases hwr : wrS S x with
  | some k =>
    rw [hwr] at hQ
    have hk := wrS_lt hwr
    refine aw_if_lt 16 rfl dX12_book_7 (fun c_ => absurd c_ (nI_pos (by omega))) (fun _ => ?_)
    refine aw_aload_n rfl dX12_book_10 ?_
    refine aw_iload_n rfl dX12_book_11 ?_
    refine aw_v1 kX12_118 ⟨ble rfl, ble rfl⟩ (rcM) (ble rfl) dX12_book_12 (q_no h rfl hk (fun μ' h' => ?_))
    refine aw_iret dX12_book_15 rfl ?_
    exact hQ μ' h'
  | none =>
    rw [hwr] at hQ
    refine aw_if_lt 16 rfl dX12_book_7 (fun _ => ?_) (fun c_ => absurd ((by decide)) c_)
    obtain ⟨k, hk, hx, hix, -⟩ := wrS_none hwr
    obtain ⟨z, hz, hzk⟩ := hW.2.2.2.1 k hk
    have hzk : gZ S k = nI z := hzk
    rw [hix, hzk, ix_nI (by omega)] at hQ
    refine aw_aload_n rfl dX12_book_16 ?_
    refine aw_v0 kX12_145 ⟨ble rfl, ble rfl⟩ (rcM) (ble rfl) dX12_book_17 (k_setsAside hM hs ?_)
    have loop : ∀ j i (ν : Mem), i + j = z → MJ μ0 ν (wS (sC S (booC S (40 * k) (gW S k) i)) (goesN (mny S.1) i S.1)) → ν.1 74 = S.1 → AW Sc mX12_book 22 [(0, .ref 71), (1, .int x), (2, .int (-1)), (3, .int (nI i))] [] K0 ν n Q := by
      intro j
      induction j with
      | zero =>
        intro i ν hi h' ha
        have hM := h'.hM
        refine aw_iload_n rfl dX12_book_22 ?_
        refine aw_aload_n rfl dX12_book_23 ?_
        refine aw_getR gX12_41_12 kM rfl (hM.sizes) dX12_book_24 ?_
        refine aw_iload_n rfl dX12_book_27 ?_
        refine aw_ialoadN kSizes hx (by omega) (by decide) dX12_book_28 ?_
        rw [h'.hz, show (wS (sC S (booC S (40 * k) (gW S k) i)) (goesN (mny S.1) i S.1)).2.2.2.2.2.2.2.1 k = nI z from hzk]
        refine aw_icmp_ge 56 rfl dX12_book_29 (fun _ => ?_) (fun c_ => absurd (nI_le (by omega) (by omega)) c_)
        refine aw_aload_n rfl dX12_book_56 ?_
        refine aw_v0 kX12_112 ⟨ble rfl, ble rfl⟩ (rcM) (ble rfl) dX12_book_57 (k_laysBack (a := S.1) hM ha ?_)
        have h2 := h'.row S.1
        refine aw_aload_n rfl dX12_book_60 ?_
        refine aw_getR gX12_41_12 kM rfl (hM.sizes) dX12_book_61 ?_
        refine aw_iload_n rfl dX12_book_64 ?_
        refine aw_ialoadN kSizes hx (by omega) (by decide) dX12_book_65 ?_
        refine aw_iret dX12_book_66 rfl ?_
        rw [h2.hz, show (wS (wS (sC S (booC S (40 * k) (gW S k) i)) (goesN (mny S.1) i S.1)) S.1).2.2.2.2.2.2.2.1 k = nI z from hzk]
        obtain rfl : i = z := by omega
        exact hQ _ h2
      | succ j ih =>
        intro i ν hi h' ha
        have hM := h'.hM
        refine aw_iload_n rfl dX12_book_22 ?_
        refine aw_aload_n rfl dX12_book_23 ?_
        refine aw_getR gX12_41_12 kM rfl (hM.sizes) dX12_book_24 ?_
        refine aw_iload_n rfl dX12_book_27 ?_
        refine aw_ialoadN kSizes hx (by omega) (by decide) dX12_book_28 ?_
        rw [h'.hz, show (wS (sC S (booC S (40 * k) (gW S k) i)) (goesN (mny S.1) i S.1)).2.2.2.2.2.2.2.1 k = nI z from hzk]
        refine aw_icmp_ge 56 rfl dX12_book_29 (fun c_ => absurd c_ (nI_ge (by omega) (by omega))) (fun _ => ?_)
        refine aw_aload_n rfl dX12_book_32 ?_
        refine aw_iload_n rfl dX12_book_33 ?_
        refine aw_iload_n rfl dX12_book_34 ?_
        refine aw_aload_n rfl dX12_book_35 ?_
        refine aw_getR gX12_9_12 kM rfl (hM.s) dX12_book_36 ?_
        refine aw_iconst (v := 1) (by decide) dX12_book_39 ?_
        refine aw_ialoadN kS (c := 1) rfl (by decide) (by decide) dX12_book_40 ?_
        refine aw_i2l dX12_book_41 ?_
        rw [h'.hs]
        refine aw_v3 kX12_222 ⟨ble rfl, ble rfl⟩ (rcM) (ble rfl) dX12_book_42 (k_tells h' hx (j := i) rfl hk (by omega) (fun ν2 h2 e2 => ?_))
        have hM := h2.hM
        refine aw_aload_n rfl dX12_book_45 ?_
        refine aw_iconst (v := 1) (by decide) dX12_book_46 ?_
        refine aw_v1 kX12_106 ⟨ble rfl, ble rfl⟩ (rcM) (ble rfl) dX12_book_47 (k_goes (m := mny S.1) hM h2.hs (by show goesN (mny S.1) i S.1 4 = _; rw [goesN_4]; exact h4) hm (t := 1) rfl (by decide) ?_)
        refine aw_iinc rfl (v := 1) (by decide) (ble rfl) dX12_book_50 ?_
        refine aw_goto 22 rfl dX12_book_53 ?_
        rw [nI_1]
        have h3 := h2.row (goesN (mny S.1) 1 (goesN (mny S.1) i S.1))
        have e3 : goesN (mny S.1) 1 (goesN (mny S.1) i S.1) = goesN (mny S.1) (i + 1) S.1 := by
          rw [goesN_succ (mny S.1) i S.1]; rfl
        refine ih (i + 1) _ (by omega) ?_ ?_
        · rw [← e3]
          exact h3
        · rw [rowI_ne _ _ (by decide), e2]
          exact ha
    refine aw_iconst (v := 0) (by decide) dX12_book_20 ?_
    refine aw_istore_n (ble rfl) dX12_book_21 ?_
    refine loop z 0 _ (by omega) (h.asd _) (rowI_get _ _ _)
end Pub8
