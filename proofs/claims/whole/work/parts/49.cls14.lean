/-! THE CLASS, 14: set, of -/
section Cls14
variable {Sc : SCR} {μ μ0 : Mem} {n : Nat × Nat} {Q : PQ} {S : SG} {s : Nat → Int32} {g : Nat}
theorem in1_out {x : Int32} {b : Nat} (hb : b < 2 ^ 31) (h : in1 x 0 (nI b) = false) : x.toInt < 0 ∨ (b : Int) < x.toInt := by
  unfold in1 at h
  rw [← Bool.decide_and] at h
  have h := of_decide_eq_false h
  rw [fa_le, fa_le, nI_toInt hb] at h
  have h : ¬ ((0 : Int) ≤ x.toInt ∧ x.toInt ≤ b) := h
  omega
theorem e_of {x w : Int32} (h : CI μ0 μ S) (hW : WF S) (hQ : ∀ μ', CI μ0 μ' (sp_of x w S).2 → Q (some (.int (sp_of x w S).1)) K0 μ') : AM Sc mX11_of [.ref 0, .int x, .int w] K0 μ n Q := by
  refine AM.of rfl (ble rfl) ?_
  have hX := h.hX
  have hga := h.ga
  obtain ⟨h4, hm, hkn, -, hps⟩ := hW.1
  unfold sp_of at hQ
  refine aw_aload_n rfl dX11_of_0 ?_
  refine aw_getR gX11_10_11 kX rfl (hX.green) dX11_of_1 ?_
  refine aw_iload_n rfl dX11_of_4 ?_
  refine aw_v1 kX11_107 ⟨ble rfl, ble rfl⟩ (rcG g1) (ble rfl) dX11_of_5 (c_has g1 hga hW.1 ?_)
  refine aw_zne 18 rfl dX11_of_8 (fun c => ?_) (fun c => ?_)
  · obtain ⟨p, hp, hxp, hip⟩ := per_t h4 hm c
    obtain ⟨hf, jj, c9, hj, hk6, hsk, hrk⟩ := hga.2.2 p hp
    obtain ⟨w0, w1, w2, w3, w4⟩ := hps p hp
    refine aw_aload_n rfl dX11_of_18 ?_
    refine aw_getR gX11_10_11 kX rfl (hX.green) dX11_of_19 ?_
    refine aw_getR gX11_110_2 kG1 rfl (hga.1.2.1) dX11_of_22 ?_
    refine aw_iload_n rfl dX11_of_25 ?_
    refine aw_aaloadN (kGp g1) (fun _ => rfl) hxp (by omega) (by decide) (hga.pe (by omega)) dX11_of_26 ?_
    refine aw_astore_n (ble rfl) dX11_of_27 ?_
    refine aw_iload_n rfl dX11_of_28 ?_
    cases c2 : in1 w 0 7 with
    | false =>
      rw [c2, Bool.and_false, if_neg (by decide)] at hQ
      refine aw_tabOut 150 (in1_out (b := 7) (by decide) c2) rfl dX11_of_29 ?_
      refine aw_aload_n rfl dX11_of_150 ?_
      refine aw_ldc (v := (-1000000001)) w_316 dX11_of_151 ?_
      refine aw_v1 kX11_52 ⟨ble rfl, ble rfl⟩ (rcX) (ble rfl) dX11_of_153 (e_finding (k := 0) h hW (by decide) (by decide) (fun μ' h' => ?_))
      refine aw_iret dX11_of_156 rfl ?_
      exact hQ μ' h'
    | true =>
      have e : (isP S x && in1 w 0 7) = true := by unfold isP; rw [c, c2]; rfl
      rw [e, if_pos rfl, hip] at hQ
      obtain ⟨t, -, ht, rfl⟩ := in1_t (a := 0) (b := 7) (by decide) (by decide) c2
      have ht8 : t = 0 ∨ t = 1 ∨ t = 2 ∨ t = 3 ∨ t = 4 ∨ t = 5 ∨ t = 6 ∨ t = 7 := by omega
      rcases ht8 with rfl | rfl | rfl | rfl | rfl | rfl | rfl | rfl
      · refine aw_tabIn 76 (by decide) (by decide) rfl rfl dX11_of_29 ?_
        refine aw_aload_n rfl dX11_of_76 ?_
        refine aw_getR gX11_114_4 (kP g1 (i := p) (by omega)) rfl (hrk) dX11_of_77 ?_
        refine v_num hj hk6 rfl (h.2.2.1 jj c9 hj hk6) dX11_of_80 ?_
        refine aw_iret dX11_of_83 rfl ?_
        rw [← hsk]
        exact hQ _ h
      · refine aw_tabIn 84 (by decide) (by decide) rfl rfl dX11_of_29 ?_
        refine aw_aload_n rfl dX11_of_84 ?_
        refine aw_getI gX11_125_4 (kP g1 (i := p) (by omega)) rfl dX11_of_85 ?_
        refine aw_iret dX11_of_88 rfl ?_
        rw [hf.1]
        exact hQ _ h
      · refine aw_tabIn 89 (by decide) (by decide) rfl rfl dX11_of_29 ?_
        refine aw_aload_n rfl dX11_of_89 ?_
        refine aw_getI gX11_128_4 (kP g1 (i := p) (by omega)) rfl dX11_of_90 ?_
        refine aw_iret dX11_of_93 rfl ?_
        rw [hf.2.1]
        exact hQ _ h
      · refine aw_tabIn 94 (by decide) (by decide) rfl rfl dX11_of_29 ?_
        refine aw_aload_n rfl dX11_of_94 ?_
        refine aw_getI gX11_131_4 (kP g1 (i := p) (by omega)) rfl dX11_of_95 ?_
        refine aw_iret dX11_of_98 rfl ?_
        rw [hf.2.2.1]
        exact hQ _ h
      · refine aw_tabIn 99 (by decide) (by decide) rfl rfl dX11_of_29 ?_
        refine aw_aload_n rfl dX11_of_99 ?_
        refine aw_getI gX11_134_4 (kP g1 (i := p) (by omega)) rfl dX11_of_100 ?_
        refine aw_iret dX11_of_103 rfl ?_
        rw [hf.2.2.2]
        exact hQ _ h
      · refine aw_tabIn 104 (by decide) (by decide) rfl rfl dX11_of_29 ?_
        refine aw_aload_n rfl dX11_of_104 ?_
        refine aw_getR gX11_114_4 (kP g1 (i := p) (by omega)) rfl (hrk) dX11_of_105 ?_
        refine aw_aload_n rfl dX11_of_108 ?_
        refine aw_aload_n rfl dX11_of_109 ?_
        refine aw_getR gX11_10_11 kX rfl (hX.green) dX11_of_110 ?_
        refine v_pullE hj hk6 hkn w1 g1 hga.2.1 (kP g1 (i := p) (by omega)) hf hsk rfl ⟨⟨ble rfl, ble rfl⟩, ⟨ble rfl, ble rfl⟩, ⟨ble rfl, ble rfl⟩, ⟨ble rfl, ble rfl⟩, ⟨ble rfl, ble rfl⟩, ⟨ble rfl, ble rfl⟩⟩ (ble rfl) dX11_of_113 ?_
        refine aw_iret dX11_of_116 rfl ?_
        exact hQ _ h
      · refine aw_tabIn 117 (by decide) (by decide) rfl rfl dX11_of_29 ?_
        refine aw_aload_n rfl dX11_of_117 ?_
        refine aw_getR gX11_114_4 (kP g1 (i := p) (by omega)) rfl (hrk) dX11_of_118 ?_
        refine aw_aload_n rfl dX11_of_121 ?_
        refine aw_getR gX11_10_11 kX rfl (hX.green) dX11_of_122 ?_
        refine v_tireE hj hk6 g1 hga.2.1 hsk rfl ⟨⟨ble rfl, ble rfl⟩, ⟨ble rfl, ble rfl⟩, ⟨ble rfl, ble rfl⟩, ⟨ble rfl, ble rfl⟩, ⟨ble rfl, ble rfl⟩, ⟨ble rfl, ble rfl⟩⟩ (ble rfl) dX11_of_125 ?_
        refine aw_iret dX11_of_128 rfl ?_
        exact hQ _ h
      · refine aw_tabIn 129 (by decide) (by decide) rfl rfl dX11_of_29 ?_
        refine aw_aload_n rfl dX11_of_129 ?_
        refine aw_getR gX11_114_4 (kP g1 (i := p) (by omega)) rfl (hrk) dX11_of_130 ?_
        refine aw_aload_n rfl dX11_of_133 ?_
        refine aw_aload_n rfl dX11_of_134 ?_
        refine aw_getR gX11_10_11 kX rfl (hX.green) dX11_of_135 ?_
        refine v_letsE hj hk6 hkn w1 g1 hga.2.1 (kP g1 (i := p) (by omega)) hf hsk rfl ⟨⟨ble rfl, ble rfl⟩, ⟨ble rfl, ble rfl⟩, ⟨ble rfl, ble rfl⟩, ⟨ble rfl, ble rfl⟩, ⟨ble rfl, ble rfl⟩, ⟨ble rfl, ble rfl⟩⟩ (ble rfl) dX11_of_138 ?_
        have hq : Q (some (.int (bI (letsG S.1 p)))) K0 μ := hQ _ h
        refine aw_zeq 148 rfl dX11_of_141 (fun c3 => ?_) (fun c3 => ?_)
        · rw [c3] at hq
          refine aw_iconst (v := 0) (by decide) dX11_of_148 ?_
          refine aw_iret dX11_of_149 rfl ?_
          exact hq
        · rw [c3] at hq
          refine aw_iconst (v := 1) (by decide) dX11_of_144 ?_
          refine aw_goto 149 rfl dX11_of_145 ?_
          refine aw_iret dX11_of_149 rfl ?_
          exact hq
  · rw [if_neg (by unfold isP; rw [c, Bool.false_and]; decide)] at hQ
    refine aw_aload_n rfl dX11_of_11 ?_
    refine aw_ldc (v := (-1000000001)) w_316 dX11_of_12 ?_
    refine aw_v1 kX11_52 ⟨ble rfl, ble rfl⟩ (rcX) (ble rfl) dX11_of_14 (e_finding (k := 0) h hW (by decide) (by decide) (fun μ' h' => ?_))
    refine aw_iret dX11_of_17 rfl ?_
    exact hQ μ' h'
theorem e_set {x w v : Int32} (h : CI μ0 μ S) (hW : WF S) (hQ : ∀ μ', CI μ0 μ' (sp_set x w v S).2 → Q (some (.int (sp_set x w v S).1)) K0 μ') : AM Sc mX11_set [.ref 0, .int x, .int w, .int v] K0 μ n Q := by
  refine AM.of rfl (ble rfl) ?_
  have hX := h.hX
  have hga := h.ga
  obtain ⟨h4, hm, -⟩ := hW.1
  unfold sp_set at hQ
  refine aw_aload_n rfl dX11_set_0 ?_
  refine aw_getR gX11_10_11 kX rfl (hX.green) dX11_set_1 ?_
  refine aw_iload_n rfl dX11_set_4 ?_
  refine aw_v1 kX11_107 ⟨ble rfl, ble rfl⟩ (rcG g1) (ble rfl) dX11_set_5 (c_has g1 hga hW.1 ?_)
  refine aw_zne 18 rfl dX11_set_8 (fun c => ?_) (fun c => ?_)
  · obtain ⟨p, hp, hxp, hip⟩ := per_t h4 hm c
    have hf := (hga.2.2 p hp).1
    rw [show isP S x = true from c, Bool.true_and, hip] at hQ
    have bad : (in1 w 1 4 && in1 v (if w = 4 then 1 else 0) (if w = 3 then 99 else if w = 4 then 20 else 1)) = false → AW Sc mX11_set 149 [(0, .ref 0), (1, .int x), (2, .int w), (3, .int v), (4, .ref (1 + 9 + p))] [] K0 μ n Q := by
      intro e
      rw [e, if_neg (by decide)] at hQ
      refine aw_aload_n rfl dX11_set_149 ?_
      refine aw_ldc (v := (-1000000001)) w_316 dX11_set_150 ?_
      refine aw_v1 kX11_52 ⟨ble rfl, ble rfl⟩ (rcX) (ble rfl) dX11_set_152 (e_finding (k := 0) h hW (by decide) (by decide) (fun μ' h' => ?_))
      refine aw_istore (ble rfl) dX11_set_155 ?_
      refine aw_iload rfl dX11_set_157 ?_
      refine aw_iret dX11_set_159 rfl ?_
      exact hQ μ' h'
    refine aw_aload_n rfl dX11_set_18 ?_
    refine aw_getR gX11_10_11 kX rfl (hX.green) dX11_set_19 ?_
    refine aw_getR gX11_110_2 kG1 rfl (hga.1.2.1) dX11_set_22 ?_
    refine aw_iload_n rfl dX11_set_25 ?_
    refine aw_aaloadN (kGp g1) (fun _ => rfl) hxp (by omega) (by decide) (hga.pe (by omega)) dX11_set_26 ?_
    refine aw_astore (ble rfl) dX11_set_27 ?_
    refine aw_iload_n rfl dX11_set_29 ?_
    refine aw_iconst (v := 1) (by decide) dX11_set_30 ?_
    by_cases e1 : w = 1
    · subst e1
      refine aw_icmp_ne 57 rfl dX11_set_31 (fun c_ => absurd (rfl) c_) (fun _ => ?_)
      refine aw_iload_n rfl dX11_set_34 ?_
      refine aw_s1 kX11_93 ⟨ble rfl, ble rfl⟩ (ble rfl) dX11_set_35 (c_isSide ?_)
      refine aw_zeq 57 rfl dX11_set_38 (fun c2 => ?_) (fun c2 => ?_)
      · refine aw_iload_n rfl dX11_set_57 ?_
        refine aw_iconst (v := 2) (by decide) dX11_set_58 ?_
        refine aw_icmp_ne 87 rfl dX11_set_59 (fun _ => ?_) (fun c_ => absurd c_ ((by decide)))
        refine aw_iload_n rfl dX11_set_87 ?_
        refine aw_iconst (v := 3) (by decide) dX11_set_88 ?_
        refine aw_icmp_ne 118 rfl dX11_set_89 (fun _ => ?_) (fun c_ => absurd c_ ((by decide)))
        refine aw_iload_n rfl dX11_set_118 ?_
        refine aw_iconst (v := 4) (by decide) dX11_set_119 ?_
        refine aw_icmp_ne 149 rfl dX11_set_120 (fun _ => ?_) (fun c_ => absurd c_ ((by decide)))
        exact bad (by rw [if_neg (by decide), if_neg (by decide), if_neg (by decide), c2, Bool.and_false])
      · have ok : (in1 (1 : Int32) 1 4 && in1 v (if (1 : Int32) = 4 then 1 else 0) (if (1 : Int32) = 3 then 99 else if (1 : Int32) = 4 then 20 else 1)) = true := by rw [if_neg (by decide), if_neg (by decide), if_neg (by decide), c2]; decide
        rw [if_pos ok] at hQ
        refine aw_aload rfl dX11_set_41 ?_
        refine aw_getI gX11_125_4 (kP g1 (i := p) (by omega)) rfl dX11_set_43 ?_
        refine aw_istore (ble rfl) dX11_set_46 ?_
        refine aw_aload rfl dX11_set_48 ?_
        refine aw_iload_n rfl dX11_set_50 ?_
        refine aw_putI (pX11_125_4 _) (kP g1 (i := p) (by omega)) rfl rfl rfl dX11_set_51 ?_
        refine aw_goto 157 rfl dX11_set_54 ?_
        refine aw_iload rfl dX11_set_157 ?_
        refine aw_iret dX11_set_159 rfl ?_
        rw [hf.1]
        exact hQ _ (h.gr hW (frSlot (by omega)) (hga.slot (c := 1) hp (by omega)))
    · refine aw_icmp_ne 57 rfl dX11_set_31 (fun _ => ?_) (fun c_ => absurd c_ (e1))
      refine aw_iload_n rfl dX11_set_57 ?_
      refine aw_iconst (v := 2) (by decide) dX11_set_58 ?_
      by_cases e2 : w = 2
      · subst e2
        refine aw_icmp_ne 87 rfl dX11_set_59 (fun c_ => absurd (rfl) c_) (fun _ => ?_)
        refine aw_iload_n rfl dX11_set_62 ?_
        refine aw_iconst (v := 0) (by decide) dX11_set_63 ?_
        refine aw_iconst (v := 1) (by decide) dX11_set_64 ?_
        refine aw_s3 kX11_47 ⟨ble rfl, ble rfl⟩ (ble rfl) dX11_set_65 (c_isWithin ?_)
        refine aw_zeq 87 rfl dX11_set_68 (fun c2 => ?_) (fun c2 => ?_)
        · refine aw_iload_n rfl dX11_set_87 ?_
          refine aw_iconst (v := 3) (by decide) dX11_set_88 ?_
          refine aw_icmp_ne 118 rfl dX11_set_89 (fun _ => ?_) (fun c_ => absurd c_ ((by decide)))
          refine aw_iload_n rfl dX11_set_118 ?_
          refine aw_iconst (v := 4) (by decide) dX11_set_119 ?_
          refine aw_icmp_ne 149 rfl dX11_set_120 (fun _ => ?_) (fun c_ => absurd c_ ((by decide)))
          exact bad (by rw [if_neg (by decide), if_neg (by decide), if_neg (by decide), c2, Bool.and_false])
        · have ok : (in1 (2 : Int32) 1 4 && in1 v (if (2 : Int32) = 4 then 1 else 0) (if (2 : Int32) = 3 then 99 else if (2 : Int32) = 4 then 20 else 1)) = true := by rw [if_neg (by decide), if_neg (by decide), if_neg (by decide), c2]; decide
          rw [if_pos ok] at hQ
          refine aw_aload rfl dX11_set_71 ?_
          refine aw_getI gX11_128_4 (kP g1 (i := p) (by omega)) rfl dX11_set_73 ?_
          refine aw_istore (ble rfl) dX11_set_76 ?_
          refine aw_aload rfl dX11_set_78 ?_
          refine aw_iload_n rfl dX11_set_80 ?_
          refine aw_putI (pX11_128_4 _) (kP g1 (i := p) (by omega)) rfl rfl rfl dX11_set_81 ?_
          refine aw_goto 157 rfl dX11_set_84 ?_
          refine aw_iload rfl dX11_set_157 ?_
          refine aw_iret dX11_set_159 rfl ?_
          rw [hf.2.1]
          exact hQ _ (h.gr hW (frSlot (by omega)) (hga.slot (c := 2) hp (by omega)))
      · refine aw_icmp_ne 87 rfl dX11_set_59 (fun _ => ?_) (fun c_ => absurd c_ (e2))
        refine aw_iload_n rfl dX11_set_87 ?_
        refine aw_iconst (v := 3) (by decide) dX11_set_88 ?_
        by_cases e3 : w = 3
        · subst e3
          refine aw_icmp_ne 118 rfl dX11_set_89 (fun c_ => absurd (rfl) c_) (fun _ => ?_)
          refine aw_iload_n rfl dX11_set_92 ?_
          refine aw_iconst (v := 0) (by decide) dX11_set_93 ?_
          refine aw_bipush (v := 99) (by decide) dX11_set_94 ?_
          refine aw_s3 kX11_47 ⟨ble rfl, ble rfl⟩ (ble rfl) dX11_set_96 (c_isWithin ?_)
          refine aw_zeq 118 rfl dX11_set_99 (fun c2 => ?_) (fun c2 => ?_)
          · refine aw_iload_n rfl dX11_set_118 ?_
            refine aw_iconst (v := 4) (by decide) dX11_set_119 ?_
            refine aw_icmp_ne 149 rfl dX11_set_120 (fun _ => ?_) (fun c_ => absurd c_ ((by decide)))
            exact bad (by rw [if_neg (by decide), if_pos (by decide), c2, Bool.and_false])
          · have ok : (in1 (3 : Int32) 1 4 && in1 v (if (3 : Int32) = 4 then 1 else 0) (if (3 : Int32) = 3 then 99 else if (3 : Int32) = 4 then 20 else 1)) = true := by rw [if_neg (by decide), if_pos (by decide), c2]; decide
            rw [if_pos ok] at hQ
            refine aw_aload rfl dX11_set_102 ?_
            refine aw_getI gX11_131_4 (kP g1 (i := p) (by omega)) rfl dX11_set_104 ?_
            refine aw_istore (ble rfl) dX11_set_107 ?_
            refine aw_aload rfl dX11_set_109 ?_
            refine aw_iload_n rfl dX11_set_111 ?_
            refine aw_putI (pX11_131_4 _) (kP g1 (i := p) (by omega)) rfl rfl rfl dX11_set_112 ?_
            refine aw_goto 157 rfl dX11_set_115 ?_
            refine aw_iload rfl dX11_set_157 ?_
            refine aw_iret dX11_set_159 rfl ?_
            rw [hf.2.2.1]
            exact hQ _ (h.gr hW (frSlot (by omega)) (hga.slot (c := 3) hp (by omega)))
        · refine aw_icmp_ne 118 rfl dX11_set_89 (fun _ => ?_) (fun c_ => absurd c_ (e3))
          refine aw_iload_n rfl dX11_set_118 ?_
          refine aw_iconst (v := 4) (by decide) dX11_set_119 ?_
          by_cases e4 : w = 4
          · subst e4
            refine aw_icmp_ne 149 rfl dX11_set_120 (fun c_ => absurd (rfl) c_) (fun _ => ?_)
            refine aw_iload_n rfl dX11_set_123 ?_
            refine aw_iconst (v := 1) (by decide) dX11_set_124 ?_
            refine aw_bipush (v := 20) (by decide) dX11_set_125 ?_
            refine aw_s3 kX11_47 ⟨ble rfl, ble rfl⟩ (ble rfl) dX11_set_127 (c_isWithin ?_)
            refine aw_zeq 149 rfl dX11_set_130 (fun c2 => ?_) (fun c2 => ?_)
            · exact bad (by rw [if_pos (by decide), if_neg (by decide), if_pos (by decide), c2, Bool.and_false])
            · have ok : (in1 (4 : Int32) 1 4 && in1 v (if (4 : Int32) = 4 then 1 else 0) (if (4 : Int32) = 3 then 99 else if (4 : Int32) = 4 then 20 else 1)) = true := by rw [if_pos (by decide), if_neg (by decide), if_pos (by decide), c2]; decide
              rw [if_pos ok] at hQ
              refine aw_aload rfl dX11_set_133 ?_
              refine aw_getI gX11_134_4 (kP g1 (i := p) (by omega)) rfl dX11_set_135 ?_
              refine aw_istore (ble rfl) dX11_set_138 ?_
              refine aw_aload rfl dX11_set_140 ?_
              refine aw_iload_n rfl dX11_set_142 ?_
              refine aw_putI (pX11_134_4 _) (kP g1 (i := p) (by omega)) rfl rfl rfl dX11_set_143 ?_
              refine aw_goto 157 rfl dX11_set_146 ?_
              refine aw_iload rfl dX11_set_157 ?_
              refine aw_iret dX11_set_159 rfl ?_
              rw [hf.2.2.2]
              exact hQ _ (h.gr hW (frSlot (by omega)) (hga.slot (c := 4) hp (by omega)))
          · refine aw_icmp_ne 149 rfl dX11_set_120 (fun _ => ?_) (fun c_ => absurd c_ (e4))
            refine bad ?_
            cases c5 : in1 w 1 4 with
            | false => rfl
            | true =>
              obtain ⟨t, t1, t4, rfl⟩ := in1_t (a := 1) (b := 4) (by decide) (by decide) c5
              have : t = 1 ∨ t = 2 ∨ t = 3 ∨ t = 4 := by omega
              rcases this with rfl | rfl | rfl | rfl
              · exact absurd rfl e1
              · exact absurd rfl e2
              · exact absurd rfl e3
              · exact absurd rfl e4
  · rw [if_neg (by unfold isP; rw [c, Bool.false_and]; decide)] at hQ
    refine aw_aload_n rfl dX11_set_11 ?_
    refine aw_ldc (v := (-1000000001)) w_316 dX11_set_12 ?_
    refine aw_v1 kX11_52 ⟨ble rfl, ble rfl⟩ (rcX) (ble rfl) dX11_set_14 (e_finding (k := 0) h hW (by decide) (by decide) (fun μ' h' => ?_))
    refine aw_iret dX11_set_17 rfl ?_
    exact hQ μ' h'
end Cls14
