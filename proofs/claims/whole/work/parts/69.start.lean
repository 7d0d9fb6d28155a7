/-! THE START: what the Statement gives of the world at the law's entry -/
theorem t_s0 : (Cond.stringRef "EndlessTug$Tape" 116 "man") ∈ lw_tbl := List.mem_append_right _ (List.mem_append_right _ (List.mem_append_right _ (List.mem_append_left _ (List.mem_of_getElem? (i := 146) rfl))))
theorem t_s1 : (Cond.stringRef "EndlessTug$Tape" 118 "son") ∈ lw_tbl := List.mem_append_right _ (List.mem_append_right _ (List.mem_append_right _ (List.mem_append_left _ (List.mem_of_getElem? (i := 199) rfl))))
theorem t_s2 : (Cond.stringRef "EndlessTug$Tape" 120 "drinker") ∈ lw_tbl := List.mem_append_right _ (List.mem_append_right _ (List.mem_append_right _ (List.mem_append_left _ (List.mem_of_getElem? (i := 200) rfl))))
theorem t_s3 : (Cond.stringRef "EndlessTug$Tape" 122 "woman") ∈ lw_tbl := List.mem_append_right _ (List.mem_append_right _ (List.mem_append_right _ (List.mem_append_left _ (List.mem_of_getElem? (i := 201) rfl))))
theorem t_s4 : (Cond.stringRef "EndlessTug$Tape" 124 "preacher") ∈ lw_tbl := List.mem_append_right _ (List.mem_append_right _ (List.mem_append_right _ (List.mem_append_left _ (List.mem_of_getElem? (i := 202) rfl))))
theorem t_s5 : (Cond.stringRef "EndlessTug$Tape" 126 "stranger") ∈ lw_tbl := List.mem_append_right _ (List.mem_append_right _ (List.mem_append_right _ (List.mem_append_left _ (List.mem_of_getElem? (i := 203) rfl))))
theorem t_s6 : (Cond.stringRef "EndlessTug$Tape" 109 "pub") ∈ lw_tbl := List.mem_append_right _ (List.mem_append_right _ (List.mem_append_right _ (List.mem_append_left _ (List.mem_of_getElem? (i := 213) rfl))))
theorem t_s7 : (Cond.stringRef "EndlessTug$Tape" 114 "chapel") ∈ lw_tbl := List.mem_append_right _ (List.mem_append_right _ (List.mem_append_right _ (List.mem_append_left _ (List.mem_of_getElem? (i := 214) rfl))))
theorem t_s8 : (Cond.stringRef "EndlessTug$Tape" 82 "strong") ∈ lw_tbl := List.mem_append_right _ (List.mem_append_right _ (List.mem_append_right _ (List.mem_append_left _ (List.mem_of_getElem? (i := 216) rfl))))
theorem t_s9 : (Cond.stringRef "EndlessTug$Tape" 95 "tired") ∈ lw_tbl := List.mem_append_right _ (List.mem_append_right _ (List.mem_append_right _ (List.mem_append_left _ (List.mem_of_getElem? (i := 225) rfl))))
theorem t_s10 : (Cond.stringRef "EndlessTug$Tape" 99 "on") ∈ lw_tbl := List.mem_append_right _ (List.mem_append_right _ (List.mem_append_right _ (List.mem_append_left _ (List.mem_of_getElem? (i := 226) rfl))))
theorem t_s11 : (Cond.stringRef "EndlessTug$Tape" 43 "harvest") ∈ lw_tbl := List.mem_append_right _ (List.mem_append_right _ (List.mem_append_right _ (List.mem_append_left _ (List.mem_of_getElem? (i := 227) rfl))))
theorem t_s12 : (Cond.stringRef "EndlessTug$Tape" 52 "plain") ∈ lw_tbl := List.mem_append_right _ (List.mem_append_right _ (List.mem_append_right _ (List.mem_append_left _ (List.mem_of_getElem? (i := 232) rfl))))
theorem t_s13 : (Cond.stringRef "EndlessTug$Tape" 54 "knot") ∈ lw_tbl := List.mem_append_right _ (List.mem_append_right _ (List.mem_append_right _ (List.mem_append_left _ (List.mem_of_getElem? (i := 233) rfl))))
theorem t_s14 : (Cond.stringRef "EndlessTug$Tape" 59 "slack") ∈ lw_tbl := List.mem_append_right _ (List.mem_append_right _ (List.mem_append_right _ (List.mem_append_left _ (List.mem_of_getElem? (i := 238) rfl))))
theorem t_sr : ∀ i, i < 15 → Cond.stringRef "EndlessTug$Tape" (sIdx.getD i 0) (sTxt.getD i "") ∈ lw_tbl := by
  intro i hi
  match i, hi with
  | 0, _ => exact t_s0
  | 1, _ => exact t_s1
  | 2, _ => exact t_s2
  | 3, _ => exact t_s3
  | 4, _ => exact t_s4
  | 5, _ => exact t_s5
  | 6, _ => exact t_s6
  | 7, _ => exact t_s7
  | 8, _ => exact t_s8
  | 9, _ => exact t_s9
  | 10, _ => exact t_s10
  | 11, _ => exact t_s11
  | 12, _ => exact t_s12
  | 13, _ => exact t_s13
  | 14, _ => exact t_s14
  | k + 15, h => exact absurd h (by omega)
theorem t_n0 : (Cond.methodLinkNest "EndlessTug" 24 ⟨"EndlessTug$Best", "<init>", "()V"⟩ "EndlessTug") ∈ lw_tbl := List.mem_append_right _ (List.mem_append_left _ (List.mem_of_getElem? (i := 166) rfl))
theorem t_n1 : (Cond.methodLinkNest "EndlessTug" 31 ⟨"EndlessTug$Tape", "<init>", "()V"⟩ "EndlessTug") ∈ lw_tbl := List.mem_append_right _ (List.mem_append_left _ (List.mem_of_getElem? (i := 184) rfl))
theorem t_n2 : (Cond.methodLinkNest "EndlessTug" 46 ⟨"EndlessTug$Sheet", "<init>", "()V"⟩ "EndlessTug") ∈ lw_tbl := List.mem_append_right _ (List.mem_append_left _ (List.mem_of_getElem? (i := 212) rfl))
theorem t_n3 : (Cond.methodLinkNest "EndlessTug$Green" 68 ⟨"EndlessTug", "isKind", "(I)Z"⟩ "EndlessTug") ∈ lw_tbl := List.mem_append_right _ (List.mem_append_right _ (List.mem_append_left _ (List.mem_of_getElem? (i := 118) rfl)))
theorem t_c0 : (Cond.castable "EndlessTug$Son" "EndlessTug$Man") ∈ lw_tbl := List.mem_append_right _ (List.mem_append_right _ (List.mem_append_right _ (List.mem_append_right _ (List.mem_append_right _ (List.mem_append_right _ (List.mem_of_getElem? (i := 6) rfl))))))
theorem t_c1 : (Cond.castable "EndlessTug$Drinker" "EndlessTug$Man") ∈ lw_tbl := List.mem_append_right _ (List.mem_append_right _ (List.mem_append_right _ (List.mem_append_right _ (List.mem_append_right _ (List.mem_append_right _ (List.mem_of_getElem? (i := 7) rfl))))))
theorem t_c2 : (Cond.castable "EndlessTug$Woman" "EndlessTug$Man") ∈ lw_tbl := List.mem_append_right _ (List.mem_append_right _ (List.mem_append_right _ (List.mem_append_right _ (List.mem_append_right _ (List.mem_append_right _ (List.mem_of_getElem? (i := 8) rfl))))))
theorem t_c3 : (Cond.castable "EndlessTug$Preacher" "EndlessTug$Man") ∈ lw_tbl := List.mem_append_right _ (List.mem_append_right _ (List.mem_append_right _ (List.mem_append_right _ (List.mem_append_right _ (List.mem_append_right _ (List.mem_of_getElem? (i := 9) rfl))))))
theorem t_c4 : (Cond.castable "EndlessTug$Stranger" "EndlessTug$Man") ∈ lw_tbl := List.mem_append_right _ (List.mem_append_right _ (List.mem_append_right _ (List.mem_append_right _ (List.mem_append_right _ (List.mem_append_right _ (List.mem_of_getElem? (i := 10) rfl))))))
theorem t_o0 : (Cond.arrayOver (.object "EndlessTug$Man")) ∈ lw_tbl := List.mem_append_right _ (List.mem_append_left _ (List.mem_of_getElem? (i := 37) rfl))
theorem t_o1 : (Cond.arrayOver (.object "EndlessTug$Person")) ∈ lw_tbl := List.mem_append_right _ (List.mem_append_left _ (List.mem_of_getElem? (i := 39) rfl))
theorem t_o2 : (Cond.arrayOver (.object "EndlessTug$Sheet")) ∈ lw_tbl := List.mem_append_right _ (List.mem_append_left _ (List.mem_of_getElem? (i := 210) rfl))
theorem t_z0 : (Cond.laysStatic "java/lang/String" "COMPACT_STRINGS" "Z") ∈ lw_tbl := List.mem_append_right _ (List.mem_append_right _ (List.mem_append_right _ (List.mem_append_left _ (List.mem_of_getElem? (i := 160) rfl))))
theorem t_z1 : (Cond.laysStatic "jdk/internal/util/Preconditions" "SIOOBE_FORMATTER" "Ljava/util/function/BiFunction;") ∈ lw_tbl := List.mem_append_right _ (List.mem_append_right _ (List.mem_append_right _ (List.mem_append_left _ (List.mem_of_getElem? (i := 176) rfl))))
theorem t_z2 : (Cond.initialized "java/lang/String") ∈ lw_tbl := List.mem_append_right _ (List.mem_append_left _ (List.mem_of_getElem? (i := 16) rfl))
theorem t_z3 : (Cond.initialized "jdk/internal/util/Preconditions") ∈ lw_tbl := List.mem_append_right _ (List.mem_append_left _ (List.mem_of_getElem? (i := 18) rfl))
def flN : List Cond := flatC (Jvm.Cond.and given_1 narrow_1)
def tmS (i : Nat) : Term := .string "EndlessTug$Tape" (sIdx.getD i 0)
def blk (i : Nat) : List Cond := (([Cond.exactly (tmS i) "java/lang/String", Cond.eq (.field (tmS i) "java/lang/String" "coder" "B") (.int 0), Cond.arrayOf (.field (tmS i) "java/lang/String" "value" "[B") .byte, Cond.eq (.length (.field (tmS i) "java/lang/String" "value" "[B")) (.int (Int32.ofNat (sLen.getD i 0)))] : List Cond) ++ (List.range (sLen.getD i 0)).map (fun j => Cond.eq (.elem (.field (tmS i) "java/lang/String" "value" "[B") (.int (Int32.ofNat j))) (.int ((sByt.getD i []).getD j 0)))) ++ (List.range i).map (fun j => Cond.not (Cond.eq (tmS j) (tmS i)))
set_option maxRecDepth 20000 in
theorem x_sl : flN.drop 43 = (List.range 15).flatMap blk := rfl
theorem x_in {i : Nat} {c : Cond} (hi : i < 15) (h : c ∈ blk i) : c ∈ flN := List.mem_of_mem_drop (i := 43) (by rw [x_sl]; exact List.mem_flatMap.mpr ⟨i, List.mem_range.mpr hi, h⟩)
theorem x_ex (i : Nat) (hi : i < 15) : Cond.exactly (tmS i) "java/lang/String" ∈ flN := x_in hi (List.mem_append_left _ (List.mem_append_left _ List.mem_cons_self))
theorem x_co (i : Nat) (hi : i < 15) : Cond.eq (.field (tmS i) "java/lang/String" "coder" "B") (.int 0) ∈ flN := x_in hi (List.mem_append_left _ (List.mem_append_left _ (List.mem_cons_of_mem _ List.mem_cons_self)))
theorem x_ar (i : Nat) (hi : i < 15) : Cond.arrayOf (.field (tmS i) "java/lang/String" "value" "[B") .byte ∈ flN := x_in hi (List.mem_append_left _ (List.mem_append_left _ (List.mem_cons_of_mem _ (List.mem_cons_of_mem _ List.mem_cons_self))))
theorem x_le (i : Nat) (hi : i < 15) : Cond.eq (.length (.field (tmS i) "java/lang/String" "value" "[B")) (.int (Int32.ofNat (sLen.getD i 0))) ∈ flN := x_in hi (List.mem_append_left _ (List.mem_append_left _ (List.mem_cons_of_mem _ (List.mem_cons_of_mem _ (List.mem_cons_of_mem _ List.mem_cons_self)))))
theorem x_el (i : Nat) (hi : i < 15) (j : Nat) (hj : j < sLen.getD i 0) : Cond.eq (.elem (.field (tmS i) "java/lang/String" "value" "[B") (.int (Int32.ofNat j))) (.int ((sByt.getD i []).getD j 0)) ∈ flN := x_in hi (List.mem_append_left _ (List.mem_append_right _ (List.mem_map.mpr ⟨j, List.mem_range.mpr hj, rfl⟩)))
theorem x_ne (i : Nat) (hi : i < 15) (j : Nat) (hj : j < 15) (hne : i ≠ j) : Cond.not (Cond.eq (tmS i) (tmS j)) ∈ flN ∨ Cond.not (Cond.eq (tmS j) (tmS i)) ∈ flN := by
  rcases Nat.lt_or_gt_of_ne hne with h | h
  · exact Or.inl (x_in hj (List.mem_append_right _ (List.mem_map.mpr ⟨i, List.mem_range.mpr h, rfl⟩)))
  · exact Or.inr (x_in hi (List.mem_append_right _ (List.mem_map.mpr ⟨j, List.mem_range.mpr h, rfl⟩)))
theorem x_cs : Cond.eq (.static "java/lang/String" "COMPACT_STRINGS" "Z") (.int 1) ∈ flN := List.mem_of_getElem? (i := 4) rfl
theorem x_fm : Cond.isRef (.static "jdk/internal/util/Preconditions" "SIOOBE_FORMATTER" "Ljava/util/function/BiFunction;") ∈ flN := List.mem_of_getElem? (i := 5) rfl
theorem x_ln : ∀ i : Nat, i < 15 → sLen.getD i 0 < 2 ^ 31 := by decide +kernel
section Start
variable {args : Array Value} {s : State}
theorem k_arrI (h : (Cond.arrayClass .int).before args s = true) : ∃ cA : ClassId, ArrOfT s cA .int ∧ va_RA s cA .int := by
  obtain ⟨cA, kA, comp, h1, h2, h3⟩ := Cond.arrayClass_spec h
  exact ⟨cA, fun n z => ⟨fun k h => (by cases h), kA, h2, comp, h3⟩, h1⟩
theorem k_arrJ (h : (Cond.arrayClass .long).before args s = true) : ∃ cA : ClassId, ArrOfT s cA .long ∧ va_RA s cA .long := by
  obtain ⟨cA, kA, comp, h1, h2, h3⟩ := Cond.arrayClass_spec h
  exact ⟨cA, fun n z => ⟨fun k h => (by cases h), kA, h2, comp, h3⟩, h1⟩
theorem k_arrC (h : (Cond.arrayClass .char).before args s = true) : ∃ cA : ClassId, ArrOfT s cA .char ∧ va_RA s cA .char := by
  obtain ⟨cA, kA, comp, h1, h2, h3⟩ := Cond.arrayClass_spec h
  exact ⟨cA, fun n z => ⟨fun k h => (by cases h), kA, h2, comp, h3⟩, h1⟩
theorem k_arrO {C : String} (h : va_AO C s) : ∃ cA : ClassId, ArrOfT s cA (.object C) ∧ va_RA s cA (.object C) := by
  obtain ⟨comp, cA, kA, hcomp, -, hkA, hkind, hname⟩ := Cond.arrayOver_spec h
  exact ⟨cA, fun N z => ⟨(fun k h => by cases h), kA, hkA, comp, hkind⟩, kA, comp, hkA, hkind, hcomp, hname⟩
theorem k_known (hts : ∀ w ∈ ws0, w.before args s = true) (hAO : ∀ C ∈ overL, va_AO C s) : ∃ (dA : Nat → ClassId) (D : va_G), va_K D cls13 (tyl dA) s := by
  obtain ⟨c0, i0, h0⟩ := u_known (C := RX0) (T := TX0) (N := 3) (n := 3) hts u_in0 (hts _ w_217)
  obtain ⟨c1, i1, h1⟩ := u_known (C := RX1) (T := TX1) (N := 1) (n := 1) hts u_in1 (hts _ w_111)
  obtain ⟨c2, i2, h2⟩ := u_known (C := RX2) (T := TX2) (N := 7) (n := 7) hts u_in2 (hts _ w_83)
  obtain ⟨c3, i3, h3⟩ := u_known (C := RX3) (T := TX3) (N := 1) (n := 1) hts u_in3 (hts _ w_92)
  obtain ⟨c4, i4, h4⟩ := u_known (C := RX4) (T := TX4) (N := 5) (n := 5) hts u_in4 (hts _ w_142)
  obtain ⟨c5, i5, h5⟩ := u_known (C := RX5) (T := TX5) (N := 1) (n := 1) hts u_in5 (hts _ w_127)
  obtain ⟨c6, i6, h6⟩ := u_known (C := RX6) (T := TX6) (N := 3) (n := 3) hts u_in6 (hts _ w_263)
  obtain ⟨c7, i7, h7⟩ := u_known (C := RX7) (T := TX7) (N := 1) (n := 1) hts u_in7 (hts _ w_103)
  obtain ⟨c8, i8, h8⟩ := u_known (C := RX8) (T := TX8) (N := 1) (n := 1) hts u_in8 (hts _ w_135)
  obtain ⟨c9, i9, h9⟩ := u_known (C := RX9) (T := TX9) (N := 6) (n := 6) hts u_in9 (hts _ w_235)
  obtain ⟨c10, i10, h10⟩ := u_known (C := RX10) (T := TX10) (N := 1) (n := 1) hts u_in10 (hts _ w_119)
  obtain ⟨c11, i11, h11⟩ := u_known (C := RX11) (T := TX11) (N := 8) (n := 8) hts u_in11 (hts _ w_75)
  obtain ⟨c12, i12, h12⟩ := u_known (C := RX12) (T := TX12) (N := 19) (n := 19) hts u_in12 (hts _ w_861)
  obtain ⟨a0, g0⟩ := k_arrI (hts _ w_260)
  obtain ⟨a1, g1⟩ := k_arrJ (hts _ w_283)
  obtain ⟨a2, g2⟩ := k_arrC (hts _ w_924)
  obtain ⟨a3, g3⟩ := k_arrO (hAO "EndlessTug$Man" (by decide))
  obtain ⟨a4, g4⟩ := k_arrO (hAO "EndlessTug$Person" (by decide))
  obtain ⟨a5, g5⟩ := k_arrO (hAO "EndlessTug$Sheet" (by decide))
  refine ⟨fun k => match k with | 0 => a0 | 1 => a1 | 2 => a2 | 3 => a3 | 4 => a4 | _ => a5, (fun k => match k with | 0 => c0 | 1 => c1 | 2 => c2 | 3 => c3 | 4 => c4 | 5 => c5 | 6 => c6 | 7 => c7 | 8 => c8 | 9 => c9 | 10 => c10 | 11 => c11 | _ => c12, fun k => match k with | 0 => i0 | 1 => i1 | 2 => i2 | 3 => i3 | 4 => i4 | 5 => i5 | 6 => i6 | 7 => i7 | 8 => i8 | 9 => i9 | 10 => i10 | 11 => i11 | _ => i12), fun k q hq => ?_, fun k q hq => ?_⟩
  · match k, hq with
    | 0, hq => cases hq; exact h0
    | 1, hq => cases hq; exact h1
    | 2, hq => cases hq; exact h2
    | 3, hq => cases hq; exact h3
    | 4, hq => cases hq; exact h4
    | 5, hq => cases hq; exact h5
    | 6, hq => cases hq; exact h6
    | 7, hq => cases hq; exact h7
    | 8, hq => cases hq; exact h8
    | 9, hq => cases hq; exact h9
    | 10, hq => cases hq; exact h10
    | 11, hq => cases hq; exact h11
    | 12, hq => cases hq; exact h12
    | k + 13, hq => exact absurd (List.getElem?_eq_some_iff.mp hq).1 (by show ¬ k + 13 < 13; omega)
  · match k, hq with
    | 0, hq => cases hq; exact g0
    | 1, hq => cases hq; exact g1
    | 2, hq => cases hq; exact g2
    | 3, hq => cases hq; exact g3
    | 4, hq => cases hq; exact g4
    | 5, hq => cases hq; exact g5
    | k + 6, hq => exact absurd (List.getElem?_eq_some_iff.mp hq).1 (by show ¬ k + 6 < 6; omega)
end Start
