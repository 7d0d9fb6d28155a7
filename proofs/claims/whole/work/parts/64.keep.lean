/-! WHAT EVERY CALL KEEPS: the state stays well formed -/
theorem and255 (x : Int32) : ∃ c : Nat, c < 256 ∧ x &&& 255 = nI c := by
  refine ⟨(x.toBitVec &&& 255#32).toNat, ?_, ?_⟩
  · rw [BitVec.toNat_and]
    exact Nat.lt_of_le_of_lt Nat.and_le_right (by decide)
  · apply Int32.toBitVec_inj.1
    show x.toBitVec &&& 255#32 = BitVec.ofNat 32 (x.toBitVec &&& 255#32).toNat
    rw [BitVec.ofNat_toNat, BitVec.setWidth_eq]
theorem feedT_b {t : Nat → Int32} {c k : Nat} {b : Int32} (h : ∀ j, j < 120 → ∃ c : Nat, c < 256 ∧ t j = nI c) : ∀ i j, j < 120 → ∃ c2 : Nat, c2 < 256 ∧ feedT t c b k i j = nI c2
  | 0, j, hj => h j hj
  | i + 1, j, hj => by
    rw [feedT]
    by_cases e : j = c + i
    · rw [e, upd_eq]; exact and255 _
    · rw [upd_ne e]; exact feedT_b h i j hj
section WFk
variable {S : SG}
theorem WF_ansB (h : WF S) (o : OB) : WF (ansB S o).2 := by cases o <;> exact h
theorem WF_ansO (h : WF S) (o : Option Nat) : WF (ansO S o).2 := by cases o <;> exact h
theorem WF_ansD (h : WF S) (k : Nat) : WF (ansD S k).2 := by unfold ansD; split <;> exact h
theorem WF_ansW {r : Int32 × SG} (h : WF S) (hr : WF r.2) (o : Option Nat) : WF (ansW S o r).2 := by
  cases o with
  | none => exact hr
  | some k => exact h
theorem W_slack {v : Int32} (h : WF S) : WF (sp_slack v S).2 := by
  unfold sp_slack
  split
  · next c =>
    obtain ⟨t, -, ht, rfl⟩ := in1_t (a := 0) (b := 99) (by decide) (by decide) c
    exact WF_row h (WFs_2 h.1 ht)
  · exact h
theorem W_harvest {v : Int32} (h : WF S) : WF (sp_harvest v S).2 := by
  unfold sp_harvest
  split
  · exact WF_row h (WFs_3 h.1)
  · exact h
theorem W_knot {v : Int32} (h : WF S) : WF (sp_knot v S).2 := by
  unfold sp_knot
  split
  · next c =>
    unfold in1 at c
    rw [Bool.and_eq_true] at c
    exact WF_row h (WFs_1 h.1 ⟨of_decide_eq_true c.1, of_decide_eq_true c.2⟩)
  · exact h
theorem W_now {x : Int32} (h : WF S) : WF (sp_now x S).2 := by
  unfold sp_now
  repeat' split
  all_goals exact h
theorem W_person {k d : Int32} (h : WF S) : WF (sp_person k d S).2 := by
  unfold sp_person
  split
  · next c =>
    rw [Bool.and_eq_true] at c
    obtain ⟨a, -, ha, rfl⟩ := in1_t (a := 0) (b := 5) (by decide) (by decide) c.1
    obtain ⟨b, -, hb, rfl⟩ := in1_t (a := 0) (b := 1) (by decide) (by decide) c.2
    split
    · exact h
    · next c2 =>
      have hm9 : mny S.1 < 10 := by
        have : mny S.1 ≠ 10 := by
          intro z
          have h4 := h.1.1
          rw [z] at h4
          exact c2 h4
        have := h.1.2.1
        omega
      exact WF_row h (WFs_add h.1 hm9 (by omega) (by omega))
  · exact h
theorem W_of {x w : Int32} (h : WF S) : WF (sp_of x w S).2 := by
  unfold sp_of
  repeat' split
  all_goals exact h
theorem W_set {x w v : Int32} (h : WF S) : WF (sp_set x w v S).2 := by
  unfold sp_set
  by_cases c : (isP S x && (in1 w 1 4 && in1 v (if w = 4 then 1 else 0) (if w = 3 then 99 else if w = 4 then 20 else 1))) = true
  · rw [if_pos c]
    rw [Bool.and_eq_true, Bool.and_eq_true] at c
    obtain ⟨-, c1, c2⟩ := c
    obtain ⟨t, t1, t4, rfl⟩ := in1_t (a := 1) (b := 4) (by decide) (by decide) c1
    refine WF_row h ?_
    rw [ix_nI (by omega)]
    have ht : t = 1 ∨ t = 2 ∨ t = 3 ∨ t = 4 := by omega
    rcases ht with rfl | rfl | rfl | rfl
    · obtain ⟨b, -, hb, rfl⟩ := in1_t (a := 0) (b := 1) (by decide) (by decide) c2
      have hb2 : b = 0 ∨ b = 1 := by omega
      refine WFs_p h.1 (by decide) (fun hk => WFp_1 (h.1.2.2.2.2 _ hk) ?_)
      rcases hb2 with rfl | rfl
      · exact Or.inl rfl
      · exact Or.inr rfl
    · obtain ⟨b, -, hb, rfl⟩ := in1_t (a := 0) (b := 1) (by decide) (by decide) c2
      have hb2 : b = 0 ∨ b = 1 := by omega
      refine WFs_p h.1 (by decide) (fun hk => WFp_2 (h.1.2.2.2.2 _ hk) ?_)
      rcases hb2 with rfl | rfl
      · exact Or.inl rfl
      · exact Or.inr rfl
    · obtain ⟨b, -, hb, rfl⟩ := in1_t (a := 0) (b := 99) (by decide) (by decide) c2
      exact WFs_p h.1 (by decide) (fun hk => WFp_3 (h.1.2.2.2.2 _ hk) hb)
    · obtain ⟨b, hb1, hb, rfl⟩ := in1_t (a := 1) (b := 20) (by decide) (by decide) c2
      exact WFs_p h.1 (by decide) (fun hk => WFp_4 (h.1.2.2.2.2 _ hk) hb1 hb)
  · rw [if_neg c]
    exact h
theorem W_turn {x k : Int32} (h : WF S) : WF (sp_turn x k S).2 := by
  unfold sp_turn
  split
  · next c =>
    rw [Bool.and_eq_true] at c
    obtain ⟨a, -, ha, rfl⟩ := in1_t (a := 0) (b := 5) (by decide) (by decide) c.2
    exact WF_row h (WFs_kd h.1 (by omega))
  · exact h
theorem W_as {x k : Int32} (h : WF S) : WF (sp_as x k S).2 := by
  unfold sp_as
  repeat' split
  all_goals exact h
theorem W_relieve {a b : Int32} (h : WF S) : WF (sp_relieve a b S).2 := by
  unfold sp_relieve
  split
  · split
    · exact WF_row h (WFs_rel h.1)
    · exact h
  · exact h
theorem W_days {t : Int32} (h : WF S) : WF (sp_days t S).2 := by
  unfold sp_days
  split
  · split
    · exact WF_row h (WFs_goes _ h.1)
    · exact h
  · exact h
theorem W_on {t w : Int32} (h : WF S) : WF (sp_on t w S).2 := by
  unfold sp_on
  split <;> exact h
theorem W_then {x t w : Int32} (h : WF S) : WF (sp_then x t w S).2 := by
  unfold sp_then
  split <;> exact h
theorem W_wins {d v : Int32} (h : WF S) : WF (sp_wins d v S).2 := by
  unfold sp_wins
  split
  · exact WF_ansD h _
  · exact h
theorem W_off {x : Int32} (h : WF S) : WF (sp_off x S).2 := by
  unfold sp_off
  split
  · exact WF_ansD h _
  · exact h
theorem W_turns (h : WF S) : WF (sp_turns S).2 := WF_ansD h _
theorem W_spell {x t : Int32} (h : WF S) : WF (sp_spell x t S).2 := by
  unfold sp_spell
  split
  · split
    · exact h
    · exact WF_ansB h _
  · exact h
theorem W_kind {x t : Int32} (h : WF S) : WF (sp_kind x t S).2 := by
  unfold sp_kind
  split <;> exact h
theorem W_week {d t : Int32} (h : WF S) : WF (sp_week d t S).2 := by
  unfold sp_week
  split <;> exact h
theorem W_strong {x t v : Int32} (h : WF S) : WF (sp_strong x t v S).2 := by
  unfold sp_strong
  split
  · exact WF_ansO h _
  · exact h
theorem W_bears {x t : Int32} (h : WF S) : WF (sp_bears x t S).2 := by
  unfold sp_bears
  split
  · exact WF_ansO h _
  · exact h
theorem W_fewest {d : Int32} (h : WF S) : WF (sp_fewest d S).2 := by
  unfold sp_fewest
  split
  · exact WF_ansB h _
  · exact h
theorem W_traitor {t : Int32} (h : WF S) : WF (sp_traitor t S).2 := by
  unfold sp_traitor
  split
  · exact WF_ansB h _
  · exact h
theorem W_feed {b t : Int32} (h : WF S) : WF (sp_feed b t S).2 := by
  have hN := h.2.2.1
  unfold sp_feed
  split
  · next c =>
    obtain ⟨k, hk1, hk, rfl⟩ := in1_t (a := 1) (b := 4) (by decide) (by decide) c
    rw [ix_nI (by omega)]
    split
    · next c2 =>
      rw [nI_add, fa_le, nI_toInt (by omega)] at c2
      have c2 : ((S.2.2.2.2.2.1 + k : Nat) : Int) ≤ 120 := c2
      exact ⟨h.1, h.2.1, by show S.2.2.2.2.2.1 + k ≤ 120; omega, h.2.2.2.1, fun j hj => feedT_b h.2.2.2.2 k j hj⟩
    · exact h
  · exact h
theorem W_wipe (h : WF S) : WF (sp_wipe S).2 := ⟨h.1, h.2.1, Nat.zero_le _, h.2.2.2⟩
theorem W_green (h : WF S) : WF (sp_green S).2 := by
  have hN := h.2.2.1
  unfold sp_green
  split
  · exact ⟨rdAll_ok 120 1 0 S.1 (Nat.zero_le _) h.1, h.2.1, Nat.zero_le _, h.2.2.2⟩
  · exact ⟨h.1, h.2.1, Nat.zero_le _, h.2.2.2⟩
theorem W_sheet {x b t : Int32} (h : WF S) : WF (sp_sheet x b t S).2 := by
  unfold sp_sheet
  split
  · split
    · exact h
    · next c1 =>
      split
      · exact h
      · next c2 =>
        refine ⟨h.1, h.2.1, h.2.2.1, fun i hi => ?_, h.2.2.2.2⟩
        show ∃ c : Nat, c ≤ 40 ∧ upd (gZ S) (ix x) (if b = 0 then 0 else t) i = nI c
        by_cases e : i = ix x
        · rw [e, upd_eq]
          split
          · exact ⟨0, by omega, rfl⟩
          · obtain ⟨k, hk, rfl⟩ := nI_of c1
            have c3 := Int32.not_lt.mp c2
            rw [fa_le, nI_toInt hk] at c3
            have c3 : (k : Int) ≤ 40 := c3
            exact ⟨k, by omega, rfl⟩
        · rw [upd_ne e]
          exact h.2.2.2.1 i hi
  · exact h
theorem W_write {x i : Int32} {v : Int64} (h : WF S) : WF (sp_write x i v S).2 := by
  unfold sp_write
  split
  · exact h
  · split <;> exact h
theorem W_copy {x a y b t : Int32} (h : WF S) : WF (sp_copy x a y b t S).2 := by
  unfold sp_copy
  repeat' split
  all_goals exact h
theorem W_lays {x : Int32} (h : WF S) : WF (sp_lays x S).2 := WF_ansW h (WF_row (S := S) h (WFs_lay h.1 _)) _
theorem W_book {x : Int32} (h : WF S) : WF (sp_book x S).2 := WF_ansW h h _
theorem W_read {x y : Int32} (h : WF S) : WF (sp_read x y S).2 := WF_ansW h (by split <;> exact h) _
theorem W_image (h : WF S) : WF (sp_image S).2 := ⟨h.1, fun _ => h.1, h.2.2⟩
theorem W_undo (h : WF S) : WF (sp_undo S).2 := by
  unfold sp_undo
  split
  · next c => exact WF_row h (h.2.1 c)
  · exact h
theorem W_tear (h : WF S) : WF (sp_tear S).2 := ⟨h.1, fun e => (by cases e), h.2.2⟩
theorem W_count {x : Int32} (h : WF S) : WF (sp_count x S).2 := by
  unfold sp_count
  repeat' split
  all_goals exact h
theorem W_status {x : Int32} (h : WF S) : WF (sp_status x S).2 := by
  unfold sp_status
  split <;> exact h
end WFk
