/-! the script and the row for what is thrown stay -/
section PC
variable {A B B' : Nat → Nat → Nat} {h h1 h2 : bi_H} {X Y Z X1 Y1 Z1 X2 Y2 Z2 : Nat} {S S' : ba_S} {s : Nat}
theorem ca_kd_tag {p c i : Nat} (hi : i < ca_bd c) : (ca_kd p c).1 ≠ 3 ∧ (ca_kd p c).1 ≠ 4 := by
  unfold ca_bd at hi
  split at hi
  all_goals first
    | exact absurd hi (Nat.not_lt_zero _)
    | exact ⟨by unfold ca_kd; decide, by unfold ca_kd; decide⟩
    | exact ⟨fun w => by simp [ca_kd] at w, fun w => by simp [ca_kd] at w⟩
theorem mb_kd_tag {n c i : Nat} (hi : mb_in n c i) : (mb_kd S c i).1 ≠ 3 ∧ (mb_kd S c i).1 ≠ 4 := by
  have hi := hi.1
  unfold mb_bd at hi
  split at hi
  all_goals first
    | exact absurd hi (Nat.not_lt_zero _)
    | exact ⟨fun w => by simp [mb_kd] at w, fun w => by simp [mb_kd] at w⟩
/-- what is neither's -/
def bj_o (h : bi_H) (a : Nat) : Prop := a < bi_nx h ∧ ((bi_k h a).1 = 3 ∨ (bi_k h a).1 = 4)
theorem bj.keep1 (J : bj A B h S X Y Z) (Q : cs_Q A h X1 Y1 Z1 h1 S') {a : Nat} (ha : bj_o h a) : bi_k h1 a = bi_k h a ∧ (∀ j, bi_ai h1 a j = bi_ai h a j) ∧ bj_o h1 a := by
  obtain ⟨⟨r0, -, Q0⟩, -⟩ := J
  obtain ⟨r, -, Q⟩ := Q
  obtain ⟨f1, f2, f3, f4, f5, f6⟩ := Q.2.1
  refine ⟨f2 a ha.1, fun j => (f4 a j ha.1 (fun c i hi w => ?_)).1, Nat.lt_of_lt_of_le ha.1 (Nat.le_trans (Nat.le_max_right _ _) f1), by rw [f2 a ha.1]; exact ha.2⟩
  have k := (Q0.1.1 c i hi).1
  have t := ca_kd_tag (p := bz_pool (bz_sr S r0)) hi
  rw [← k, ← w] at t
  rcases ha.2 with u | u
  · exact t.1 u
  · exact t.2 u
theorem bj.keep2 (J : bj A B h S X Y Z) (R1 : ms_Q (mj_O B (bz_N S)) B [] 0 h1 X1 Y1 Z h1 S) (R : ms_Q (mj_O B (bz_N S)) B' [] 0 h1 X2 Y2 Z2 h2 S') {a : Nat} (ha : bj_o h1 a) : bi_k h2 a = bi_k h1 a ∧ (∀ j, bi_ai h2 a j = bi_ai h1 a j) ∧ bj_o h2 a := by
  obtain ⟨m1, -, R1⟩ := R1
  obtain ⟨m, -, R⟩ := R
  obtain ⟨p1, p2, p3, p4, p5, p6, p7⟩ := R.2.1
  refine ⟨p2 a ha.1, fun j => (p4 a j ha.1 (fun w => ?_)).1, Nat.lt_of_lt_of_le ha.1 p1, by rw [p2 a ha.1]; exact ha.2⟩
  obtain ⟨c, i, hi, e⟩ := w
  have k := (R1.1.1 c i hi).1
  have t := mb_kd_tag (S := bz_sm S m1) hi
  rw [← k, ← e] at t
  rcases ha.2 with u | u
  · exact t.1 u
  · exact t.2 u
end PC
