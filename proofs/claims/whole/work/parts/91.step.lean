/-! one call of the class, then the same call of the reference, in one heap -/
/-- the reference's addresses, told one by one -/
def mj_q (B : Nat → Nat → Nat) (n p k : Nat) : Nat := if k % 1000 < mb_bd (k / 1000) ∧ (mb_ex (k / 1000) = false ∨ k % 1000 % 4 < n) then B (k / 1000) (k % 1000) else p
def bj (A B : Nat → Nat → Nat) (h : bi_H) (S : ba_S) (X Y Z : Nat) : Prop :=
  cs_Q A h X Y Z h S ∧ ms_Q (mj_O B (bz_N S)) B [] 0 h X Y Z h S ∧ (∀ c i c' i', i < ca_bd c → mb_in (bz_N S) c' i' → A c i ≠ B c' i') ∧ A 98 0 = bi_nx h ∧ ∀ c i, mb_in (bz_N S) c i → ∃ n, A 99 n = B c i
section PB
variable {A B B' : Nat → Nat → Nat} {h h1 h2 : bi_H} {X Y Z X1 Y1 Z1 X2 Y2 Z2 : Nat} {S S' : ba_S} {s : Nat}
theorem mb_bd_le (c : Nat) : mb_bd c ≤ 61 := by
  unfold mb_bd
  split <;> decide
theorem mj_q_in {n p c i : Nat} (hi : mb_in n c i) : mj_q B n p (1000 * c + i) = B c i := by
  have h1 := hi.1
  have h2 := mb_bd_le c
  have e1 : (1000 * c + i) / 1000 = c := by omega
  have e2 : (1000 * c + i) % 1000 = i := by omega
  unfold mj_q
  rw [e1, e2]
  refine if_pos ⟨h1, ?_⟩
  cases hx : mb_ex c
  · exact Or.inl rfl
  · exact Or.inr (hi.2 hx)
theorem mj_q_of {n p k : Nat} (h : mj_q B n p k < p) : ∃ c i, mb_in n c i ∧ mj_q B n p k = B c i := by
  unfold mj_q at h ⊢
  split at h
  · rename_i w
    rw [if_pos w]
    refine ⟨_, _, ⟨w.1, fun u => ?_⟩, rfl⟩
    rcases w.2 with v | v
    · rw [u] at v
      cases v
    · exact v
  · exact absurd h (Nat.lt_irrefl _)
/-- the class has run: the reference stands -/
theorem bj.mid (J : bj A B h S X Y Z) (Q : cs_Q A h X1 Y1 Z1 h1 S') : ms_Q (mj_O B (bz_N S)) B [] 0 h1 X1 Y1 Z h1 S := by
  obtain ⟨-, ⟨m, hm, R⟩, hd, -, -⟩ := J
  obtain ⟨r, -, Q⟩ := Q
  obtain ⟨f1, f2, f3, f4, f5, f6⟩ := Q.2.1
  have L := R.1
  refine ⟨m, hm, R.move (Nat.le_trans (Nat.le_max_right _ _) f1) f2 (fun c k a hc ha => f3 c k a (Or.inl hc) ha) (fun c i j hi => f4 _ j (L.1 c i hi).2.1 (fun c' i' hi' w => hd c' i' c i hi' hi w.symm)) f5 f6⟩
/-- both have run -/
theorem bj.fin (J : bj A B h S X Y Z) (Q : cs_Q A h X1 Y1 Z1 h1 S') (R : ms_Q (mj_O B (bz_N S)) B' [] 0 h1 X2 Y2 Z2 h2 S') (hZ1 : Z1 ≤ Z2) : ∃ A', (∀ c i, c < 98 → A' c i = A c i) ∧ bj A' B' h2 S' X2 Y2 Z2 := by
  obtain ⟨-, ⟨m0, -, R0⟩, hd, h98, h99⟩ := J
  obtain ⟨m, hm, R⟩ := R
  obtain ⟨r, hr, Q⟩ := Q
  obtain ⟨p1, p2, p3, p4, p5, p6, p7⟩ := id R.2.1
  have LA := Q.1
  have q1 := Q.2.1.1
  have bl : ∀ c i, mb_in (bz_N S) c i → B c i < bi_nx h := fun c i hi => (R0.1.1 c i hi).2.1
  -- a row of a message is none of the reference's
  have row : ∀ i, i < (bz_F S').length → (bi_ar h1 (A 50 0) i < bi_nx h1) ∧ (bi_fr h1 2 8 (bi_ar h1 (A 50 0) i) ≠ 0 → bi_fr h1 2 8 (bi_ar h1 (A 50 0) i) < bi_nx h1 ∧ ∀ c i', mb_in (bz_N S) c i' → bi_fr h1 2 8 (bi_ar h1 (A 50 0) i) ≠ B c i') := fun i hi => by
    obtain ⟨g1, g2, g3, g4⟩ := Q.2.2.2.2.2.2.2.1 i hi
    refine ⟨g2.1, fun h0 => ?_⟩
    rcases g4 with ⟨g4, -⟩ | ⟨⟨g4, g4', g4''⟩, g5, g6, g7⟩
    · exact absurd g4 h0
    · refine ⟨g4, fun c i' hi' => ?_⟩
      obtain ⟨n, hn⟩ := h99 c i' hi'
      rw [← hn]
      exact g4'' n (by rw [hn, h98]; exact bl c i' hi')
  have notO : ∀ c i, i < ca_bd c → ¬ mj_O B (bz_N S) (A c i) := fun c i hi w => by
    obtain ⟨c', i', hi', e⟩ := w
    exact hd c i c' i' hi hi' e
  have R1 := Q.move (x' := X2) (y' := Y2) p1 p2 p3 (fun c i j hi => p4 _ j (LA.1 c i hi).2.1 (notO c i hi)) (fun i j hi h0 => (p4 _ j ((row i hi).2 h0).1 (fun w => by
    obtain ⟨c', i', hi', e⟩ := w
    exact ((row i hi).2 h0).2 c' i' hi' e)).1) (Nat.le_trans (Nat.le_trans (Nat.le_max_left _ _) q1) p1) p5 p6
  have R2 := R1.fo (p := bi_nx h2) (q := mj_q B' (bz_N S') (bi_nx h2)) (Nat.le_refl _) (fun i n hi h0 hn => by
    have hi : i < (bz_F S').length := hi
    have e1 : bi_ar h2 (A 50 0) i = bi_ar h1 (A 50 0) i := (p4 _ i (LA.1 50 0 (by decide)).2.1 (notO 50 0 (by decide))).2
    have e2 : bi_fr h2 2 8 (bi_ar h1 (A 50 0) i) = bi_fr h1 2 8 (bi_ar h1 (A 50 0) i) := (p3 2 8 _ (by decide) (row i hi).1).2
    rw [e1, e2] at h0 ⊢
    obtain ⟨c', i', hi', e⟩ := mj_q_of hn
    rw [e]
    rcases p7 c' i' hi' with ⟨c2, i2, hi2, e3⟩ | w
    · rw [e3]
      exact ((row i hi).2 h0).2 c2 i2 hi2
    · have := ((row i hi).2 h0).1
      omega)
  refine ⟨ca_fo A (bi_nx h2) (mj_q B' (bz_N S') (bi_nx h2)), fun c i hc => ?_, ⟨r, Nat.le_trans hr hZ1, R2⟩, ⟨m, hm, R.move (Nat.le_refl _) (fun _ _ => rfl) (fun _ _ _ _ _ => ⟨rfl, rfl⟩) (fun _ _ _ _ => ⟨rfl, rfl⟩) p5 p6⟩, fun c i c' i' hi hi' => ?_, rfl, fun c i hi => ⟨1000 * c + i, mj_q_in hi⟩⟩
  · unfold ca_fo
    rw [if_neg (by omega), if_neg (by omega)]
  · rw [ca_fo_in hi]
    rcases p7 c' i' hi' with ⟨c2, i2, hi2, e3⟩ | w
    · rw [e3]
      exact hd c i c2 i2 hi hi2
    · have := (LA.1 c i hi).2.1
      omega
end PB
