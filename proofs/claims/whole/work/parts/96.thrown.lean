/-! the law's calls that may throw: the row is written, or an exception is made -/
def bj_h (r : Int32 × Nat) (l : Nat) (h : bi_H) : bi_H := if r.2 = 0 then bi_sai h l 0 r.1 else bi_new h (0, 0) 6
section PG
variable {A B B' : Nat → Nat → Nat} {h h1 h2 : bi_H} {X Y Z X1 Y1 Z1 X2 Y2 Z2 M C b l n : Nat} {xs : Nat → Int32} {S S' : ba_S} {s : Nat}
/-- a heap that differs only where neither lies -/
theorem bj.move (J : bj A B h S X Y Z) (hnx : bi_nx h ≤ bi_nx h1) (hk : ∀ a, a < bi_nx h → bi_k h1 a = bi_k h a) (hf : ∀ c k a, a < bi_nx h → bi_fi h1 c k a = bi_fi h c k a ∧ bi_fr h1 c k a = bi_fr h c k a) (ha : ∀ a j, a < bi_nx h → (bi_k h a).1 ≠ 3 → bi_ai h1 a j = bi_ai h a j ∧ bi_ar h1 a j = bi_ar h a j) (hx : bi_nc h1 ≤ X1) (hy : bi_ns h1 ≤ Y1) : ∃ A', (∀ c i, c < 98 → A' c i = A c i) ∧ bj A' B h1 S X1 Y1 Z := by
  obtain ⟨⟨r, hr, Q⟩, ⟨m, hm, R⟩, hd, h98, h99⟩ := J
  have ka : ∀ c i, i < ca_bd c → (bi_k h (A c i)).1 ≠ 3 := fun c i hi => by
    rw [(Q.1.1 c i hi).1]
    exact (ca_kd_tag hi).1
  have kb : ∀ c i, mb_in (bz_N S) c i → (bi_k h (B c i)).1 ≠ 3 := fun c i hi => by
    rw [(R.1.1 c i hi).1]
    exact (mb_kd_tag hi).1
  have bl : ∀ c i, mb_in (bz_N S) c i → B c i < bi_nx h := fun c i hi => (R.1.1 c i hi).2.1
  have row : ∀ i, i < (bz_F S).length → (bi_ar h (A 50 0) i < bi_nx h) ∧ (bi_fr h 2 8 (bi_ar h (A 50 0) i) ≠ 0 → bi_fr h 2 8 (bi_ar h (A 50 0) i) < bi_nx h ∧ (bi_k h (bi_fr h 2 8 (bi_ar h (A 50 0) i))).1 ≠ 3 ∧ ∀ c i', mb_in (bz_N S) c i' → bi_fr h 2 8 (bi_ar h (A 50 0) i) ≠ B c i') := fun i hi => by
    obtain ⟨g1, g2, g3, g4⟩ := Q.2.2.2.2.2.2.2.1 i hi
    refine ⟨g2.1, fun h0 => ?_⟩
    rcases g4 with ⟨g4, -⟩ | ⟨⟨g4, g4', g4''⟩, g5, g6, g7⟩
    · exact absurd g4 h0
    · refine ⟨g4, by rw [g5]; exact (by show (1 : Nat) ≠ 3; decide), fun c i' hi' => ?_⟩
      obtain ⟨n, hn⟩ := h99 c i' hi'
      rw [← hn]
      exact g4'' n (by rw [hn, h98]; exact bl c i' hi')
  have R1 := Q.move (x' := X1) (y' := Y1) hnx hk (fun c k a _ w => hf c k a w) (fun c i j hi => ha _ j (Q.1.1 c i hi).2.1 (ka c i hi)) (fun i j hi h0 => (ha _ j ((row i hi).2 h0).1 ((row i hi).2 h0).2.1).1) (by rw [h98]; exact hnx) hx hy
  have R2 := R1.fo (p := bi_nx h1) (q := mj_q B (bz_N S) (bi_nx h1)) (Nat.le_refl _) (fun i n hi h0 hn => by
    have hi : i < (bz_F S).length := hi
    have e1 : bi_ar h1 (A 50 0) i = bi_ar h (A 50 0) i := (ha _ i (Q.1.1 50 0 (by decide)).2.1 (ka 50 0 (by decide))).2
    have e2 : bi_fr h1 2 8 (bi_ar h (A 50 0) i) = bi_fr h 2 8 (bi_ar h (A 50 0) i) := (hf 2 8 _ (row i hi).1).2
    rw [e1, e2] at h0 ⊢
    obtain ⟨c', i', hi', e⟩ := mj_q_of hn
    rw [e]
    exact ((row i hi).2 h0).2.2 c' i' hi')
  refine ⟨ca_fo A (bi_nx h1) (mj_q B (bz_N S) (bi_nx h1)), fun c i hc => ?_, ⟨r, hr, R2⟩, ⟨m, hm, R.move hnx hk (fun c k a _ w => hf c k a w) (fun c i j hi => ha _ j (bl c i hi) (kb c i hi)) hx hy⟩, fun c i c' i' hi hi' => ?_, rfl, fun c i hi => ⟨1000 * c + i, mj_q_in hi⟩⟩
  · unfold ca_fo
    rw [if_neg (by omega), if_neg (by omega)]
  · rw [ca_fo_in hi]
    exact hd c i c' i' hi hi'
theorem bj.thr (J : bj A B h S X Y Z) (F : bj_F b l n xs h) (r : Int32 × Nat) : (∃ A', (∀ c i, c < 98 → A' c i = A c i) ∧ bj A' B (bj_h r l h) S (X + 1) (Y + 6) Z) ∧ bj_F b l n xs (bj_h r l h) ∧ (r.2 = 0 → bi_ai (bj_h r l h) l 0 = r.1) := by
  have hx : bi_nc h ≤ X := by
    obtain ⟨⟨r, -, Q⟩, -⟩ := J
    exact Q.2.1.2.2.2.2.1
  have hy : bi_ns h ≤ Y := by
    obtain ⟨⟨r, -, Q⟩, -⟩ := J
    exact Q.2.1.2.2.2.2.2
  have hbl : b ≠ l := fun w => by
    have h1 := F.1.1
    rw [w, F.2.1] at h1
    exact absurd (congrArg Prod.fst h1) (by show (3 : Nat) ≠ 4; decide)
  unfold bj_h
  by_cases c : r.2 = 0
  · rw [if_pos c]
    refine ⟨J.move (h1 := bi_sai h l 0 r.1) (Nat.le_refl _) (fun _ _ => rfl) (fun _ _ _ _ => ⟨rfl, rfl⟩) (fun a j _ w => ⟨?_, rfl⟩) (show bi_nc h ≤ X + 1 by omega) (show bi_ns h ≤ Y + 6 by omega), ⟨⟨F.1.1, F.1.2.1, fun j => ?_⟩, F.2⟩, fun _ => ?_⟩
    · rw [bh_ai_sai, if_neg (fun z => w (by rw [z.1, F.2.1]))]
    · rw [bh_ai_sai, if_neg (fun z => hbl z.1)]
      exact F.1.2.2 j
    · rw [bh_ai_sai, if_pos ⟨rfl, rfl⟩]
  · rw [if_neg c]
    have ne : ∀ a, a < bi_nx h → a ≠ bi_nx h := fun a w => Nat.ne_of_lt w
    refine ⟨J.move (h1 := bi_new h (0, 0) 6) (Nat.le_succ _) (fun a w => ?_) (fun c k a w => ?_) (fun a j w _ => ?_) (show bi_nc h + 1 ≤ X + 1 by omega) (show bi_ns h + 6 ≤ Y + 6 by omega), ⟨⟨?_, Nat.lt_succ_of_lt F.1.2.1, fun j => ?_⟩, ?_, Nat.lt_succ_of_lt F.2.2⟩, fun w => absurd w c⟩
    · rw [bh_k_new, if_neg (ne a w)]
    · rw [bh_fi_new, bh_fr_new, if_neg (fun z => ne a w z), if_neg (fun z => ne a w z)]
      exact ⟨rfl, rfl⟩
    · rw [bh_ai_new, bh_ar_new, if_neg (fun z => ne a w z), if_neg (fun z => ne a w z)]
      exact ⟨rfl, rfl⟩
    · rw [bh_k_new, if_neg (ne b F.1.2.1)]
      exact F.1.1
    · rw [bh_ai_new, if_neg (fun z => ne b F.1.2.1 z)]
      exact F.1.2.2 j
    · rw [bh_k_new, if_neg (ne l F.2.2)]
      exact F.2.1
end PG
