/-! the class's heap and one number of it changed -/
section CS
variable {A : Nat → Nat → Nat} {h0 h : bi_H} {x y : Nat} {S : ba_S}
theorem cs_R.ne (R : cs_R A h0 x y h S) {c i c' i' : Nat} (hi : i < ca_bd c) (hi' : i' < ca_bd c') (hn : c ≠ c' ∨ i ≠ i') : (A c i = A c' i') = False := by
  apply eq_false
  intro z
  have := R.1.2.1 c i c' i' hi hi' z
  omega
theorem ca_fr_sfi {c k a : Nat} {v : Int32} (F : ca_fr A h0 x y h) (hc : c < 10 ∧ c ≠ 2) : ca_fr A h0 x y (bi_sfi h c k a v) := by
  refine ⟨F.1, F.2.1, fun c' k' a' hc' ha' => ?_, F.2.2.2⟩
  rw [bh_fi_sfi, if_neg (by omega)]
  exact F.2.2.1 c' k' a' hc' ha'
theorem ca_fr_sai {c i j : Nat} {v : Int32} (F : ca_fr A h0 x y h) (hi : i < ca_bd c) : ca_fr A h0 x y (bi_sai h (A c i) j v) := by
  refine ⟨F.1, F.2.1, F.2.2.1, fun a j' ha hn => ?_, F.2.2.2.2⟩
  have e : bi_ai (bi_sai h (A c i) j v) a j' = bi_ai h a j' := by
    rw [bh_ai_sai, if_neg (fun z => hn c i hi z.1)]
  rw [e]
  exact F.2.2.2.1 a j' ha hn
/-- a number of a store -/
theorem cs_R.sc (R : cs_R A h0 x y h S) {s : Nat} (hs : s < 8) (k : Nat) (v : Int32) : cs_R A h0 x y (bi_sfi h 6 k (A 6 s) v) (bz_sT S s (bs_sc (bz_T S s) k v)) := by
  have hne := fun s' (hs' : s' < 8) (e : s' ≠ s) => R.ne (c := 6) (i := s') (c' := 6) (i' := s) hs' hs (Or.inr e)
  obtain ⟨r1, r2, r3, r4, r5, r6, r7, r8, r9, r10⟩ := R
  refine ⟨r1, ca_fr_sfi r2 (by omega), r3, fun s' hs' => ?_, r5, r6, r7, r8, r9, r10⟩
  obtain ⟨t1, t2, t3, t4, t5⟩ := r4 s' hs'
  show ca_t A _ _ _ (ba_u (bz_T S) s (bs_sc (bz_T S s) k v) s') s' _
  by_cases e : s' = s
  · subst e
    rw [ba_u_same]
    refine ⟨fun k' => ?_, t2, t3, t4, t5⟩
    rw [bh_fi_sfi]
    show _ = ba_u (bs_c (bz_T S s')) k v k'
    unfold ba_u
    by_cases e2 : k' = k
    · rw [if_pos ⟨rfl, e2, rfl⟩, if_pos e2]
    · rw [if_neg (fun z => e2 z.2.1), if_neg e2]
      exact t1 k'
  · rw [ba_u_ne _ _ e]
    refine ⟨fun k' => ?_, t2, t3, t4, t5⟩
    rw [bh_fi_sfi, if_neg (fun z => by rw [hne s' hs' e] at z; exact z.2.2)]
    exact t1 k'
/-- a number of a staging -/
theorem cs_R.sg (R : cs_R A h0 x y h S) {s : Nat} (hs : s < 8) (k : Nat) (v : Int32) : cs_R A h0 x y (bi_sfi h 5 k (A 5 s) v) (bz_sT S s (bs_sg (bz_T S s) k v)) := by
  have hne := fun s' (hs' : s' < 8) (e : s' ≠ s) => R.ne (c := 5) (i := s') (c' := 5) (i' := s) hs' hs (Or.inr e)
  obtain ⟨r1, r2, r3, r4, r5, r6, r7, r8, r9, r10⟩ := R
  refine ⟨r1, ca_fr_sfi r2 (by omega), r3, fun s' hs' => ?_, r5, r6, r7, r8, r9, r10⟩
  obtain ⟨t1, t2, t3, t4, t5⟩ := r4 s' hs'
  show ca_t A _ _ _ (ba_u (bz_T S) s (bs_sg (bz_T S s) k v) s') s' _
  by_cases e : s' = s
  · subst e
    rw [ba_u_same]
    refine ⟨t1, fun k' => ?_, t3, t4, t5⟩
    rw [bh_fi_sfi]
    show _ = ba_u (bs_g (bz_T S s')) k v k'
    unfold ba_u
    by_cases e2 : k' = k
    · rw [if_pos ⟨rfl, e2, rfl⟩, if_pos e2]
    · rw [if_neg (fun z => e2 z.2.1), if_neg e2]
      exact t2 k'
  · rw [ba_u_ne _ _ e]
    refine ⟨t1, fun k' => ?_, t3, t4, t5⟩
    rw [bh_fi_sfi, if_neg (fun z => by rw [hne s' hs' e] at z; exact z.2.2)]
    exact t2 k'
/-- a number of a site -/
theorem cs_R.sI (R : cs_R A h0 x y h S) {i : Nat} (hi : i < 2) (k : Nat) (v : Int32) : cs_R A h0 x y (bi_sfi h 4 k (A 4 i) v) (bz_sI S i k v) := by
  have hne := fun s' (hs' : s' < 2) (e : s' ≠ i) => R.ne (c := 4) (i := s') (c' := 4) (i' := i) hs' hi (Or.inr e)
  obtain ⟨r1, r2, r3, r4, r5, r6, r7, r8, r9, r10⟩ := R
  refine ⟨r1, ca_fr_sfi r2 (by omega), r3, r4, fun s' hs' k' => ?_, r6, r7, r8, r9, r10⟩
  show _ = ba_u (bz_I S) i (ba_u (bz_I S i) k v) s' k'
  rw [bh_fi_sfi]
  by_cases e : s' = i
  · subst e
    rw [ba_u_same]
    unfold ba_u
    by_cases e2 : k' = k
    · rw [if_pos ⟨rfl, e2, rfl⟩, if_pos e2]
    · rw [if_neg (fun z => e2 z.2.1), if_neg e2]
      exact r5 s' hs' k'
  · rw [ba_u_ne _ _ e, if_neg (fun z => by rw [hne s' hs' e] at z; exact z.2.2)]
    exact r5 s' hs' k'
/-- a number of the object -/
theorem cs_R.sG (R : cs_R A h0 x y h S) {k : Nat} (hk : k ≠ 0) (v : Int32) : cs_R A h0 x y (bi_sfi h 9 k (A 9 0) v) (bz_sG S k v) := by
  obtain ⟨r1, r2, r3, r4, r5, r6, r7, r8, r9, r10⟩ := R
  have hp : bz_pool (bz_sG S k v) = bz_pool S := by
    show (ba_u (bz_G S) k v 0).toNatClampNeg = _
    rw [ba_u_ne _ _ (by omega)]
    rfl
  refine ⟨by rw [hp]; exact r1, ca_fr_sfi r2 (by omega), r3, fun s' hs' => by rw [hp]; exact r4 s' hs', r5, fun k' => ?_, r7, r8, r9, r10⟩
  show _ = ba_u (bz_G S) k v k'
  rw [bh_fi_sfi]
  unfold ba_u
  by_cases e2 : k' = k
  · rw [if_pos ⟨rfl, e2, rfl⟩, if_pos e2]
  · rw [if_neg (fun z => e2 z.2.1), if_neg e2]
    exact r6 k'
/-- a number of the link -/
theorem cs_R.sL (R : cs_R A h0 x y h S) (k : Nat) (v : Int32) : cs_R A h0 x y (bi_sfi h 0 k (A 0 0) v) (bz_sL S k v) := by
  obtain ⟨r1, r2, r3, r4, r5, r6, r7, r8, r9, r10⟩ := R
  refine ⟨r1, ca_fr_sfi r2 (by omega), r3, r4, r5, r6, fun k' => ?_, r8, r9, r10⟩
  show _ = ba_u (bz_L S) k v k'
  rw [bh_fi_sfi]
  unfold ba_u
  by_cases e2 : k' = k
  · rw [if_pos ⟨rfl, e2, rfl⟩, if_pos e2]
  · rw [if_neg (fun z => e2 z.2.1), if_neg e2]
    exact r7 k'
/-- a new round of the marks -/
theorem cs_R.sr (R : cs_R A h0 x y h S) (n : Nat) (hn : bz_r S ≤ n) : cs_R A h0 x y (bi_sfi h 1 1 (A 1 0) (Int32.ofNat n)) (bz_sr S n) := by
  obtain ⟨r1, r2, r3, r4, r5, r6, r7, r8, r9, r10⟩ := R
  refine ⟨r1, ca_fr_sfi r2 (by omega), r3, r4, r5, r6, r7, r8, ?_, fun j hj => ?_⟩
  · rw [bh_fi_sfi, if_pos ⟨rfl, rfl, rfl⟩]
    rfl
  · obtain ⟨z, hz, e⟩ := r10 j hj
    exact ⟨z, Nat.le_trans hz hn, e⟩
/-- a mark -/
theorem cs_R.mark (R : cs_R A h0 x y h S) (j z : Nat) (hz : z ≤ bz_r S) : cs_R A h0 x y (bi_sai h (A 51 0) j (Int32.ofNat z)) S := by
  have hne := fun c i j' (hi : i < ca_bd c) (hc : c ≠ 51) => show bi_ai (bi_sai h (A 51 0) j (Int32.ofNat z)) (A c i) j' = bi_ai h (A c i) j' by
    rw [bh_ai_sai, if_neg (fun w => by rw [R.ne hi (show 0 < ca_bd 51 by decide) (Or.inl hc)] at w; exact w.1)]
  obtain ⟨r1, r2, r3, r4, r5, r6, r7, r8, r9, r10⟩ := R
  refine ⟨r1, ca_fr_sai r2 (by decide), ⟨r3.1, fun k hk => ?_⟩, fun s' hs' => ?_, r5, r6, r7, fun i hi => ?_, r9, fun j' hj' => ?_⟩
  · rw [hne 57 0 k (by decide) (by decide), hne 58 0 k (by decide) (by decide), hne 59 0 k (by decide) (by decide), hne 60 0 k (by decide) (by decide), hne 61 0 k (by decide) (by decide)]
    exact r3.2 k hk
  · obtain ⟨t1, t2, ⟨v1, v2, v3, v4, v5, v6⟩, t4, t5⟩ := r4 s' hs'
    refine ⟨t1, t2, ⟨v1, v2, v3, v4, fun i hi => ?_, fun p hp => ?_⟩, ?_, ?_⟩
    · rw [hne 55 s' i hs' (by decide), hne 56 s' i hs' (by decide)]
      exact v5 i hi
    · rw [hne 54 s' p hs' (by decide)]
      exact v6 p hp
    · simp only [hne 52 s' _ hs' (by decide)]
      exact t4
    · simp only [hne 53 s' _ hs' (by decide)]
      exact t5
  · obtain ⟨g1, g2, g3, g4⟩ := r8 i hi
    refine ⟨g1, g2, g3, ?_⟩
    rcases g4 with g4 | ⟨g4, g5, g6, g7⟩
    · exact Or.inl g4
    · refine Or.inr ⟨g4, g5, g6, fun j' hj' => ?_⟩
      rw [bh_ai_sai, if_neg (fun w => g6 51 0 (by decide) w.1)]
      exact g7 j' hj'
  · rw [bh_ai_sai]
    by_cases e : j' = j
    · rw [if_pos ⟨rfl, e⟩]
      exact ⟨z, hz, rfl⟩
    · rw [if_neg (fun w => e w.2)]
      exact r10 j' hj'
end CS
