/-! class and reference in one heap: what the one does the other does not feel -/
def mj_O (B : Nat → Nat → Nat) (n : Nat) (a : Nat) : Prop := ∃ c i, mb_in n c i ∧ a = B c i
section PA
variable {O : Nat → Prop} {A B : Nat → Nat → Nat} {H : List (Nat × ba_G)} {e : Nat} {g0 h0 h h' : bi_H} {x y z x' y' : Nat} {S : ba_S} {s : Nat}
theorem ms_R.move (R : ms_R O B H e g0 x y h S) (hnx : bi_nx h ≤ bi_nx h') (hk : ∀ a, a < bi_nx h → bi_k h' a = bi_k h a) (hf : ∀ c k a, 10 ≤ c → a < bi_nx h → bi_fi h' c k a = bi_fi h c k a ∧ bi_fr h' c k a = bi_fr h c k a) (ha : ∀ c i j, mb_in (bz_N S) c i → bi_ai h' (B c i) j = bi_ai h (B c i) j ∧ bi_ar h' (B c i) j = bi_ar h (B c i) j) (hx : bi_nc h' ≤ x') (hy : bi_ns h' ≤ y') : ms_R (mj_O B (bz_N S)) B H e h' x' y' h' S := by
  obtain ⟨r1, r2, r3, r4, r5, r6, r7, r8, r9, r10, r11⟩ := R
  have lt : ∀ {c i}, mb_in (bz_N S) c i → B c i < bi_nx h := fun hi => (r1.1 _ _ hi).2.1
  have f12 : ∀ k, bi_fi h' 12 k (B 12 0) = bi_fi h 12 k (B 12 0) := fun k => (hf 12 k _ (by decide) (lt (mi0 (by decide) rfl))).1
  have q12 : ∀ k, bi_fr h' 12 k (B 12 0) = bi_fr h 12 k (B 12 0) := fun k => (hf 12 k _ (by decide) (lt (mi0 (by decide) rfl))).2
  have f11 : ∀ s, s < 8 → s % 4 < bz_N S → ∀ k, bi_fi h' 11 k (B 11 s) = bi_fi h 11 k (B 11 s) := fun s hs hN k => (hf 11 k _ (by decide) (lt (mi2 hs hN))).1
  have q11 : ∀ s, s < 8 → s % 4 < bz_N S → ∀ k, bi_fr h' 11 k (B 11 s) = bi_fr h 11 k (B 11 s) := fun s hs hN k => (hf 11 k _ (by decide) (lt (mi2 hs hN))).2
  have f10 : ∀ i, i < 61 → ∀ k, bi_fi h' 10 k (B 10 i) = bi_fi h 10 k (B 10 i) := fun i hi k => (hf 10 k _ (by decide) (lt (mi1 hi rfl))).1
  have q10 : ∀ i, i < 61 → ∀ k, bi_fr h' 10 k (B 10 i) = bi_fr h 10 k (B 10 i) := fun i hi k => (hf 10 k _ (by decide) (lt (mi1 hi rfl))).2
  have ai := fun {c i} (hi : mb_in (bz_N S) c i) j => (ha c i j hi).1
  have ar := fun {c i} (hi : mb_in (bz_N S) c i) j => (ha c i j hi).2
  have hg : ∀ i g, i < 61 → mb_g B S h i g → mb_g B S h' i g := fun i g hi G => by
    obtain ⟨a, ⟨s, b1, b2, b3, b4⟩, n, c1, c2, c3, c4⟩ := G
    refine ⟨by simp only [f10 i hi]; exact a, ⟨s, b1, b2, b3, by rw [q10 i hi]; exact b4⟩, n, c1, c2, by rw [f10 i hi]; exact c3, fun j hj => ?_⟩
    rw [ai (mi1 hi rfl), ai (mi1 hi rfl), ai (mi1 hi rfl)]
    exact c4 j hj
  refine ⟨?_, ⟨Nat.le_refl _, fun _ _ => rfl, fun _ _ _ _ _ => ⟨rfl, rfl⟩, fun _ _ _ _ => ⟨rfl, rfl⟩, hx, hy, fun c i hi => Or.inl ⟨c, i, hi, rfl⟩⟩, by simp only [f12]; exact r3, fun i hi => ?_, fun g hg => ?_, fun k hk => ?_, ⟨fun j hj => ?_, fun j hj => ?_, fun j hj => ?_, fun j hj => ?_⟩, fun g hg => ?_, ?_, fun s hs hN => ?_, ?_⟩
  · obtain ⟨l1, l2, l3, l4, l5, l6, l7⟩ := r1
    refine ⟨fun c i hi => ⟨by rw [hk _ (lt hi)]; exact (l1 c i hi).1, Nat.lt_of_lt_of_le (l1 c i hi).2.1 hnx, (l1 c i hi).2.2⟩, l2, fun k hk hb => by rw [q12]; exact l3 k hk hb, fun g hg => ?_, fun s hs => ?_, fun s hs hN => ?_, fun i hi => ?_⟩
    · rw [ar (mi0 (by decide) rfl), ar (mi0 (by decide) rfl)]
      exact l4 g hg
    · rw [ar (mi0 (by decide) rfl)]
      exact l5 s hs
    · simp only [q11 s hs hN]
      exact l6 s hs hN
    · simp only [q10 i hi]
      exact l7 i hi
  · rw [ai (mi0 (by decide) rfl), ai (mi0 (by decide) rfl), ai (mi0 (by decide) rfl)]
    exact r4 i hi
  · rw [ai (mi0 (by decide) rfl), ai (mi0 (by decide) rfl)]
    exact r5 g hg
  · rw [ai (mi0 (by decide) rfl), ai (mi0 (by decide) rfl), ai (mi0 (by decide) rfl), ai (mi0 (by decide) rfl)]
    exact r6 k hk
  · rw [ai (mi0 (by decide) rfl)]
    exact r7.1 j hj
  · rw [ai (mi0 (by decide) rfl)]
    exact r7.2.1 j hj
  · rw [ai (mi0 (by decide) rfl)]
    exact r7.2.2.1 j hj
  · rw [ai (mi0 (by decide) rfl)]
    exact r7.2.2.2 j hj
  · rw [ai (mi0 (by decide) rfl)]
    simp only [ai (c := 61) (i := g) (mi1 hg rfl), ai (c := 62) (i := g) (mi1 hg rfl)]
    exact r8 g hg
  · rcases r9 with r9 | ⟨g, k, d, a1, a2, a3, a4, a5, a6, a7, a8⟩
    · exact Or.inl (by rw [f12]; exact r9)
    · refine Or.inr ⟨g, k, d, a1, a2, a3, by rw [f12]; exact a4, by rw [f12]; exact a5, by rw [f12]; exact a6, by rw [f12]; exact a7, fun i hi => ?_⟩
      rw [ai (mi0 (by decide) rfl), ai (mi0 (by decide) rfl)]
      exact a8 i hi
  · obtain ⟨t1, t2, t3, t4, t5, t6, t7, t8, t9⟩ := r10 s hs hN
    have a64 := fun j => ai (c := 64) (i := s) (mi2 hs hN) j
    have a65 := fun j => ai (c := 65) (i := s) (mi2 hs hN) j
    have a66 := fun j => ai (c := 66) (i := s) (mi2 hs hN) j
    have a67 := fun j => ai (c := 67) (i := s) (mi2 hs hN) j
    have a68 := fun j => ai (c := 68) (i := s) (mi2 hs hN) j
    unfold mb_t
    simp only [f11 s hs hN, a64, a65, a66, a67, a68]
    exact ⟨t1, t2, t3, t4, t5, t6, t7, t8, t9⟩
  · obtain ⟨fx, sx, n1, n2, n3, n4, n5, n6, n7, n8, n9⟩ := r11
    refine ⟨fx, sx, n1, n2, n3, n4, by rw [f12]; exact n5, by rw [f12]; exact n6, fun i hi => ⟨?_, ?_⟩, fun j hj => ?_, fun q hq => ?_⟩
    · rw [ar (mi0 (by decide) rfl)]
      exact (n7 i hi).1
    · exact hg _ _ (n2 _ (List.mem_append_left _ (bk_gm hi))) (n7 i hi).2
    · rw [ar (mi0 (by decide) rfl)]
      exact n8 j hj
    · obtain ⟨m1, m2, m3, m4⟩ := n9 q hq
      exact ⟨m1, m2, m3, hg _ _ m1 m4⟩
theorem cs_R.move (R : cs_R A h0 x y h S) (hnx : bi_nx h ≤ bi_nx h') (hk : ∀ a, a < bi_nx h → bi_k h' a = bi_k h a) (hf : ∀ c k a, c < 10 → a < bi_nx h → bi_fi h' c k a = bi_fi h c k a ∧ bi_fr h' c k a = bi_fr h c k a) (ha : ∀ c i j, i < ca_bd c → bi_ai h' (A c i) j = bi_ai h (A c i) j ∧ bi_ar h' (A c i) j = bi_ar h (A c i) j) (hm : ∀ i j, i < (bz_F S).length → bi_fr h 2 8 (bi_ar h (A 50 0) i) ≠ 0 → bi_ai h' (bi_fr h 2 8 (bi_ar h (A 50 0) i)) j = bi_ai h (bi_fr h 2 8 (bi_ar h (A 50 0) i)) j) (h98 : A 98 0 ≤ bi_nx h') (hx : bi_nc h' ≤ x') (hy : bi_ns h' ≤ y') : cs_R A h' x' y' h' S := by
  obtain ⟨r1, r2, r3, r4, r5, r6, r7, r8, r9, r10⟩ := R
  have lt : ∀ {c i}, i < ca_bd c → A c i < bi_nx h := fun hi => (r1.1 _ _ hi).2.1
  have fi := fun {c i} (hi : i < ca_bd c) c' (hc : c' < 10) k => (hf c' k (A c i) hc (lt hi)).1
  have fr := fun {c i} (hi : i < ca_bd c) c' (hc : c' < 10) k => (hf c' k (A c i) hc (lt hi)).2
  have ai := fun {c i} (hi : i < ca_bd c) j => (ha c i j hi).1
  have ar := fun {c i} (hi : i < ca_bd c) j => (ha c i j hi).2
  have z9 : 0 < ca_bd 9 := by decide
  have z0 : 0 < ca_bd 0 := by decide
  have z1 : 0 < ca_bd 1 := by decide
  have z8 : 0 < ca_bd 8 := by decide
  refine ⟨?_, ⟨Nat.max_le.mpr ⟨h98, Nat.le_refl _⟩, fun _ _ => rfl, fun _ _ _ _ _ => ⟨rfl, rfl⟩, fun _ _ _ _ => ⟨rfl, rfl⟩, hx, hy⟩, ?_, fun s hs => ?_, fun i hi k => ?_, fun k => ?_, fun k => ?_, fun i hi => ?_, ?_, fun j hj => ?_⟩
  · obtain ⟨l1, l2, l3, l4, l5, l6, l7⟩ := r1
    refine ⟨fun c i hi => ⟨by rw [hk _ (lt hi)]; exact (l1 c i hi).1, Nat.lt_of_lt_of_le (l1 c i hi).2.1 hnx, (l1 c i hi).2.2⟩, l2, ?_, ?_, fun i hi => ?_, fun s hs => ?_, fun s hs => ?_⟩
    · simp only [fr z9 9 (by decide), fr z0 0 (by decide), fr z1 1 (by decide)]
      exact l3
    · simp only [fr z8 8 (by decide)]
      exact l4
    · rw [ar (show 0 < ca_bd 62 by decide)]
      exact l5 i hi
    · rw [ar (show 0 < ca_bd 63 by decide)]
      exact l6 s hs
    · simp only [fr (c := 6) (i := s) hs 6 (by decide), fr (c := 7) (i := s) hs 7 (by decide), fr (c := 30) (i := s) hs 3 (by decide), fr (c := 31) (i := s) hs 3 (by decide)]
      exact l7 s hs
  · refine ⟨by rw [fi z8 8 (by decide)]; exact r3.1, fun k hk => ?_⟩
    rw [ai (show 0 < ca_bd 57 by decide), ai (show 0 < ca_bd 58 by decide), ai (show 0 < ca_bd 59 by decide), ai (show 0 < ca_bd 60 by decide), ai (show 0 < ca_bd 61 by decide)]
    exact r3.2 k hk
  · have T := r4 s hs
    unfold ca_t ca_v at T ⊢
    simp only [fi (c := 6) (i := s) hs 6 (by decide), fi (c := 5) (i := s) hs 5 (by decide), fi (c := 7) (i := s) hs 7 (by decide), fi (c := 30) (i := s) hs 3 (by decide), fi (c := 31) (i := s) hs 3 (by decide), ai (c := 52) (i := s) hs, ai (c := 53) (i := s) hs, ai (c := 54) (i := s) hs, ai (c := 55) (i := s) hs, ai (c := 56) (i := s) hs]
    exact T
  · rw [fi (c := 4) (i := i) hi 4 (by decide)]
    exact r5 i hi k
  · rw [fi z9 9 (by decide)]
    exact r6 k
  · rw [fi z0 0 (by decide)]
    exact r7 k
  · rw [ar (show 0 < ca_bd 50 by decide)]
    obtain ⟨g1, ⟨g2, g2'⟩, g3, g4⟩ := r8 i hi
    refine ⟨by rw [hk _ g2]; exact g1, ⟨Nat.lt_of_lt_of_le g2 hnx, g2'⟩, fun k => by rw [(hf 2 k _ (by decide) g2).1]; exact g3 k, ?_⟩
    rw [(hf 2 8 _ (by decide) g2).2]
    rcases g4 with g4 | ⟨⟨g4, g4', g4''⟩, g5, g6, g7⟩
    · exact Or.inl g4
    · refine Or.inr ⟨⟨Nat.lt_of_lt_of_le g4 hnx, g4', g4''⟩, by rw [hk _ g4]; exact g5, g6, fun j hj => ?_⟩
      rw [hm i j hi g4']
      exact g7 j hj
  · rw [fi z1 1 (by decide)]
    exact r9
  · rw [ai (show 0 < ca_bd 51 by decide)]
    exact r10 j hj
/-- what is another's is told anew, and the frame begins here -/
def ca_fo (A : Nat → Nat → Nat) (p : Nat) (q : Nat → Nat) (c i : Nat) : Nat := if c = 98 then p else if c = 99 then q i else A c i
theorem ca_fo_in {p : Nat} {q : Nat → Nat} {c i : Nat} (hi : i < ca_bd c) : ca_fo A p q c i = A c i := by
  unfold ca_fo
  have h1 : c ≠ 98 := fun w => by
    rw [w] at hi
    exact absurd hi (Nat.not_lt_zero _)
  have h2 : c ≠ 99 := fun w => by
    rw [w] at hi
    exact absurd hi (Nat.not_lt_zero _)
  rw [if_neg h1, if_neg h2]
theorem cs_R.fo (R : cs_R A h0 x y h S) {p : Nat} {q : Nat → Nat} (hp : p ≤ bi_nx h) (hq : ∀ i n, i < (bz_F S).length → bi_fr h 2 8 (bi_ar h (A 50 0) i) ≠ 0 → q n < p → bi_fr h 2 8 (bi_ar h (A 50 0) i) ≠ q n) : cs_R (ca_fo A p q) h x y h S := by
  obtain ⟨r1, r2, r3, r4, r5, r6, r7, r8, r9, r10⟩ := R
  refine ⟨⟨fun c i hi => by rw [ca_fo_in hi]; exact r1.1 c i hi, fun c i c' i' hi hi' => by rw [ca_fo_in hi, ca_fo_in hi']; exact r1.2.1 c i c' i' hi hi', r1.2.2⟩, ⟨Nat.max_le.mpr ⟨hp, Nat.le_refl _⟩, fun _ _ => rfl, fun _ _ _ _ _ => ⟨rfl, rfl⟩, fun _ _ _ _ => ⟨rfl, rfl⟩, r2.2.2.2.2.1, r2.2.2.2.2.2⟩, r3, r4, r5, r6, r7, fun i hi => ?_, r9, r10⟩
  obtain ⟨g1, g2, g3, g4⟩ := r8 i hi
  refine ⟨g1, g2, g3, ?_⟩
  rcases g4 with g4 | ⟨⟨g4, g4', g4''⟩, g5, g6, g7⟩
  · exact Or.inl g4
  · exact Or.inr ⟨⟨g4, g4', fun n hn => hq i n hi g4' hn⟩, g5, fun c i' hi' => by rw [ca_fo_in hi']; exact g6 c i' hi', g7⟩
end PA
