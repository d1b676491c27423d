/-! the reference: a message is sent -/
def mf (B : Nat → Nat → Nat) (i : Nat) (P : List (Nat × Nat × Nat)) (Z : List (Nat × Nat)) (h h' : bi_H) : Prop :=
  (bi_k h' = bi_k h ∧ bi_nx h' = bi_nx h ∧ bi_nc h' = bi_nc h ∧ bi_ns h' = bi_ns h) ∧ (∀ c k a, ¬ (c = 10 ∧ k = 0 ∧ a = B 10 i) → bi_fr h' c k a = bi_fr h c k a) ∧ (∀ a j, a ≠ B 135 0 → bi_ar h' a j = bi_ar h a j) ∧ (∀ c k a, (∀ q, q ∈ P → ¬ (c = q.1 ∧ k = q.2.2 ∧ a = B q.1 q.2.1)) → bi_fi h' c k a = bi_fi h c k a) ∧ ∀ a j, (∀ q, q ∈ Z → a ≠ B q.1 q.2) → bi_ai h' a j = bi_ai h a j
section MF
variable {O : Nat → Prop} {B : Nat → Nat → Nat} {H : List (Nat × ba_G)} {e : Nat} {g0 h h' : bi_H} {x y z : Nat} {S S' : ba_S} {s i : Nat} {P : List (Nat × Nat × Nat)} {Z : List (Nat × Nat)}
theorem mf.rf (h : bi_H) : mf B i P Z h h := ⟨⟨rfl, rfl, rfl, rfl⟩, fun _ _ _ _ => rfl, fun _ _ _ => rfl, fun _ _ _ _ => rfl, fun _ _ _ => rfl⟩
theorem mf.tr {h1 h2 h3 : bi_H} (d1 : mf B i P Z h1 h2) (d2 : mf B i P Z h2 h3) : mf B i P Z h1 h3 := by
  obtain ⟨⟨a1, a2, a3, a4⟩, a5, a6, a7, a8⟩ := d1
  obtain ⟨⟨b1, b2, b3, b4⟩, b5, b6, b7, b8⟩ := d2
  exact ⟨⟨b1.trans a1, b2.trans a2, b3.trans a3, b4.trans a4⟩, fun c k a hn => (b5 c k a hn).trans (a5 c k a hn), fun a j hn => (b6 a j hn).trans (a6 a j hn), fun c k a hn => (b7 c k a hn).trans (a7 c k a hn), fun a j hn => (b8 a j hn).trans (a8 a j hn)⟩
theorem mf.of (d : md B P Z h h') : mf B i P Z h h' := by
  obtain ⟨⟨a1, a2, a3, a4, a5, a6⟩, a7, a8⟩ := d
  exact ⟨⟨a1, a2, a3, a4⟩, fun c k a _ => by rw [a5], fun a j _ => by rw [a6], a7, a8⟩
theorem mf.sfr (h : bi_H) (v : Nat) : mf B i P Z h (bi_sfr h 10 0 (B 10 i) v) := by
  refine ⟨⟨rfl, rfl, rfl, rfl⟩, fun c k a hn => ?_, fun _ _ _ => rfl, fun _ _ _ _ => rfl, fun _ _ _ => rfl⟩
  rw [bh_fr_sfr, if_neg hn]
theorem mf.sar (h : bi_H) (j v : Nat) : mf B i P Z h (bi_sar h (B 135 0) j v) := by
  refine ⟨⟨rfl, rfl, rfl, rfl⟩, fun _ _ _ _ => rfl, fun a j' hn => ?_, fun _ _ _ _ => rfl, fun _ _ _ => rfl⟩
  rw [bh_ar_sar, if_neg (fun w => hn w.1)]
abbrev mf_P (i : Nat) : List (Nat × Nat × Nat) := [(10, i, 1), (10, i, 2), (10, i, 3), (10, i, 4), (10, i, 5), (10, i, 6), (10, i, 7), (12, 0, 7), (12, 0, 37), (12, 0, 38)]
abbrev mf_Z (i : Nat) : List (Nat × Nat) := [(70, i), (71, i), (72, i)]
theorem mf_inP {n : Nat} (hi : i < 61) : ∀ q, q ∈ mf_P i → mb_in n q.1 q.2.1 ∧ ((q.1 = 10 ∧ q.2.1 = i) ∨ (q.1 = 12 ∧ (q.2.2 = 7 ∨ q.2.2 = 37 ∨ q.2.2 = 38))) := fun q hq => by
  simp [mf_P] at hq
  rcases hq with rfl | rfl | rfl | rfl | rfl | rfl | rfl | rfl | rfl | rfl
  · exact ⟨mi1 hi rfl, Or.inl ⟨rfl, rfl⟩⟩
  · exact ⟨mi1 hi rfl, Or.inl ⟨rfl, rfl⟩⟩
  · exact ⟨mi1 hi rfl, Or.inl ⟨rfl, rfl⟩⟩
  · exact ⟨mi1 hi rfl, Or.inl ⟨rfl, rfl⟩⟩
  · exact ⟨mi1 hi rfl, Or.inl ⟨rfl, rfl⟩⟩
  · exact ⟨mi1 hi rfl, Or.inl ⟨rfl, rfl⟩⟩
  · exact ⟨mi1 hi rfl, Or.inl ⟨rfl, rfl⟩⟩
  · exact ⟨mi0 (by decide) rfl, Or.inr ⟨rfl, Or.inl rfl⟩⟩
  · exact ⟨mi0 (by decide) rfl, Or.inr ⟨rfl, Or.inr (Or.inl rfl)⟩⟩
  · exact ⟨mi0 (by decide) rfl, Or.inr ⟨rfl, Or.inr (Or.inr rfl)⟩⟩
theorem mf_inZ {n : Nat} (hi : i < 61) : ∀ q, q ∈ mf_Z i → mb_in n q.1 q.2 ∧ (q.1 = 70 ∨ q.1 = 71 ∨ q.1 = 72) ∧ q.2 = i := fun q hq => by
  simp [mf_Z] at hq
  rcases hq with rfl | rfl | rfl
  · exact ⟨mi1 hi rfl, Or.inl rfl, rfl⟩
  · exact ⟨mi1 hi rfl, Or.inr (Or.inl rfl), rfl⟩
  · exact ⟨mi1 hi rfl, Or.inr (Or.inr rfl), rfl⟩
theorem mf.fi (d : mf B i (mf_P i) (mf_Z i) h h') (L : mb_lay B S h) (hi : i < 61) {c j k : Nat} (hj : mb_in (bz_N S) c j) (hn : ¬ (c = 10 ∧ j = i) ∧ ¬ (c = 12 ∧ (k = 7 ∨ k = 37 ∨ k = 38))) : bi_fi h' c k (B c j) = bi_fi h c k (B c j) := d.2.2.2.1 _ _ _ (fun q hq w => by
  obtain ⟨h1, h2⟩ := mf_inP (n := bz_N S) hi q hq
  obtain ⟨h3, h4⟩ := L.2.1 c j q.1 q.2.1 hj h1 w.2.2
  have := w.2.1
  rcases h2 with ⟨h2, h5⟩ | ⟨h2, h5⟩
  · exact hn.1 ⟨by omega, by omega⟩
  · exact hn.2 ⟨by omega, by omega⟩)
theorem mf.ai (d : mf B i (mf_P i) (mf_Z i) h h') (L : mb_lay B S h) (hi : i < 61) {c j : Nat} (hj : mb_in (bz_N S) c j) (hn : ¬ ((c = 70 ∨ c = 71 ∨ c = 72) ∧ j = i)) (k : Nat) : bi_ai h' (B c j) k = bi_ai h (B c j) k := d.2.2.2.2 _ _ (fun q hq w => by
  obtain ⟨h1, h2, h5⟩ := mf_inZ (n := bz_N S) hi q hq
  obtain ⟨h3, h4⟩ := L.2.1 c j q.1 q.2 hj h1 w
  exact hn ⟨by omega, by omega⟩)
theorem mf.fr (d : mf B i (mf_P i) (mf_Z i) h h') (L : mb_lay B S h) (hi : i < 61) {c j k : Nat} (hj : mb_in (bz_N S) c j) (hn : ¬ (c = 10 ∧ k = 0 ∧ j = i)) : bi_fr h' c k (B c j) = bi_fr h c k (B c j) := d.2.1 _ _ _ (fun w => by
  obtain ⟨w1, w2, w3⟩ := w
  obtain ⟨h3, h4⟩ := L.2.1 c j 10 i hj (mi1 hi rfl) w3
  exact hn ⟨w1, w2, h4⟩)
theorem mf.lay (d : mf B i (mf_P i) (mf_Z i) h h') (L : mb_lay B S h) (hi : i < 61) (hk : ∀ c i, mb_kd S' c i = mb_kd S c i) (hN : bz_N S' = bz_N S) : mb_lay B S' h' := by
  have fr := fun {c j k} (hj : mb_in (bz_N S) c j) hn => d.fr L hi (k := k) hj hn
  have ne := fun {c j} (hj : mb_in (bz_N S) c j) (hc : c ≠ 135) => L.ne (c := c) (i := j) hj (mi0 (c := 135) (by decide) rfl) (Or.inl hc)
  obtain ⟨l1, l2, l3, l4, l5, l6, l7⟩ := L
  unfold mb_lay
  rw [hN, d.1.1, d.1.2.1]
  refine ⟨fun c i hi => by rw [hk]; exact l1 c i hi, l2, fun k hk h0 => ?_, fun g hg => ?_, fun s hs => ?_, fun s hs hN => ?_, fun j hj => ?_⟩
  · rw [fr (mi0 (by decide) rfl) (by omega)]
    exact l3 k hk h0
  · have n1 := ne (c := 131) (j := 0) (mi0 (by decide) rfl) (by decide)
    have n2 := ne (c := 132) (j := 0) (mi0 (by decide) rfl) (by decide)
    rw [d.2.2.1 _ _ (fun w => by rw [n1] at w; exact w), d.2.2.1 _ _ (fun w => by rw [n2] at w; exact w)]
    exact l4 g hg
  · have n1 := ne (c := 134) (j := 0) (mi0 (by decide) rfl) (by decide)
    rw [d.2.2.1 _ _ (fun w => by rw [n1] at w; exact w)]
    exact l5 s hs
  · rw [fr (mi2 hs hN) (by omega), fr (mi2 hs hN) (by omega), fr (mi2 hs hN) (by omega), fr (mi2 hs hN) (by omega), fr (mi2 hs hN) (by omega)]
    exact l6 s hs hN
  · rw [fr (mi1 hj rfl) (by omega), fr (mi1 hj rfl) (by omega), fr (mi1 hj rfl) (by omega)]
    exact l7 j hj
theorem mf.frm (d : mf B i (mf_P i) (mf_Z i) h h') (hi : i < 61) (F : mb_fr O B (bz_N S) g0 x y h) : mb_fr O B (bz_N S) g0 x y h' := by
  obtain ⟨f1, f2, f3, f4, f5, f6, f7⟩ := F
  obtain ⟨⟨a1, a2, a3, a4⟩, a5, a6, a7, a8⟩ := d
  refine ⟨by rw [a2]; exact f1, by rw [a1]; exact f2, fun c k a hc ha => ?_, fun a j ha hO => ?_, by rw [a3]; exact f5, by rw [a4]; exact f6, f7⟩
  · rw [a5 c k a (by omega), a7 c k a (fun q hq z => by
      have := (mf_inP (n := bz_N S) hi q hq).2
      omega)]
    exact f3 c k a hc ha
  · rw [a6 a j (fun w => by
      rcases f7 135 0 (mi0 (by decide) rfl) with u | u
      · rw [← w] at u
        exact hO u
      · omega), a8 a j (fun q hq z => by
      rcases f7 q.1 q.2 (mf_inZ hi q hq).1 with w | w
      · rw [← z] at w
        exact hO w
      · omega)]
    exact f4 a j ha hO
/-- another message is as it was -/
theorem mf.g (d : mf B i (mf_P i) (mf_Z i) h h') (L : mb_lay B S h) (hi : i < 61) {j : Nat} (hj : j < 61) (hji : j ≠ i) {g : ba_G} (G : mb_g B S h j g) : mb_g B S h' j g := by
  have f : ∀ k, bi_fi h' 10 k (B 10 j) = bi_fi h 10 k (B 10 j) := fun k => d.fi L hi (mi1 hj rfl) (by omega)
  have a : ∀ c k, c = 70 ∨ c = 71 ∨ c = 72 → bi_ai h' (B c j) k = bi_ai h (B c j) k := fun c k hc => d.ai L hi (by rcases hc with rfl | rfl | rfl <;> exact mi1 hj rfl) (by omega) k
  obtain ⟨g1, ⟨s, hs, hN, e1, e2⟩, n, hn, hl, ec, hc⟩ := G
  refine ⟨by rw [f, f, f, f, f, f]; exact g1, ⟨s, hs, hN, e1, by rw [d.fr L hi (mi1 hj rfl) (by omega)]; exact e2⟩, n, hn, hl, by rw [f]; exact ec, fun k hk => ?_⟩
  rw [a 70 k (by omega), a 71 k (by omega), a 72 k (by omega)]
  exact hc k hk
/-- all but the messages is as it was -/
theorem ms_R.post (R : ms_R O B H e g0 x y h S) (d : mf B i (mf_P i) (mf_Z i) h h') (hi : i < 61) {v w : Int32} {F' : List ba_G} (h7 : bi_fi h' 12 7 (B 12 0) = v) (F : mb_f B H e (bz_sF (bz_sL (bz_sL S 2 v) 1 w) F') h') : ms_R O B H e g0 x y h' (bz_sF (bz_sL (bz_sL S 2 v) 1 w) F') := by
  have L := R.L
  have fi := fun {c j k} (hj : mb_in (bz_N S) c j) hn => d.fi L hi (k := k) hj hn
  have ai := fun {c j} (hj : mb_in (bz_N S) c j) (hn : c < 70 ∨ 72 < c) k => d.ai L hi hj (by omega) k
  obtain ⟨r1, r2, r3, r4, r5, r6, r7, r8, r9, r10, r11⟩ := R
  refine ⟨d.lay r1 hi (fun _ _ => rfl) rfl, d.frm hi r2, ?_, fun i' hi' => ?_, fun g hg => ?_, fun k' hk' => ?_, ?_, fun g' hg' => ?_, ?_, fun s hs hN => ?_, F⟩
  · rw [fi (mi0 (by decide) rfl) (by omega), fi (mi0 (by decide) rfl) (by omega), fi (mi0 (by decide) rfl) (by omega), fi (mi0 (by decide) rfl) (by omega), fi (mi0 (by decide) rfl) (by omega), fi (mi0 (by decide) rfl) (by omega), h7, fi (mi0 (by decide) rfl) (by omega), fi (mi0 (by decide) rfl) (by omega), fi (mi0 (by decide) rfl) (by omega)]
    exact ⟨r3.1, r3.2.1, r3.2.2.1, r3.2.2.2.1, r3.2.2.2.2.1, r3.2.2.2.2.2.1, rfl, r3.2.2.2.2.2.2.2.1, r3.2.2.2.2.2.2.2.2.1, r3.2.2.2.2.2.2.2.2.2⟩
  · rw [ai (mi0 (by decide) rfl) (by decide), ai (mi0 (by decide) rfl) (by decide), ai (mi0 (by decide) rfl) (by decide)]
    exact r4 i' hi'
  · rw [ai (mi0 (by decide) rfl) (by decide), ai (mi0 (by decide) rfl) (by decide)]
    exact r5 g hg
  · rw [ai (mi0 (by decide) rfl) (by decide), ai (mi0 (by decide) rfl) (by decide), ai (mi0 (by decide) rfl) (by decide), ai (mi0 (by decide) rfl) (by decide)]
    exact r6 k' hk'
  · simp only [ai (c := 119) (j := 0) (mi0 (by decide) rfl) (by decide), ai (c := 121) (j := 0) (mi0 (by decide) rfl) (by decide), ai (c := 122) (j := 0) (mi0 (by decide) rfl) (by decide), ai (c := 123) (j := 0) (mi0 (by decide) rfl) (by decide)]
    exact r7
  · rw [ai (mi0 (by decide) rfl) (by decide)]
    simp only [ai (c := 61) (j := g') (mi1 hg' rfl) (by decide), ai (c := 62) (j := g') (mi1 hg' rfl) (by decide)]
    exact r8 g' hg'
  · unfold mb_s
    rw [fi (mi0 (by decide) rfl) (by omega), fi (mi0 (by decide) rfl) (by omega), fi (mi0 (by decide) rfl) (by omega), fi (mi0 (by decide) rfl) (by omega)]
    simp only [ai (c := 129) (j := 0) (mi0 (by decide) rfl) (by decide), ai (c := 130) (j := 0) (mi0 (by decide) rfl) (by decide)]
    exact r9
  · have f : ∀ k, bi_fi h' 11 k (B 11 s) = bi_fi h 11 k (B 11 s) := fun k => fi (mi2 hs hN) (by omega)
    obtain ⟨t1, t2, t3, t4, t5, t6, t7, t8, t9⟩ := r10 s hs hN
    refine ⟨by rw [f, f]; exact t1, fun k h1 h2 => by rw [f]; exact t2 k h1 h2, fun k h1 h2 => by rw [f]; exact t3 k h1 h2, by rw [f]; exact t4, by rw [f, f, f, f]; exact t5, fun i hi => by rw [ai (mi2 hs hN) (by omega), ai (mi2 hs hN) (by omega)]; exact t6 i hi, fun i hi => by rw [ai (mi2 hs hN) (by omega), ai (mi2 hs hN) (by omega)]; exact t7 i hi, ?_, by rw [f, f]; exact t9⟩
    rw [f]
    rcases t8 with t8 | ⟨t8, t9⟩
    · exact Or.inl t8
    · exact Or.inr ⟨t8, fun q hq => by rw [ai (mi2 hs hN) (by omega)]; exact t9 q hq⟩
end MF
