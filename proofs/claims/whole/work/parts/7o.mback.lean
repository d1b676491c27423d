/-! the reference: new rows of what is lost; goesBack -/
section MV
variable {O : Nat → Prop} {B B' : Nat → Nat → Nat} {H : List (Nat × ba_G)} {e : Nat} {g0 h h' : bi_H} {x y z x' y' : Nat} {S S' : ba_S} {s i : Nat}
/-- all old things (but for the rows 67, 68 of store s) stand where they stood -/
def mu (B B' : Nat → Nat → Nat) (n s : Nat) (h h' : bi_H) : Prop := ∀ c i, mb_in n c i → ¬ ((c = 67 ∨ c = 68) ∧ i = s) → B' c i = B c i ∧ (∀ c' k, ¬ (c' = 12 ∧ k = 6) → bi_fi h' c' k (B c i) = bi_fi h c' k (B c i)) ∧ (c ≠ 112 → c ≠ 113 → ∀ j, bi_ai h' (B c i) j = bi_ai h (B c i) j) ∧ (c ≠ 134 → ∀ j, bi_ar h' (B c i) j = bi_ar h (B c i) j) ∧ ((c ≠ 11 ∨ i ≠ s) → ∀ c' k, bi_fr h' c' k (B c i) = bi_fr h c' k (B c i))
theorem mu.eB {n : Nat} (U : mu B B' n s h h') {c i : Nat} (hi : mb_in n c i) (hn : ¬ ((c = 67 ∨ c = 68) ∧ i = s)) : B' c i = B c i := (U c i hi hn).1
theorem mu.fi {n : Nat} (U : mu B B' n s h h') {c i : Nat} (hi : mb_in n c i) (hn : ¬ ((c = 67 ∨ c = 68) ∧ i = s)) {c' k : Nat} (hk : ¬ (c' = 12 ∧ k = 6)) : bi_fi h' c' k (B' c i) = bi_fi h c' k (B c i) := by
  rw [(U c i hi hn).1]
  exact (U c i hi hn).2.1 c' k hk
theorem mu.ai {n : Nat} (U : mu B B' n s h h') {c i : Nat} (hi : mb_in n c i) (hn : ¬ ((c = 67 ∨ c = 68) ∧ i = s)) (h2 : c ≠ 112) (h3 : c ≠ 113) (j : Nat) : bi_ai h' (B' c i) j = bi_ai h (B c i) j := by
  rw [(U c i hi hn).1]
  exact (U c i hi hn).2.2.1 h2 h3 j
theorem mu.ar {n : Nat} (U : mu B B' n s h h') {c i : Nat} (hi : mb_in n c i) (hn : ¬ ((c = 67 ∨ c = 68) ∧ i = s)) (h2 : c ≠ 134) (j : Nat) : bi_ar h' (B' c i) j = bi_ar h (B c i) j := by
  rw [(U c i hi hn).1]
  exact (U c i hi hn).2.2.2.1 h2 j
theorem mu.fr {n : Nat} (U : mu B B' n s h h') {c i : Nat} (hi : mb_in n c i) (hn : ¬ ((c = 67 ∨ c = 68) ∧ i = s)) (h2 : c ≠ 11 ∨ i ≠ s) (c' k : Nat) : bi_fr h' c' k (B' c i) = bi_fr h c' k (B c i) := by
  rw [(U c i hi hn).1]
  exact (U c i hi hn).2.2.2.2 h2 c' k
theorem mu.g (U : mu B B' (bz_N S) s h h') (hNN : bz_N S ≤ bz_N S') {i : Nat} (hi : i < 61) {g : ba_G} (G : mb_g B S h i g) : mb_g B' S' h' i g := by
  have f : ∀ k, bi_fi h' 10 k (B' 10 i) = bi_fi h 10 k (B 10 i) := fun k => U.fi (mi1 hi rfl) (by omega) (by omega)
  have a : ∀ c j, c = 70 ∨ c = 71 ∨ c = 72 → bi_ai h' (B' c i) j = bi_ai h (B c i) j := fun c j hc => U.ai (by rcases hc with rfl | rfl | rfl <;> exact mi1 hi rfl) (by omega) (by omega) (by omega) j
  obtain ⟨g1, ⟨t, ht, hN, e1, e2⟩, n, hn, hl, ec, hc⟩ := G
  refine ⟨by rw [f, f, f, f, f, f]; exact g1, ⟨t, ht, by omega, e1, by rw [U.fr (c := 10) (mi1 hi rfl) (by omega) (Or.inl (by omega)), U.eB (c := 11) (mi2 ht hN) (by omega)]; exact e2⟩, n, hn, hl, by rw [f]; exact ec, fun j hj => ?_⟩
  rw [a 70 j (by omega), a 71 j (by omega), a 72 j (by omega)]
  exact hc j hj
theorem mu.fl (U : mu B B' (bz_N S) s h h') (hNN : bz_N S ≤ bz_N S') (eF : bz_F S' = bz_F S) (F : mb_f B H e S h) : mb_f B' H e S' h' := by
  obtain ⟨fx, sx, n1, n2, n3, n4, n5, n6, n7, n8, n9⟩ := F
  have gg := fun {i : Nat} (hi : i < 61) {g : ba_G} (G : mb_g B S h i g) => U.g (S' := S') hNN hi G
  have c12 : ∀ k, k ≠ 6 → bi_fi h' 12 k (B' 12 0) = bi_fi h 12 k (B 12 0) := fun k hk => U.fi (mi0 (by decide) rfl) (by omega) (by omega)
  refine ⟨fx, sx, n1, n2, by rw [eF]; exact n3, n4, by rw [c12 37 (by decide)]; exact n5, by rw [c12 38 (by decide)]; exact n6, fun i hi => ?_, fun j hj => ?_, fun q hq => ?_⟩
  · obtain ⟨m1, m2⟩ := n7 i hi
    have hi' : fx.getD i 0 < 61 := n2 _ (by
      rw [List.getD_eq_getElem?_getD, List.getElem?_eq_getElem hi]
      exact List.mem_append_left _ (List.getElem_mem hi))
    rw [eF, U.ar (c := 135) (mi0 (by decide) rfl) (by omega) (by omega), U.eB (c := 10) (mi1 hi' rfl) (by omega)]
    exact ⟨m1, gg hi' m2⟩
  · have hj' : sx.getD j 0 < 61 := n2 _ (by
      rw [List.getD_eq_getElem?_getD, List.getElem?_eq_getElem hj]
      exact List.mem_append_right _ (List.getElem_mem hj))
    rw [U.ar (c := 136) (mi0 (by decide) rfl) (by omega) (by omega), U.eB (c := 10) (mi1 hj' rfl) (by omega)]
    exact n8 j hj
  · obtain ⟨m1, m2, m3, m4⟩ := n9 q hq
    exact ⟨m1, m2, m3, gg m1 m4⟩
theorem mu.t (U : mu B B' (bz_N S) s h h') {s' : Nat} (hs : s' < 8) (hN : s' % 4 < bz_N S) (eW : bz_W S' = bz_W S) (eD : bz_D S' (s' % 4) = bz_D S (s' % 4)) {t : ba_T} (T : mb_t B S h s' t) {l : List Nat} (hl : ∀ i, i < l.length → bi_ai h' (B' 67 s') i = Int32.ofNat (mb_w S' (l.getD i 0)) ∧ bi_ai h' (B' 68 s') i = ba_v (bz_W S') (l.getD i 0)) : mb_t B' S' h' s' (bs_sx t l) := by
  have f : ∀ k, bi_fi h' 11 k (B' 11 s') = bi_fi h 11 k (B 11 s') := fun k => U.fi (mi2 hs hN) (by omega) (by omega)
  have a : ∀ c j, c = 64 ∨ c = 65 ∨ c = 66 → bi_ai h' (B' c s') j = bi_ai h (B c s') j := fun c j hc => U.ai (by rcases hc with rfl | rfl | rfl <;> exact mi2 hs hN) (by omega) (by omega) (by omega) j
  obtain ⟨t1, t2, t3, t4, t5, t6, t7, t8, t9⟩ := T
  refine ⟨by rw [f, f]; exact t1, fun k h1 h2 => by rw [f]; exact t2 k h1 h2, fun k h1 h2 => by rw [f]; exact t3 k h1 h2, by rw [f]; exact t4, by rw [f, f, f, f]; exact t5, fun i hi => by rw [a 64 i (by omega), a 65 i (by omega)]; exact t6 i hi, hl, ?_, by rw [f, f, eW]; exact t9⟩
  rw [f, eD, eW]
  rcases t8 with t8 | ⟨t8, t9⟩
  · exact Or.inl t8
  · exact Or.inr ⟨t8, fun q hq => by rw [a 66 q (by omega)]; exact t9 q hq⟩
theorem mu.sp (U : mu B B' (bz_N S) s h h') (hNN : bz_N S ≤ bz_N S') (hW : ba_ok (bz_W S)) (eW : bz_W S' = bz_W S) (hmw : ∀ k, k ≤ ba_n (bz_W S) → mb_w S' k = mb_w S k) (T : mb_s B S h) : mb_s B' S' h' := by
  have f : ∀ k, k ≠ 6 → bi_fi h' 12 k (B' 12 0) = bi_fi h 12 k (B 12 0) := fun k hk => U.fi (mi0 (by decide) rfl) (by omega) (by omega)
  have a : ∀ c j, c = 129 ∨ c = 130 → bi_ai h' (B' c 0) j = bi_ai h (B c 0) j := fun c j hc => U.ai (by rcases hc with rfl | rfl <;> exact mi0 (by decide) rfl) (by omega) (by omega) (by omega) j
  unfold mb_s
  rw [f 27 (by decide), f 25 (by decide), f 26 (by decide), f 28 (by decide), eW]
  rcases T with T | ⟨g, k, d, hg, hk, hd, e1, e2, e3, e4, e5⟩
  · exact Or.inl T
  · refine Or.inr ⟨g, k, d, by omega, hk, hd, e1, e2, e3, e4, fun i hi => ?_⟩
    have hin : (ba_sp (bz_W S) d k).getD i 0 ≤ ba_n (bz_W S) := ba_sp_in hW hk hd (by
      rw [List.getD_eq_getElem?_getD, List.getElem?_eq_getElem hi]
      exact List.getElem_mem hi)
    rw [a 129 i (by omega), a 130 i (by omega), hmw _ hin]
    exact e5 i hi
/-- new rows of what is lost -/
def mu_B (B : Nat → Nat → Nat) (s a b : Nat) : Nat → Nat → Nat := fun c i => if c = 67 ∧ i = s then a else if c = 68 ∧ i = s then b else B c i
theorem ms_R.lost (R : ms_R O B H e g0 x y h S) (hW : ba_ok (bz_W S)) (hs : s < 8) (hN : s % 4 < bz_N S) {l : List Nat} (hnx : bi_nx h' = bi_nx h + 2) (hx : bi_nc h' ≤ x') (hy : bi_ns h' ≤ y') (hk : ∀ a, a < bi_nx h → bi_k h' a = bi_k h a) (hfi : ∀ c k a, a < bi_nx h → bi_fi h' c k a = bi_fi h c k a) (hfr : ∀ c k a, a < bi_nx h → ¬ (c = 11 ∧ (k = 29 ∨ k = 30) ∧ a = B 11 s) → bi_fr h' c k a = bi_fr h c k a) (hai : ∀ a j, a < bi_nx h → bi_ai h' a j = bi_ai h a j) (har : ∀ a j, a < bi_nx h → bi_ar h' a j = bi_ar h a j) (hk0 : bi_k h' (bi_nx h) = (1, l.length)) (hk1 : bi_k h' (bi_nx h + 1) = (1, l.length)) (h29 : bi_fr h' 11 29 (B 11 s) = bi_nx h) (h30 : bi_fr h' 11 30 (B 11 s) = bi_nx h + 1) (hl : ∀ i, i < l.length → bi_ai h' (bi_nx h) i = Int32.ofNat (mb_w S (l.getD i 0)) ∧ bi_ai h' (bi_nx h + 1) i = ba_v (bz_W S) (l.getD i 0)) : ms_R O (mu_B B s (bi_nx h) (bi_nx h + 1)) H e g0 x' y' h' (bz_sT S s (bs_sx (bz_T S s) l)) := by
  have L := R.L
  have lt : ∀ {c i}, mb_in (bz_N S) c i → B c i < bi_nx h := fun hi => (L.1 _ _ hi).2.1
  have eB : ∀ {c i}, ¬ ((c = 67 ∨ c = 68) ∧ i = s) → mu_B B s (bi_nx h) (bi_nx h + 1) c i = B c i := fun hn => by
    unfold mu_B
    rw [if_neg (fun z => hn ⟨Or.inl z.1, z.2⟩), if_neg (fun z => hn ⟨Or.inr z.1, z.2⟩)]
  have e67 : mu_B B s (bi_nx h) (bi_nx h + 1) 67 s = bi_nx h := if_pos ⟨rfl, rfl⟩
  have e68 : mu_B B s (bi_nx h) (bi_nx h + 1) 68 s = bi_nx h + 1 := by
    unfold mu_B
    rw [if_neg (fun z => absurd z.1 (by decide)), if_pos ⟨rfl, rfl⟩]
  have U : mu B (mu_B B s (bi_nx h) (bi_nx h + 1)) (bz_N S) s h h' := fun c i hi hn => by
    refine ⟨eB hn, fun c' k _ => hfi _ _ _ (lt hi), fun _ _ j => hai _ _ (lt hi), fun _ j => har _ _ (lt hi), fun h2 c' k => hfr _ _ _ (lt hi) (fun w => ?_)⟩
    have := L.2.1 c i 11 s hi (mi2 hs hN) w.2.2
    omega
  have lo : ∀ i, bs_lo (bz_T (bz_sT S s (bs_sx (bz_T S s) l)) i) = if i = s then l else bs_lo (bz_T S i) := fun i => by
    by_cases c : i = s
    · rw [if_pos c, c, bz_T_same]
      rfl
    · rw [if_neg c, bz_T_ne _ _ c]
  obtain ⟨r1, r2, r3, r4, r5, r6, r7, r8, r9, r10, r11⟩ := R
  have c12 : ∀ k, k ≠ 6 → bi_fi h' 12 k (mu_B B s (bi_nx h) (bi_nx h + 1) 12 0) = bi_fi h 12 k (B 12 0) := fun k hk => U.fi (mi0 (by decide) rfl) (by omega) (by omega)
  have c126 : bi_fi h' 12 6 (mu_B B s (bi_nx h) (bi_nx h + 1) 12 0) = bi_fi h 12 6 (B 12 0) := by
    rw [eB (by omega)]
    exact hfi _ _ _ (lt (mi0 (by decide) rfl))
  have aa : ∀ c i j, mb_in (bz_N S) c i → c ≠ 67 → c ≠ 68 → bi_ai h' (mu_B B s (bi_nx h) (bi_nx h + 1) c i) j = bi_ai h (B c i) j := fun c i j hi h1 h2 => by
    rw [eB (by omega)]
    exact hai _ _ (lt hi)
  refine ⟨?_, ?_, ?_, fun i hi => ?_, fun g hg => ?_, fun k hk => ?_, ?_, fun g hg => ?_, U.sp (Nat.le_refl _) hW rfl (fun k _ => rfl) r9, fun s' hs' hN' => ?_, U.fl (Nat.le_refl _) rfl r11⟩
  · obtain ⟨l1, l2, l3, l4, l5, l6, l7⟩ := r1
    refine ⟨fun c i hi => ?_, fun c i c' i' hi hi' hB => ?_, fun k h1 h2 => ?_, fun g hg => ?_, fun t ht => ?_, fun t ht htN => ?_, fun i hi => ?_⟩
    · have hi : mb_in (bz_N S) c i := hi
      by_cases c1 : (c = 67 ∨ c = 68) ∧ i = s
      · obtain ⟨c1, rfl⟩ := c1
        have w := lt (c := 11) (i := i) (mi2 hs hN)
        rcases c1 with rfl | rfl
        · rw [e67]
          refine ⟨?_, by omega, by omega⟩
          rw [hk0]
          show (1, l.length) = (1, (bs_lo (bz_T (bz_sT S i (bs_sx (bz_T S i) l)) i)).length)
          rw [lo, if_pos rfl]
        · rw [e68]
          refine ⟨?_, by omega, by omega⟩
          rw [hk1]
          show (1, l.length) = (1, (bs_lo (bz_T (bz_sT S i (bs_sx (bz_T S i) l)) i)).length)
          rw [lo, if_pos rfl]
      · rw [eB c1, hk _ (lt hi), hnx]
        refine ⟨?_, by have := lt hi; omega, (l1 c i hi).2.2⟩
        rw [(l1 c i hi).1]
        by_cases c2 : c = 67
        · subst c2
          show (1, (bs_lo (bz_T S i)).length) = (1, (bs_lo (bz_T (bz_sT S s (bs_sx (bz_T S s) l)) i)).length)
          rw [lo, if_neg (fun z => c1 ⟨Or.inl rfl, z⟩)]
        · by_cases c3 : c = 68
          · subst c3
            show (1, (bs_lo (bz_T S i)).length) = (1, (bs_lo (bz_T (bz_sT S s (bs_sx (bz_T S s) l)) i)).length)
            rw [lo, if_neg (fun z => c1 ⟨Or.inr rfl, z⟩)]
          · unfold mb_kd
            split <;> first | rfl | (exfalso; omega)
    · have hi : mb_in (bz_N S) c i := hi
      have hi' : mb_in (bz_N S) c' i' := hi'
      have w := lt hi
      have w' := lt hi'
      by_cases c1 : (c = 67 ∨ c = 68) ∧ i = s
      · obtain ⟨c1, rfl⟩ := c1
        by_cases c2 : (c' = 67 ∨ c' = 68) ∧ i' = i
        · obtain ⟨c2, rfl⟩ := c2
          rcases c1 with rfl | rfl <;> rcases c2 with rfl | rfl
          · exact ⟨rfl, rfl⟩
          · rw [e67, e68] at hB
            omega
          · rw [e67, e68] at hB
            omega
          · exact ⟨rfl, rfl⟩
        · rw [eB c2] at hB
          rcases c1 with rfl | rfl
          · rw [e67] at hB
            omega
          · rw [e68] at hB
            omega
      · rw [eB c1] at hB
        by_cases c2 : (c' = 67 ∨ c' = 68) ∧ i' = s
        · obtain ⟨c2, rfl⟩ := c2
          rcases c2 with rfl | rfl
          · rw [e67] at hB
            omega
          · rw [e68] at hB
            omega
        · rw [eB c2] at hB
          exact l2 c i c' i' hi hi' hB
    · rw [U.fr (c := 12) (mi0 (by decide) rfl) (by omega) (Or.inl (by decide)), eB (by omega)]
      exact l3 k h1 h2
    · rw [U.ar (c := 131) (mi0 (by decide) rfl) (by omega) (by omega), U.ar (c := 132) (mi0 (by decide) rfl) (by omega) (by omega), eB (by omega), eB (by omega)]
      exact l4 g hg
    · rw [eB (by omega), har _ _ (lt (mi0 (by decide) rfl)), eB (by omega)]
      exact l5 t ht
    · have w := lt (mi2 (c := 11) ht htN)
      obtain ⟨m1, m2, m3, m4, m5⟩ := l6 t ht htN
      have q : ∀ k, k ≠ 29 → k ≠ 30 → bi_fr h' 11 k (mu_B B s (bi_nx h) (bi_nx h + 1) 11 t) = bi_fr h 11 k (B 11 t) := fun k a1 a2 => by
        rw [eB (by omega)]
        exact hfr _ _ _ w (by omega)
      refine ⟨by rw [q 14 (by decide) (by decide), eB (by omega)]; exact m1, by rw [q 15 (by decide) (by decide), eB (by omega)]; exact m2, ?_, ?_, by rw [q 31 (by decide) (by decide), eB (by omega)]; exact m5⟩
      · by_cases c : t = s
        · subst c
          rw [e67, eB (by omega)]
          exact h29
        · rw [U.fr (c := 11) (mi2 ht htN) (by omega) (Or.inr c), eB (by omega)]
          exact m3
      · by_cases c : t = s
        · subst c
          rw [e68, eB (by omega)]
          exact h30
        · rw [U.fr (c := 11) (mi2 ht htN) (by omega) (Or.inr c), eB (by omega)]
          exact m4
    · rw [U.fr (c := 10) (mi1 hi rfl) (by omega) (Or.inl (by decide)), U.fr (c := 10) (mi1 hi rfl) (by omega) (Or.inl (by decide)), U.fr (c := 10) (mi1 hi rfl) (by omega) (Or.inl (by decide)), eB (by omega), eB (by omega), eB (by omega)]
      exact l7 i hi
  · obtain ⟨f1, f2, f3, f4, f5, f6, f7⟩ := r2
    refine ⟨by omega, fun a ha => (hk a (by omega)).trans (f2 a ha), fun c k a hc ha => ?_, fun a j ha hO => ?_, hx, hy, fun c i hi => ?_⟩
    · rw [hfi _ _ _ (by omega), hfr _ _ _ (by omega) (by omega)]
      exact f3 c k a hc ha
    · rw [hai _ _ (by omega), har _ _ (by omega)]
      exact f4 a j ha hO
    · by_cases c1 : (c = 67 ∨ c = 68) ∧ i = s
      · obtain ⟨c1, rfl⟩ := c1
        rcases c1 with rfl | rfl
        · rw [e67]
          exact Or.inr f1
        · rw [e68]
          exact Or.inr (by omega)
      · rw [eB c1]
        exact f7 c i hi
  · rw [c126, c12 1 (by decide), c12 2 (by decide), c12 3 (by decide), c12 4 (by decide), c12 5 (by decide), c12 7 (by decide), c12 8 (by decide), c12 14 (by decide), c12 24 (by decide)]
    exact r3
  · rw [aa 109 0 _ (mi0 (by decide) rfl) (by decide) (by decide), aa 110 0 _ (mi0 (by decide) rfl) (by decide) (by decide), aa 111 0 _ (mi0 (by decide) rfl) (by decide) (by decide)]
    exact r4 i hi
  · rw [aa 112 0 _ (mi0 (by decide) rfl) (by decide) (by decide), aa 113 0 _ (mi0 (by decide) rfl) (by decide) (by decide)]
    exact r5 g hg
  · rw [aa 115 0 _ (mi0 (by decide) rfl) (by decide) (by decide), aa 116 0 _ (mi0 (by decide) rfl) (by decide) (by decide), aa 117 0 _ (mi0 (by decide) rfl) (by decide) (by decide), aa 118 0 _ (mi0 (by decide) rfl) (by decide) (by decide)]
    exact r6 k hk
  · simp only [aa 119 0 _ (mi0 (by decide) rfl) (by decide) (by decide), aa 121 0 _ (mi0 (by decide) rfl) (by decide) (by decide), aa 122 0 _ (mi0 (by decide) rfl) (by decide) (by decide), aa 123 0 _ (mi0 (by decide) rfl) (by decide) (by decide)]
    exact r7
  · rw [aa 133 0 _ (mi0 (by decide) rfl) (by decide) (by decide)]
    simp only [aa 61 g _ (mi1 hg rfl) (by decide) (by decide), aa 62 g _ (mi1 hg rfl) (by decide) (by decide)]
    exact r8 g hg
  · by_cases c : s' = s
    · subst c
      rw [bz_T_same]
      refine U.t (S' := bz_sT S s' (bs_sx (bz_T S s') l)) hs' hN' rfl rfl (r10 s' hs' hN') (fun i hi => ?_)
      rw [e67, e68]
      exact hl i hi
    · rw [bz_T_ne _ _ c]
      refine U.t (S' := bz_sT S s (bs_sx (bz_T S s) l)) (l := bs_lo (bz_T S s')) hs' hN' rfl rfl (r10 s' hs' hN') (fun i hi => ?_)
      rw [eB (by omega), eB (by omega), hai _ _ (lt (mi2 hs' hN')), hai _ _ (lt (mi2 hs' hN'))]
      exact (r10 s' hs' hN').2.2.2.2.2.2.1 i hi
/-- goesBack: the span is copied -/
theorem nl_copy {a b n : Nat} {hb : bi_H} (k11 : bi_k hb (B 11 s) = (21, 0)) (k12 : bi_k hb (B 12 0) = (22, 0)) (r29 : bi_fr hb 11 29 (B 11 s) = a) (r30 : bi_fr hb 11 30 (B 11 s) = b) (r129 : bi_fr hb 12 29 (B 12 0) = B 129 0) (r130 : bi_fr hb 12 30 (B 12 0) = B 130 0) (k129 : bi_k hb (B 129 0) = (1, 32768)) (k130 : bi_k hb (B 130 0) = (1, 32768)) (ka : bi_k hb a = (1, n)) (kb : bi_k hb b = (1, n)) (f28 : bi_fi hb 12 28 (B 12 0) = Int32.ofNat n) (hn : n ≤ 32768) (nab : a ≠ b) (na : B 129 0 ≠ a ∧ B 129 0 ≠ b ∧ B 130 0 ≠ a ∧ B 130 0 ≠ b) (v w : Int32) : ∀ (d k : Nat) (h1 : bi_H), d + k = n → md (mu_B B s a b) [] [(67, s), (68, s)] hb h1 → (∀ j, j < k → bi_ai h1 a j = bi_ai hb (B 129 0) j ∧ bi_ai h1 b j = bi_ai hb (B 130 0) j) → ∃ h', (∀ Q, bw_r bt_P 43 8 [(0, .inr (.inl (B 12 0))), (1, .inr (.inl (B 11 s))), (2, .inl v), (3, .inl w)] [] h' Q → bw_r bt_P 43 6 [(0, .inr (.inl (B 12 0))), (1, .inr (.inl (B 11 s))), (2, .inl v), (3, .inl w), (4, .inl (Int32.ofNat k))] [] h1 Q) ∧ md (mu_B B s a b) [] [(67, s), (68, s)] hb h' ∧ ∀ j, j < n → bi_ai h' a j = bi_ai hb (B 129 0) j ∧ bi_ai h' b j = bi_ai hb (B 130 0) j
  | 0, k, h1, hd, D1, hA => by
    have e1 : k = n := by omega
    subst e1
    refine ⟨h1, fun Q hq => ?_, D1, hA⟩
    have q1 : k < 60001 := by omega
    have k12' : bi_k h1 (B 12 0) = (22, 0) := by rw [D1.1.1]; exact k12
    have f28' : bi_fi h1 12 28 (B 12 0) = Int32.ofNat k := by rw [D1.2.1 12 28 _ (fun q hq => by cases hq)]; exact f28
    (refine bw_step rfl ?_; simp +decide only [bw_gi_s, bw_ga_s, bw_go_s, bw_w_i, bw_w_a, bw_w_l, bw_sum_n, bw_sum_c, bw_xs_n, bw_iconst, bw_bipush, bw_sipush, bw_ldc, bw_ldc_w, bw_anull, bw_iload0, bw_aload0, bw_istore0, bw_astore0, bw_iload1, bw_aload1, bw_istore1, bw_astore1, bw_iload2, bw_aload2, bw_istore2, bw_astore2, bw_iload3, bw_aload3, bw_istore3, bw_astore3, bw_iload, bw_aload, bw_istore, bw_astore, bw_iinc, bw_iadd, bw_isub, bw_imul, bw_iand, bw_ixor, bw_idiv, bw_irem, bw_i2l, bw_lcmp, bw_dupi, bw_dupa, bw_dup2ia, bw_dup2ii, bw_getf0, bw_getf2, bw_getf1, bw_putf0, bw_putf2, bw_putf1, bw_iaload, bw_baload, bw_laload, bw_aaload, bw_iastore, bw_bastore, bw_lastore, bw_aastore, bw_alen, bw_newa_int, bw_newa_boolean, bw_newa_long, bw_anewa, bw_multi, bw_new, bw_static, bw_virt, bw_obj, bw_t_nop, bw_t_goto, bw_t_eq_z, bw_t_eq_i, bw_t_ne_z, bw_t_ne_i, bw_t_lt_z, bw_t_lt_i, bw_t_ge_z, bw_t_ge_i, bw_t_gt_z, bw_t_gt_i, bw_t_le_z, bw_t_le_i, bw_t_null, bw_t_nonnull, bw_t_switch, bw_t_ireturn0, bw_t_ireturn1, bw_t_areturn, bw_t_return, bw_t_athrow, bw_t_try, List.lookup_cons, List.lookup_nil, bi_st, List.filter_cons, List.filter_nil, List.take_succ_cons, List.take_zero, List.take_nil, List.drop_succ_cons, List.drop_zero, List.reverse_cons, List.reverse_nil, List.nil_append, List.cons_append, Option.toList_some, Option.toList_none, List.length_cons, List.length_nil, bi_loc, List.zipIdx_cons, List.zipIdx_nil, List.map_cons, List.map_nil, List.getD_cons_zero, List.getD_cons_succ, Nat.zero_add, Bool.not_true, Bool.not_false, Bool.false_eq_true, if_true, if_false, ite_true, ite_false, ↓reduceIte, true_and, and_true, Bool.not_eq_true, beq_self_eq_true, Nat.reduceBEq, Nat.reduceEqDiff, Nat.reduceAdd, Nat.reduceLeDiff, Nat.reduceLT, Nat.reduceSub, Nat.reduceMul, Int32.reduceOfInt, Int32.reduceOfNat, Int32.reduceToNatClampNeg, Int32.reduceLT, Int32.reduceLE, Int32.reduceAdd, Int32.reduceSub, Int32.reduceMul, Int32.reduceDiv, Int32.reduceToInt, Int.reduceLT, Int.reduceSub, Int.reduceToNat, not_false_eq_true, ne_eq, or_true, true_or, or_false, false_or, and_false, false_and, not_true_eq_false, reduceCtorEq, and_self, or_self, eq_self, bh_k_sfi, bh_k_sfr, bh_k_sai, bh_k_sar, bh_k_new, bh_fi_sfi, bh_fi_sfr, bh_fi_sai, bh_fi_sar, bh_fi_new, bh_fr_sfi, bh_fr_sfr, bh_fr_sai, bh_fr_sar, bh_fr_new, bh_ai_sfi, bh_ai_sfr, bh_ai_sai, bh_ai_sar, bh_ai_new, bh_ar_sfi, bh_ar_sfr, bh_ar_sai, bh_ar_sar, bh_ar_new, bh_nx_sfi, bh_nx_sfr, bh_nx_sai, bh_nx_sar, bh_nx_new, bh_nc_sfi, bh_nc_sfr, bh_nc_sai, bh_nc_sar, bh_nc_new, bh_ns_sfi, bh_ns_sfr, bh_ns_sai, bh_ns_sar, bh_ns_new, bh_k_new2, bh_fi_new2, bh_fr_new2, bh_ai_new2, bh_ar_new2, bh_nx_new2, bh_nc_new2, bh_ns_new2, Nat.lt_irrefl, Nat.le_refl, bq_le0, bq_neg, bq_nat, bq_lt, bq_le, bq_eq, bn_one, bn_dec, k12', f28', q1, Nat.le_refl])
    (refine bw_sub2 _ ?_ (hq); exact ⟨rfl, rfl, rfl, rfl, trivial⟩)
  | d + 1, k, h1, hd, D1, hA => by
    have e67 : mu_B B s a b 67 s = a := if_pos ⟨rfl, rfl⟩
    have e68 : mu_B B s a b 68 s = b := by
      unfold mu_B
      rw [if_neg (fun z => absurd z.1 (by decide)), if_pos ⟨rfl, rfl⟩]
    have k12' : bi_k h1 (B 12 0) = (22, 0) := by rw [D1.1.1]; exact k12
    have k11' : bi_k h1 (B 11 s) = (21, 0) := by rw [D1.1.1]; exact k11
    have ka' : bi_k h1 a = (1, n) := by rw [D1.1.1]; exact ka
    have kb' : bi_k h1 b = (1, n) := by rw [D1.1.1]; exact kb
    have k129' : bi_k h1 (B 129 0) = (1, 32768) := by rw [D1.1.1]; exact k129
    have k130' : bi_k h1 (B 130 0) = (1, 32768) := by rw [D1.1.1]; exact k130
    have r29' : bi_fr h1 11 29 (B 11 s) = a := by rw [D1.1.2.2.2.2.1]; exact r29
    have r30' : bi_fr h1 11 30 (B 11 s) = b := by rw [D1.1.2.2.2.2.1]; exact r30
    have r129' : bi_fr h1 12 29 (B 12 0) = B 129 0 := by rw [D1.1.2.2.2.2.1]; exact r129
    have r130' : bi_fr h1 12 30 (B 12 0) = B 130 0 := by rw [D1.1.2.2.2.2.1]; exact r130
    have f28' : bi_fi h1 12 28 (B 12 0) = Int32.ofNat n := by rw [D1.2.1 12 28 _ (fun q hq => by cases hq)]; exact f28
    have hne : ∀ c, c = B 129 0 ∨ c = B 130 0 → ∀ q, q ∈ [(67, s), (68, s)] → c ≠ mu_B B s a b q.1 q.2 := fun c hc q hq => by
      simp at hq
      obtain ⟨n1, n2, n3, n4⟩ := na
      rcases hq with rfl | rfl
      · rw [e67]
        rcases hc with rfl | rfl
        · exact n1
        · exact n3
      · rw [e68]
        rcases hc with rfl | rfl
        · exact n2
        · exact n4
    have a129 := D1.2.2 (B 129 0) k (hne _ (Or.inl rfl))
    have a130 := D1.2.2 (B 130 0) k (hne _ (Or.inr rfl))
    have n1 : (B 130 0 = a) = False := eq_false na.2.2.1
    have D2 : md (mu_B B s a b) [] [(67, s), (68, s)] h1 (bi_sai (bi_sai h1 a k (bi_ai hb (B 129 0) k)) b k (bi_ai hb (B 130 0) k)) := by
      have w1 : md (mu_B B s a b) [] [(67, s), (68, s)] h1 (bi_sai h1 (mu_B B s a b 67 s) k (bi_ai hb (B 129 0) k)) := md.sai h1 (by simp) _ _
      have w2 : md (mu_B B s a b) [] [(67, s), (68, s)] (bi_sai h1 (mu_B B s a b 67 s) k (bi_ai hb (B 129 0) k)) (bi_sai (bi_sai h1 (mu_B B s a b 67 s) k (bi_ai hb (B 129 0) k)) (mu_B B s a b 68 s) k (bi_ai hb (B 130 0) k)) := md.sai _ (by simp) _ _
      have w3 := w1.tr w2
      rw [e67, e68] at w3
      exact w3
    have ih := nl_copy k11 k12 r29 r30 r129 r130 k129 k130 ka kb f28 hn nab na v w d (k + 1) _ (by omega) (D1.tr D2) (fun j hj => by
      simp only [bh_ai_sai]
      by_cases c : j = k
      · subst c
        rw [if_neg (fun z => nab z.1), if_pos ⟨trivial, rfl⟩, if_pos ⟨trivial, rfl⟩]
        exact ⟨rfl, rfl⟩
      · rw [if_neg (fun z => c z.2), if_neg (fun z => c z.2), if_neg (fun z => c z.2), if_neg (fun z => c z.2)]
        exact hA j (by omega))
    obtain ⟨h3, r3, rest⟩ := ih
    refine ⟨h3, fun Q hQ => ?_, rest⟩
    have r3 := r3 Q hQ
    have q1 : k < 60001 := by omega
    have q2 : n < 60001 := by omega
    have q3 : ¬ n ≤ k := by omega
    have q4 : k < n := by omega
    have q5 : k < 32768 := by omega
    (refine bw_step rfl ?_; simp +decide only [bw_gi_s, bw_ga_s, bw_go_s, bw_w_i, bw_w_a, bw_w_l, bw_sum_n, bw_sum_c, bw_xs_n, bw_iconst, bw_bipush, bw_sipush, bw_ldc, bw_ldc_w, bw_anull, bw_iload0, bw_aload0, bw_istore0, bw_astore0, bw_iload1, bw_aload1, bw_istore1, bw_astore1, bw_iload2, bw_aload2, bw_istore2, bw_astore2, bw_iload3, bw_aload3, bw_istore3, bw_astore3, bw_iload, bw_aload, bw_istore, bw_astore, bw_iinc, bw_iadd, bw_isub, bw_imul, bw_iand, bw_ixor, bw_idiv, bw_irem, bw_i2l, bw_lcmp, bw_dupi, bw_dupa, bw_dup2ia, bw_dup2ii, bw_getf0, bw_getf2, bw_getf1, bw_putf0, bw_putf2, bw_putf1, bw_iaload, bw_baload, bw_laload, bw_aaload, bw_iastore, bw_bastore, bw_lastore, bw_aastore, bw_alen, bw_newa_int, bw_newa_boolean, bw_newa_long, bw_anewa, bw_multi, bw_new, bw_static, bw_virt, bw_obj, bw_t_nop, bw_t_goto, bw_t_eq_z, bw_t_eq_i, bw_t_ne_z, bw_t_ne_i, bw_t_lt_z, bw_t_lt_i, bw_t_ge_z, bw_t_ge_i, bw_t_gt_z, bw_t_gt_i, bw_t_le_z, bw_t_le_i, bw_t_null, bw_t_nonnull, bw_t_switch, bw_t_ireturn0, bw_t_ireturn1, bw_t_areturn, bw_t_return, bw_t_athrow, bw_t_try, List.lookup_cons, List.lookup_nil, bi_st, List.filter_cons, List.filter_nil, List.take_succ_cons, List.take_zero, List.take_nil, List.drop_succ_cons, List.drop_zero, List.reverse_cons, List.reverse_nil, List.nil_append, List.cons_append, Option.toList_some, Option.toList_none, List.length_cons, List.length_nil, bi_loc, List.zipIdx_cons, List.zipIdx_nil, List.map_cons, List.map_nil, List.getD_cons_zero, List.getD_cons_succ, Nat.zero_add, Bool.not_true, Bool.not_false, Bool.false_eq_true, if_true, if_false, ite_true, ite_false, ↓reduceIte, true_and, and_true, Bool.not_eq_true, beq_self_eq_true, Nat.reduceBEq, Nat.reduceEqDiff, Nat.reduceAdd, Nat.reduceLeDiff, Nat.reduceLT, Nat.reduceSub, Nat.reduceMul, Int32.reduceOfInt, Int32.reduceOfNat, Int32.reduceToNatClampNeg, Int32.reduceLT, Int32.reduceLE, Int32.reduceAdd, Int32.reduceSub, Int32.reduceMul, Int32.reduceDiv, Int32.reduceToInt, Int.reduceLT, Int.reduceSub, Int.reduceToNat, not_false_eq_true, ne_eq, or_true, true_or, or_false, false_or, and_false, false_and, not_true_eq_false, reduceCtorEq, and_self, or_self, eq_self, bh_k_sfi, bh_k_sfr, bh_k_sai, bh_k_sar, bh_k_new, bh_fi_sfi, bh_fi_sfr, bh_fi_sai, bh_fi_sar, bh_fi_new, bh_fr_sfi, bh_fr_sfr, bh_fr_sai, bh_fr_sar, bh_fr_new, bh_ai_sfi, bh_ai_sfr, bh_ai_sai, bh_ai_sar, bh_ai_new, bh_ar_sfi, bh_ar_sfr, bh_ar_sai, bh_ar_sar, bh_ar_new, bh_nx_sfi, bh_nx_sfr, bh_nx_sai, bh_nx_sar, bh_nx_new, bh_nc_sfi, bh_nc_sfr, bh_nc_sai, bh_nc_sar, bh_nc_new, bh_ns_sfi, bh_ns_sfr, bh_ns_sai, bh_ns_sar, bh_ns_new, bh_k_new2, bh_fi_new2, bh_fr_new2, bh_ai_new2, bh_ar_new2, bh_nx_new2, bh_nc_new2, bh_ns_new2, Nat.lt_irrefl, Nat.le_refl, bq_le0, bq_neg, bq_nat, bq_lt, bq_le, bq_eq, bn_one, bn_dec, k12', f28', q1, q2, q3])
    (refine bw_step rfl ?_; simp +decide only [bw_gi_s, bw_ga_s, bw_go_s, bw_w_i, bw_w_a, bw_w_l, bw_sum_n, bw_sum_c, bw_xs_n, bw_iconst, bw_bipush, bw_sipush, bw_ldc, bw_ldc_w, bw_anull, bw_iload0, bw_aload0, bw_istore0, bw_astore0, bw_iload1, bw_aload1, bw_istore1, bw_astore1, bw_iload2, bw_aload2, bw_istore2, bw_astore2, bw_iload3, bw_aload3, bw_istore3, bw_astore3, bw_iload, bw_aload, bw_istore, bw_astore, bw_iinc, bw_iadd, bw_isub, bw_imul, bw_iand, bw_ixor, bw_idiv, bw_irem, bw_i2l, bw_lcmp, bw_dupi, bw_dupa, bw_dup2ia, bw_dup2ii, bw_getf0, bw_getf2, bw_getf1, bw_putf0, bw_putf2, bw_putf1, bw_iaload, bw_baload, bw_laload, bw_aaload, bw_iastore, bw_bastore, bw_lastore, bw_aastore, bw_alen, bw_newa_int, bw_newa_boolean, bw_newa_long, bw_anewa, bw_multi, bw_new, bw_static, bw_virt, bw_obj, bw_t_nop, bw_t_goto, bw_t_eq_z, bw_t_eq_i, bw_t_ne_z, bw_t_ne_i, bw_t_lt_z, bw_t_lt_i, bw_t_ge_z, bw_t_ge_i, bw_t_gt_z, bw_t_gt_i, bw_t_le_z, bw_t_le_i, bw_t_null, bw_t_nonnull, bw_t_switch, bw_t_ireturn0, bw_t_ireturn1, bw_t_areturn, bw_t_return, bw_t_athrow, bw_t_try, List.lookup_cons, List.lookup_nil, bi_st, List.filter_cons, List.filter_nil, List.take_succ_cons, List.take_zero, List.take_nil, List.drop_succ_cons, List.drop_zero, List.reverse_cons, List.reverse_nil, List.nil_append, List.cons_append, Option.toList_some, Option.toList_none, List.length_cons, List.length_nil, bi_loc, List.zipIdx_cons, List.zipIdx_nil, List.map_cons, List.map_nil, List.getD_cons_zero, List.getD_cons_succ, Nat.zero_add, Bool.not_true, Bool.not_false, Bool.false_eq_true, if_true, if_false, ite_true, ite_false, ↓reduceIte, true_and, and_true, Bool.not_eq_true, beq_self_eq_true, Nat.reduceBEq, Nat.reduceEqDiff, Nat.reduceAdd, Nat.reduceLeDiff, Nat.reduceLT, Nat.reduceSub, Nat.reduceMul, Int32.reduceOfInt, Int32.reduceOfNat, Int32.reduceToNatClampNeg, Int32.reduceLT, Int32.reduceLE, Int32.reduceAdd, Int32.reduceSub, Int32.reduceMul, Int32.reduceDiv, Int32.reduceToInt, Int.reduceLT, Int.reduceSub, Int.reduceToNat, not_false_eq_true, ne_eq, or_true, true_or, or_false, false_or, and_false, false_and, not_true_eq_false, reduceCtorEq, and_self, or_self, eq_self, bh_k_sfi, bh_k_sfr, bh_k_sai, bh_k_sar, bh_k_new, bh_fi_sfi, bh_fi_sfr, bh_fi_sai, bh_fi_sar, bh_fi_new, bh_fr_sfi, bh_fr_sfr, bh_fr_sai, bh_fr_sar, bh_fr_new, bh_ai_sfi, bh_ai_sfr, bh_ai_sai, bh_ai_sar, bh_ai_new, bh_ar_sfi, bh_ar_sfr, bh_ar_sai, bh_ar_sar, bh_ar_new, bh_nx_sfi, bh_nx_sfr, bh_nx_sai, bh_nx_sar, bh_nx_new, bh_nc_sfi, bh_nc_sfr, bh_nc_sai, bh_nc_sar, bh_nc_new, bh_ns_sfi, bh_ns_sfr, bh_ns_sai, bh_ns_sar, bh_ns_new, bh_k_new2, bh_fi_new2, bh_fr_new2, bh_ai_new2, bh_ar_new2, bh_nx_new2, bh_nc_new2, bh_ns_new2, Nat.lt_irrefl, Nat.le_refl, bq_le0, bq_neg, bq_nat, bq_lt, bq_le, bq_eq, bn_one, bn_dec, k12', k11', r29', r30', r129', r130', ka', kb', k129', k130', a129, a130, n1, q1, q2, q4, q5, bl_i1])
    (refine bw_sub2 _ ?_ (r3); exact ⟨rfl, rfl, rfl, rfl, rfl, trivial⟩)
/-- goesBack: what is younger goes -/
theorem nl_drops (hs : s < 8) {v : Int32} {l0 : List (Nat × Nat)} (hl0 : l0.length ≤ 16) {m : Nat} (hcut : ∀ j, j < l0.length → (v < Int32.ofNat (l0.getD j (0, 0)).1 ↔ m ≤ j)) : ∀ (n : Nat) (S : ba_S) (h : bi_H), m ≤ n → n ≤ l0.length → ms_R O B H e g0 x y h S → s % 4 < bz_N S → bs_sn (bz_T S s) = l0.take n → bi_fi h 11 33 (B 11 s) = 0 → ∃ h', (∀ Q, bw_r bt_P 43 12 [(0, .inr (.inl (B 12 0))), (1, .inr (.inl (B 11 s)))] [] h' Q → bw_r bt_P 43 9 [(0, .inr (.inl (B 12 0))), (1, .inr (.inl (B 11 s))), (2, .inl v)] [] h Q) ∧ ms_R O B H e g0 x y h' (bz_sT S s (bs_ss (bz_T S s) (l0.take m)))
  | 0, S, h, hm, hn, R, hN, hsn, h33 => by
    have m0 : m = 0 := by omega
    subst m0
    have e1 : bz_sT S s (bs_ss (bz_T S s) (l0.take 0)) = S := by
      rw [← hsn]
      exact bz_sT_id S s
    rw [e1]
    refine ⟨h, fun Q hq => ?_, R⟩
    have f7 := (R.t hs hN).2.2.2.2.1.2.2.2
    rw [hsn] at f7
    have f7 : bi_fi h 11 7 (B 11 s) = 0 := f7
    (refine bw_step rfl ?_; simp +decide only [bw_gi_s, bw_ga_s, bw_go_s, bw_w_i, bw_w_a, bw_w_l, bw_sum_n, bw_sum_c, bw_xs_n, bw_iconst, bw_bipush, bw_sipush, bw_ldc, bw_ldc_w, bw_anull, bw_iload0, bw_aload0, bw_istore0, bw_astore0, bw_iload1, bw_aload1, bw_istore1, bw_astore1, bw_iload2, bw_aload2, bw_istore2, bw_astore2, bw_iload3, bw_aload3, bw_istore3, bw_astore3, bw_iload, bw_aload, bw_istore, bw_astore, bw_iinc, bw_iadd, bw_isub, bw_imul, bw_iand, bw_ixor, bw_idiv, bw_irem, bw_i2l, bw_lcmp, bw_dupi, bw_dupa, bw_dup2ia, bw_dup2ii, bw_getf0, bw_getf2, bw_getf1, bw_putf0, bw_putf2, bw_putf1, bw_iaload, bw_baload, bw_laload, bw_aaload, bw_iastore, bw_bastore, bw_lastore, bw_aastore, bw_alen, bw_newa_int, bw_newa_boolean, bw_newa_long, bw_anewa, bw_multi, bw_new, bw_static, bw_virt, bw_obj, bw_t_nop, bw_t_goto, bw_t_eq_z, bw_t_eq_i, bw_t_ne_z, bw_t_ne_i, bw_t_lt_z, bw_t_lt_i, bw_t_ge_z, bw_t_ge_i, bw_t_gt_z, bw_t_gt_i, bw_t_le_z, bw_t_le_i, bw_t_null, bw_t_nonnull, bw_t_switch, bw_t_ireturn0, bw_t_ireturn1, bw_t_areturn, bw_t_return, bw_t_athrow, bw_t_try, List.lookup_cons, List.lookup_nil, bi_st, List.filter_cons, List.filter_nil, List.take_succ_cons, List.take_zero, List.take_nil, List.drop_succ_cons, List.drop_zero, List.reverse_cons, List.reverse_nil, List.nil_append, List.cons_append, Option.toList_some, Option.toList_none, List.length_cons, List.length_nil, bi_loc, List.zipIdx_cons, List.zipIdx_nil, List.map_cons, List.map_nil, List.getD_cons_zero, List.getD_cons_succ, Nat.zero_add, Bool.not_true, Bool.not_false, Bool.false_eq_true, if_true, if_false, ite_true, ite_false, ↓reduceIte, true_and, and_true, Bool.not_eq_true, beq_self_eq_true, Nat.reduceBEq, Nat.reduceEqDiff, Nat.reduceAdd, Nat.reduceLeDiff, Nat.reduceLT, Nat.reduceSub, Nat.reduceMul, Int32.reduceOfInt, Int32.reduceOfNat, Int32.reduceToNatClampNeg, Int32.reduceLT, Int32.reduceLE, Int32.reduceAdd, Int32.reduceSub, Int32.reduceMul, Int32.reduceDiv, Int32.reduceToInt, Int.reduceLT, Int.reduceSub, Int.reduceToNat, not_false_eq_true, ne_eq, or_true, true_or, or_false, false_or, and_false, false_and, not_true_eq_false, reduceCtorEq, and_self, or_self, eq_self, bh_k_sfi, bh_k_sfr, bh_k_sai, bh_k_sar, bh_k_new, bh_fi_sfi, bh_fi_sfr, bh_fi_sai, bh_fi_sar, bh_fi_new, bh_fr_sfi, bh_fr_sfr, bh_fr_sai, bh_fr_sar, bh_fr_new, bh_ai_sfi, bh_ai_sfr, bh_ai_sai, bh_ai_sar, bh_ai_new, bh_ar_sfi, bh_ar_sfr, bh_ar_sai, bh_ar_sar, bh_ar_new, bh_nx_sfi, bh_nx_sfr, bh_nx_sai, bh_nx_sar, bh_nx_new, bh_nc_sfi, bh_nc_sfr, bh_nc_sai, bh_nc_sar, bh_nc_new, bh_ns_sfi, bh_ns_sfr, bh_ns_sai, bh_ns_sar, bh_ns_new, bh_k_new2, bh_fi_new2, bh_fr_new2, bh_ai_new2, bh_ar_new2, bh_nx_new2, bh_nc_new2, bh_ns_new2, Nat.lt_irrefl, Nat.le_refl, bq_le0, bq_neg, bq_nat, bq_lt, bq_le, bq_eq, bn_one, bn_dec, R.L.k11 hs hN, f7])
    (refine bw_sub2 _ ?_ (hq); exact ⟨rfl, rfl, trivial⟩)
  | n + 1, S, h, hm, hn, R, hN, hsn, h33 => by
    have f7 := (R.t hs hN).2.2.2.2.1.2.2.2
    have hlen : (l0.take (n + 1)).length = n + 1 := by rw [List.length_take]; omega
    rw [hsn, hlen] at f7
    have a64 := ((R.t hs hN).2.2.2.2.2.1 n (by rw [hsn, hlen]; omega)).1
    rw [hsn] at a64
    have eg : (l0.take (n + 1)).getD n (0, 0) = l0.getD n (0, 0) := by
      rw [List.getD_eq_getElem?_getD, List.getD_eq_getElem?_getD, List.getElem?_take, if_pos (by omega)]
    rw [eg] at a64
    have q1 : n + 1 < 60001 := by omega
    have q2 : n < 60001 := by omega
    have q3 : n < 40 := by omega
    have q4 : (n + 1 ≤ 0) = False := eq_false (by omega)
    have e1 : Int32.ofNat (n + 1) - 1 = Int32.ofNat n := by
      rw [show (1 : Int32) = Int32.ofNat 1 from rfl, bn_sub (by omega)]
      rfl
    by_cases c : m ≤ n
    · have hv : v < Int32.ofNat (l0.getD n (0, 0)).1 := (hcut n (by omega)).mpr c
      have hv2 : (Int32.ofNat (l0.getD n (0, 0)).1 ≤ v) = False := eq_false (Int32.not_le.mpr hv)
      have d : md B [(11, s, 7), (11, s, 33)] [(64, s), (65, s)] h (bi_sfi h 11 7 (B 11 s) (Int32.ofNat n)) := md.sfi h (by simp) _
      have R2 := R.Sn hs hN d (l := l0.take n) (by rw [bh_fi_sfi, if_pos ⟨rfl, rfl, rfl⟩, List.length_take, Nat.min_eq_left (by omega)]) (by rw [bh_fi_sfi, if_neg (fun z => absurd z.2.1 (by decide))]; exact h33) (fun i hi => by
        rw [List.length_take] at hi
        have h9 := (R.t hs hN).2.2.2.2.2.1 i (by rw [hsn, hlen]; omega)
        rw [hsn] at h9
        have e9 : (l0.take (n + 1)).getD i (0, 0) = (l0.take n).getD i (0, 0) := by
          rw [List.getD_eq_getElem?_getD, List.getD_eq_getElem?_getD, List.getElem?_take, List.getElem?_take, if_pos (by omega), if_pos (by omega)]
        rw [e9] at h9
        exact h9)
      obtain ⟨h3, r3, R3⟩ := nl_drops hs hl0 hcut n _ _ c (by omega) R2 hN (by rw [bz_T_same]; rfl) (by rw [bh_fi_sfi, if_neg (fun z => absurd z.2.1 (by decide))]; exact h33)
      rw [bz_T_same, bz_sT_sT] at R3
      refine ⟨h3, fun Q hQ => ?_, R3⟩
      have r3 := r3 Q hQ
      (refine bw_step rfl ?_; simp +decide only [bw_gi_s, bw_ga_s, bw_go_s, bw_w_i, bw_w_a, bw_w_l, bw_sum_n, bw_sum_c, bw_xs_n, bw_iconst, bw_bipush, bw_sipush, bw_ldc, bw_ldc_w, bw_anull, bw_iload0, bw_aload0, bw_istore0, bw_astore0, bw_iload1, bw_aload1, bw_istore1, bw_astore1, bw_iload2, bw_aload2, bw_istore2, bw_astore2, bw_iload3, bw_aload3, bw_istore3, bw_astore3, bw_iload, bw_aload, bw_istore, bw_astore, bw_iinc, bw_iadd, bw_isub, bw_imul, bw_iand, bw_ixor, bw_idiv, bw_irem, bw_i2l, bw_lcmp, bw_dupi, bw_dupa, bw_dup2ia, bw_dup2ii, bw_getf0, bw_getf2, bw_getf1, bw_putf0, bw_putf2, bw_putf1, bw_iaload, bw_baload, bw_laload, bw_aaload, bw_iastore, bw_bastore, bw_lastore, bw_aastore, bw_alen, bw_newa_int, bw_newa_boolean, bw_newa_long, bw_anewa, bw_multi, bw_new, bw_static, bw_virt, bw_obj, bw_t_nop, bw_t_goto, bw_t_eq_z, bw_t_eq_i, bw_t_ne_z, bw_t_ne_i, bw_t_lt_z, bw_t_lt_i, bw_t_ge_z, bw_t_ge_i, bw_t_gt_z, bw_t_gt_i, bw_t_le_z, bw_t_le_i, bw_t_null, bw_t_nonnull, bw_t_switch, bw_t_ireturn0, bw_t_ireturn1, bw_t_areturn, bw_t_return, bw_t_athrow, bw_t_try, List.lookup_cons, List.lookup_nil, bi_st, List.filter_cons, List.filter_nil, List.take_succ_cons, List.take_zero, List.take_nil, List.drop_succ_cons, List.drop_zero, List.reverse_cons, List.reverse_nil, List.nil_append, List.cons_append, Option.toList_some, Option.toList_none, List.length_cons, List.length_nil, bi_loc, List.zipIdx_cons, List.zipIdx_nil, List.map_cons, List.map_nil, List.getD_cons_zero, List.getD_cons_succ, Nat.zero_add, Bool.not_true, Bool.not_false, Bool.false_eq_true, if_true, if_false, ite_true, ite_false, ↓reduceIte, true_and, and_true, Bool.not_eq_true, beq_self_eq_true, Nat.reduceBEq, Nat.reduceEqDiff, Nat.reduceAdd, Nat.reduceLeDiff, Nat.reduceLT, Nat.reduceSub, Nat.reduceMul, Int32.reduceOfInt, Int32.reduceOfNat, Int32.reduceToNatClampNeg, Int32.reduceLT, Int32.reduceLE, Int32.reduceAdd, Int32.reduceSub, Int32.reduceMul, Int32.reduceDiv, Int32.reduceToInt, Int.reduceLT, Int.reduceSub, Int.reduceToNat, not_false_eq_true, ne_eq, or_true, true_or, or_false, false_or, and_false, false_and, not_true_eq_false, reduceCtorEq, and_self, or_self, eq_self, bh_k_sfi, bh_k_sfr, bh_k_sai, bh_k_sar, bh_k_new, bh_fi_sfi, bh_fi_sfr, bh_fi_sai, bh_fi_sar, bh_fi_new, bh_fr_sfi, bh_fr_sfr, bh_fr_sai, bh_fr_sar, bh_fr_new, bh_ai_sfi, bh_ai_sfr, bh_ai_sai, bh_ai_sar, bh_ai_new, bh_ar_sfi, bh_ar_sfr, bh_ar_sai, bh_ar_sar, bh_ar_new, bh_nx_sfi, bh_nx_sfr, bh_nx_sai, bh_nx_sar, bh_nx_new, bh_nc_sfi, bh_nc_sfr, bh_nc_sai, bh_nc_sar, bh_nc_new, bh_ns_sfi, bh_ns_sfr, bh_ns_sai, bh_ns_sar, bh_ns_new, bh_k_new2, bh_fi_new2, bh_fr_new2, bh_ai_new2, bh_ar_new2, bh_nx_new2, bh_nc_new2, bh_ns_new2, Nat.lt_irrefl, Nat.le_refl, bq_le0, bq_neg, bq_nat, bq_lt, bq_le, bq_eq, bn_one, bn_dec, R.L.k11 hs hN, f7, q1, q4])
      (refine bw_step rfl ?_; simp +decide only [bw_gi_s, bw_ga_s, bw_go_s, bw_w_i, bw_w_a, bw_w_l, bw_sum_n, bw_sum_c, bw_xs_n, bw_iconst, bw_bipush, bw_sipush, bw_ldc, bw_ldc_w, bw_anull, bw_iload0, bw_aload0, bw_istore0, bw_astore0, bw_iload1, bw_aload1, bw_istore1, bw_astore1, bw_iload2, bw_aload2, bw_istore2, bw_astore2, bw_iload3, bw_aload3, bw_istore3, bw_astore3, bw_iload, bw_aload, bw_istore, bw_astore, bw_iinc, bw_iadd, bw_isub, bw_imul, bw_iand, bw_ixor, bw_idiv, bw_irem, bw_i2l, bw_lcmp, bw_dupi, bw_dupa, bw_dup2ia, bw_dup2ii, bw_getf0, bw_getf2, bw_getf1, bw_putf0, bw_putf2, bw_putf1, bw_iaload, bw_baload, bw_laload, bw_aaload, bw_iastore, bw_bastore, bw_lastore, bw_aastore, bw_alen, bw_newa_int, bw_newa_boolean, bw_newa_long, bw_anewa, bw_multi, bw_new, bw_static, bw_virt, bw_obj, bw_t_nop, bw_t_goto, bw_t_eq_z, bw_t_eq_i, bw_t_ne_z, bw_t_ne_i, bw_t_lt_z, bw_t_lt_i, bw_t_ge_z, bw_t_ge_i, bw_t_gt_z, bw_t_gt_i, bw_t_le_z, bw_t_le_i, bw_t_null, bw_t_nonnull, bw_t_switch, bw_t_ireturn0, bw_t_ireturn1, bw_t_areturn, bw_t_return, bw_t_athrow, bw_t_try, List.lookup_cons, List.lookup_nil, bi_st, List.filter_cons, List.filter_nil, List.take_succ_cons, List.take_zero, List.take_nil, List.drop_succ_cons, List.drop_zero, List.reverse_cons, List.reverse_nil, List.nil_append, List.cons_append, Option.toList_some, Option.toList_none, List.length_cons, List.length_nil, bi_loc, List.zipIdx_cons, List.zipIdx_nil, List.map_cons, List.map_nil, List.getD_cons_zero, List.getD_cons_succ, Nat.zero_add, Bool.not_true, Bool.not_false, Bool.false_eq_true, if_true, if_false, ite_true, ite_false, ↓reduceIte, true_and, and_true, Bool.not_eq_true, beq_self_eq_true, Nat.reduceBEq, Nat.reduceEqDiff, Nat.reduceAdd, Nat.reduceLeDiff, Nat.reduceLT, Nat.reduceSub, Nat.reduceMul, Int32.reduceOfInt, Int32.reduceOfNat, Int32.reduceToNatClampNeg, Int32.reduceLT, Int32.reduceLE, Int32.reduceAdd, Int32.reduceSub, Int32.reduceMul, Int32.reduceDiv, Int32.reduceToInt, Int.reduceLT, Int.reduceSub, Int.reduceToNat, not_false_eq_true, ne_eq, or_true, true_or, or_false, false_or, and_false, false_and, not_true_eq_false, reduceCtorEq, and_self, or_self, eq_self, bh_k_sfi, bh_k_sfr, bh_k_sai, bh_k_sar, bh_k_new, bh_fi_sfi, bh_fi_sfr, bh_fi_sai, bh_fi_sar, bh_fi_new, bh_fr_sfi, bh_fr_sfr, bh_fr_sai, bh_fr_sar, bh_fr_new, bh_ai_sfi, bh_ai_sfr, bh_ai_sai, bh_ai_sar, bh_ai_new, bh_ar_sfi, bh_ar_sfr, bh_ar_sai, bh_ar_sar, bh_ar_new, bh_nx_sfi, bh_nx_sfr, bh_nx_sai, bh_nx_sar, bh_nx_new, bh_nc_sfi, bh_nc_sfr, bh_nc_sai, bh_nc_sar, bh_nc_new, bh_ns_sfi, bh_ns_sfr, bh_ns_sai, bh_ns_sar, bh_ns_new, bh_k_new2, bh_fi_new2, bh_fr_new2, bh_ai_new2, bh_ar_new2, bh_nx_new2, bh_nc_new2, bh_ns_new2, Nat.lt_irrefl, Nat.le_refl, bq_le0, bq_neg, bq_nat, bq_lt, bq_le, bq_eq, bn_one, bn_dec, R.L.k11 hs hN, R.L.s14 hs hN, R.L.k64 hs hN, f7, e1, a64, q2, q3, hv2, bl_i1])
      (refine bw_step rfl ?_; simp +decide only [bw_gi_s, bw_ga_s, bw_go_s, bw_w_i, bw_w_a, bw_w_l, bw_sum_n, bw_sum_c, bw_xs_n, bw_iconst, bw_bipush, bw_sipush, bw_ldc, bw_ldc_w, bw_anull, bw_iload0, bw_aload0, bw_istore0, bw_astore0, bw_iload1, bw_aload1, bw_istore1, bw_astore1, bw_iload2, bw_aload2, bw_istore2, bw_astore2, bw_iload3, bw_aload3, bw_istore3, bw_astore3, bw_iload, bw_aload, bw_istore, bw_astore, bw_iinc, bw_iadd, bw_isub, bw_imul, bw_iand, bw_ixor, bw_idiv, bw_irem, bw_i2l, bw_lcmp, bw_dupi, bw_dupa, bw_dup2ia, bw_dup2ii, bw_getf0, bw_getf2, bw_getf1, bw_putf0, bw_putf2, bw_putf1, bw_iaload, bw_baload, bw_laload, bw_aaload, bw_iastore, bw_bastore, bw_lastore, bw_aastore, bw_alen, bw_newa_int, bw_newa_boolean, bw_newa_long, bw_anewa, bw_multi, bw_new, bw_static, bw_virt, bw_obj, bw_t_nop, bw_t_goto, bw_t_eq_z, bw_t_eq_i, bw_t_ne_z, bw_t_ne_i, bw_t_lt_z, bw_t_lt_i, bw_t_ge_z, bw_t_ge_i, bw_t_gt_z, bw_t_gt_i, bw_t_le_z, bw_t_le_i, bw_t_null, bw_t_nonnull, bw_t_switch, bw_t_ireturn0, bw_t_ireturn1, bw_t_areturn, bw_t_return, bw_t_athrow, bw_t_try, List.lookup_cons, List.lookup_nil, bi_st, List.filter_cons, List.filter_nil, List.take_succ_cons, List.take_zero, List.take_nil, List.drop_succ_cons, List.drop_zero, List.reverse_cons, List.reverse_nil, List.nil_append, List.cons_append, Option.toList_some, Option.toList_none, List.length_cons, List.length_nil, bi_loc, List.zipIdx_cons, List.zipIdx_nil, List.map_cons, List.map_nil, List.getD_cons_zero, List.getD_cons_succ, Nat.zero_add, Bool.not_true, Bool.not_false, Bool.false_eq_true, if_true, if_false, ite_true, ite_false, ↓reduceIte, true_and, and_true, Bool.not_eq_true, beq_self_eq_true, Nat.reduceBEq, Nat.reduceEqDiff, Nat.reduceAdd, Nat.reduceLeDiff, Nat.reduceLT, Nat.reduceSub, Nat.reduceMul, Int32.reduceOfInt, Int32.reduceOfNat, Int32.reduceToNatClampNeg, Int32.reduceLT, Int32.reduceLE, Int32.reduceAdd, Int32.reduceSub, Int32.reduceMul, Int32.reduceDiv, Int32.reduceToInt, Int.reduceLT, Int.reduceSub, Int.reduceToNat, not_false_eq_true, ne_eq, or_true, true_or, or_false, false_or, and_false, false_and, not_true_eq_false, reduceCtorEq, and_self, or_self, eq_self, bh_k_sfi, bh_k_sfr, bh_k_sai, bh_k_sar, bh_k_new, bh_fi_sfi, bh_fi_sfr, bh_fi_sai, bh_fi_sar, bh_fi_new, bh_fr_sfi, bh_fr_sfr, bh_fr_sai, bh_fr_sar, bh_fr_new, bh_ai_sfi, bh_ai_sfr, bh_ai_sai, bh_ai_sar, bh_ai_new, bh_ar_sfi, bh_ar_sfr, bh_ar_sai, bh_ar_sar, bh_ar_new, bh_nx_sfi, bh_nx_sfr, bh_nx_sai, bh_nx_sar, bh_nx_new, bh_nc_sfi, bh_nc_sfr, bh_nc_sai, bh_nc_sar, bh_nc_new, bh_ns_sfi, bh_ns_sfr, bh_ns_sai, bh_ns_sar, bh_ns_new, bh_k_new2, bh_fi_new2, bh_fr_new2, bh_ai_new2, bh_ar_new2, bh_nx_new2, bh_nc_new2, bh_ns_new2, Nat.lt_irrefl, Nat.le_refl, bq_le0, bq_neg, bq_nat, bq_lt, bq_le, bq_eq, bn_one, bn_dec, R.L.k11 hs hN, f7, e1, bl_i1])
      (refine bw_sub2 _ ?_ (r3); exact ⟨rfl, rfl, rfl, trivial⟩)
    · have m1 : m = n + 1 := by omega
      have hv : ¬ v < Int32.ofNat (l0.getD n (0, 0)).1 := fun w => c ((hcut n (by omega)).mp w)
      have hv2 : (Int32.ofNat (l0.getD n (0, 0)).1 ≤ v) = True := eq_true (Int32.not_lt.mp hv)
      have e2 : bz_sT S s (bs_ss (bz_T S s) (l0.take m)) = S := by
        rw [m1, ← hsn]
        exact bz_sT_id S s
      rw [e2]
      refine ⟨h, fun Q hq => ?_, R⟩
      (refine bw_step rfl ?_; simp +decide only [bw_gi_s, bw_ga_s, bw_go_s, bw_w_i, bw_w_a, bw_w_l, bw_sum_n, bw_sum_c, bw_xs_n, bw_iconst, bw_bipush, bw_sipush, bw_ldc, bw_ldc_w, bw_anull, bw_iload0, bw_aload0, bw_istore0, bw_astore0, bw_iload1, bw_aload1, bw_istore1, bw_astore1, bw_iload2, bw_aload2, bw_istore2, bw_astore2, bw_iload3, bw_aload3, bw_istore3, bw_astore3, bw_iload, bw_aload, bw_istore, bw_astore, bw_iinc, bw_iadd, bw_isub, bw_imul, bw_iand, bw_ixor, bw_idiv, bw_irem, bw_i2l, bw_lcmp, bw_dupi, bw_dupa, bw_dup2ia, bw_dup2ii, bw_getf0, bw_getf2, bw_getf1, bw_putf0, bw_putf2, bw_putf1, bw_iaload, bw_baload, bw_laload, bw_aaload, bw_iastore, bw_bastore, bw_lastore, bw_aastore, bw_alen, bw_newa_int, bw_newa_boolean, bw_newa_long, bw_anewa, bw_multi, bw_new, bw_static, bw_virt, bw_obj, bw_t_nop, bw_t_goto, bw_t_eq_z, bw_t_eq_i, bw_t_ne_z, bw_t_ne_i, bw_t_lt_z, bw_t_lt_i, bw_t_ge_z, bw_t_ge_i, bw_t_gt_z, bw_t_gt_i, bw_t_le_z, bw_t_le_i, bw_t_null, bw_t_nonnull, bw_t_switch, bw_t_ireturn0, bw_t_ireturn1, bw_t_areturn, bw_t_return, bw_t_athrow, bw_t_try, List.lookup_cons, List.lookup_nil, bi_st, List.filter_cons, List.filter_nil, List.take_succ_cons, List.take_zero, List.take_nil, List.drop_succ_cons, List.drop_zero, List.reverse_cons, List.reverse_nil, List.nil_append, List.cons_append, Option.toList_some, Option.toList_none, List.length_cons, List.length_nil, bi_loc, List.zipIdx_cons, List.zipIdx_nil, List.map_cons, List.map_nil, List.getD_cons_zero, List.getD_cons_succ, Nat.zero_add, Bool.not_true, Bool.not_false, Bool.false_eq_true, if_true, if_false, ite_true, ite_false, ↓reduceIte, true_and, and_true, Bool.not_eq_true, beq_self_eq_true, Nat.reduceBEq, Nat.reduceEqDiff, Nat.reduceAdd, Nat.reduceLeDiff, Nat.reduceLT, Nat.reduceSub, Nat.reduceMul, Int32.reduceOfInt, Int32.reduceOfNat, Int32.reduceToNatClampNeg, Int32.reduceLT, Int32.reduceLE, Int32.reduceAdd, Int32.reduceSub, Int32.reduceMul, Int32.reduceDiv, Int32.reduceToInt, Int.reduceLT, Int.reduceSub, Int.reduceToNat, not_false_eq_true, ne_eq, or_true, true_or, or_false, false_or, and_false, false_and, not_true_eq_false, reduceCtorEq, and_self, or_self, eq_self, bh_k_sfi, bh_k_sfr, bh_k_sai, bh_k_sar, bh_k_new, bh_fi_sfi, bh_fi_sfr, bh_fi_sai, bh_fi_sar, bh_fi_new, bh_fr_sfi, bh_fr_sfr, bh_fr_sai, bh_fr_sar, bh_fr_new, bh_ai_sfi, bh_ai_sfr, bh_ai_sai, bh_ai_sar, bh_ai_new, bh_ar_sfi, bh_ar_sfr, bh_ar_sai, bh_ar_sar, bh_ar_new, bh_nx_sfi, bh_nx_sfr, bh_nx_sai, bh_nx_sar, bh_nx_new, bh_nc_sfi, bh_nc_sfr, bh_nc_sai, bh_nc_sar, bh_nc_new, bh_ns_sfi, bh_ns_sfr, bh_ns_sai, bh_ns_sar, bh_ns_new, bh_k_new2, bh_fi_new2, bh_fr_new2, bh_ai_new2, bh_ar_new2, bh_nx_new2, bh_nc_new2, bh_ns_new2, Nat.lt_irrefl, Nat.le_refl, bq_le0, bq_neg, bq_nat, bq_lt, bq_le, bq_eq, bn_one, bn_dec, R.L.k11 hs hN, f7, q1, q4])
      (refine bw_step rfl ?_; simp +decide only [bw_gi_s, bw_ga_s, bw_go_s, bw_w_i, bw_w_a, bw_w_l, bw_sum_n, bw_sum_c, bw_xs_n, bw_iconst, bw_bipush, bw_sipush, bw_ldc, bw_ldc_w, bw_anull, bw_iload0, bw_aload0, bw_istore0, bw_astore0, bw_iload1, bw_aload1, bw_istore1, bw_astore1, bw_iload2, bw_aload2, bw_istore2, bw_astore2, bw_iload3, bw_aload3, bw_istore3, bw_astore3, bw_iload, bw_aload, bw_istore, bw_astore, bw_iinc, bw_iadd, bw_isub, bw_imul, bw_iand, bw_ixor, bw_idiv, bw_irem, bw_i2l, bw_lcmp, bw_dupi, bw_dupa, bw_dup2ia, bw_dup2ii, bw_getf0, bw_getf2, bw_getf1, bw_putf0, bw_putf2, bw_putf1, bw_iaload, bw_baload, bw_laload, bw_aaload, bw_iastore, bw_bastore, bw_lastore, bw_aastore, bw_alen, bw_newa_int, bw_newa_boolean, bw_newa_long, bw_anewa, bw_multi, bw_new, bw_static, bw_virt, bw_obj, bw_t_nop, bw_t_goto, bw_t_eq_z, bw_t_eq_i, bw_t_ne_z, bw_t_ne_i, bw_t_lt_z, bw_t_lt_i, bw_t_ge_z, bw_t_ge_i, bw_t_gt_z, bw_t_gt_i, bw_t_le_z, bw_t_le_i, bw_t_null, bw_t_nonnull, bw_t_switch, bw_t_ireturn0, bw_t_ireturn1, bw_t_areturn, bw_t_return, bw_t_athrow, bw_t_try, List.lookup_cons, List.lookup_nil, bi_st, List.filter_cons, List.filter_nil, List.take_succ_cons, List.take_zero, List.take_nil, List.drop_succ_cons, List.drop_zero, List.reverse_cons, List.reverse_nil, List.nil_append, List.cons_append, Option.toList_some, Option.toList_none, List.length_cons, List.length_nil, bi_loc, List.zipIdx_cons, List.zipIdx_nil, List.map_cons, List.map_nil, List.getD_cons_zero, List.getD_cons_succ, Nat.zero_add, Bool.not_true, Bool.not_false, Bool.false_eq_true, if_true, if_false, ite_true, ite_false, ↓reduceIte, true_and, and_true, Bool.not_eq_true, beq_self_eq_true, Nat.reduceBEq, Nat.reduceEqDiff, Nat.reduceAdd, Nat.reduceLeDiff, Nat.reduceLT, Nat.reduceSub, Nat.reduceMul, Int32.reduceOfInt, Int32.reduceOfNat, Int32.reduceToNatClampNeg, Int32.reduceLT, Int32.reduceLE, Int32.reduceAdd, Int32.reduceSub, Int32.reduceMul, Int32.reduceDiv, Int32.reduceToInt, Int.reduceLT, Int.reduceSub, Int.reduceToNat, not_false_eq_true, ne_eq, or_true, true_or, or_false, false_or, and_false, false_and, not_true_eq_false, reduceCtorEq, and_self, or_self, eq_self, bh_k_sfi, bh_k_sfr, bh_k_sai, bh_k_sar, bh_k_new, bh_fi_sfi, bh_fi_sfr, bh_fi_sai, bh_fi_sar, bh_fi_new, bh_fr_sfi, bh_fr_sfr, bh_fr_sai, bh_fr_sar, bh_fr_new, bh_ai_sfi, bh_ai_sfr, bh_ai_sai, bh_ai_sar, bh_ai_new, bh_ar_sfi, bh_ar_sfr, bh_ar_sai, bh_ar_sar, bh_ar_new, bh_nx_sfi, bh_nx_sfr, bh_nx_sai, bh_nx_sar, bh_nx_new, bh_nc_sfi, bh_nc_sfr, bh_nc_sai, bh_nc_sar, bh_nc_new, bh_ns_sfi, bh_ns_sfr, bh_ns_sai, bh_ns_sar, bh_ns_new, bh_k_new2, bh_fi_new2, bh_fr_new2, bh_ai_new2, bh_ar_new2, bh_nx_new2, bh_nc_new2, bh_ns_new2, Nat.lt_irrefl, Nat.le_refl, bq_le0, bq_neg, bq_nat, bq_lt, bq_le, bq_eq, bn_one, bn_dec, R.L.k11 hs hN, R.L.s14 hs hN, R.L.k64 hs hN, f7, e1, a64, q2, q3, hv2, bl_i1])
      (refine bw_sub2 _ ?_ (hq); exact ⟨rfl, rfl, trivial⟩)
theorem ms_Q.up2 (R : ms_Q O B H e g0 x y z h S) (hx : x ≤ x') (hy : y ≤ y') : ms_Q O B H e g0 x' y' z h S := by
  obtain ⟨m, hm, r1, ⟨f1, f2, f3, f4, f5, f6, f7⟩, r3⟩ := R
  exact ⟨m, hm, r1, ⟨f1, f2, f3, f4, by omega, by omega, f7⟩, r3⟩
/-- goesBack: behind the copies -/
theorem nl_back8 (R : ms_Q O B H e g0 x y z h S) (hs : s < 8) (hN : s % 4 < bz_N S) (hl : (bs_sn (bz_T S s)).length ≤ 16) {k j : Nat} {v : Int32} (hcut : ∀ i, i < (bs_sn (bz_T S s)).length → (v < Int32.ofNat ((bs_sn (bz_T S s)).getD i (0, 0)).1 ↔ j ≤ i)) (hj : j ≤ (bs_sn (bz_T S s)).length) (I' : bz_ok (bz_sT S s (bs_sc (bs_fgt (bs_sc (bs_ss (bs_sl (bz_T S s) (k, k, k)) ((bs_sn (bz_T S s)).take j)) 6 0)) 19 0))) : ∃ h', bw_r bt_P 43 8 [(0, .inr (.inl (B 12 0))), (1, .inr (.inl (B 11 s))), (2, .inl v), (3, .inl (Int32.ofNat k))] [] h (fun o w => o = .inl none ∧ w = h') ∧ ms_Q O B H e g0 x y z h' (bx_thin (bz_sT S s (bs_sc (bs_fgt (bs_sc (bs_ss (bs_sl (bz_T S s) (k, k, k)) ((bs_sn (bz_T S s)).take j)) 6 0)) 19 0)) s) := by
  have L := R.L
  obtain ⟨m, hm, R⟩ := R
  have R4 := R.Ln hs hN (h' := bi_sfi (bi_sfi (bi_sfi (bi_sfi (bi_sfi h 11 4 (B 11 s) (Int32.ofNat k)) 11 5 (B 11 s) (Int32.ofNat k)) 11 6 (B 11 s) (Int32.ofNat k)) 11 32 (B 11 s) 0) 11 33 (B 11 s) 0) ((((md.sfi h (by simp) _).tr (md.sfi _ (by simp) _)).tr (md.sfi _ (by simp) _)).tr (md.sfi _ (by simp) _) |>.tr (md.sfi _ (by simp) _)) (a := k) (b := k) (c := k) (by simp [bh_fi_sfi]) (by simp [bh_fi_sfi]) (by simp [bh_fi_sfi]) (Or.inl (by simp [bh_fi_sfi])) (Or.inl (by simp [bh_fi_sfi]))
  obtain ⟨h5, r5, R5⟩ := nl_drops hs (v := v) hl hcut _ _ _ hj (Nat.le_refl _) R4 hN (by rw [bz_T_same, List.take_length]; rfl) (by simp [bh_fi_sfi])
  rw [bz_T_same, bz_sT_sT] at R5
  have R5 : ms_Q O B H e g0 x y z h5 (bz_sT S s (bs_ss (bs_sl (bz_T S s) (k, k, k)) ((bs_sn (bz_T S s)).take j))) := ⟨m, hm, R5⟩
  have R6 := ((((((R5.sc' hs hN (k := 6) (by decide) (by decide) 0).sc' hs hN (k := 9) (by decide) (by decide) 0).sc' hs hN (k := 10) (by decide) (by decide) 0).sc' hs hN (k := 14) (by decide) (by decide) 0).sc' hs hN (k := 11) (by decide) (by decide) 0).sc' hs hN (k := 12) (by decide) (by decide) 0).sc' hs hN (k := 19) (by decide) (by decide) 0
  have R6 : ms_Q O B H e g0 x y z (bi_sfi (bi_sfi (bi_sfi (bi_sfi (bi_sfi (bi_sfi (bi_sfi h5 11 2 (B 11 s) 0) 11 8 (B 11 s) 0) 11 9 (B 11 s) 0) 11 16 (B 11 s) 0) 11 10 (B 11 s) 0) 11 11 (B 11 s) 0) 11 21 (B 11 s) 0) (bz_sT S s (bs_sc (bs_fgt (bs_sc (bs_ss (bs_sl (bz_T S s) (k, k, k)) ((bs_sn (bz_T S s)).take j)) 6 0)) 19 0)) := R6
  obtain ⟨h7, e7, R7⟩ := n_thins R6 I' hs hN (v := bz_G S 1) rfl
  refine ⟨h7, ?_, R7⟩
  have f2 := R5.f2
  have f2 : bi_fi h5 12 2 (B 12 0) = bz_G S 1 := f2
  have L5 := R5.L
  have r6 : bw_r bt_P 43 12 [(0, .inr (.inl (B 12 0))), (1, .inr (.inl (B 11 s)))] [] h5 (fun o w => o = .inl none ∧ w = h7) := by
    (refine bw_step rfl ?_; simp +decide only [bw_gi_s, bw_ga_s, bw_go_s, bw_w_i, bw_w_a, bw_w_l, bw_sum_n, bw_sum_c, bw_xs_n, bw_iconst, bw_bipush, bw_sipush, bw_ldc, bw_ldc_w, bw_anull, bw_iload0, bw_aload0, bw_istore0, bw_astore0, bw_iload1, bw_aload1, bw_istore1, bw_astore1, bw_iload2, bw_aload2, bw_istore2, bw_astore2, bw_iload3, bw_aload3, bw_istore3, bw_astore3, bw_iload, bw_aload, bw_istore, bw_astore, bw_iinc, bw_iadd, bw_isub, bw_imul, bw_iand, bw_ixor, bw_idiv, bw_irem, bw_i2l, bw_lcmp, bw_dupi, bw_dupa, bw_dup2ia, bw_dup2ii, bw_getf0, bw_getf2, bw_getf1, bw_putf0, bw_putf2, bw_putf1, bw_iaload, bw_baload, bw_laload, bw_aaload, bw_iastore, bw_bastore, bw_lastore, bw_aastore, bw_alen, bw_newa_int, bw_newa_boolean, bw_newa_long, bw_anewa, bw_multi, bw_new, bw_static, bw_virt, bw_obj, bw_t_nop, bw_t_goto, bw_t_eq_z, bw_t_eq_i, bw_t_ne_z, bw_t_ne_i, bw_t_lt_z, bw_t_lt_i, bw_t_ge_z, bw_t_ge_i, bw_t_gt_z, bw_t_gt_i, bw_t_le_z, bw_t_le_i, bw_t_null, bw_t_nonnull, bw_t_switch, bw_t_ireturn0, bw_t_ireturn1, bw_t_areturn, bw_t_return, bw_t_athrow, bw_t_try, List.lookup_cons, List.lookup_nil, bi_st, List.filter_cons, List.filter_nil, List.take_succ_cons, List.take_zero, List.take_nil, List.drop_succ_cons, List.drop_zero, List.reverse_cons, List.reverse_nil, List.nil_append, List.cons_append, Option.toList_some, Option.toList_none, List.length_cons, List.length_nil, bi_loc, List.zipIdx_cons, List.zipIdx_nil, List.map_cons, List.map_nil, List.getD_cons_zero, List.getD_cons_succ, Nat.zero_add, Bool.not_true, Bool.not_false, Bool.false_eq_true, if_true, if_false, ite_true, ite_false, ↓reduceIte, true_and, and_true, Bool.not_eq_true, beq_self_eq_true, Nat.reduceBEq, Nat.reduceEqDiff, Nat.reduceAdd, Nat.reduceLeDiff, Nat.reduceLT, Nat.reduceSub, Nat.reduceMul, Int32.reduceOfInt, Int32.reduceOfNat, Int32.reduceToNatClampNeg, Int32.reduceLT, Int32.reduceLE, Int32.reduceAdd, Int32.reduceSub, Int32.reduceMul, Int32.reduceDiv, Int32.reduceToInt, Int.reduceLT, Int.reduceSub, Int.reduceToNat, not_false_eq_true, ne_eq, or_true, true_or, or_false, false_or, and_false, false_and, not_true_eq_false, reduceCtorEq, and_self, or_self, eq_self, bh_k_sfi, bh_k_sfr, bh_k_sai, bh_k_sar, bh_k_new, bh_fi_sfi, bh_fi_sfr, bh_fi_sai, bh_fi_sar, bh_fi_new, bh_fr_sfi, bh_fr_sfr, bh_fr_sai, bh_fr_sar, bh_fr_new, bh_ai_sfi, bh_ai_sfr, bh_ai_sai, bh_ai_sar, bh_ai_new, bh_ar_sfi, bh_ar_sfr, bh_ar_sai, bh_ar_sar, bh_ar_new, bh_nx_sfi, bh_nx_sfr, bh_nx_sai, bh_nx_sar, bh_nx_new, bh_nc_sfi, bh_nc_sfr, bh_nc_sai, bh_nc_sar, bh_nc_new, bh_ns_sfi, bh_ns_sfr, bh_ns_sai, bh_ns_sar, bh_ns_new, bh_k_new2, bh_fi_new2, bh_fr_new2, bh_ai_new2, bh_ar_new2, bh_nx_new2, bh_nc_new2, bh_ns_new2, Nat.lt_irrefl, Nat.le_refl, bq_le0, bq_neg, bq_nat, bq_lt, bq_le, bq_eq, bn_one, bn_dec, L5.k12, L5.k11 hs hN, f2, e7, bl_i0])
  have r7 := r5 _ r6
  (refine bw_step rfl ?_; simp +decide only [bw_gi_s, bw_ga_s, bw_go_s, bw_w_i, bw_w_a, bw_w_l, bw_sum_n, bw_sum_c, bw_xs_n, bw_iconst, bw_bipush, bw_sipush, bw_ldc, bw_ldc_w, bw_anull, bw_iload0, bw_aload0, bw_istore0, bw_astore0, bw_iload1, bw_aload1, bw_istore1, bw_astore1, bw_iload2, bw_aload2, bw_istore2, bw_astore2, bw_iload3, bw_aload3, bw_istore3, bw_astore3, bw_iload, bw_aload, bw_istore, bw_astore, bw_iinc, bw_iadd, bw_isub, bw_imul, bw_iand, bw_ixor, bw_idiv, bw_irem, bw_i2l, bw_lcmp, bw_dupi, bw_dupa, bw_dup2ia, bw_dup2ii, bw_getf0, bw_getf2, bw_getf1, bw_putf0, bw_putf2, bw_putf1, bw_iaload, bw_baload, bw_laload, bw_aaload, bw_iastore, bw_bastore, bw_lastore, bw_aastore, bw_alen, bw_newa_int, bw_newa_boolean, bw_newa_long, bw_anewa, bw_multi, bw_new, bw_static, bw_virt, bw_obj, bw_t_nop, bw_t_goto, bw_t_eq_z, bw_t_eq_i, bw_t_ne_z, bw_t_ne_i, bw_t_lt_z, bw_t_lt_i, bw_t_ge_z, bw_t_ge_i, bw_t_gt_z, bw_t_gt_i, bw_t_le_z, bw_t_le_i, bw_t_null, bw_t_nonnull, bw_t_switch, bw_t_ireturn0, bw_t_ireturn1, bw_t_areturn, bw_t_return, bw_t_athrow, bw_t_try, List.lookup_cons, List.lookup_nil, bi_st, List.filter_cons, List.filter_nil, List.take_succ_cons, List.take_zero, List.take_nil, List.drop_succ_cons, List.drop_zero, List.reverse_cons, List.reverse_nil, List.nil_append, List.cons_append, Option.toList_some, Option.toList_none, List.length_cons, List.length_nil, bi_loc, List.zipIdx_cons, List.zipIdx_nil, List.map_cons, List.map_nil, List.getD_cons_zero, List.getD_cons_succ, Nat.zero_add, Bool.not_true, Bool.not_false, Bool.false_eq_true, if_true, if_false, ite_true, ite_false, ↓reduceIte, true_and, and_true, Bool.not_eq_true, beq_self_eq_true, Nat.reduceBEq, Nat.reduceEqDiff, Nat.reduceAdd, Nat.reduceLeDiff, Nat.reduceLT, Nat.reduceSub, Nat.reduceMul, Int32.reduceOfInt, Int32.reduceOfNat, Int32.reduceToNatClampNeg, Int32.reduceLT, Int32.reduceLE, Int32.reduceAdd, Int32.reduceSub, Int32.reduceMul, Int32.reduceDiv, Int32.reduceToInt, Int.reduceLT, Int.reduceSub, Int.reduceToNat, not_false_eq_true, ne_eq, or_true, true_or, or_false, false_or, and_false, false_and, not_true_eq_false, reduceCtorEq, and_self, or_self, eq_self, bh_k_sfi, bh_k_sfr, bh_k_sai, bh_k_sar, bh_k_new, bh_fi_sfi, bh_fi_sfr, bh_fi_sai, bh_fi_sar, bh_fi_new, bh_fr_sfi, bh_fr_sfr, bh_fr_sai, bh_fr_sar, bh_fr_new, bh_ai_sfi, bh_ai_sfr, bh_ai_sai, bh_ai_sar, bh_ai_new, bh_ar_sfi, bh_ar_sfr, bh_ar_sai, bh_ar_sar, bh_ar_new, bh_nx_sfi, bh_nx_sfr, bh_nx_sai, bh_nx_sar, bh_nx_new, bh_nc_sfi, bh_nc_sfr, bh_nc_sai, bh_nc_sar, bh_nc_new, bh_ns_sfi, bh_ns_sfr, bh_ns_sai, bh_ns_sar, bh_ns_new, bh_k_new2, bh_fi_new2, bh_fr_new2, bh_ai_new2, bh_ar_new2, bh_nx_new2, bh_nc_new2, bh_ns_new2, Nat.lt_irrefl, Nat.le_refl, bq_le0, bq_neg, bq_nat, bq_lt, bq_le, bq_eq, bn_one, bn_dec, L.k12, L.k11 hs hN, bl_i0])
  (refine bw_sub2 _ ?_ (r7); exact ⟨rfl, rfl, rfl, trivial⟩)
/-- goesBack -/
theorem n_goesBack (R : ms_Q O B H e g0 x y z h S) (I : bz_ok S) (hw : bz_wd S) (hgp : bz_gp S) (hz : z + 1 < 2147483648) (hs : s < 8) (hN : s % 4 < bz_N S) (h0 : 0 < (bz_D S (s % 4)).2) {v : Int32} (hv : v = 0 ∨ ba_fd v (bs_sn (bz_T S s)) 0 ≠ -1) (hv0 : v = 0 → ba_lo v (bs_sn (bz_T S s)) = 0) (hcut : ∀ i, i < (bs_sn (bz_T S s)).length → (v < Int32.ofNat ((bs_sn (bz_T S s)).getD i (0, 0)).1 ↔ (ba_tk v (bs_sn (bz_T S s))).length ≤ i)) (hyy : y ≤ y') (hy : bz_I S (s / 4) 3 ≠ 0 → y + 2 * (ba_sp (bz_W S) (ba_l (bz_W S) (bs_now (bz_T S s)) - ba_l (bz_W S) (ba_lo v (bs_sn (bz_T S s)))) (bs_now (bz_T S s))).length ≤ y') : ∃ B' h', (∀ c i, c ≠ 67 → c ≠ 68 → B' c i = B c i) ∧ (∀ K : Option bi_V → bi_H → Prop, bw_C bt_P 43 [.inr (.inl (B 12 0)), .inr (.inl (B 11 s)), .inl v] h K ↔ K none h') ∧ ms_Q O B' H e g0 (x + 2) y' (z + 1) h' (if bz_I S (s / 4) 3 = 0 then bx_act S (s / 4) else bx_thin (bz_sT (bx_act S (s / 4)) s (bs_back (bz_W S) (bz_T S s) v)) s) := by
  have hs4 : s / 4 < 2 := by omega
  have hW := I.W
  have o := I.o hs
  obtain ⟨h1, e1, R1⟩ := n_act R hs4
  have s1 := R.s1 hs hN
  have L := R.L
  by_cases c5 : bz_I S (s / 4) 3 = 0
  · rw [if_pos c5] at e1
    rw [if_pos c5]
    refine ⟨B, h1, fun _ _ _ _ => rfl, fun K => ?_, (R1.up (Nat.le_succ z)).up2 (by omega) (by omega)⟩
    refine bw_C_iff ?_ K
    (refine bw_step rfl ?_; simp +decide only [bw_gi_s, bw_ga_s, bw_go_s, bw_w_i, bw_w_a, bw_w_l, bw_sum_n, bw_sum_c, bw_xs_n, bw_iconst, bw_bipush, bw_sipush, bw_ldc, bw_ldc_w, bw_anull, bw_iload0, bw_aload0, bw_istore0, bw_astore0, bw_iload1, bw_aload1, bw_istore1, bw_astore1, bw_iload2, bw_aload2, bw_istore2, bw_astore2, bw_iload3, bw_aload3, bw_istore3, bw_astore3, bw_iload, bw_aload, bw_istore, bw_astore, bw_iinc, bw_iadd, bw_isub, bw_imul, bw_iand, bw_ixor, bw_idiv, bw_irem, bw_i2l, bw_lcmp, bw_dupi, bw_dupa, bw_dup2ia, bw_dup2ii, bw_getf0, bw_getf2, bw_getf1, bw_putf0, bw_putf2, bw_putf1, bw_iaload, bw_baload, bw_laload, bw_aaload, bw_iastore, bw_bastore, bw_lastore, bw_aastore, bw_alen, bw_newa_int, bw_newa_boolean, bw_newa_long, bw_anewa, bw_multi, bw_new, bw_static, bw_virt, bw_obj, bw_t_nop, bw_t_goto, bw_t_eq_z, bw_t_eq_i, bw_t_ne_z, bw_t_ne_i, bw_t_lt_z, bw_t_lt_i, bw_t_ge_z, bw_t_ge_i, bw_t_gt_z, bw_t_gt_i, bw_t_le_z, bw_t_le_i, bw_t_null, bw_t_nonnull, bw_t_switch, bw_t_ireturn0, bw_t_ireturn1, bw_t_areturn, bw_t_return, bw_t_athrow, bw_t_try, List.lookup_cons, List.lookup_nil, bi_st, List.filter_cons, List.filter_nil, List.take_succ_cons, List.take_zero, List.take_nil, List.drop_succ_cons, List.drop_zero, List.reverse_cons, List.reverse_nil, List.nil_append, List.cons_append, Option.toList_some, Option.toList_none, List.length_cons, List.length_nil, bi_loc, List.zipIdx_cons, List.zipIdx_nil, List.map_cons, List.map_nil, List.getD_cons_zero, List.getD_cons_succ, Nat.zero_add, Bool.not_true, Bool.not_false, Bool.false_eq_true, if_true, if_false, ite_true, ite_false, ↓reduceIte, true_and, and_true, Bool.not_eq_true, beq_self_eq_true, Nat.reduceBEq, Nat.reduceEqDiff, Nat.reduceAdd, Nat.reduceLeDiff, Nat.reduceLT, Nat.reduceSub, Nat.reduceMul, Int32.reduceOfInt, Int32.reduceOfNat, Int32.reduceToNatClampNeg, Int32.reduceLT, Int32.reduceLE, Int32.reduceAdd, Int32.reduceSub, Int32.reduceMul, Int32.reduceDiv, Int32.reduceToInt, Int.reduceLT, Int.reduceSub, Int.reduceToNat, not_false_eq_true, ne_eq, or_true, true_or, or_false, false_or, and_false, false_and, not_true_eq_false, reduceCtorEq, and_self, or_self, eq_self, bh_k_sfi, bh_k_sfr, bh_k_sai, bh_k_sar, bh_k_new, bh_fi_sfi, bh_fi_sfr, bh_fi_sai, bh_fi_sar, bh_fi_new, bh_fr_sfi, bh_fr_sfr, bh_fr_sai, bh_fr_sar, bh_fr_new, bh_ai_sfi, bh_ai_sfr, bh_ai_sai, bh_ai_sar, bh_ai_new, bh_ar_sfi, bh_ar_sfr, bh_ar_sai, bh_ar_sar, bh_ar_new, bh_nx_sfi, bh_nx_sfr, bh_nx_sai, bh_nx_sar, bh_nx_new, bh_nc_sfi, bh_nc_sfr, bh_nc_sai, bh_nc_sar, bh_nc_new, bh_ns_sfi, bh_ns_sfr, bh_ns_sai, bh_ns_sar, bh_ns_new, bh_k_new2, bh_fi_new2, bh_fr_new2, bh_ai_new2, bh_ar_new2, bh_nx_new2, bh_nc_new2, bh_ns_new2, Nat.lt_irrefl, Nat.le_refl, bq_le0, bq_neg, bq_nat, bq_lt, bq_le, bq_eq, bn_one, bn_dec, L.k12, L.k11 hs hN, s1, e1])
    (refine bw_step rfl ?_; simp +decide only [bw_gi_s, bw_ga_s, bw_go_s, bw_w_i, bw_w_a, bw_w_l, bw_sum_n, bw_sum_c, bw_xs_n, bw_iconst, bw_bipush, bw_sipush, bw_ldc, bw_ldc_w, bw_anull, bw_iload0, bw_aload0, bw_istore0, bw_astore0, bw_iload1, bw_aload1, bw_istore1, bw_astore1, bw_iload2, bw_aload2, bw_istore2, bw_astore2, bw_iload3, bw_aload3, bw_istore3, bw_astore3, bw_iload, bw_aload, bw_istore, bw_astore, bw_iinc, bw_iadd, bw_isub, bw_imul, bw_iand, bw_ixor, bw_idiv, bw_irem, bw_i2l, bw_lcmp, bw_dupi, bw_dupa, bw_dup2ia, bw_dup2ii, bw_getf0, bw_getf2, bw_getf1, bw_putf0, bw_putf2, bw_putf1, bw_iaload, bw_baload, bw_laload, bw_aaload, bw_iastore, bw_bastore, bw_lastore, bw_aastore, bw_alen, bw_newa_int, bw_newa_boolean, bw_newa_long, bw_anewa, bw_multi, bw_new, bw_static, bw_virt, bw_obj, bw_t_nop, bw_t_goto, bw_t_eq_z, bw_t_eq_i, bw_t_ne_z, bw_t_ne_i, bw_t_lt_z, bw_t_lt_i, bw_t_ge_z, bw_t_ge_i, bw_t_gt_z, bw_t_gt_i, bw_t_le_z, bw_t_le_i, bw_t_null, bw_t_nonnull, bw_t_switch, bw_t_ireturn0, bw_t_ireturn1, bw_t_areturn, bw_t_return, bw_t_athrow, bw_t_try, List.lookup_cons, List.lookup_nil, bi_st, List.filter_cons, List.filter_nil, List.take_succ_cons, List.take_zero, List.take_nil, List.drop_succ_cons, List.drop_zero, List.reverse_cons, List.reverse_nil, List.nil_append, List.cons_append, Option.toList_some, Option.toList_none, List.length_cons, List.length_nil, bi_loc, List.zipIdx_cons, List.zipIdx_nil, List.map_cons, List.map_nil, List.getD_cons_zero, List.getD_cons_succ, Nat.zero_add, Bool.not_true, Bool.not_false, Bool.false_eq_true, if_true, if_false, ite_true, ite_false, ↓reduceIte, true_and, and_true, Bool.not_eq_true, beq_self_eq_true, Nat.reduceBEq, Nat.reduceEqDiff, Nat.reduceAdd, Nat.reduceLeDiff, Nat.reduceLT, Nat.reduceSub, Nat.reduceMul, Int32.reduceOfInt, Int32.reduceOfNat, Int32.reduceToNatClampNeg, Int32.reduceLT, Int32.reduceLE, Int32.reduceAdd, Int32.reduceSub, Int32.reduceMul, Int32.reduceDiv, Int32.reduceToInt, Int.reduceLT, Int.reduceSub, Int.reduceToNat, not_false_eq_true, ne_eq, or_true, true_or, or_false, false_or, and_false, false_and, not_true_eq_false, reduceCtorEq, and_self, or_self, eq_self, bh_k_sfi, bh_k_sfr, bh_k_sai, bh_k_sar, bh_k_new, bh_fi_sfi, bh_fi_sfr, bh_fi_sai, bh_fi_sar, bh_fi_new, bh_fr_sfi, bh_fr_sfr, bh_fr_sai, bh_fr_sar, bh_fr_new, bh_ai_sfi, bh_ai_sfr, bh_ai_sai, bh_ai_sar, bh_ai_new, bh_ar_sfi, bh_ar_sfr, bh_ar_sai, bh_ar_sar, bh_ar_new, bh_nx_sfi, bh_nx_sfr, bh_nx_sai, bh_nx_sar, bh_nx_new, bh_nc_sfi, bh_nc_sfr, bh_nc_sai, bh_nc_sar, bh_nc_new, bh_ns_sfi, bh_ns_sfr, bh_ns_sai, bh_ns_sar, bh_ns_new, bh_k_new2, bh_fi_new2, bh_fr_new2, bh_ai_new2, bh_ar_new2, bh_nx_new2, bh_nc_new2, bh_ns_new2, Nat.lt_irrefl, Nat.le_refl, bq_le0, bq_neg, bq_nat, bq_lt, bq_le, bq_eq, bn_one, bn_dec])
  · rw [if_neg c5] at e1
    rw [if_neg c5]
    have hy := hy c5
    have hT1 : bz_T (bx_act S (s / 4)) = bz_T S := bx_act_T S _
    have hW1 : bz_W (bx_act S (s / 4)) = bz_W S := bx_act_W S _
    have hD1 : bz_D (bx_act S (s / 4)) = bz_D S := by
      obtain ⟨f, ef⟩ := bx_act_in S (s / 4)
      rw [ef]
      rfl
    have hN1 : s % 4 < bz_N (bx_act S (s / 4)) := by rw [bx_act_N]; exact hN
    have I1 := I.act (s / 4)
    have hw1 := hw.act (s / 4)
    obtain ⟨j, hj, etk, ej, eln⟩ := ba_tk_ln (v := v) (l := bs_sn (bz_T S s)) (by have := o.2.2; omega)
    have hlj : (ba_tk v (bs_sn (bz_T S s))).length = j := by rw [etk, List.length_take]; omega
    rw [hlj] at hcut
    have hanc : ba_anc (bz_W S) (ba_lo v (bs_sn (bz_T S s))) (bs_now (bz_T S s)) := by
      rw [← eln, ba_take_ln hj]
      split
      · exact ba_anc_0 hW o.1
      · exact ba_anc_tr (o.lk (by omega)) o.kn
    have L1 := R1.L
    have hsp := n_span R1 I1 hw1 hz (g := s % 4) (to := bs_now (bz_T S s)) (from' := ba_lo v (bs_sn (bz_T S s))) hN1 (by rw [hD1]; exact h0) (by rw [hW1]; exact o.1) (by rw [hW1]; exact hgp s hs hN) (by rw [hW1]; exact hanc)
    rw [hW1] at hsp
    have hbk : bs_back (bz_W S) (bz_T S s) v = bs_sc (bs_fgt (bs_sc (bs_ss (bs_sl (bs_sx (bz_T S s) (ba_sp (bz_W S) (ba_l (bz_W S) (bs_now (bz_T S s)) - ba_l (bz_W S) (ba_lo v (bs_sn (bz_T S s)))) (bs_now (bz_T S s)))) (ba_lo v (bs_sn (bz_T S s)), ba_lo v (bs_sn (bz_T S s)), ba_lo v (bs_sn (bz_T S s)))) ((bs_sn (bz_T S s)).take j)) 6 0)) 19 0 := by
      unfold bs_back
      rw [etk]
      generalize ba_sp (bz_W S) (ba_l (bz_W S) (bs_now (bz_T S s)) - ba_l (bz_W S) (ba_lo v (bs_sn (bz_T S s)))) (bs_now (bz_T S s)) = l0
      rfl
    have hlen : (ba_sp (bz_W S) (ba_l (bz_W S) (bs_now (bz_T S s)) - ba_l (bz_W S) (ba_lo v (bs_sn (bz_T S s)))) (bs_now (bz_T S s))).length ≤ 32768 := ba_sp_le _ _ _
    obtain ⟨h2, e2, R2, m26, m28, mA⟩ := hsp
    have emw : ∀ k, mb_w (bx_act S (s / 4)) k = mb_w S k := fun k => by
      unfold mb_w
      rw [hW1, hD1]
    rw [hW1] at m28 mA
    have o6 : bs_ok (bz_W S) (bs_back (bz_W S) (bz_T S s) v) := by
      have h1 := o.tk hW hj
      rw [eln, ← etk] at h1
      exact h1.of rfl rfl
    have I6 : bz_ok (bz_sT (bx_act S (s / 4)) s (bs_back (bz_W S) (bz_T S s) v)) := I1.sT (by rw [hW1]; exact o6) (by rw [hT1]; rfl)
    rw [hbk] at I6 ⊢
    generalize ba_sp (bz_W S) (ba_l (bz_W S) (bs_now (bz_T S s)) - ba_l (bz_W S) (ba_lo v (bs_sn (bz_T S s)))) (bs_now (bz_T S s)) = l at *
    have L2 := R2.L
    have lt : ∀ {c i}, mb_in (bz_N (bx_act S (s / 4))) c i → B c i < bi_nx h2 := fun hi => (L2.1 _ _ hi).2.1
    have lt11 := lt (mi2 (c := 11) (i := s) hs hN1)
    have lt12 := lt (mi0 (c := 12) (by decide) rfl)
    have lt129 := lt (mi0 (c := 129) (by decide) rfl)
    have lt130 := lt (mi0 (c := 130) (by decide) rfl)
    have n11 : (B 11 s = bi_nx h2) = False := eq_false (by omega)
    have n12 : (B 12 0 = bi_nx h2) = False := eq_false (by omega)
    have n11' : (B 11 s = bi_nx h2 + 1) = False := eq_false (by omega)
    have n12' : (B 12 0 = bi_nx h2 + 1) = False := eq_false (by omega)
    have nn : (bi_nx h2 = bi_nx h2 + 1) = False := eq_false (by omega)
    have n129 : (B 129 0 = bi_nx h2) = False := eq_false (by omega)
    have n129' : (B 129 0 = bi_nx h2 + 1) = False := eq_false (by omega)
    have n130 : (B 130 0 = bi_nx h2) = False := eq_false (by omega)
    have n130' : (B 130 0 = bi_nx h2 + 1) = False := eq_false (by omega)
    have cp := nl_copy (B := B) (s := s) (a := bi_nx h2) (b := bi_nx h2 + 1) (n := l.length) (hb := bi_sfr (bi_new (bi_sfr (bi_new h2 (1, l.length) l.length) 11 29 (B 11 s) (bi_nx h2)) (1, l.length) l.length) 11 30 (B 11 s) (bi_nx h2 + 1)) (by simp only [bh_k_sfr, bh_k_new, bh_nx_sfr, bh_nx_new, n11, n11', if_false]; exact L2.k11 hs hN1) (by simp only [bh_k_sfr, bh_k_new, bh_nx_sfr, bh_nx_new, n12, n12', if_false]; exact L2.k12) (by simp [bh_fr_sfr, bh_fr_new, bh_nx_sfr, bh_nx_new, n11']) (by simp [bh_fr_sfr]) (by simp [bh_fr_sfr, bh_fr_new, bh_nx_sfr, bh_nx_new, n12, n12']; exact L2.r29) (by simp [bh_fr_sfr, bh_fr_new, bh_nx_sfr, bh_nx_new, n12, n12']; exact L2.r30) (by simp only [bh_k_sfr, bh_k_new, bh_nx_sfr, bh_nx_new, n129, n129', if_false]; exact L2.k129) (by simp only [bh_k_sfr, bh_k_new, bh_nx_sfr, bh_nx_new, n130, n130', if_false]; exact L2.k130) (by simp [bh_k_sfr, bh_k_new, bh_nx_sfr, bh_nx_new]) (by simp [bh_k_sfr, bh_k_new, bh_nx_sfr, bh_nx_new]) (by simp only [bh_fi_sfr, bh_fi_new, bh_nx_sfr, bh_nx_new, n12, n12', if_false]; exact m28) hlen (by omega) ⟨by omega, by omega, by omega, by omega⟩ v (Int32.ofNat (ba_lo v (bs_sn (bz_T S s)))) l.length 0 _ (by omega) (md.rf _) (fun j hj => absurd hj (Nat.not_lt_zero j))
    obtain ⟨h3, r3, D3, a3⟩ := cp
    have hai : ∀ a j, a < bi_nx h2 → bi_ai h3 a j = bi_ai h2 a j := fun a j ha => by
      rw [D3.2.2 a j (fun q hq w => by
        simp at hq
        rcases hq with rfl | rfl
        · rw [show mu_B B s (bi_nx h2) (bi_nx h2 + 1) 67 s = bi_nx h2 from if_pos ⟨rfl, rfl⟩] at w
          omega
        · rw [show mu_B B s (bi_nx h2) (bi_nx h2 + 1) 68 s = bi_nx h2 + 1 from (if_neg (fun z => absurd z.1 (by decide))).trans (if_pos ⟨rfl, rfl⟩)] at w
          omega)]
      simp only [bh_ai_sfr, bh_ai_new, bh_nx_sfr, bh_nx_new]
      rw [if_neg (by omega), if_neg (by omega)]
    have a129 : ∀ j, bi_ai (bi_sfr (bi_new (bi_sfr (bi_new h2 (1, l.length) l.length) 11 29 (B 11 s) (bi_nx h2)) (1, l.length) l.length) 11 30 (B 11 s) (bi_nx h2 + 1)) (B 129 0) j = bi_ai h2 (B 129 0) j := fun j => by
      simp only [bh_ai_sfr, bh_ai_new, bh_nx_sfr, bh_nx_new, n129, n129', if_false]
    have a130 : ∀ j, bi_ai (bi_sfr (bi_new (bi_sfr (bi_new h2 (1, l.length) l.length) 11 29 (B 11 s) (bi_nx h2)) (1, l.length) l.length) 11 30 (B 11 s) (bi_nx h2 + 1)) (B 130 0) j = bi_ai h2 (B 130 0) j := fun j => by
      simp only [bh_ai_sfr, bh_ai_new, bh_nx_sfr, bh_nx_new, n130, n130', if_false]
    have R3 : ms_Q O (mu_B B s (bi_nx h2) (bi_nx h2 + 1)) H e g0 (x + 2) y' (z + 1) h3 (bz_sT (bx_act S (s / 4)) s (bs_sx (bz_T S s) l)) := by
      obtain ⟨m, hm, R2⟩ := R2
      have fr := R2.fr
      have R3 := R2.lost (x' := x + 2) (y' := y') (h' := h3) (by show ba_ok (bz_W (bx_act S (s / 4))); rw [hW1]; exact hW) hs hN1 (l := l) (by rw [D3.1.2.1]; rfl) (by rw [D3.1.2.2.1]; have := fr.2.2.2.2.1; show bi_nc h2 + 1 + 1 ≤ _; omega) (by rw [D3.1.2.2.2.1]; have := fr.2.2.2.2.2.1; show bi_ns h2 + l.length + l.length ≤ _; omega) (fun a ha => by rw [D3.1.1]; simp only [bh_k_sfr, bh_k_new, bh_nx_sfr, bh_nx_new]; rw [if_neg (by omega), if_neg (by omega)]) (fun c k a ha => by rw [D3.2.1 c k a (fun q hq => by cases hq)]; simp only [bh_fi_sfr, bh_fi_new, bh_nx_sfr, bh_nx_new]; rw [if_neg (by omega), if_neg (by omega)]) (fun c k a ha hn => by rw [D3.1.2.2.2.2.1]; simp only [bh_fr_sfr, bh_fr_new, bh_nx_sfr, bh_nx_new]; rw [if_neg (fun w => hn ⟨w.1, Or.inr w.2.1, w.2.2⟩), if_neg (by omega), if_neg (fun w => hn ⟨w.1, Or.inl w.2.1, w.2.2⟩), if_neg (by omega)]) hai (fun a j ha => by rw [D3.1.2.2.2.2.2]; simp only [bh_ar_sfr, bh_ar_new, bh_nx_sfr, bh_nx_new]; rw [if_neg (by omega), if_neg (by omega)]) (by rw [D3.1.1]; simp [bh_k_sfr, bh_k_new, bh_nx_sfr, bh_nx_new]) (by rw [D3.1.1]; simp [bh_k_sfr, bh_k_new, bh_nx_sfr, bh_nx_new]) (by rw [D3.1.2.2.2.2.1]; simp [bh_fr_sfr, bh_fr_new, bh_nx_sfr, bh_nx_new, n11']) (by rw [D3.1.2.2.2.2.1]; simp [bh_fr_sfr]) (fun i hi => by rw [(a3 i hi).1, (a3 i hi).2, a129, a130]; have := mA i hi; show _ = Int32.ofNat (mb_w (bx_act S (s / 4)) _) ∧ _ = ba_v (bz_W (bx_act S (s / 4))) _; rw [hW1]; exact this)
      have eT : bz_T (bz_sm (bx_act S (s / 4)) m) s = bz_T S s := congrFun hT1 s
      rw [eT] at R3
      exact ⟨m, hm, R3⟩
    have h8 := nl_back8 R3 hs hN1 (by rw [bz_T_same]; have := o.2.2; show (bs_sn (bz_T S s)).length ≤ 16; omega) (k := ba_lo v (bs_sn (bz_T S s))) (j := j) (v := v) (by rw [bz_T_same]; exact hcut) (by rw [bz_T_same]; exact hj) (by rw [bz_T_same, bz_sT_sT]; exact I6)
    rw [bz_T_same, bz_sT_sT] at h8
    obtain ⟨h4, r4, R4⟩ := h8
    refine ⟨_, h4, fun c i n1 n2 => ?_, fun K => ?_, R4⟩
    · unfold mu_B
      rw [if_neg (fun w => n1 w.1), if_neg (fun w => n2 w.1)]
    have r4 : bw_r bt_P 43 8 [(0, .inr (.inl (B 12 0))), (1, .inr (.inl (B 11 s))), (2, .inl v), (3, .inl (Int32.ofNat (ba_lo v (bs_sn (bz_T S s)))))] [] h3 (fun o w => o = .inl none ∧ w = h4) := r4
    have r6 := r3 _ r4
    rw [show Int32.ofNat 0 = 0 from rfl] at r6
    have s0 := R1.s0 hs hN1
    have s4 := R1.s4 hs hN1
    rw [hT1] at s4
    have q1 : l.length < 60001 := by omega
    have q2 : l.length ≤ 1000000 := by omega
    have r5 : bw_r bt_P 43 5 [(0, .inr (.inl (B 12 0))), (1, .inr (.inl (B 11 s))), (2, .inl v)] [.inl (Int32.ofNat (ba_lo v (bs_sn (bz_T S s))))] h1 (fun o w => o = .inl none ∧ w = h4) := by
      (refine bw_step rfl ?_; simp +decide only [bw_gi_s, bw_ga_s, bw_go_s, bw_w_i, bw_w_a, bw_w_l, bw_sum_n, bw_sum_c, bw_xs_n, bw_iconst, bw_bipush, bw_sipush, bw_ldc, bw_ldc_w, bw_anull, bw_iload0, bw_aload0, bw_istore0, bw_astore0, bw_iload1, bw_aload1, bw_istore1, bw_astore1, bw_iload2, bw_aload2, bw_istore2, bw_astore2, bw_iload3, bw_aload3, bw_istore3, bw_astore3, bw_iload, bw_aload, bw_istore, bw_astore, bw_iinc, bw_iadd, bw_isub, bw_imul, bw_iand, bw_ixor, bw_idiv, bw_irem, bw_i2l, bw_lcmp, bw_dupi, bw_dupa, bw_dup2ia, bw_dup2ii, bw_getf0, bw_getf2, bw_getf1, bw_putf0, bw_putf2, bw_putf1, bw_iaload, bw_baload, bw_laload, bw_aaload, bw_iastore, bw_bastore, bw_lastore, bw_aastore, bw_alen, bw_newa_int, bw_newa_boolean, bw_newa_long, bw_anewa, bw_multi, bw_new, bw_static, bw_virt, bw_obj, bw_t_nop, bw_t_goto, bw_t_eq_z, bw_t_eq_i, bw_t_ne_z, bw_t_ne_i, bw_t_lt_z, bw_t_lt_i, bw_t_ge_z, bw_t_ge_i, bw_t_gt_z, bw_t_gt_i, bw_t_le_z, bw_t_le_i, bw_t_null, bw_t_nonnull, bw_t_switch, bw_t_ireturn0, bw_t_ireturn1, bw_t_areturn, bw_t_return, bw_t_athrow, bw_t_try, List.lookup_cons, List.lookup_nil, bi_st, List.filter_cons, List.filter_nil, List.take_succ_cons, List.take_zero, List.take_nil, List.drop_succ_cons, List.drop_zero, List.reverse_cons, List.reverse_nil, List.nil_append, List.cons_append, Option.toList_some, Option.toList_none, List.length_cons, List.length_nil, bi_loc, List.zipIdx_cons, List.zipIdx_nil, List.map_cons, List.map_nil, List.getD_cons_zero, List.getD_cons_succ, Nat.zero_add, Bool.not_true, Bool.not_false, Bool.false_eq_true, if_true, if_false, ite_true, ite_false, ↓reduceIte, true_and, and_true, Bool.not_eq_true, beq_self_eq_true, Nat.reduceBEq, Nat.reduceEqDiff, Nat.reduceAdd, Nat.reduceLeDiff, Nat.reduceLT, Nat.reduceSub, Nat.reduceMul, Int32.reduceOfInt, Int32.reduceOfNat, Int32.reduceToNatClampNeg, Int32.reduceLT, Int32.reduceLE, Int32.reduceAdd, Int32.reduceSub, Int32.reduceMul, Int32.reduceDiv, Int32.reduceToInt, Int.reduceLT, Int.reduceSub, Int.reduceToNat, not_false_eq_true, ne_eq, or_true, true_or, or_false, false_or, and_false, false_and, not_true_eq_false, reduceCtorEq, and_self, or_self, eq_self, bh_k_sfi, bh_k_sfr, bh_k_sai, bh_k_sar, bh_k_new, bh_fi_sfi, bh_fi_sfr, bh_fi_sai, bh_fi_sar, bh_fi_new, bh_fr_sfi, bh_fr_sfr, bh_fr_sai, bh_fr_sar, bh_fr_new, bh_ai_sfi, bh_ai_sfr, bh_ai_sai, bh_ai_sar, bh_ai_new, bh_ar_sfi, bh_ar_sfr, bh_ar_sai, bh_ar_sar, bh_ar_new, bh_nx_sfi, bh_nx_sfr, bh_nx_sai, bh_nx_sar, bh_nx_new, bh_nc_sfi, bh_nc_sfr, bh_nc_sai, bh_nc_sar, bh_nc_new, bh_ns_sfi, bh_ns_sfr, bh_ns_sai, bh_ns_sar, bh_ns_new, bh_k_new2, bh_fi_new2, bh_fr_new2, bh_ai_new2, bh_ar_new2, bh_nx_new2, bh_nc_new2, bh_ns_new2, Nat.lt_irrefl, Nat.le_refl, bq_le0, bq_neg, bq_nat, bq_lt, bq_le, bq_eq, bn_one, bn_dec, L1.k12, L1.k11 hs hN1, s0, s4, e2, L2.k12, L2.k11 hs hN1, m28, q1, q2, n11, n12, n11', n12', bl_i0])
      (refine bw_sub2 _ ?_ (r6); exact ⟨rfl, rfl, rfl, rfl, rfl, trivial⟩)
    refine bw_C_iff ?_ K
    by_cases c6 : v = 0
    · have el := hv0 c6
      rw [el] at r5
      rw [show Int32.ofNat 0 = 0 from rfl] at r5
      (refine bw_step rfl ?_; simp +decide only [bw_gi_s, bw_ga_s, bw_go_s, bw_w_i, bw_w_a, bw_w_l, bw_sum_n, bw_sum_c, bw_xs_n, bw_iconst, bw_bipush, bw_sipush, bw_ldc, bw_ldc_w, bw_anull, bw_iload0, bw_aload0, bw_istore0, bw_astore0, bw_iload1, bw_aload1, bw_istore1, bw_astore1, bw_iload2, bw_aload2, bw_istore2, bw_astore2, bw_iload3, bw_aload3, bw_istore3, bw_astore3, bw_iload, bw_aload, bw_istore, bw_astore, bw_iinc, bw_iadd, bw_isub, bw_imul, bw_iand, bw_ixor, bw_idiv, bw_irem, bw_i2l, bw_lcmp, bw_dupi, bw_dupa, bw_dup2ia, bw_dup2ii, bw_getf0, bw_getf2, bw_getf1, bw_putf0, bw_putf2, bw_putf1, bw_iaload, bw_baload, bw_laload, bw_aaload, bw_iastore, bw_bastore, bw_lastore, bw_aastore, bw_alen, bw_newa_int, bw_newa_boolean, bw_newa_long, bw_anewa, bw_multi, bw_new, bw_static, bw_virt, bw_obj, bw_t_nop, bw_t_goto, bw_t_eq_z, bw_t_eq_i, bw_t_ne_z, bw_t_ne_i, bw_t_lt_z, bw_t_lt_i, bw_t_ge_z, bw_t_ge_i, bw_t_gt_z, bw_t_gt_i, bw_t_le_z, bw_t_le_i, bw_t_null, bw_t_nonnull, bw_t_switch, bw_t_ireturn0, bw_t_ireturn1, bw_t_areturn, bw_t_return, bw_t_athrow, bw_t_try, List.lookup_cons, List.lookup_nil, bi_st, List.filter_cons, List.filter_nil, List.take_succ_cons, List.take_zero, List.take_nil, List.drop_succ_cons, List.drop_zero, List.reverse_cons, List.reverse_nil, List.nil_append, List.cons_append, Option.toList_some, Option.toList_none, List.length_cons, List.length_nil, bi_loc, List.zipIdx_cons, List.zipIdx_nil, List.map_cons, List.map_nil, List.getD_cons_zero, List.getD_cons_succ, Nat.zero_add, Bool.not_true, Bool.not_false, Bool.false_eq_true, if_true, if_false, ite_true, ite_false, ↓reduceIte, true_and, and_true, Bool.not_eq_true, beq_self_eq_true, Nat.reduceBEq, Nat.reduceEqDiff, Nat.reduceAdd, Nat.reduceLeDiff, Nat.reduceLT, Nat.reduceSub, Nat.reduceMul, Int32.reduceOfInt, Int32.reduceOfNat, Int32.reduceToNatClampNeg, Int32.reduceLT, Int32.reduceLE, Int32.reduceAdd, Int32.reduceSub, Int32.reduceMul, Int32.reduceDiv, Int32.reduceToInt, Int.reduceLT, Int.reduceSub, Int.reduceToNat, not_false_eq_true, ne_eq, or_true, true_or, or_false, false_or, and_false, false_and, not_true_eq_false, reduceCtorEq, and_self, or_self, eq_self, bh_k_sfi, bh_k_sfr, bh_k_sai, bh_k_sar, bh_k_new, bh_fi_sfi, bh_fi_sfr, bh_fi_sai, bh_fi_sar, bh_fi_new, bh_fr_sfi, bh_fr_sfr, bh_fr_sai, bh_fr_sar, bh_fr_new, bh_ai_sfi, bh_ai_sfr, bh_ai_sai, bh_ai_sar, bh_ai_new, bh_ar_sfi, bh_ar_sfr, bh_ar_sai, bh_ar_sar, bh_ar_new, bh_nx_sfi, bh_nx_sfr, bh_nx_sai, bh_nx_sar, bh_nx_new, bh_nc_sfi, bh_nc_sfr, bh_nc_sai, bh_nc_sar, bh_nc_new, bh_ns_sfi, bh_ns_sfr, bh_ns_sai, bh_ns_sar, bh_ns_new, bh_k_new2, bh_fi_new2, bh_fr_new2, bh_ai_new2, bh_ar_new2, bh_nx_new2, bh_nc_new2, bh_ns_new2, Nat.lt_irrefl, Nat.le_refl, bq_le0, bq_neg, bq_nat, bq_lt, bq_le, bq_eq, bn_one, bn_dec, L.k12, L.k11 hs hN, s1, e1])
      (refine bw_step rfl ?_; simp +decide only [bw_gi_s, bw_ga_s, bw_go_s, bw_w_i, bw_w_a, bw_w_l, bw_sum_n, bw_sum_c, bw_xs_n, bw_iconst, bw_bipush, bw_sipush, bw_ldc, bw_ldc_w, bw_anull, bw_iload0, bw_aload0, bw_istore0, bw_astore0, bw_iload1, bw_aload1, bw_istore1, bw_astore1, bw_iload2, bw_aload2, bw_istore2, bw_astore2, bw_iload3, bw_aload3, bw_istore3, bw_astore3, bw_iload, bw_aload, bw_istore, bw_astore, bw_iinc, bw_iadd, bw_isub, bw_imul, bw_iand, bw_ixor, bw_idiv, bw_irem, bw_i2l, bw_lcmp, bw_dupi, bw_dupa, bw_dup2ia, bw_dup2ii, bw_getf0, bw_getf2, bw_getf1, bw_putf0, bw_putf2, bw_putf1, bw_iaload, bw_baload, bw_laload, bw_aaload, bw_iastore, bw_bastore, bw_lastore, bw_aastore, bw_alen, bw_newa_int, bw_newa_boolean, bw_newa_long, bw_anewa, bw_multi, bw_new, bw_static, bw_virt, bw_obj, bw_t_nop, bw_t_goto, bw_t_eq_z, bw_t_eq_i, bw_t_ne_z, bw_t_ne_i, bw_t_lt_z, bw_t_lt_i, bw_t_ge_z, bw_t_ge_i, bw_t_gt_z, bw_t_gt_i, bw_t_le_z, bw_t_le_i, bw_t_null, bw_t_nonnull, bw_t_switch, bw_t_ireturn0, bw_t_ireturn1, bw_t_areturn, bw_t_return, bw_t_athrow, bw_t_try, List.lookup_cons, List.lookup_nil, bi_st, List.filter_cons, List.filter_nil, List.take_succ_cons, List.take_zero, List.take_nil, List.drop_succ_cons, List.drop_zero, List.reverse_cons, List.reverse_nil, List.nil_append, List.cons_append, Option.toList_some, Option.toList_none, List.length_cons, List.length_nil, bi_loc, List.zipIdx_cons, List.zipIdx_nil, List.map_cons, List.map_nil, List.getD_cons_zero, List.getD_cons_succ, Nat.zero_add, Bool.not_true, Bool.not_false, Bool.false_eq_true, if_true, if_false, ite_true, ite_false, ↓reduceIte, true_and, and_true, Bool.not_eq_true, beq_self_eq_true, Nat.reduceBEq, Nat.reduceEqDiff, Nat.reduceAdd, Nat.reduceLeDiff, Nat.reduceLT, Nat.reduceSub, Nat.reduceMul, Int32.reduceOfInt, Int32.reduceOfNat, Int32.reduceToNatClampNeg, Int32.reduceLT, Int32.reduceLE, Int32.reduceAdd, Int32.reduceSub, Int32.reduceMul, Int32.reduceDiv, Int32.reduceToInt, Int.reduceLT, Int.reduceSub, Int.reduceToNat, not_false_eq_true, ne_eq, or_true, true_or, or_false, false_or, and_false, false_and, not_true_eq_false, reduceCtorEq, and_self, or_self, eq_self, bh_k_sfi, bh_k_sfr, bh_k_sai, bh_k_sar, bh_k_new, bh_fi_sfi, bh_fi_sfr, bh_fi_sai, bh_fi_sar, bh_fi_new, bh_fr_sfi, bh_fr_sfr, bh_fr_sai, bh_fr_sar, bh_fr_new, bh_ai_sfi, bh_ai_sfr, bh_ai_sai, bh_ai_sar, bh_ai_new, bh_ar_sfi, bh_ar_sfr, bh_ar_sai, bh_ar_sar, bh_ar_new, bh_nx_sfi, bh_nx_sfr, bh_nx_sai, bh_nx_sar, bh_nx_new, bh_nc_sfi, bh_nc_sfr, bh_nc_sai, bh_nc_sar, bh_nc_new, bh_ns_sfi, bh_ns_sfr, bh_ns_sai, bh_ns_sar, bh_ns_new, bh_k_new2, bh_fi_new2, bh_fr_new2, bh_ai_new2, bh_ar_new2, bh_nx_new2, bh_nc_new2, bh_ns_new2, Nat.lt_irrefl, Nat.le_refl, bq_le0, bq_neg, bq_nat, bq_lt, bq_le, bq_eq, bn_one, bn_dec, c6])
      (refine bw_step rfl ?_; simp +decide only [bw_gi_s, bw_ga_s, bw_go_s, bw_w_i, bw_w_a, bw_w_l, bw_sum_n, bw_sum_c, bw_xs_n, bw_iconst, bw_bipush, bw_sipush, bw_ldc, bw_ldc_w, bw_anull, bw_iload0, bw_aload0, bw_istore0, bw_astore0, bw_iload1, bw_aload1, bw_istore1, bw_astore1, bw_iload2, bw_aload2, bw_istore2, bw_astore2, bw_iload3, bw_aload3, bw_istore3, bw_astore3, bw_iload, bw_aload, bw_istore, bw_astore, bw_iinc, bw_iadd, bw_isub, bw_imul, bw_iand, bw_ixor, bw_idiv, bw_irem, bw_i2l, bw_lcmp, bw_dupi, bw_dupa, bw_dup2ia, bw_dup2ii, bw_getf0, bw_getf2, bw_getf1, bw_putf0, bw_putf2, bw_putf1, bw_iaload, bw_baload, bw_laload, bw_aaload, bw_iastore, bw_bastore, bw_lastore, bw_aastore, bw_alen, bw_newa_int, bw_newa_boolean, bw_newa_long, bw_anewa, bw_multi, bw_new, bw_static, bw_virt, bw_obj, bw_t_nop, bw_t_goto, bw_t_eq_z, bw_t_eq_i, bw_t_ne_z, bw_t_ne_i, bw_t_lt_z, bw_t_lt_i, bw_t_ge_z, bw_t_ge_i, bw_t_gt_z, bw_t_gt_i, bw_t_le_z, bw_t_le_i, bw_t_null, bw_t_nonnull, bw_t_switch, bw_t_ireturn0, bw_t_ireturn1, bw_t_areturn, bw_t_return, bw_t_athrow, bw_t_try, List.lookup_cons, List.lookup_nil, bi_st, List.filter_cons, List.filter_nil, List.take_succ_cons, List.take_zero, List.take_nil, List.drop_succ_cons, List.drop_zero, List.reverse_cons, List.reverse_nil, List.nil_append, List.cons_append, Option.toList_some, Option.toList_none, List.length_cons, List.length_nil, bi_loc, List.zipIdx_cons, List.zipIdx_nil, List.map_cons, List.map_nil, List.getD_cons_zero, List.getD_cons_succ, Nat.zero_add, Bool.not_true, Bool.not_false, Bool.false_eq_true, if_true, if_false, ite_true, ite_false, ↓reduceIte, true_and, and_true, Bool.not_eq_true, beq_self_eq_true, Nat.reduceBEq, Nat.reduceEqDiff, Nat.reduceAdd, Nat.reduceLeDiff, Nat.reduceLT, Nat.reduceSub, Nat.reduceMul, Int32.reduceOfInt, Int32.reduceOfNat, Int32.reduceToNatClampNeg, Int32.reduceLT, Int32.reduceLE, Int32.reduceAdd, Int32.reduceSub, Int32.reduceMul, Int32.reduceDiv, Int32.reduceToInt, Int.reduceLT, Int.reduceSub, Int.reduceToNat, not_false_eq_true, ne_eq, or_true, true_or, or_false, false_or, and_false, false_and, not_true_eq_false, reduceCtorEq, and_self, or_self, eq_self, bh_k_sfi, bh_k_sfr, bh_k_sai, bh_k_sar, bh_k_new, bh_fi_sfi, bh_fi_sfr, bh_fi_sai, bh_fi_sar, bh_fi_new, bh_fr_sfi, bh_fr_sfr, bh_fr_sai, bh_fr_sar, bh_fr_new, bh_ai_sfi, bh_ai_sfr, bh_ai_sai, bh_ai_sar, bh_ai_new, bh_ar_sfi, bh_ar_sfr, bh_ar_sai, bh_ar_sar, bh_ar_new, bh_nx_sfi, bh_nx_sfr, bh_nx_sai, bh_nx_sar, bh_nx_new, bh_nc_sfi, bh_nc_sfr, bh_nc_sai, bh_nc_sar, bh_nc_new, bh_ns_sfi, bh_ns_sfr, bh_ns_sai, bh_ns_sar, bh_ns_new, bh_k_new2, bh_fi_new2, bh_fr_new2, bh_ai_new2, bh_ar_new2, bh_nx_new2, bh_nc_new2, bh_ns_new2, Nat.lt_irrefl, Nat.le_refl, bq_le0, bq_neg, bq_nat, bq_lt, bq_le, bq_eq, bn_one, bn_dec, bl_i0])
      subst c6
      (refine bw_sub2 _ ?_ (r5); exact ⟨rfl, rfl, rfl, trivial⟩)
    · have hfd := hv.resolve_left c6
      rcases ba_fd_spec v (bs_sn (bz_T S s)) 0 with ⟨w, -⟩ | ⟨i, hi, w1, -, -, w2⟩
      · exact absurd w hfd
      · have fd := fun K => n_find R1 I1 hs hN1 v K
        rw [hT1, w1, Nat.zero_add] at fd
        have a65 := R1.a65 hs hN1 (i := i) (by rw [hT1]; exact hi)
        rw [hT1, ← w2] at a65
        have q3 : i < 60001 := by have := o.2.2; omega
        have q4 : i < 40 := by have := o.2.2; omega
        have c6' : (v = 0) = False := eq_false c6
        (refine bw_step rfl ?_; simp +decide only [bw_gi_s, bw_ga_s, bw_go_s, bw_w_i, bw_w_a, bw_w_l, bw_sum_n, bw_sum_c, bw_xs_n, bw_iconst, bw_bipush, bw_sipush, bw_ldc, bw_ldc_w, bw_anull, bw_iload0, bw_aload0, bw_istore0, bw_astore0, bw_iload1, bw_aload1, bw_istore1, bw_astore1, bw_iload2, bw_aload2, bw_istore2, bw_astore2, bw_iload3, bw_aload3, bw_istore3, bw_astore3, bw_iload, bw_aload, bw_istore, bw_astore, bw_iinc, bw_iadd, bw_isub, bw_imul, bw_iand, bw_ixor, bw_idiv, bw_irem, bw_i2l, bw_lcmp, bw_dupi, bw_dupa, bw_dup2ia, bw_dup2ii, bw_getf0, bw_getf2, bw_getf1, bw_putf0, bw_putf2, bw_putf1, bw_iaload, bw_baload, bw_laload, bw_aaload, bw_iastore, bw_bastore, bw_lastore, bw_aastore, bw_alen, bw_newa_int, bw_newa_boolean, bw_newa_long, bw_anewa, bw_multi, bw_new, bw_static, bw_virt, bw_obj, bw_t_nop, bw_t_goto, bw_t_eq_z, bw_t_eq_i, bw_t_ne_z, bw_t_ne_i, bw_t_lt_z, bw_t_lt_i, bw_t_ge_z, bw_t_ge_i, bw_t_gt_z, bw_t_gt_i, bw_t_le_z, bw_t_le_i, bw_t_null, bw_t_nonnull, bw_t_switch, bw_t_ireturn0, bw_t_ireturn1, bw_t_areturn, bw_t_return, bw_t_athrow, bw_t_try, List.lookup_cons, List.lookup_nil, bi_st, List.filter_cons, List.filter_nil, List.take_succ_cons, List.take_zero, List.take_nil, List.drop_succ_cons, List.drop_zero, List.reverse_cons, List.reverse_nil, List.nil_append, List.cons_append, Option.toList_some, Option.toList_none, List.length_cons, List.length_nil, bi_loc, List.zipIdx_cons, List.zipIdx_nil, List.map_cons, List.map_nil, List.getD_cons_zero, List.getD_cons_succ, Nat.zero_add, Bool.not_true, Bool.not_false, Bool.false_eq_true, if_true, if_false, ite_true, ite_false, ↓reduceIte, true_and, and_true, Bool.not_eq_true, beq_self_eq_true, Nat.reduceBEq, Nat.reduceEqDiff, Nat.reduceAdd, Nat.reduceLeDiff, Nat.reduceLT, Nat.reduceSub, Nat.reduceMul, Int32.reduceOfInt, Int32.reduceOfNat, Int32.reduceToNatClampNeg, Int32.reduceLT, Int32.reduceLE, Int32.reduceAdd, Int32.reduceSub, Int32.reduceMul, Int32.reduceDiv, Int32.reduceToInt, Int.reduceLT, Int.reduceSub, Int.reduceToNat, not_false_eq_true, ne_eq, or_true, true_or, or_false, false_or, and_false, false_and, not_true_eq_false, reduceCtorEq, and_self, or_self, eq_self, bh_k_sfi, bh_k_sfr, bh_k_sai, bh_k_sar, bh_k_new, bh_fi_sfi, bh_fi_sfr, bh_fi_sai, bh_fi_sar, bh_fi_new, bh_fr_sfi, bh_fr_sfr, bh_fr_sai, bh_fr_sar, bh_fr_new, bh_ai_sfi, bh_ai_sfr, bh_ai_sai, bh_ai_sar, bh_ai_new, bh_ar_sfi, bh_ar_sfr, bh_ar_sai, bh_ar_sar, bh_ar_new, bh_nx_sfi, bh_nx_sfr, bh_nx_sai, bh_nx_sar, bh_nx_new, bh_nc_sfi, bh_nc_sfr, bh_nc_sai, bh_nc_sar, bh_nc_new, bh_ns_sfi, bh_ns_sfr, bh_ns_sai, bh_ns_sar, bh_ns_new, bh_k_new2, bh_fi_new2, bh_fr_new2, bh_ai_new2, bh_ar_new2, bh_nx_new2, bh_nc_new2, bh_ns_new2, Nat.lt_irrefl, Nat.le_refl, bq_le0, bq_neg, bq_nat, bq_lt, bq_le, bq_eq, bn_one, bn_dec, L.k12, L.k11 hs hN, s1, e1])
        (refine bw_step rfl ?_; simp +decide only [bw_gi_s, bw_ga_s, bw_go_s, bw_w_i, bw_w_a, bw_w_l, bw_sum_n, bw_sum_c, bw_xs_n, bw_iconst, bw_bipush, bw_sipush, bw_ldc, bw_ldc_w, bw_anull, bw_iload0, bw_aload0, bw_istore0, bw_astore0, bw_iload1, bw_aload1, bw_istore1, bw_astore1, bw_iload2, bw_aload2, bw_istore2, bw_astore2, bw_iload3, bw_aload3, bw_istore3, bw_astore3, bw_iload, bw_aload, bw_istore, bw_astore, bw_iinc, bw_iadd, bw_isub, bw_imul, bw_iand, bw_ixor, bw_idiv, bw_irem, bw_i2l, bw_lcmp, bw_dupi, bw_dupa, bw_dup2ia, bw_dup2ii, bw_getf0, bw_getf2, bw_getf1, bw_putf0, bw_putf2, bw_putf1, bw_iaload, bw_baload, bw_laload, bw_aaload, bw_iastore, bw_bastore, bw_lastore, bw_aastore, bw_alen, bw_newa_int, bw_newa_boolean, bw_newa_long, bw_anewa, bw_multi, bw_new, bw_static, bw_virt, bw_obj, bw_t_nop, bw_t_goto, bw_t_eq_z, bw_t_eq_i, bw_t_ne_z, bw_t_ne_i, bw_t_lt_z, bw_t_lt_i, bw_t_ge_z, bw_t_ge_i, bw_t_gt_z, bw_t_gt_i, bw_t_le_z, bw_t_le_i, bw_t_null, bw_t_nonnull, bw_t_switch, bw_t_ireturn0, bw_t_ireturn1, bw_t_areturn, bw_t_return, bw_t_athrow, bw_t_try, List.lookup_cons, List.lookup_nil, bi_st, List.filter_cons, List.filter_nil, List.take_succ_cons, List.take_zero, List.take_nil, List.drop_succ_cons, List.drop_zero, List.reverse_cons, List.reverse_nil, List.nil_append, List.cons_append, Option.toList_some, Option.toList_none, List.length_cons, List.length_nil, bi_loc, List.zipIdx_cons, List.zipIdx_nil, List.map_cons, List.map_nil, List.getD_cons_zero, List.getD_cons_succ, Nat.zero_add, Bool.not_true, Bool.not_false, Bool.false_eq_true, if_true, if_false, ite_true, ite_false, ↓reduceIte, true_and, and_true, Bool.not_eq_true, beq_self_eq_true, Nat.reduceBEq, Nat.reduceEqDiff, Nat.reduceAdd, Nat.reduceLeDiff, Nat.reduceLT, Nat.reduceSub, Nat.reduceMul, Int32.reduceOfInt, Int32.reduceOfNat, Int32.reduceToNatClampNeg, Int32.reduceLT, Int32.reduceLE, Int32.reduceAdd, Int32.reduceSub, Int32.reduceMul, Int32.reduceDiv, Int32.reduceToInt, Int.reduceLT, Int.reduceSub, Int.reduceToNat, not_false_eq_true, ne_eq, or_true, true_or, or_false, false_or, and_false, false_and, not_true_eq_false, reduceCtorEq, and_self, or_self, eq_self, bh_k_sfi, bh_k_sfr, bh_k_sai, bh_k_sar, bh_k_new, bh_fi_sfi, bh_fi_sfr, bh_fi_sai, bh_fi_sar, bh_fi_new, bh_fr_sfi, bh_fr_sfr, bh_fr_sai, bh_fr_sar, bh_fr_new, bh_ai_sfi, bh_ai_sfr, bh_ai_sai, bh_ai_sar, bh_ai_new, bh_ar_sfi, bh_ar_sfr, bh_ar_sai, bh_ar_sar, bh_ar_new, bh_nx_sfi, bh_nx_sfr, bh_nx_sai, bh_nx_sar, bh_nx_new, bh_nc_sfi, bh_nc_sfr, bh_nc_sai, bh_nc_sar, bh_nc_new, bh_ns_sfi, bh_ns_sfr, bh_ns_sai, bh_ns_sar, bh_ns_new, bh_k_new2, bh_fi_new2, bh_fr_new2, bh_ai_new2, bh_ar_new2, bh_nx_new2, bh_nc_new2, bh_ns_new2, Nat.lt_irrefl, Nat.le_refl, bq_le0, bq_neg, bq_nat, bq_lt, bq_le, bq_eq, bn_one, bn_dec, c6'])
        (refine bw_step rfl ?_; simp +decide only [bw_gi_s, bw_ga_s, bw_go_s, bw_w_i, bw_w_a, bw_w_l, bw_sum_n, bw_sum_c, bw_xs_n, bw_iconst, bw_bipush, bw_sipush, bw_ldc, bw_ldc_w, bw_anull, bw_iload0, bw_aload0, bw_istore0, bw_astore0, bw_iload1, bw_aload1, bw_istore1, bw_astore1, bw_iload2, bw_aload2, bw_istore2, bw_astore2, bw_iload3, bw_aload3, bw_istore3, bw_astore3, bw_iload, bw_aload, bw_istore, bw_astore, bw_iinc, bw_iadd, bw_isub, bw_imul, bw_iand, bw_ixor, bw_idiv, bw_irem, bw_i2l, bw_lcmp, bw_dupi, bw_dupa, bw_dup2ia, bw_dup2ii, bw_getf0, bw_getf2, bw_getf1, bw_putf0, bw_putf2, bw_putf1, bw_iaload, bw_baload, bw_laload, bw_aaload, bw_iastore, bw_bastore, bw_lastore, bw_aastore, bw_alen, bw_newa_int, bw_newa_boolean, bw_newa_long, bw_anewa, bw_multi, bw_new, bw_static, bw_virt, bw_obj, bw_t_nop, bw_t_goto, bw_t_eq_z, bw_t_eq_i, bw_t_ne_z, bw_t_ne_i, bw_t_lt_z, bw_t_lt_i, bw_t_ge_z, bw_t_ge_i, bw_t_gt_z, bw_t_gt_i, bw_t_le_z, bw_t_le_i, bw_t_null, bw_t_nonnull, bw_t_switch, bw_t_ireturn0, bw_t_ireturn1, bw_t_areturn, bw_t_return, bw_t_athrow, bw_t_try, List.lookup_cons, List.lookup_nil, bi_st, List.filter_cons, List.filter_nil, List.take_succ_cons, List.take_zero, List.take_nil, List.drop_succ_cons, List.drop_zero, List.reverse_cons, List.reverse_nil, List.nil_append, List.cons_append, Option.toList_some, Option.toList_none, List.length_cons, List.length_nil, bi_loc, List.zipIdx_cons, List.zipIdx_nil, List.map_cons, List.map_nil, List.getD_cons_zero, List.getD_cons_succ, Nat.zero_add, Bool.not_true, Bool.not_false, Bool.false_eq_true, if_true, if_false, ite_true, ite_false, ↓reduceIte, true_and, and_true, Bool.not_eq_true, beq_self_eq_true, Nat.reduceBEq, Nat.reduceEqDiff, Nat.reduceAdd, Nat.reduceLeDiff, Nat.reduceLT, Nat.reduceSub, Nat.reduceMul, Int32.reduceOfInt, Int32.reduceOfNat, Int32.reduceToNatClampNeg, Int32.reduceLT, Int32.reduceLE, Int32.reduceAdd, Int32.reduceSub, Int32.reduceMul, Int32.reduceDiv, Int32.reduceToInt, Int.reduceLT, Int.reduceSub, Int.reduceToNat, not_false_eq_true, ne_eq, or_true, true_or, or_false, false_or, and_false, false_and, not_true_eq_false, reduceCtorEq, and_self, or_self, eq_self, bh_k_sfi, bh_k_sfr, bh_k_sai, bh_k_sar, bh_k_new, bh_fi_sfi, bh_fi_sfr, bh_fi_sai, bh_fi_sar, bh_fi_new, bh_fr_sfi, bh_fr_sfr, bh_fr_sai, bh_fr_sar, bh_fr_new, bh_ai_sfi, bh_ai_sfr, bh_ai_sai, bh_ai_sar, bh_ai_new, bh_ar_sfi, bh_ar_sfr, bh_ar_sai, bh_ar_sar, bh_ar_new, bh_nx_sfi, bh_nx_sfr, bh_nx_sai, bh_nx_sar, bh_nx_new, bh_nc_sfi, bh_nc_sfr, bh_nc_sai, bh_nc_sar, bh_nc_new, bh_ns_sfi, bh_ns_sfr, bh_ns_sai, bh_ns_sar, bh_ns_new, bh_k_new2, bh_fi_new2, bh_fr_new2, bh_ai_new2, bh_ar_new2, bh_nx_new2, bh_nc_new2, bh_ns_new2, Nat.lt_irrefl, Nat.le_refl, bq_le0, bq_neg, bq_nat, bq_lt, bq_le, bq_eq, bn_one, bn_dec, L1.k11 hs hN1, L1.s15 hs hN1, L1.k65 hs hN1, fd, q3, q4, a65])
        (refine bw_sub2 _ ?_ (r5); exact ⟨rfl, rfl, rfl, trivial⟩)
end MV
