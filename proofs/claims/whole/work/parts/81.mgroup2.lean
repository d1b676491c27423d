/-! the reference: group -/
/-- a store as it begins -/
def bs_ini (s : Nat) (t : ba_T) : Prop := (∀ k, 6 ≤ k → k ≤ 19 → bs_c t k = if k = 6 then (if s < 4 then 1 else 0) else if k = 7 then 1 else 0) ∧ (∀ k, k ≤ 6 → bs_g t k = 0) ∧ t.2.2 = ((0, 0, 0), [], [])
def mg_o (c : Nat) : Nat := match c with
  | 64 => 1
  | 65 => 2
  | 67 => 3
  | 68 => 4
  | 66 => 5
  | _ => 0
def mg_B (B : Nat → Nat → Nat) (n b : Nat) : Nat → Nat → Nat := fun c i => if mb_ex c = true ∧ i % 4 = n then b + 6 * (i / 4) + mg_o c else B c i
section NF
variable {O : Nat → Prop} {B B' : Nat → Nat → Nat} {H : List (Nat × ba_G)} {e : Nat} {g0 h h' : bi_H} {x y z x' y' : Nat} {S S' : ba_S} {s i : Nat}
theorem mb_ex_eq {c : Nat} : mb_ex c = true ↔ (c = 11 ∨ c = 64 ∨ c = 65 ∨ c = 66 ∨ c = 67 ∨ c = 68) := by
  constructor
  · intro w
    unfold mb_ex at w
    split at w <;> first | omega | cases w
  · rintro (rfl | rfl | rfl | rfl | rfl | rfl) <;> rfl
theorem mb_in_succ {n c i : Nat} (hi : mb_in (n + 1) c i) : mb_in n c i ∨ (mb_ex c = true ∧ i % 4 = n ∧ i < 8) := by
  obtain ⟨h1, h2⟩ := hi
  by_cases c1 : mb_ex c = true
  · have h3 := h2 c1
    by_cases c2 : i % 4 < n
    · exact Or.inl ⟨h1, fun _ => c2⟩
    · refine Or.inr ⟨c1, by omega, ?_⟩
      rcases mb_ex_eq.mp c1 with rfl | rfl | rfl | rfl | rfl | rfl <;> exact h1
  · exact Or.inl ⟨h1, fun w => absurd w c1⟩
theorem mb_in_ne {n c i : Nat} (hi : mb_in n c i) : ¬ (mb_ex c = true ∧ i % 4 = n) := fun w => by
  have := hi.2 w.1
  omega
/-- another group -/
theorem ms_R.grp {n p : Nat} (R : ms_R O B H e g0 x y h S) (hW : ba_ok (bz_W S)) (hw : bz_wd S) (hlw : bz_lw S) (hN4 : bz_N S < 4) (hini : ∀ s, s < 8 → s % 4 = bz_N S → bs_ini s (bz_T S s)) (hnx : bi_nx h' = bi_nx h + 12) (hx : bi_nc h' ≤ x') (hy : bi_ns h' ≤ y') (hk : ∀ a, a < bi_nx h → bi_k h' a = bi_k h a) (hfi : ∀ c k a, a < bi_nx h → ¬ (c = 12 ∧ k = 6) → bi_fi h' c k a = bi_fi h c k a) (hfr : ∀ c k a, a < bi_nx h → bi_fr h' c k a = bi_fr h c k a) (hai : ∀ a j, a < bi_nx h → a ≠ B 112 0 → a ≠ B 113 0 → bi_ai h' a j = bi_ai h a j) (har : ∀ a j, a < bi_nx h → a ≠ B 134 0 → bi_ar h' a j = bi_ar h a j) (a112 : ∀ j, bi_ai h' (B 112 0) j = if j = bz_N S then Int32.ofNat n else bi_ai h (B 112 0) j) (a113 : ∀ j, bi_ai h' (B 113 0) j = if j = bz_N S then Int32.ofNat p else bi_ai h (B 113 0) j) (a134 : ∀ j, bi_ar h' (B 134 0) j = if j = bz_N S then bi_nx h else if j = bz_N S + 4 then bi_nx h + 6 else bi_ar h (B 134 0) j) (f6 : bi_fi h' 12 6 (B 12 0) = Int32.ofNat (bz_N S + 1)) (hnew : ∀ i, i < 2 → (bi_k h' (bi_nx h + 6 * i) = (21, 0) ∧ bi_k h' (bi_nx h + 6 * i + 1) = (1, 40) ∧ bi_k h' (bi_nx h + 6 * i + 2) = (1, 40) ∧ bi_k h' (bi_nx h + 6 * i + 3) = (1, 0) ∧ bi_k h' (bi_nx h + 6 * i + 4) = (1, 0) ∧ bi_k h' (bi_nx h + 6 * i + 5) = (1, n * p)) ∧ (∀ f, bi_fi h' 11 f (bi_nx h + 6 * i) = if f = 2 then (if i = 0 then 1 else 0) else if f = 1 then Int32.ofNat i else if f = 0 then Int32.ofNat (bz_N S) else if f = 3 then 1 else 0) ∧ bi_fr h' 11 14 (bi_nx h + 6 * i) = bi_nx h + 6 * i + 1 ∧ bi_fr h' 11 15 (bi_nx h + 6 * i) = bi_nx h + 6 * i + 2 ∧ bi_fr h' 11 29 (bi_nx h + 6 * i) = bi_nx h + 6 * i + 3 ∧ bi_fr h' 11 30 (bi_nx h + 6 * i) = bi_nx h + 6 * i + 4 ∧ bi_fr h' 11 31 (bi_nx h + 6 * i) = bi_nx h + 6 * i + 5) (eW : bz_W S' = bz_W S) (eT : bz_T S' = bz_T S) (eD : bz_D S' = ba_u (bz_D S) (bz_N S) (n, p)) (eN : bz_N S' = bz_N S + 1) (eG : ∀ k, k ≠ 7 → bz_G S' k = bz_G S k) (eL : bz_L S' = bz_L S) (eI : bz_I S' = bz_I S) (eR : bz_R S' = bz_R S) (eF : bz_F S' = bz_F S) (em : bz_m S' = bz_m S) : ms_R O (mg_B B (bz_N S) (bi_nx h)) H e g0 x' y' h' S' := by
  have L := R.L
  have lt : ∀ {c i}, mb_in (bz_N S) c i → B c i < bi_nx h := fun hi => (L.1 _ _ hi).2.1
  have eB : ∀ {c i}, ¬ (mb_ex c = true ∧ i % 4 = bz_N S) → mg_B B (bz_N S) (bi_nx h) c i = B c i := fun hn => if_neg hn
  have eB' : ∀ {c i}, mb_ex c = true → i % 4 = bz_N S → mg_B B (bz_N S) (bi_nx h) c i = bi_nx h + 6 * (i / 4) + mg_o c := fun h1 h2 => if_pos ⟨h1, h2⟩
  have m112 : mb_in (bz_N S) 112 0 := mi0 (by decide) rfl
  have m113 : mb_in (bz_N S) 113 0 := mi0 (by decide) rfl
  have m134 : mb_in (bz_N S) 134 0 := mi0 (by decide) rfl
  have ne : ∀ {c i c' i'}, mb_in (bz_N S) c i → mb_in (bz_N S) c' i' → c ≠ c' → B c i ≠ B c' i' := fun hi hi' hn w => hn (L.2.1 _ _ _ _ hi hi' w).1
  have U : mu B (mg_B B (bz_N S) (bi_nx h)) (bz_N S) 8 h h' := fun c i hi hn => by
    refine ⟨eB (mb_in_ne hi), fun c' k hck => hfi _ _ _ (lt hi) hck, fun h1 h2 j => hai _ _ (lt hi) (ne hi m112 h1) (ne hi m113 h2), fun h1 j => har _ _ (lt hi) (ne hi m134 h1), fun _ c' k => hfr _ _ _ (lt hi)⟩
  have c12 : mg_B B (bz_N S) (bi_nx h) 12 0 = B 12 0 := eB (fun w => absurd w.1 (by decide))
  have eDg : ∀ g, g < bz_N S → bz_D S' g = bz_D S g := fun g hg => by rw [eD, ba_u_ne _ _ (by omega)]
  have hmw : ∀ k, k ≤ ba_n (bz_W S) → mb_w S' k = mb_w S k := fun k hk => by
    unfold mb_w
    rw [eW]
    by_cases c : k = 0
    · rw [c, hW.2.1.2.1]
      unfold mb_cv
      simp
    · rw [eDg _ (hw k (by omega) hk).2.2]
  have loE : ∀ s, s < 8 → s % 4 = bz_N S → bs_lo (bz_T S s) = [] := fun s hs e => by
    obtain ⟨-, -, e3⟩ := hini s hs e
    show (bz_T S s).2.2.2.2 = []
    rw [e3]
  have hkd : ∀ {c i}, mb_in (bz_N S) c i → mb_kd S' c i = mb_kd S c i := fun {c i} hi => by
    unfold mb_kd
    rw [eT]
    by_cases c1 : c = 66
    · subst c1
      show (1, (bz_D S' (i % 4)).1 * (bz_D S' (i % 4)).2) = (1, (bz_D S (i % 4)).1 * (bz_D S (i % 4)).2)
      rw [eDg _ (hi.2 rfl)]
    · split <;> first | rfl | exact absurd rfl c1
  have cf : ∀ k, k ≠ 6 → bi_fi h' 12 k (mg_B B (bz_N S) (bi_nx h) 12 0) = bi_fi h 12 k (B 12 0) := fun k hk => U.fi (mi0 (by decide) rfl) (by omega) (by omega)
  have aa : ∀ c i j, mb_in (bz_N S) c i → c ≠ 112 → c ≠ 113 → bi_ai h' (mg_B B (bz_N S) (bi_nx h) c i) j = bi_ai h (B c i) j := fun c i j hi h1 h2 => by
    rw [eB (mb_in_ne hi)]
    exact hai _ _ (lt hi) (ne hi m112 h1) (ne hi m113 h2)
  obtain ⟨r1, r2, r3, r4, r5, r6, r7, r8, r9, r10, r11⟩ := R
  refine ⟨?_, ?_, ?_, fun i hi => ?_, fun g hg => ?_, fun k hk => ?_, ?_, fun g hg => ?_, U.sp (by omega) hW eW hmw r9, fun s hs hN => ?_, U.fl (by omega) eF r11⟩
  · obtain ⟨l1, l2, l3, l4, l5, l6, l7⟩ := r1
    refine ⟨fun c i hi => ?_, fun c i c' i' hi hi' hB => ?_, fun k h1 h2 => ?_, fun g hg => ?_, fun t ht => ?_, fun t ht htN => ?_, fun i hi => ?_⟩
    · rw [eN] at hi
      rcases mb_in_succ hi with w | ⟨w1, w2, w3⟩
      · rw [eB (mb_in_ne w), hk _ (lt w), hkd w, hnx]
        obtain ⟨p1, p2, p3⟩ := l1 c i w
        exact ⟨p1, by omega, p3⟩
      · rw [eB' w1 w2, hnx]
        have hi2 : i / 4 < 2 := by omega
        obtain ⟨⟨p1, p2, p3, p4, p5, p6⟩, -⟩ := hnew (i / 4) hi2
        have hpos := lt (mi0 (n := bz_N S) (c := 12) (by decide) rfl)
        have elo := loE i w3 w2
        rcases mb_ex_eq.mp w1 with rfl | rfl | rfl | rfl | rfl | rfl
        · exact ⟨p1, by show bi_nx h + 6 * (i / 4) + 0 < _; omega, by show bi_nx h + 6 * (i / 4) + 0 ≠ 0; omega⟩
        · exact ⟨p2, by show bi_nx h + 6 * (i / 4) + 1 < _; omega, by show bi_nx h + 6 * (i / 4) + 1 ≠ 0; omega⟩
        · exact ⟨p3, by show bi_nx h + 6 * (i / 4) + 2 < _; omega, by show bi_nx h + 6 * (i / 4) + 2 ≠ 0; omega⟩
        · refine ⟨?_, by show bi_nx h + 6 * (i / 4) + 5 < _; omega, by show bi_nx h + 6 * (i / 4) + 5 ≠ 0; omega⟩
          show bi_k h' (bi_nx h + 6 * (i / 4) + 5) = (1, (bz_D S' (i % 4)).1 * (bz_D S' (i % 4)).2)
          rw [p6, eD, w2, ba_u_same]
        · refine ⟨?_, by show bi_nx h + 6 * (i / 4) + 3 < _; omega, by show bi_nx h + 6 * (i / 4) + 3 ≠ 0; omega⟩
          show bi_k h' (bi_nx h + 6 * (i / 4) + 3) = (1, (bs_lo (bz_T S' i)).length)
          rw [p4, eT, elo]
          rfl
        · refine ⟨?_, by show bi_nx h + 6 * (i / 4) + 4 < _; omega, by show bi_nx h + 6 * (i / 4) + 4 ≠ 0; omega⟩
          show bi_k h' (bi_nx h + 6 * (i / 4) + 4) = (1, (bs_lo (bz_T S' i)).length)
          rw [p5, eT, elo]
          rfl
    · rw [eN] at hi hi'
      have ob : ∀ c, mb_ex c = true → mg_o c < 6 := fun c hc => by
        rcases mb_ex_eq.mp hc with rfl | rfl | rfl | rfl | rfl | rfl <;> decide
      have oi : ∀ c c', mb_ex c = true → mb_ex c' = true → mg_o c = mg_o c' → c = c' := fun c c' hc hc' => by
        rcases mb_ex_eq.mp hc with rfl | rfl | rfl | rfl | rfl | rfl <;> rcases mb_ex_eq.mp hc' with rfl | rfl | rfl | rfl | rfl | rfl <;> decide
      rcases mb_in_succ hi with w | ⟨w1, w2, w3⟩
      · rw [eB (mb_in_ne w)] at hB
        have := lt w
        rcases mb_in_succ hi' with u | ⟨u1, u2, u3⟩
        · rw [eB (mb_in_ne u)] at hB
          exact l2 c i c' i' w u hB
        · rw [eB' u1 u2] at hB
          omega
      · rw [eB' w1 w2] at hB
        rcases mb_in_succ hi' with u | ⟨u1, u2, u3⟩
        · rw [eB (mb_in_ne u)] at hB
          have := lt u
          omega
        · rw [eB' u1 u2] at hB
          have b1 := ob c w1
          have b2 := ob c' u1
          have : i / 4 = i' / 4 := by omega
          have e2 : mg_o c = mg_o c' := by omega
          exact ⟨oi c c' w1 u1 e2, by omega⟩
    · have hn : ¬ (mb_ex (100 + k) = true ∧ 0 % 4 = bz_N S) := fun w => by
        have := mb_ex_eq.mp w.1
        omega
      rw [U.fr (c := 12) (mi0 (by decide) rfl) (by omega) (Or.inl (by decide)), eB hn]
      exact l3 k h1 h2
    · rw [U.ar (c := 131) (mi0 (by decide) rfl) (by omega) (by omega), U.ar (c := 132) (mi0 (by decide) rfl) (by omega) (by omega), eB (fun w => absurd w.1 (by decide)), eB (fun w => absurd w.1 (by decide))]
      exact l4 g hg
    · rw [eB (fun w => absurd w.1 (by decide)), a134, eN]
      have h5 := l5 t ht
      by_cases c1 : t % 4 = bz_N S
      · rw [if_pos (show t % 4 < bz_N S + 1 by omega), eB' rfl c1]
        show _ = bi_nx h + 6 * (t / 4) + 0
        by_cases c2 : t = bz_N S
        · rw [if_pos c2]
          omega
        · rw [if_neg c2, if_pos (by omega)]
          omega
      · rw [if_neg (by omega), if_neg (by omega), h5, eB (fun w => c1 w.2)]
        by_cases c2 : t % 4 < bz_N S
        · rw [if_pos c2, if_pos (by omega)]
        · rw [if_neg c2, if_neg (by omega)]
    · rw [eN] at htN
      by_cases c1 : t % 4 = bz_N S
      · obtain ⟨-, -, p1, p2, p3, p4, p5⟩ := hnew (t / 4) (by omega)
        rw [eB' (c := 11) rfl c1, eB' (c := 64) rfl c1, eB' (c := 65) rfl c1, eB' (c := 67) rfl c1, eB' (c := 68) rfl c1, eB' (c := 66) rfl c1]
        exact ⟨p1, p2, p3, p4, p5⟩
      · have hN' : t % 4 < bz_N S := by omega
        have w := lt (mi2 (c := 11) ht hN')
        rw [eB (fun w => c1 w.2), eB (fun w => c1 w.2), eB (fun w => c1 w.2), eB (fun w => c1 w.2), eB (fun w => c1 w.2), eB (fun w => c1 w.2), hfr _ _ _ w, hfr _ _ _ w, hfr _ _ _ w, hfr _ _ _ w, hfr _ _ _ w]
        exact l6 t ht hN'
    · rw [U.fr (c := 10) (mi1 hi rfl) (by omega) (Or.inl (by decide)), U.fr (c := 10) (mi1 hi rfl) (by omega) (Or.inl (by decide)), U.fr (c := 10) (mi1 hi rfl) (by omega) (Or.inl (by decide)), eB (fun w => absurd w.1 (by decide)), eB (fun w => absurd w.1 (by decide)), eB (fun w => absurd w.1 (by decide))]
      exact l7 i hi
  · obtain ⟨f1, f2, f3, f4, f5, f6', f7⟩ := r2
    refine ⟨by omega, fun a ha => (hk a (by omega)).trans (f2 a ha), fun c k a hc ha => ?_, fun a j ha hO => ?_, hx, hy, fun c i hi => ?_⟩
    · rw [hfi _ _ _ (by omega) (by omega), hfr _ _ _ (by omega)]
      exact f3 c k a hc ha
    · have nO : ∀ c, mb_in (bz_N S) c 0 → a ≠ B c 0 := fun c hi w => by
        rcases f7 c 0 hi with u | u
        · rw [← w] at u
          exact hO u
        · omega
      rw [hai _ _ (by omega) (nO 112 m112) (nO 113 m113), har _ _ (by omega) (nO 134 m134)]
      exact f4 a j ha hO
    · rw [eN] at hi
      rcases mb_in_succ hi with w | ⟨w1, w2, w3⟩
      · rw [eB (mb_in_ne w)]
        exact f7 c i w
      · rw [eB' w1 w2]
        exact Or.inr (by omega)
  · rw [c12, f6, eN, eW, eL, em, eG 0 (by decide), eG 1 (by decide), eG 2 (by decide), eG 9 (by decide), eG 8 (by decide)]
    have cf' : ∀ k, k ≠ 6 → bi_fi h' 12 k (B 12 0) = bi_fi h 12 k (B 12 0) := fun k hk => hfi _ _ _ (lt (mi0 (by decide) rfl)) (by omega)
    rw [cf' 1 (by decide), cf' 2 (by decide), cf' 3 (by decide), cf' 4 (by decide), cf' 5 (by decide), cf' 7 (by decide), cf' 8 (by decide), cf' 14 (by decide), cf' 24 (by decide)]
    exact ⟨r3.1, r3.2.1, r3.2.2.1, r3.2.2.2.1, r3.2.2.2.2.1, rfl, r3.2.2.2.2.2.2⟩
  · rw [eI, aa 109 0 _ (mi0 (by decide) rfl) (by decide) (by decide), aa 110 0 _ (mi0 (by decide) rfl) (by decide) (by decide), aa 111 0 _ (mi0 (by decide) rfl) (by decide) (by decide)]
    exact r4 i hi
  · rw [eN] at hg
    rw [eB (fun w => absurd w.1 (by decide)), eB (fun w => absurd w.1 (by decide)), a112, a113, eD]
    by_cases c1 : g = bz_N S
    · rw [if_pos c1, if_pos c1, c1, ba_u_same]
      exact ⟨rfl, rfl⟩
    · rw [if_neg c1, if_neg c1, ba_u_ne _ _ c1]
      exact r5 g (by omega)
  · rw [eW] at hk
    rw [eW, hmw k hk, aa 115 0 _ (mi0 (by decide) rfl) (by decide) (by decide), aa 116 0 _ (mi0 (by decide) rfl) (by decide) (by decide), aa 117 0 _ (mi0 (by decide) rfl) (by decide) (by decide), aa 118 0 _ (mi0 (by decide) rfl) (by decide) (by decide)]
    exact r6 k hk
  · rw [em]
    simp only [aa 119 0 _ (mi0 (by decide) rfl) (by decide) (by decide), aa 121 0 _ (mi0 (by decide) rfl) (by decide) (by decide), aa 122 0 _ (mi0 (by decide) rfl) (by decide) (by decide), aa 123 0 _ (mi0 (by decide) rfl) (by decide) (by decide)]
    exact r7
  · rw [eR, aa 133 0 _ (mi0 (by decide) rfl) (by decide) (by decide)]
    simp only [aa 61 g _ (mi1 hg rfl) (by decide) (by decide), aa 62 g _ (mi1 hg rfl) (by decide) (by decide)]
    exact r8 g hg
  · rw [eN] at hN
    rw [eT]
    by_cases c1 : s % 4 = bz_N S
    · have hi2 : s / 4 < 2 := by omega
      obtain ⟨-, pf, -⟩ := hnew (s / 4) hi2
      obtain ⟨i1, i2, i3⟩ := hini s hs c1
      have e11 : mg_B B (bz_N S) (bi_nx h) 11 s = bi_nx h + 6 * (s / 4) := eB' rfl c1
      have e1 : bs_sn (bz_T S s) = [] := by
        show (bz_T S s).2.2.2.1 = []
        rw [i3]
      have e2 := loE s hs c1
      have e3 : bs_now (bz_T S s) = 0 ∧ bs_safe (bz_T S s) = 0 ∧ bs_kept (bz_T S s) = 0 := by
        refine ⟨?_, ?_, ?_⟩
        · show (bz_T S s).2.2.1.1 = 0
          rw [i3]
        · show (bz_T S s).2.2.1.2.1 = 0
          rw [i3]
        · show (bz_T S s).2.2.1.2.2 = 0
          rw [i3]
      unfold mb_t
      rw [e11, e1, e2, e3.1, e3.2.1, e3.2.2]
      refine ⟨⟨?_, ?_⟩, fun k k1 k2 => ?_, fun k k1 k2 => ?_, ?_, ⟨?_, ?_, ?_, ?_⟩, fun i hi => absurd hi (Nat.not_lt_zero _), fun i hi => absurd hi (Nat.not_lt_zero _), Or.inl ?_, Or.inl ?_⟩
      · rw [pf, c1]
        rfl
      · rw [pf]
        rfl
      · rw [pf, i1 k k1 k2]
        have : k = 6 ∨ k = 7 ∨ k = 8 ∨ k = 9 ∨ k = 10 ∨ k = 11 ∨ k = 12 ∨ k = 13 ∨ k = 14 ∨ k = 15 ∨ k = 16 ∨ k = 17 ∨ k = 18 ∨ k = 19 := by omega
        rcases this with rfl | rfl | rfl | rfl | rfl | rfl | rfl | rfl | rfl | rfl | rfl | rfl | rfl | rfl
        · show (if s / 4 = 0 then (1 : Int32) else 0) = if s < 4 then 1 else 0
          by_cases c : s < 4
          · rw [if_pos (by omega), if_pos c]
          · rw [if_neg (by omega), if_neg c]
        all_goals rfl
      · rw [pf, i2 k k1]
        have : k = 0 ∨ k = 1 ∨ k = 3 ∨ k = 4 ∨ k = 5 ∨ k = 6 := by omega
        rcases this with rfl | rfl | rfl | rfl | rfl | rfl <;> rfl
      · rw [pf, i2 1 (by decide)]
        rfl
      · rw [pf]
        rfl
      · rw [pf]
        rfl
      · rw [pf]
        rfl
      · rw [pf]
        rfl
      · rw [pf]
        rfl
      · rw [pf]
        rfl
    · have hN' : s % 4 < bz_N S := by omega
      have T := r10 s hs hN'
      refine U.t (l := bs_lo (bz_T S s)) hs hN' eW (eDg _ hN') T (fun i hi => ?_)
      rw [aa 67 s _ (mi2 hs hN') (by decide) (by decide), aa 68 s _ (mi2 hs hN') (by decide) (by decide), eW, hmw _ (hlw s hs _ (ba_getD_mem hi))]
      exact T.2.2.2.2.2.2.1 i hi
/-- group -/
theorem n_group (R : ms_Q O B H e g0 x y z h S) (I : bz_ok S) (hw : bz_wd S) (hlw : bz_lw S) (hini : ∀ s, s < 8 → bz_N S ≤ s % 4 → bs_ini s (bz_T S s)) (n p : Int32) : ∃ B' h', B' 12 0 = B 12 0 ∧ (∀ K : Option bi_V → bi_H → Prop, bw_C bt_P 46 [.inr (.inl (B 12 0)), .inl n, .inl p] h K ↔ K (some (.inl (bx_group S n p).2)) h') ∧ ms_Q O B' H e g0 (x + 12) (y + 65766) z h' (bx_group S n p).1 := by
  have L := R.L
  have R1 := R.th 0
  have f6 := R.f6
  have hg := I.gr
  unfold bx_group
  by_cases d1 : n < 1
  · rw [if_pos (Or.inl d1)]
    refine ⟨B, _, rfl, fun K => ?_, R1.up2 (by omega) (by omega)⟩
    refine bw_C_iff ?_ K
    (repeat (refine bw_step rfl ?_; simp +decide only [bw_gi_s, bw_ga_s, bw_go_s, bw_w_i, bw_w_a, bw_w_l, bw_sum_n, bw_sum_c, bw_xs_n, bw_iconst, bw_bipush, bw_sipush, bw_ldc, bw_ldc_w, bw_anull, bw_iload0, bw_aload0, bw_istore0, bw_astore0, bw_iload1, bw_aload1, bw_istore1, bw_astore1, bw_iload2, bw_aload2, bw_istore2, bw_astore2, bw_iload3, bw_aload3, bw_istore3, bw_astore3, bw_iload, bw_aload, bw_istore, bw_astore, bw_iinc, bw_iadd, bw_isub, bw_imul, bw_iand, bw_ixor, bw_idiv, bw_irem, bw_i2l, bw_lcmp, bw_dupi, bw_dupa, bw_dup2ia, bw_dup2ii, bw_getf0, bw_getf2, bw_getf1, bw_putf0, bw_putf2, bw_putf1, bw_iaload, bw_baload, bw_laload, bw_aaload, bw_iastore, bw_bastore, bw_lastore, bw_aastore, bw_alen, bw_newa_int, bw_newa_boolean, bw_newa_long, bw_anewa, bw_multi, bw_new, bw_static, bw_virt, bw_obj, bw_t_nop, bw_t_goto, bw_t_eq_z, bw_t_eq_i, bw_t_ne_z, bw_t_ne_i, bw_t_lt_z, bw_t_lt_i, bw_t_ge_z, bw_t_ge_i, bw_t_gt_z, bw_t_gt_i, bw_t_le_z, bw_t_le_i, bw_t_null, bw_t_nonnull, bw_t_switch, bw_t_ireturn0, bw_t_ireturn1, bw_t_areturn, bw_t_return, bw_t_athrow, bw_t_try, List.lookup_cons, List.lookup_nil, bi_st, List.filter_cons, List.filter_nil, List.take_succ_cons, List.take_zero, List.take_nil, List.drop_succ_cons, List.drop_zero, List.reverse_cons, List.reverse_nil, List.nil_append, List.cons_append, Option.toList_some, Option.toList_none, List.length_cons, List.length_nil, bi_loc, List.zipIdx_cons, List.zipIdx_nil, List.map_cons, List.map_nil, List.getD_cons_zero, List.getD_cons_succ, Nat.zero_add, Bool.not_true, Bool.not_false, Bool.false_eq_true, if_true, if_false, ite_true, ite_false, ↓reduceIte, true_and, and_true, Bool.not_eq_true, beq_self_eq_true, Nat.reduceBEq, Nat.reduceEqDiff, Nat.reduceAdd, Nat.reduceLeDiff, Nat.reduceLT, Nat.reduceSub, Nat.reduceMul, Int32.reduceOfInt, Int32.reduceOfNat, Int32.reduceToNatClampNeg, Int32.reduceLT, Int32.reduceLE, Int32.reduceAdd, Int32.reduceSub, Int32.reduceMul, Int32.reduceDiv, Int32.reduceToInt, Int.reduceLT, Int.reduceSub, Int.reduceToNat, not_false_eq_true, ne_eq, or_true, true_or, or_false, false_or, and_false, false_and, not_true_eq_false, reduceCtorEq, and_self, or_self, eq_self, bh_k_sfi, bh_k_sfr, bh_k_sai, bh_k_sar, bh_k_new, bh_fi_sfi, bh_fi_sfr, bh_fi_sai, bh_fi_sar, bh_fi_new, bh_fr_sfi, bh_fr_sfr, bh_fr_sai, bh_fr_sar, bh_fr_new, bh_ai_sfi, bh_ai_sfr, bh_ai_sai, bh_ai_sar, bh_ai_new, bh_ar_sfi, bh_ar_sfr, bh_ar_sai, bh_ar_sar, bh_ar_new, bh_nx_sfi, bh_nx_sfr, bh_nx_sai, bh_nx_sar, bh_nx_new, bh_nc_sfi, bh_nc_sfr, bh_nc_sai, bh_nc_sar, bh_nc_new, bh_ns_sfi, bh_ns_sfr, bh_ns_sai, bh_ns_sar, bh_ns_new, bh_k_new2, bh_fi_new2, bh_fr_new2, bh_ai_new2, bh_ar_new2, bh_nx_new2, bh_nc_new2, bh_ns_new2, Nat.lt_irrefl, Nat.le_refl, bq_le0, bq_neg, bq_nat, bq_lt, bq_le, bq_eq, bn_one, bn_dec, L.k12, d1, bl_i0, bl_i1, bl_im2]))
  · by_cases d2 : 8 < n
    · rw [if_pos (Or.inr (Or.inl d2))]
      refine ⟨B, _, rfl, fun K => ?_, R1.up2 (by omega) (by omega)⟩
      refine bw_C_iff ?_ K
      (repeat (refine bw_step rfl ?_; simp +decide only [bw_gi_s, bw_ga_s, bw_go_s, bw_w_i, bw_w_a, bw_w_l, bw_sum_n, bw_sum_c, bw_xs_n, bw_iconst, bw_bipush, bw_sipush, bw_ldc, bw_ldc_w, bw_anull, bw_iload0, bw_aload0, bw_istore0, bw_astore0, bw_iload1, bw_aload1, bw_istore1, bw_astore1, bw_iload2, bw_aload2, bw_istore2, bw_astore2, bw_iload3, bw_aload3, bw_istore3, bw_astore3, bw_iload, bw_aload, bw_istore, bw_astore, bw_iinc, bw_iadd, bw_isub, bw_imul, bw_iand, bw_ixor, bw_idiv, bw_irem, bw_i2l, bw_lcmp, bw_dupi, bw_dupa, bw_dup2ia, bw_dup2ii, bw_getf0, bw_getf2, bw_getf1, bw_putf0, bw_putf2, bw_putf1, bw_iaload, bw_baload, bw_laload, bw_aaload, bw_iastore, bw_bastore, bw_lastore, bw_aastore, bw_alen, bw_newa_int, bw_newa_boolean, bw_newa_long, bw_anewa, bw_multi, bw_new, bw_static, bw_virt, bw_obj, bw_t_nop, bw_t_goto, bw_t_eq_z, bw_t_eq_i, bw_t_ne_z, bw_t_ne_i, bw_t_lt_z, bw_t_lt_i, bw_t_ge_z, bw_t_ge_i, bw_t_gt_z, bw_t_gt_i, bw_t_le_z, bw_t_le_i, bw_t_null, bw_t_nonnull, bw_t_switch, bw_t_ireturn0, bw_t_ireturn1, bw_t_areturn, bw_t_return, bw_t_athrow, bw_t_try, List.lookup_cons, List.lookup_nil, bi_st, List.filter_cons, List.filter_nil, List.take_succ_cons, List.take_zero, List.take_nil, List.drop_succ_cons, List.drop_zero, List.reverse_cons, List.reverse_nil, List.nil_append, List.cons_append, Option.toList_some, Option.toList_none, List.length_cons, List.length_nil, bi_loc, List.zipIdx_cons, List.zipIdx_nil, List.map_cons, List.map_nil, List.getD_cons_zero, List.getD_cons_succ, Nat.zero_add, Bool.not_true, Bool.not_false, Bool.false_eq_true, if_true, if_false, ite_true, ite_false, ↓reduceIte, true_and, and_true, Bool.not_eq_true, beq_self_eq_true, Nat.reduceBEq, Nat.reduceEqDiff, Nat.reduceAdd, Nat.reduceLeDiff, Nat.reduceLT, Nat.reduceSub, Nat.reduceMul, Int32.reduceOfInt, Int32.reduceOfNat, Int32.reduceToNatClampNeg, Int32.reduceLT, Int32.reduceLE, Int32.reduceAdd, Int32.reduceSub, Int32.reduceMul, Int32.reduceDiv, Int32.reduceToInt, Int.reduceLT, Int.reduceSub, Int.reduceToNat, not_false_eq_true, ne_eq, or_true, true_or, or_false, false_or, and_false, false_and, not_true_eq_false, reduceCtorEq, and_self, or_self, eq_self, bh_k_sfi, bh_k_sfr, bh_k_sai, bh_k_sar, bh_k_new, bh_fi_sfi, bh_fi_sfr, bh_fi_sai, bh_fi_sar, bh_fi_new, bh_fr_sfi, bh_fr_sfr, bh_fr_sai, bh_fr_sar, bh_fr_new, bh_ai_sfi, bh_ai_sfr, bh_ai_sai, bh_ai_sar, bh_ai_new, bh_ar_sfi, bh_ar_sfr, bh_ar_sai, bh_ar_sar, bh_ar_new, bh_nx_sfi, bh_nx_sfr, bh_nx_sai, bh_nx_sar, bh_nx_new, bh_nc_sfi, bh_nc_sfr, bh_nc_sai, bh_nc_sar, bh_nc_new, bh_ns_sfi, bh_ns_sfr, bh_ns_sai, bh_ns_sar, bh_ns_new, bh_k_new2, bh_fi_new2, bh_fr_new2, bh_ai_new2, bh_ar_new2, bh_nx_new2, bh_nc_new2, bh_ns_new2, Nat.lt_irrefl, Nat.le_refl, bq_le0, bq_neg, bq_nat, bq_lt, bq_le, bq_eq, bn_one, bn_dec, L.k12, d1, d2, bl_i0, bl_i1, bl_i8, bl_im2]))
    · by_cases d3 : p < 1
      · rw [if_pos (Or.inr (Or.inr (Or.inl d3)))]
        refine ⟨B, _, rfl, fun K => ?_, R1.up2 (by omega) (by omega)⟩
        refine bw_C_iff ?_ K
        (repeat (refine bw_step rfl ?_; simp +decide only [bw_gi_s, bw_ga_s, bw_go_s, bw_w_i, bw_w_a, bw_w_l, bw_sum_n, bw_sum_c, bw_xs_n, bw_iconst, bw_bipush, bw_sipush, bw_ldc, bw_ldc_w, bw_anull, bw_iload0, bw_aload0, bw_istore0, bw_astore0, bw_iload1, bw_aload1, bw_istore1, bw_astore1, bw_iload2, bw_aload2, bw_istore2, bw_astore2, bw_iload3, bw_aload3, bw_istore3, bw_astore3, bw_iload, bw_aload, bw_istore, bw_astore, bw_iinc, bw_iadd, bw_isub, bw_imul, bw_iand, bw_ixor, bw_idiv, bw_irem, bw_i2l, bw_lcmp, bw_dupi, bw_dupa, bw_dup2ia, bw_dup2ii, bw_getf0, bw_getf2, bw_getf1, bw_putf0, bw_putf2, bw_putf1, bw_iaload, bw_baload, bw_laload, bw_aaload, bw_iastore, bw_bastore, bw_lastore, bw_aastore, bw_alen, bw_newa_int, bw_newa_boolean, bw_newa_long, bw_anewa, bw_multi, bw_new, bw_static, bw_virt, bw_obj, bw_t_nop, bw_t_goto, bw_t_eq_z, bw_t_eq_i, bw_t_ne_z, bw_t_ne_i, bw_t_lt_z, bw_t_lt_i, bw_t_ge_z, bw_t_ge_i, bw_t_gt_z, bw_t_gt_i, bw_t_le_z, bw_t_le_i, bw_t_null, bw_t_nonnull, bw_t_switch, bw_t_ireturn0, bw_t_ireturn1, bw_t_areturn, bw_t_return, bw_t_athrow, bw_t_try, List.lookup_cons, List.lookup_nil, bi_st, List.filter_cons, List.filter_nil, List.take_succ_cons, List.take_zero, List.take_nil, List.drop_succ_cons, List.drop_zero, List.reverse_cons, List.reverse_nil, List.nil_append, List.cons_append, Option.toList_some, Option.toList_none, List.length_cons, List.length_nil, bi_loc, List.zipIdx_cons, List.zipIdx_nil, List.map_cons, List.map_nil, List.getD_cons_zero, List.getD_cons_succ, Nat.zero_add, Bool.not_true, Bool.not_false, Bool.false_eq_true, if_true, if_false, ite_true, ite_false, ↓reduceIte, true_and, and_true, Bool.not_eq_true, beq_self_eq_true, Nat.reduceBEq, Nat.reduceEqDiff, Nat.reduceAdd, Nat.reduceLeDiff, Nat.reduceLT, Nat.reduceSub, Nat.reduceMul, Int32.reduceOfInt, Int32.reduceOfNat, Int32.reduceToNatClampNeg, Int32.reduceLT, Int32.reduceLE, Int32.reduceAdd, Int32.reduceSub, Int32.reduceMul, Int32.reduceDiv, Int32.reduceToInt, Int.reduceLT, Int.reduceSub, Int.reduceToNat, not_false_eq_true, ne_eq, or_true, true_or, or_false, false_or, and_false, false_and, not_true_eq_false, reduceCtorEq, and_self, or_self, eq_self, bh_k_sfi, bh_k_sfr, bh_k_sai, bh_k_sar, bh_k_new, bh_fi_sfi, bh_fi_sfr, bh_fi_sai, bh_fi_sar, bh_fi_new, bh_fr_sfi, bh_fr_sfr, bh_fr_sai, bh_fr_sar, bh_fr_new, bh_ai_sfi, bh_ai_sfr, bh_ai_sai, bh_ai_sar, bh_ai_new, bh_ar_sfi, bh_ar_sfr, bh_ar_sai, bh_ar_sar, bh_ar_new, bh_nx_sfi, bh_nx_sfr, bh_nx_sai, bh_nx_sar, bh_nx_new, bh_nc_sfi, bh_nc_sfr, bh_nc_sai, bh_nc_sar, bh_nc_new, bh_ns_sfi, bh_ns_sfr, bh_ns_sai, bh_ns_sar, bh_ns_new, bh_k_new2, bh_fi_new2, bh_fr_new2, bh_ai_new2, bh_ar_new2, bh_nx_new2, bh_nc_new2, bh_ns_new2, Nat.lt_irrefl, Nat.le_refl, bq_le0, bq_neg, bq_nat, bq_lt, bq_le, bq_eq, bn_one, bn_dec, L.k12, d1, d2, d3, bl_i0, bl_i1, bl_i8, bl_im2]))
      · by_cases d4 : 4096 < p
        · rw [if_pos (Or.inr (Or.inr (Or.inr d4)))]
          have d4' : (p ≤ 4096) = False := eq_false (Int32.not_le.mpr d4)
          refine ⟨B, _, rfl, fun K => ?_, R1.up2 (by omega) (by omega)⟩
          refine bw_C_iff ?_ K
          (repeat (refine bw_step rfl ?_; simp +decide only [bw_gi_s, bw_ga_s, bw_go_s, bw_w_i, bw_w_a, bw_w_l, bw_sum_n, bw_sum_c, bw_xs_n, bw_iconst, bw_bipush, bw_sipush, bw_ldc, bw_ldc_w, bw_anull, bw_iload0, bw_aload0, bw_istore0, bw_astore0, bw_iload1, bw_aload1, bw_istore1, bw_astore1, bw_iload2, bw_aload2, bw_istore2, bw_astore2, bw_iload3, bw_aload3, bw_istore3, bw_astore3, bw_iload, bw_aload, bw_istore, bw_astore, bw_iinc, bw_iadd, bw_isub, bw_imul, bw_iand, bw_ixor, bw_idiv, bw_irem, bw_i2l, bw_lcmp, bw_dupi, bw_dupa, bw_dup2ia, bw_dup2ii, bw_getf0, bw_getf2, bw_getf1, bw_putf0, bw_putf2, bw_putf1, bw_iaload, bw_baload, bw_laload, bw_aaload, bw_iastore, bw_bastore, bw_lastore, bw_aastore, bw_alen, bw_newa_int, bw_newa_boolean, bw_newa_long, bw_anewa, bw_multi, bw_new, bw_static, bw_virt, bw_obj, bw_t_nop, bw_t_goto, bw_t_eq_z, bw_t_eq_i, bw_t_ne_z, bw_t_ne_i, bw_t_lt_z, bw_t_lt_i, bw_t_ge_z, bw_t_ge_i, bw_t_gt_z, bw_t_gt_i, bw_t_le_z, bw_t_le_i, bw_t_null, bw_t_nonnull, bw_t_switch, bw_t_ireturn0, bw_t_ireturn1, bw_t_areturn, bw_t_return, bw_t_athrow, bw_t_try, List.lookup_cons, List.lookup_nil, bi_st, List.filter_cons, List.filter_nil, List.take_succ_cons, List.take_zero, List.take_nil, List.drop_succ_cons, List.drop_zero, List.reverse_cons, List.reverse_nil, List.nil_append, List.cons_append, Option.toList_some, Option.toList_none, List.length_cons, List.length_nil, bi_loc, List.zipIdx_cons, List.zipIdx_nil, List.map_cons, List.map_nil, List.getD_cons_zero, List.getD_cons_succ, Nat.zero_add, Bool.not_true, Bool.not_false, Bool.false_eq_true, if_true, if_false, ite_true, ite_false, ↓reduceIte, true_and, and_true, Bool.not_eq_true, beq_self_eq_true, Nat.reduceBEq, Nat.reduceEqDiff, Nat.reduceAdd, Nat.reduceLeDiff, Nat.reduceLT, Nat.reduceSub, Nat.reduceMul, Int32.reduceOfInt, Int32.reduceOfNat, Int32.reduceToNatClampNeg, Int32.reduceLT, Int32.reduceLE, Int32.reduceAdd, Int32.reduceSub, Int32.reduceMul, Int32.reduceDiv, Int32.reduceToInt, Int.reduceLT, Int.reduceSub, Int.reduceToNat, not_false_eq_true, ne_eq, or_true, true_or, or_false, false_or, and_false, false_and, not_true_eq_false, reduceCtorEq, and_self, or_self, eq_self, bh_k_sfi, bh_k_sfr, bh_k_sai, bh_k_sar, bh_k_new, bh_fi_sfi, bh_fi_sfr, bh_fi_sai, bh_fi_sar, bh_fi_new, bh_fr_sfi, bh_fr_sfr, bh_fr_sai, bh_fr_sar, bh_fr_new, bh_ai_sfi, bh_ai_sfr, bh_ai_sai, bh_ai_sar, bh_ai_new, bh_ar_sfi, bh_ar_sfr, bh_ar_sai, bh_ar_sar, bh_ar_new, bh_nx_sfi, bh_nx_sfr, bh_nx_sai, bh_nx_sar, bh_nx_new, bh_nc_sfi, bh_nc_sfr, bh_nc_sai, bh_nc_sar, bh_nc_new, bh_ns_sfi, bh_ns_sfr, bh_ns_sai, bh_ns_sar, bh_ns_new, bh_k_new2, bh_fi_new2, bh_fr_new2, bh_ai_new2, bh_ar_new2, bh_nx_new2, bh_nc_new2, bh_ns_new2, Nat.lt_irrefl, Nat.le_refl, bq_le0, bq_neg, bq_nat, bq_lt, bq_le, bq_eq, bn_one, bn_dec, L.k12, d1, d2, d3, d4', bl_i0, bl_i1, bl_i8, bl_i4096, bl_im2]))
        · rw [if_neg (fun w => w.elim d1 (fun w => w.elim d2 (fun w => w.elim d3 d4)))]
          have d4' : (p ≤ 4096) = True := eq_true (Int32.not_lt.mp d4)
          by_cases c2 : bz_N S = 4
          · rw [if_pos c2]
            rw [c2] at f6
            refine ⟨B, _, rfl, fun K => ?_, R1.up2 (by omega) (by omega)⟩
            refine bw_C_iff ?_ K
            (repeat (refine bw_step rfl ?_; simp +decide only [bw_gi_s, bw_ga_s, bw_go_s, bw_w_i, bw_w_a, bw_w_l, bw_sum_n, bw_sum_c, bw_xs_n, bw_iconst, bw_bipush, bw_sipush, bw_ldc, bw_ldc_w, bw_anull, bw_iload0, bw_aload0, bw_istore0, bw_astore0, bw_iload1, bw_aload1, bw_istore1, bw_astore1, bw_iload2, bw_aload2, bw_istore2, bw_astore2, bw_iload3, bw_aload3, bw_istore3, bw_astore3, bw_iload, bw_aload, bw_istore, bw_astore, bw_iinc, bw_iadd, bw_isub, bw_imul, bw_iand, bw_ixor, bw_idiv, bw_irem, bw_i2l, bw_lcmp, bw_dupi, bw_dupa, bw_dup2ia, bw_dup2ii, bw_getf0, bw_getf2, bw_getf1, bw_putf0, bw_putf2, bw_putf1, bw_iaload, bw_baload, bw_laload, bw_aaload, bw_iastore, bw_bastore, bw_lastore, bw_aastore, bw_alen, bw_newa_int, bw_newa_boolean, bw_newa_long, bw_anewa, bw_multi, bw_new, bw_static, bw_virt, bw_obj, bw_t_nop, bw_t_goto, bw_t_eq_z, bw_t_eq_i, bw_t_ne_z, bw_t_ne_i, bw_t_lt_z, bw_t_lt_i, bw_t_ge_z, bw_t_ge_i, bw_t_gt_z, bw_t_gt_i, bw_t_le_z, bw_t_le_i, bw_t_null, bw_t_nonnull, bw_t_switch, bw_t_ireturn0, bw_t_ireturn1, bw_t_areturn, bw_t_return, bw_t_athrow, bw_t_try, List.lookup_cons, List.lookup_nil, bi_st, List.filter_cons, List.filter_nil, List.take_succ_cons, List.take_zero, List.take_nil, List.drop_succ_cons, List.drop_zero, List.reverse_cons, List.reverse_nil, List.nil_append, List.cons_append, Option.toList_some, Option.toList_none, List.length_cons, List.length_nil, bi_loc, List.zipIdx_cons, List.zipIdx_nil, List.map_cons, List.map_nil, List.getD_cons_zero, List.getD_cons_succ, Nat.zero_add, Bool.not_true, Bool.not_false, Bool.false_eq_true, if_true, if_false, ite_true, ite_false, ↓reduceIte, true_and, and_true, Bool.not_eq_true, beq_self_eq_true, Nat.reduceBEq, Nat.reduceEqDiff, Nat.reduceAdd, Nat.reduceLeDiff, Nat.reduceLT, Nat.reduceSub, Nat.reduceMul, Int32.reduceOfInt, Int32.reduceOfNat, Int32.reduceToNatClampNeg, Int32.reduceLT, Int32.reduceLE, Int32.reduceAdd, Int32.reduceSub, Int32.reduceMul, Int32.reduceDiv, Int32.reduceToInt, Int.reduceLT, Int.reduceSub, Int.reduceToNat, not_false_eq_true, ne_eq, or_true, true_or, or_false, false_or, and_false, false_and, not_true_eq_false, reduceCtorEq, and_self, or_self, eq_self, bh_k_sfi, bh_k_sfr, bh_k_sai, bh_k_sar, bh_k_new, bh_fi_sfi, bh_fi_sfr, bh_fi_sai, bh_fi_sar, bh_fi_new, bh_fr_sfi, bh_fr_sfr, bh_fr_sai, bh_fr_sar, bh_fr_new, bh_ai_sfi, bh_ai_sfr, bh_ai_sai, bh_ai_sar, bh_ai_new, bh_ar_sfi, bh_ar_sfr, bh_ar_sai, bh_ar_sar, bh_ar_new, bh_nx_sfi, bh_nx_sfr, bh_nx_sai, bh_nx_sar, bh_nx_new, bh_nc_sfi, bh_nc_sfr, bh_nc_sai, bh_nc_sar, bh_nc_new, bh_ns_sfi, bh_ns_sfr, bh_ns_sai, bh_ns_sar, bh_ns_new, bh_k_new2, bh_fi_new2, bh_fr_new2, bh_ai_new2, bh_ar_new2, bh_nx_new2, bh_nc_new2, bh_ns_new2, Nat.lt_irrefl, Nat.le_refl, bq_le0, bq_neg, bq_nat, bq_lt, bq_le, bq_eq, bn_one, bn_dec, L.k12, d1, d2, d3, d4', f6, bl_i0, bl_i1, bl_i4, bl_i8, bl_i4096, bl_im1]))
          · rw [if_neg c2]
            have hN : bz_N S < 4 := by omega
            have n0 : 0 ≤ n := Int32.le_trans (show (0 : Int32) ≤ 1 by decide) (Int32.not_lt.mp d1)
            have p0 : 0 ≤ p := Int32.le_trans (show (0 : Int32) ≤ 1 by decide) (Int32.not_lt.mp d3)
            have en := bn_of n0
            have ep := bn_of p0
            have hn8 : n.toNatClampNeg ≤ 8 := by
              have l := bn_lt_of n0 (n := 9) (by decide)
              have : n.toNatClampNeg < 9 := by
                rw [← l]
                exact Int32.lt_of_le_of_lt (Int32.not_lt.mp d2) (by decide)
              omega
            have hp8 : p.toNatClampNeg ≤ 4096 := by
              have l := bn_lt_of p0 (n := 4097) (by decide)
              have : p.toNatClampNeg < 4097 := by
                rw [← l]
                exact Int32.lt_of_le_of_lt (Int32.not_lt.mp d4) (by decide)
              omega
            generalize n.toNatClampNeg = nn at *
            generalize p.toNatClampNeg = pp at *
            subst en ep
            have hnp : nn * pp ≤ 32768 := Nat.le_trans (Nat.mul_le_mul hn8 hp8) (by decide)
            have hmul : Int32.ofNat nn * Int32.ofNat pp = Int32.ofNat (nn * pp) := bn_mul _ _
            have e4 : (Int32.ofNat (bz_N S) = 4) = False := bn_eqF (b := 4) (by omega) (by decide) (by omega)
            obtain ⟨hb, ehb⟩ : ∃ hb, hb = bi_sai (bi_sai (bi_sfi h 12 0 (B 12 0) 0) (B 112 0) (bz_N S) (Int32.ofNat nn)) (B 113 0) (bz_N S) (Int32.ofNat pp) := ⟨_, rfl⟩
            have m12 : mb_in (bz_N S) 12 0 := mi0 (by decide) rfl
            have m112 : mb_in (bz_N S) 112 0 := mi0 (by decide) rfl
            have m113 : mb_in (bz_N S) 113 0 := mi0 (by decide) rfl
            have m134 : mb_in (bz_N S) 134 0 := mi0 (by decide) rfl
            have lt : ∀ {c i}, mb_in (bz_N S) c i → B c i < bi_nx h := fun hi => (L.1 _ _ hi).2.1
            have nxb : bi_nx hb = bi_nx h := by rw [ehb, bh_nx_sai, bh_nx_sai, bh_nx_sfi]
            have ncb : bi_nc hb = bi_nc h := by rw [ehb, bh_nc_sai, bh_nc_sai, bh_nc_sfi]
            have nsb : bi_ns hb = bi_ns h := by rw [ehb, bh_ns_sai, bh_ns_sai, bh_ns_sfi]
            have kb : bi_k hb = bi_k h := by rw [ehb, bh_k_sai, bh_k_sai, bh_k_sfi]
            have frb : bi_fr hb = bi_fr h := by rw [ehb, bh_fr_sai, bh_fr_sai, bh_fr_sfi]
            have arb : bi_ar hb = bi_ar h := by rw [ehb, bh_ar_sai, bh_ar_sai, bh_ar_sfi]
            have fib : ∀ c f a, bi_fi hb c f a = bi_fi (bi_sfi h 12 0 (B 12 0) 0) c f a := fun c f a => by rw [ehb, bh_fi_sai, bh_fi_sai]
            have n23 : (B 112 0 = B 113 0) = False := L.ne m112 m113 (Or.inl (by decide))
            have aib : ∀ a j, bi_ai hb a j = if a = B 113 0 ∧ j = bz_N S then Int32.ofNat pp else if a = B 112 0 ∧ j = bz_N S then Int32.ofNat nn else bi_ai h a j := fun a j => by
              rw [ehb, bh_ai_sai, bh_ai_sai, bh_ai_sfi]
            obtain ⟨h2, eh2⟩ : ∃ h2, h2 = mg_s hb (B 134 0) (4 * 0 + bz_N S) 0 (Int32.ofNat (bz_N S)) (Int32.ofNat 0) (if (0 : Nat) = 0 then 1 else 0) (nn * pp) := ⟨_, rfl⟩
            obtain ⟨h3, eh3⟩ : ∃ h3, h3 = mg_s h2 (B 134 0) (4 * 1 + bz_N S) 1 (Int32.ofNat (bz_N S)) (Int32.ofNat 1) (if (1 : Nat) = 0 then 1 else 0) (nn * pp) := ⟨_, rfl⟩
            have N2 := mg_s_n hb (B 134 0) (4 * 0 + bz_N S) 0 (Int32.ofNat (bz_N S)) (Int32.ofNat 0) (if (0 : Nat) = 0 then 1 else 0) (nn * pp)
            have N3 := mg_s_n h2 (B 134 0) (4 * 1 + bz_N S) 1 (Int32.ofNat (bz_N S)) (Int32.ofNat 1) (if (1 : Nat) = 0 then 1 else 0) (nn * pp)
            have O2 := fun {a} => mg_s_old hb (B 134 0) (4 * 0 + bz_N S) 0 (Int32.ofNat (bz_N S)) (Int32.ofNat 0) (if (0 : Nat) = 0 then 1 else 0) (nn * pp) (a := a)
            have O3 := fun {a} => mg_s_old h2 (B 134 0) (4 * 1 + bz_N S) 1 (Int32.ofNat (bz_N S)) (Int32.ofNat 1) (if (1 : Nat) = 0 then 1 else 0) (nn * pp) (a := a)
            have K2 := mg_s_k hb (B 134 0) (4 * 0 + bz_N S) 0 (Int32.ofNat (bz_N S)) (Int32.ofNat 0) (if (0 : Nat) = 0 then 1 else 0) (nn * pp)
            have K3 := mg_s_k h2 (B 134 0) (4 * 1 + bz_N S) 1 (Int32.ofNat (bz_N S)) (Int32.ofNat 1) (if (1 : Nat) = 0 then 1 else 0) (nn * pp)
            have F2 := mg_s_f hb (B 134 0) (4 * 0 + bz_N S) 0 (Int32.ofNat (bz_N S)) (Int32.ofNat 0) (if (0 : Nat) = 0 then 1 else 0) (nn * pp)
            have F3 := mg_s_f h2 (B 134 0) (4 * 1 + bz_N S) 1 (Int32.ofNat (bz_N S)) (Int32.ofNat 1) (if (1 : Nat) = 0 then 1 else 0) (nn * pp)
            rw [← eh2, nxb] at N2 K2 F2
            rw [← eh3] at N3 K3 F3
            have nx2 : bi_nx h2 = bi_nx h + 6 := N2.1
            rw [nx2] at N3 K3 F3
            have O2' : ∀ {a}, a < bi_nx h → bi_k h2 a = bi_k h a ∧ (∀ c f, bi_fi h2 c f a = bi_fi (bi_sfi h 12 0 (B 12 0) 0) c f a) ∧ (∀ c f, bi_fr h2 c f a = bi_fr h c f a) ∧ (∀ j, bi_ai h2 a j = bi_ai hb a j) ∧ ∀ j, bi_ar h2 a j = if a = B 134 0 ∧ j = bz_N S then bi_nx h else bi_ar h a j := fun {a} ha => by
              have w := O2 (a := a) (by rw [nxb]; exact ha)
              rw [← eh2, nxb, kb, frb, arb, Nat.mul_zero, Nat.zero_add] at w
              exact ⟨w.1, fun c f => (w.2.1 c f).trans (fib c f a), w.2.2.1, w.2.2.2.1, w.2.2.2.2⟩
            have O3' : ∀ {a}, a < bi_nx h + 6 → bi_k h3 a = bi_k h2 a ∧ (∀ c f, bi_fi h3 c f a = bi_fi h2 c f a) ∧ (∀ c f, bi_fr h3 c f a = bi_fr h2 c f a) ∧ (∀ j, bi_ai h3 a j = bi_ai h2 a j) ∧ ∀ j, bi_ar h3 a j = if a = B 134 0 ∧ j = 4 + bz_N S then bi_nx h + 6 else bi_ar h2 a j := fun {a} ha => by
              have w := O3 (a := a) (by rw [nx2]; exact ha)
              rw [← eh3, nx2] at w
              exact w
            have l12 := lt m12
            have l134 := lt m134
            have l112 := lt m112
            have l113 := lt m113
            have f6b : bi_fi hb 12 6 (B 12 0) = Int32.ofNat (bz_N S) := by
              rw [fib, bh_fi_sfi, if_neg (fun w => absurd w.2.1 (by decide))]
              exact f6
            have f62 : bi_fi h2 12 6 (B 12 0) = Int32.ofNat (bz_N S) := by
              rw [(O2' l12).2.1, bh_fi_sfi, if_neg (fun w => absurd w.2.1 (by decide))]
              exact f6
            have f63 : bi_fi h3 12 6 (B 12 0) = Int32.ofNat (bz_N S) := by
              rw [(O3' (by omega)).2.1]
              exact f62
            obtain ⟨hF, ehF⟩ : ∃ hF, hF = bi_sfi h3 12 6 (B 12 0) (Int32.ofNat (bz_N S + 1)) := ⟨_, rfl⟩
            have fiF : ∀ c f a, ¬ (c = 12 ∧ f = 6) → bi_fi hF c f a = bi_fi h3 c f a := fun c f a hn => by rw [ehF, bh_fi_sfi, if_neg (fun w => hn ⟨w.1, w.2.1⟩)]
            have kF : bi_k hF = bi_k h3 := by rw [ehF, bh_k_sfi]
            have frF : bi_fr hF = bi_fr h3 := by rw [ehF, bh_fr_sfi]
            have aiF : bi_ai hF = bi_ai h3 := by rw [ehF, bh_ai_sfi]
            have arF : bi_ar hF = bi_ar h3 := by rw [ehF, bh_ar_sfi]
            have hxy := R.fr
            obtain ⟨m, hm, R1⟩ := R1
            have G := R1.grp (h' := hF) (n := nn) (p := pp) (x' := x + 12) (y' := y + 65766) (S' := bz_sm (bz_sN (bz_sD (bz_sG S 7 (Int32.ofNat (bz_N S + 1))) (bz_N S) (nn, pp)) (bz_N S + 1)) m) I.W hw hlw hN (fun s hs e => hini s hs (by have e : s % 4 = bz_N S := e; omega)) (by rw [ehF, bh_nx_sfi, N3.1, bh_nx_sfi]) (by rw [ehF, bh_nc_sfi, N3.2.1, N2.2.1, ncb]; have := hxy.2.2.2.2.1; omega) (by rw [ehF, bh_ns_sfi, N3.2.2, N2.2.2, nsb]; have := hxy.2.2.2.2.2.1; omega) (fun a ha => by
              rw [bh_nx_sfi] at ha
              rw [kF, (O3' (by omega)).1, (O2' ha).1, bh_k_sfi]) (fun c f a ha hn => by
              rw [bh_nx_sfi] at ha
              rw [fiF c f a hn, (O3' (by omega)).2.1, (O2' ha).2.1]) (fun c f a ha => by
              rw [bh_nx_sfi] at ha
              rw [frF, (O3' (by omega)).2.2.1, (O2' ha).2.2.1, bh_fr_sfi]) (fun a j ha n1 n2 => by
              rw [bh_nx_sfi] at ha
              rw [aiF, (O3' (by omega)).2.2.2.1, (O2' ha).2.2.2.1, aib, if_neg (fun w => n2 w.1), if_neg (fun w => n1 w.1), bh_ai_sfi]) (fun a j ha n1 => by
              rw [bh_nx_sfi] at ha
              rw [arF, (O3' (by omega)).2.2.2.2, (O2' ha).2.2.2.2, if_neg (fun w => n1 w.1), if_neg (fun w => n1 w.1), bh_ar_sfi]) (fun j => by
              rw [aiF, (O3' (by omega)).2.2.2.1, (O2' l112).2.2.2.1, aib, if_neg (fun w => by rw [n23] at w; exact w.1), bh_ai_sfi]
              show _ = if j = bz_N S then _ else _
              by_cases c : j = bz_N S
              · rw [if_pos ⟨rfl, c⟩, if_pos c]
              · rw [if_neg (fun w => c w.2), if_neg c]) (fun j => by
              rw [aiF, (O3' (by omega)).2.2.2.1, (O2' l113).2.2.2.1, aib, bh_ai_sfi]
              show _ = if j = bz_N S then _ else _
              by_cases c : j = bz_N S
              · rw [if_pos ⟨rfl, c⟩, if_pos c]
              · rw [if_neg (fun w => c w.2), if_neg (fun w => c w.2), if_neg c]) (fun j => by
              rw [arF, (O3' (by omega)).2.2.2.2, (O2' l134).2.2.2.2, bh_nx_sfi, bh_ar_sfi]
              show _ = if j = bz_N S then _ else if j = bz_N S + 4 then _ else _
              by_cases c : j = bz_N S
              · rw [if_neg (fun w => by have := w.2; omega), if_pos ⟨rfl, c⟩, if_pos c]
              · by_cases c' : j = bz_N S + 4
                · rw [if_pos ⟨rfl, by omega⟩, if_neg c, if_pos c']
                · rw [if_neg (fun w => by have := w.2; omega), if_neg (fun w => c w.2), if_neg c, if_neg c']) (by
              rw [ehF, bh_fi_sfi, if_pos ⟨rfl, rfl, rfl⟩]
              rfl) (fun i hi => by
              rw [bh_nx_sfi, kF, frF]
              have : i = 0 ∨ i = 1 := by omega
              rcases this with rfl | rfl
              · simp only [Nat.mul_zero, Nat.add_zero]
                have o := fun k (hk : k < 6) => O3' (a := bi_nx h + k) (by omega)
                have o0 := O3' (a := bi_nx h) (by omega)
                refine ⟨⟨by rw [o0.1]; exact K2.1, by rw [(o 1 (by decide)).1]; exact K2.2.1, by rw [(o 2 (by decide)).1]; exact K2.2.2.1, by rw [(o 3 (by decide)).1]; exact K2.2.2.2.1, by rw [(o 4 (by decide)).1]; exact K2.2.2.2.2.1, by rw [(o 5 (by decide)).1]; exact K2.2.2.2.2.2⟩, fun f => ?_, by rw [o0.2.2.1]; exact F2.2.1, by rw [o0.2.2.1]; exact F2.2.2.1, by rw [o0.2.2.1]; exact F2.2.2.2.1, by rw [o0.2.2.1]; exact F2.2.2.2.2.1, by rw [o0.2.2.1]; exact F2.2.2.2.2.2⟩
                rw [fiF _ _ _ (by omega), o0.2.1]
                exact F2.1 f
              · simp only [Nat.mul_one]
                refine ⟨K3, fun f => ?_, F3.2⟩
                rw [fiF _ _ _ (by omega)]
                exact F3.1 f) rfl rfl rfl rfl (fun k hk => ba_u_ne _ _ hk) rfl rfl rfl rfl rfl
            have hc12 : ∀ b, mg_B B (bz_N S) b 12 0 = B 12 0 := fun b => if_neg (fun w => absurd w.1 (by decide))
            refine ⟨_, hF, hc12 _, fun K => ?_, m, hm, G⟩
            refine bw_C_iff ?_ K
            have q1 : bz_N S < 60001 := by omega
            have tail : bw_r bt_P 46 8 [(0, .inr (.inl (B 12 0))), (1, .inl (Int32.ofNat nn)), (2, .inl (Int32.ofNat pp)), (3, .inl (Int32.ofNat (1 + 1)))] [] h3 (fun o w => o = .inl (some (.inl (Int32.ofNat (bz_N S)))) ∧ w = hF) := by
              have k3 : bi_k h3 (B 12 0) = (22, 0) := by
                rw [(O3' (by omega)).1, (O2' l12).1]
                exact L.k12
              have e1 : Int32.ofNat (bz_N S + 1) - 1 = Int32.ofNat (bz_N S) := by
                rw [show (1 : Int32) = Int32.ofNat 1 from rfl, bn_sub (by omega)]
                rfl
              rw [ehF]
              (refine bw_step rfl ?_; simp +decide only [bw_gi_s, bw_ga_s, bw_go_s, bw_w_i, bw_w_a, bw_w_l, bw_sum_n, bw_sum_c, bw_xs_n, bw_iconst, bw_bipush, bw_sipush, bw_ldc, bw_ldc_w, bw_anull, bw_iload0, bw_aload0, bw_istore0, bw_astore0, bw_iload1, bw_aload1, bw_istore1, bw_astore1, bw_iload2, bw_aload2, bw_istore2, bw_astore2, bw_iload3, bw_aload3, bw_istore3, bw_astore3, bw_iload, bw_aload, bw_istore, bw_astore, bw_iinc, bw_iadd, bw_isub, bw_imul, bw_iand, bw_ixor, bw_idiv, bw_irem, bw_i2l, bw_lcmp, bw_dupi, bw_dupa, bw_dup2ia, bw_dup2ii, bw_getf0, bw_getf2, bw_getf1, bw_putf0, bw_putf2, bw_putf1, bw_iaload, bw_baload, bw_laload, bw_aaload, bw_iastore, bw_bastore, bw_lastore, bw_aastore, bw_alen, bw_newa_int, bw_newa_boolean, bw_newa_long, bw_anewa, bw_multi, bw_new, bw_static, bw_virt, bw_obj, bw_t_nop, bw_t_goto, bw_t_eq_z, bw_t_eq_i, bw_t_ne_z, bw_t_ne_i, bw_t_lt_z, bw_t_lt_i, bw_t_ge_z, bw_t_ge_i, bw_t_gt_z, bw_t_gt_i, bw_t_le_z, bw_t_le_i, bw_t_null, bw_t_nonnull, bw_t_switch, bw_t_ireturn0, bw_t_ireturn1, bw_t_areturn, bw_t_return, bw_t_athrow, bw_t_try, List.lookup_cons, List.lookup_nil, bi_st, List.filter_cons, List.filter_nil, List.take_succ_cons, List.take_zero, List.take_nil, List.drop_succ_cons, List.drop_zero, List.reverse_cons, List.reverse_nil, List.nil_append, List.cons_append, Option.toList_some, Option.toList_none, List.length_cons, List.length_nil, bi_loc, List.zipIdx_cons, List.zipIdx_nil, List.map_cons, List.map_nil, List.getD_cons_zero, List.getD_cons_succ, Nat.zero_add, Bool.not_true, Bool.not_false, Bool.false_eq_true, if_true, if_false, ite_true, ite_false, ↓reduceIte, true_and, and_true, Bool.not_eq_true, beq_self_eq_true, Nat.reduceBEq, Nat.reduceEqDiff, Nat.reduceAdd, Nat.reduceLeDiff, Nat.reduceLT, Nat.reduceSub, Nat.reduceMul, Int32.reduceOfInt, Int32.reduceOfNat, Int32.reduceToNatClampNeg, Int32.reduceLT, Int32.reduceLE, Int32.reduceAdd, Int32.reduceSub, Int32.reduceMul, Int32.reduceDiv, Int32.reduceToInt, Int.reduceLT, Int.reduceSub, Int.reduceToNat, not_false_eq_true, ne_eq, or_true, true_or, or_false, false_or, and_false, false_and, not_true_eq_false, reduceCtorEq, and_self, or_self, eq_self, bh_k_sfi, bh_k_sfr, bh_k_sai, bh_k_sar, bh_k_new, bh_fi_sfi, bh_fi_sfr, bh_fi_sai, bh_fi_sar, bh_fi_new, bh_fr_sfi, bh_fr_sfr, bh_fr_sai, bh_fr_sar, bh_fr_new, bh_ai_sfi, bh_ai_sfr, bh_ai_sai, bh_ai_sar, bh_ai_new, bh_ar_sfi, bh_ar_sfr, bh_ar_sai, bh_ar_sar, bh_ar_new, bh_nx_sfi, bh_nx_sfr, bh_nx_sai, bh_nx_sar, bh_nx_new, bh_nc_sfi, bh_nc_sfr, bh_nc_sai, bh_nc_sar, bh_nc_new, bh_ns_sfi, bh_ns_sfr, bh_ns_sai, bh_ns_sar, bh_ns_new, bh_k_new2, bh_fi_new2, bh_fr_new2, bh_ai_new2, bh_ar_new2, bh_nx_new2, bh_nc_new2, bh_ns_new2, Nat.lt_irrefl, Nat.le_refl, bq_le0, bq_neg, bq_nat, bq_lt, bq_le, bq_eq, bn_one, bn_dec, bl_i2])
              (refine bw_step rfl ?_; simp +decide only [bw_gi_s, bw_ga_s, bw_go_s, bw_w_i, bw_w_a, bw_w_l, bw_sum_n, bw_sum_c, bw_xs_n, bw_iconst, bw_bipush, bw_sipush, bw_ldc, bw_ldc_w, bw_anull, bw_iload0, bw_aload0, bw_istore0, bw_astore0, bw_iload1, bw_aload1, bw_istore1, bw_astore1, bw_iload2, bw_aload2, bw_istore2, bw_astore2, bw_iload3, bw_aload3, bw_istore3, bw_astore3, bw_iload, bw_aload, bw_istore, bw_astore, bw_iinc, bw_iadd, bw_isub, bw_imul, bw_iand, bw_ixor, bw_idiv, bw_irem, bw_i2l, bw_lcmp, bw_dupi, bw_dupa, bw_dup2ia, bw_dup2ii, bw_getf0, bw_getf2, bw_getf1, bw_putf0, bw_putf2, bw_putf1, bw_iaload, bw_baload, bw_laload, bw_aaload, bw_iastore, bw_bastore, bw_lastore, bw_aastore, bw_alen, bw_newa_int, bw_newa_boolean, bw_newa_long, bw_anewa, bw_multi, bw_new, bw_static, bw_virt, bw_obj, bw_t_nop, bw_t_goto, bw_t_eq_z, bw_t_eq_i, bw_t_ne_z, bw_t_ne_i, bw_t_lt_z, bw_t_lt_i, bw_t_ge_z, bw_t_ge_i, bw_t_gt_z, bw_t_gt_i, bw_t_le_z, bw_t_le_i, bw_t_null, bw_t_nonnull, bw_t_switch, bw_t_ireturn0, bw_t_ireturn1, bw_t_areturn, bw_t_return, bw_t_athrow, bw_t_try, List.lookup_cons, List.lookup_nil, bi_st, List.filter_cons, List.filter_nil, List.take_succ_cons, List.take_zero, List.take_nil, List.drop_succ_cons, List.drop_zero, List.reverse_cons, List.reverse_nil, List.nil_append, List.cons_append, Option.toList_some, Option.toList_none, List.length_cons, List.length_nil, bi_loc, List.zipIdx_cons, List.zipIdx_nil, List.map_cons, List.map_nil, List.getD_cons_zero, List.getD_cons_succ, Nat.zero_add, Bool.not_true, Bool.not_false, Bool.false_eq_true, if_true, if_false, ite_true, ite_false, ↓reduceIte, true_and, and_true, Bool.not_eq_true, beq_self_eq_true, Nat.reduceBEq, Nat.reduceEqDiff, Nat.reduceAdd, Nat.reduceLeDiff, Nat.reduceLT, Nat.reduceSub, Nat.reduceMul, Int32.reduceOfInt, Int32.reduceOfNat, Int32.reduceToNatClampNeg, Int32.reduceLT, Int32.reduceLE, Int32.reduceAdd, Int32.reduceSub, Int32.reduceMul, Int32.reduceDiv, Int32.reduceToInt, Int.reduceLT, Int.reduceSub, Int.reduceToNat, not_false_eq_true, ne_eq, or_true, true_or, or_false, false_or, and_false, false_and, not_true_eq_false, reduceCtorEq, and_self, or_self, eq_self, bh_k_sfi, bh_k_sfr, bh_k_sai, bh_k_sar, bh_k_new, bh_fi_sfi, bh_fi_sfr, bh_fi_sai, bh_fi_sar, bh_fi_new, bh_fr_sfi, bh_fr_sfr, bh_fr_sai, bh_fr_sar, bh_fr_new, bh_ai_sfi, bh_ai_sfr, bh_ai_sai, bh_ai_sar, bh_ai_new, bh_ar_sfi, bh_ar_sfr, bh_ar_sai, bh_ar_sar, bh_ar_new, bh_nx_sfi, bh_nx_sfr, bh_nx_sai, bh_nx_sar, bh_nx_new, bh_nc_sfi, bh_nc_sfr, bh_nc_sai, bh_nc_sar, bh_nc_new, bh_ns_sfi, bh_ns_sfr, bh_ns_sai, bh_ns_sar, bh_ns_new, bh_k_new2, bh_fi_new2, bh_fr_new2, bh_ai_new2, bh_ar_new2, bh_nx_new2, bh_nc_new2, bh_ns_new2, Nat.lt_irrefl, Nat.le_refl, bq_le0, bq_neg, bq_nat, bq_lt, bq_le, bq_eq, bn_one, bn_dec, k3, f63, e1, bl_i1])
            have k2 : bi_k h2 (B 12 0) = (22, 0) := by
              rw [(O2' l12).1]
              exact L.k12
            rw [eh3] at tail
            have s1 := nl_group (i := 1) (n := bz_N S) (A := B 134 0) (by decide) hN k2 f62 (by rw [(O2' l12).2.2.1]; exact L.r34) (by rw [(O2' l134).1]; exact L.k134) (by rw [nx2]; exact Nat.lt_of_lt_of_le l12 (Nat.le_add_right _ _)) (by rw [nx2]; exact Nat.lt_of_lt_of_le l134 (Nat.le_add_right _ _)) hmul hnp tail
            rw [eh2] at s1
            have s0 := nl_group (i := 0) (n := bz_N S) (A := B 134 0) (by decide) hN (by rw [kb]; exact L.k12) f6b (by rw [frb]; exact L.r34) (by rw [kb]; exact L.k134) (by rw [nxb]; exact l12) (by rw [nxb]; exact l134) hmul hnp s1
            rw [show Int32.ofNat 0 = 0 from rfl, ehb] at s0
            (refine bw_step rfl ?_; simp +decide only [bw_gi_s, bw_ga_s, bw_go_s, bw_w_i, bw_w_a, bw_w_l, bw_sum_n, bw_sum_c, bw_xs_n, bw_iconst, bw_bipush, bw_sipush, bw_ldc, bw_ldc_w, bw_anull, bw_iload0, bw_aload0, bw_istore0, bw_astore0, bw_iload1, bw_aload1, bw_istore1, bw_astore1, bw_iload2, bw_aload2, bw_istore2, bw_astore2, bw_iload3, bw_aload3, bw_istore3, bw_astore3, bw_iload, bw_aload, bw_istore, bw_astore, bw_iinc, bw_iadd, bw_isub, bw_imul, bw_iand, bw_ixor, bw_idiv, bw_irem, bw_i2l, bw_lcmp, bw_dupi, bw_dupa, bw_dup2ia, bw_dup2ii, bw_getf0, bw_getf2, bw_getf1, bw_putf0, bw_putf2, bw_putf1, bw_iaload, bw_baload, bw_laload, bw_aaload, bw_iastore, bw_bastore, bw_lastore, bw_aastore, bw_alen, bw_newa_int, bw_newa_boolean, bw_newa_long, bw_anewa, bw_multi, bw_new, bw_static, bw_virt, bw_obj, bw_t_nop, bw_t_goto, bw_t_eq_z, bw_t_eq_i, bw_t_ne_z, bw_t_ne_i, bw_t_lt_z, bw_t_lt_i, bw_t_ge_z, bw_t_ge_i, bw_t_gt_z, bw_t_gt_i, bw_t_le_z, bw_t_le_i, bw_t_null, bw_t_nonnull, bw_t_switch, bw_t_ireturn0, bw_t_ireturn1, bw_t_areturn, bw_t_return, bw_t_athrow, bw_t_try, List.lookup_cons, List.lookup_nil, bi_st, List.filter_cons, List.filter_nil, List.take_succ_cons, List.take_zero, List.take_nil, List.drop_succ_cons, List.drop_zero, List.reverse_cons, List.reverse_nil, List.nil_append, List.cons_append, Option.toList_some, Option.toList_none, List.length_cons, List.length_nil, bi_loc, List.zipIdx_cons, List.zipIdx_nil, List.map_cons, List.map_nil, List.getD_cons_zero, List.getD_cons_succ, Nat.zero_add, Bool.not_true, Bool.not_false, Bool.false_eq_true, if_true, if_false, ite_true, ite_false, ↓reduceIte, true_and, and_true, Bool.not_eq_true, beq_self_eq_true, Nat.reduceBEq, Nat.reduceEqDiff, Nat.reduceAdd, Nat.reduceLeDiff, Nat.reduceLT, Nat.reduceSub, Nat.reduceMul, Int32.reduceOfInt, Int32.reduceOfNat, Int32.reduceToNatClampNeg, Int32.reduceLT, Int32.reduceLE, Int32.reduceAdd, Int32.reduceSub, Int32.reduceMul, Int32.reduceDiv, Int32.reduceToInt, Int.reduceLT, Int.reduceSub, Int.reduceToNat, not_false_eq_true, ne_eq, or_true, true_or, or_false, false_or, and_false, false_and, not_true_eq_false, reduceCtorEq, and_self, or_self, eq_self, bh_k_sfi, bh_k_sfr, bh_k_sai, bh_k_sar, bh_k_new, bh_fi_sfi, bh_fi_sfr, bh_fi_sai, bh_fi_sar, bh_fi_new, bh_fr_sfi, bh_fr_sfr, bh_fr_sai, bh_fr_sar, bh_fr_new, bh_ai_sfi, bh_ai_sfr, bh_ai_sai, bh_ai_sar, bh_ai_new, bh_ar_sfi, bh_ar_sfr, bh_ar_sai, bh_ar_sar, bh_ar_new, bh_nx_sfi, bh_nx_sfr, bh_nx_sai, bh_nx_sar, bh_nx_new, bh_nc_sfi, bh_nc_sfr, bh_nc_sai, bh_nc_sar, bh_nc_new, bh_ns_sfi, bh_ns_sfr, bh_ns_sai, bh_ns_sar, bh_ns_new, bh_k_new2, bh_fi_new2, bh_fr_new2, bh_ai_new2, bh_ar_new2, bh_nx_new2, bh_nc_new2, bh_ns_new2, Nat.lt_irrefl, Nat.le_refl, bq_le0, bq_neg, bq_nat, bq_lt, bq_le, bq_eq, bn_one, bn_dec, L.k12, d1, bl_i0, bl_i1])
            (refine bw_step rfl ?_; simp +decide only [bw_gi_s, bw_ga_s, bw_go_s, bw_w_i, bw_w_a, bw_w_l, bw_sum_n, bw_sum_c, bw_xs_n, bw_iconst, bw_bipush, bw_sipush, bw_ldc, bw_ldc_w, bw_anull, bw_iload0, bw_aload0, bw_istore0, bw_astore0, bw_iload1, bw_aload1, bw_istore1, bw_astore1, bw_iload2, bw_aload2, bw_istore2, bw_astore2, bw_iload3, bw_aload3, bw_istore3, bw_astore3, bw_iload, bw_aload, bw_istore, bw_astore, bw_iinc, bw_iadd, bw_isub, bw_imul, bw_iand, bw_ixor, bw_idiv, bw_irem, bw_i2l, bw_lcmp, bw_dupi, bw_dupa, bw_dup2ia, bw_dup2ii, bw_getf0, bw_getf2, bw_getf1, bw_putf0, bw_putf2, bw_putf1, bw_iaload, bw_baload, bw_laload, bw_aaload, bw_iastore, bw_bastore, bw_lastore, bw_aastore, bw_alen, bw_newa_int, bw_newa_boolean, bw_newa_long, bw_anewa, bw_multi, bw_new, bw_static, bw_virt, bw_obj, bw_t_nop, bw_t_goto, bw_t_eq_z, bw_t_eq_i, bw_t_ne_z, bw_t_ne_i, bw_t_lt_z, bw_t_lt_i, bw_t_ge_z, bw_t_ge_i, bw_t_gt_z, bw_t_gt_i, bw_t_le_z, bw_t_le_i, bw_t_null, bw_t_nonnull, bw_t_switch, bw_t_ireturn0, bw_t_ireturn1, bw_t_areturn, bw_t_return, bw_t_athrow, bw_t_try, List.lookup_cons, List.lookup_nil, bi_st, List.filter_cons, List.filter_nil, List.take_succ_cons, List.take_zero, List.take_nil, List.drop_succ_cons, List.drop_zero, List.reverse_cons, List.reverse_nil, List.nil_append, List.cons_append, Option.toList_some, Option.toList_none, List.length_cons, List.length_nil, bi_loc, List.zipIdx_cons, List.zipIdx_nil, List.map_cons, List.map_nil, List.getD_cons_zero, List.getD_cons_succ, Nat.zero_add, Bool.not_true, Bool.not_false, Bool.false_eq_true, if_true, if_false, ite_true, ite_false, ↓reduceIte, true_and, and_true, Bool.not_eq_true, beq_self_eq_true, Nat.reduceBEq, Nat.reduceEqDiff, Nat.reduceAdd, Nat.reduceLeDiff, Nat.reduceLT, Nat.reduceSub, Nat.reduceMul, Int32.reduceOfInt, Int32.reduceOfNat, Int32.reduceToNatClampNeg, Int32.reduceLT, Int32.reduceLE, Int32.reduceAdd, Int32.reduceSub, Int32.reduceMul, Int32.reduceDiv, Int32.reduceToInt, Int.reduceLT, Int.reduceSub, Int.reduceToNat, not_false_eq_true, ne_eq, or_true, true_or, or_false, false_or, and_false, false_and, not_true_eq_false, reduceCtorEq, and_self, or_self, eq_self, bh_k_sfi, bh_k_sfr, bh_k_sai, bh_k_sar, bh_k_new, bh_fi_sfi, bh_fi_sfr, bh_fi_sai, bh_fi_sar, bh_fi_new, bh_fr_sfi, bh_fr_sfr, bh_fr_sai, bh_fr_sar, bh_fr_new, bh_ai_sfi, bh_ai_sfr, bh_ai_sai, bh_ai_sar, bh_ai_new, bh_ar_sfi, bh_ar_sfr, bh_ar_sai, bh_ar_sar, bh_ar_new, bh_nx_sfi, bh_nx_sfr, bh_nx_sai, bh_nx_sar, bh_nx_new, bh_nc_sfi, bh_nc_sfr, bh_nc_sai, bh_nc_sar, bh_nc_new, bh_ns_sfi, bh_ns_sfr, bh_ns_sai, bh_ns_sar, bh_ns_new, bh_k_new2, bh_fi_new2, bh_fr_new2, bh_ai_new2, bh_ar_new2, bh_nx_new2, bh_nc_new2, bh_ns_new2, Nat.lt_irrefl, Nat.le_refl, bq_le0, bq_neg, bq_nat, bq_lt, bq_le, bq_eq, bn_one, bn_dec, d2, bl_i8])
            (refine bw_step rfl ?_; simp +decide only [bw_gi_s, bw_ga_s, bw_go_s, bw_w_i, bw_w_a, bw_w_l, bw_sum_n, bw_sum_c, bw_xs_n, bw_iconst, bw_bipush, bw_sipush, bw_ldc, bw_ldc_w, bw_anull, bw_iload0, bw_aload0, bw_istore0, bw_astore0, bw_iload1, bw_aload1, bw_istore1, bw_astore1, bw_iload2, bw_aload2, bw_istore2, bw_astore2, bw_iload3, bw_aload3, bw_istore3, bw_astore3, bw_iload, bw_aload, bw_istore, bw_astore, bw_iinc, bw_iadd, bw_isub, bw_imul, bw_iand, bw_ixor, bw_idiv, bw_irem, bw_i2l, bw_lcmp, bw_dupi, bw_dupa, bw_dup2ia, bw_dup2ii, bw_getf0, bw_getf2, bw_getf1, bw_putf0, bw_putf2, bw_putf1, bw_iaload, bw_baload, bw_laload, bw_aaload, bw_iastore, bw_bastore, bw_lastore, bw_aastore, bw_alen, bw_newa_int, bw_newa_boolean, bw_newa_long, bw_anewa, bw_multi, bw_new, bw_static, bw_virt, bw_obj, bw_t_nop, bw_t_goto, bw_t_eq_z, bw_t_eq_i, bw_t_ne_z, bw_t_ne_i, bw_t_lt_z, bw_t_lt_i, bw_t_ge_z, bw_t_ge_i, bw_t_gt_z, bw_t_gt_i, bw_t_le_z, bw_t_le_i, bw_t_null, bw_t_nonnull, bw_t_switch, bw_t_ireturn0, bw_t_ireturn1, bw_t_areturn, bw_t_return, bw_t_athrow, bw_t_try, List.lookup_cons, List.lookup_nil, bi_st, List.filter_cons, List.filter_nil, List.take_succ_cons, List.take_zero, List.take_nil, List.drop_succ_cons, List.drop_zero, List.reverse_cons, List.reverse_nil, List.nil_append, List.cons_append, Option.toList_some, Option.toList_none, List.length_cons, List.length_nil, bi_loc, List.zipIdx_cons, List.zipIdx_nil, List.map_cons, List.map_nil, List.getD_cons_zero, List.getD_cons_succ, Nat.zero_add, Bool.not_true, Bool.not_false, Bool.false_eq_true, if_true, if_false, ite_true, ite_false, ↓reduceIte, true_and, and_true, Bool.not_eq_true, beq_self_eq_true, Nat.reduceBEq, Nat.reduceEqDiff, Nat.reduceAdd, Nat.reduceLeDiff, Nat.reduceLT, Nat.reduceSub, Nat.reduceMul, Int32.reduceOfInt, Int32.reduceOfNat, Int32.reduceToNatClampNeg, Int32.reduceLT, Int32.reduceLE, Int32.reduceAdd, Int32.reduceSub, Int32.reduceMul, Int32.reduceDiv, Int32.reduceToInt, Int.reduceLT, Int.reduceSub, Int.reduceToNat, not_false_eq_true, ne_eq, or_true, true_or, or_false, false_or, and_false, false_and, not_true_eq_false, reduceCtorEq, and_self, or_self, eq_self, bh_k_sfi, bh_k_sfr, bh_k_sai, bh_k_sar, bh_k_new, bh_fi_sfi, bh_fi_sfr, bh_fi_sai, bh_fi_sar, bh_fi_new, bh_fr_sfi, bh_fr_sfr, bh_fr_sai, bh_fr_sar, bh_fr_new, bh_ai_sfi, bh_ai_sfr, bh_ai_sai, bh_ai_sar, bh_ai_new, bh_ar_sfi, bh_ar_sfr, bh_ar_sai, bh_ar_sar, bh_ar_new, bh_nx_sfi, bh_nx_sfr, bh_nx_sai, bh_nx_sar, bh_nx_new, bh_nc_sfi, bh_nc_sfr, bh_nc_sai, bh_nc_sar, bh_nc_new, bh_ns_sfi, bh_ns_sfr, bh_ns_sai, bh_ns_sar, bh_ns_new, bh_k_new2, bh_fi_new2, bh_fr_new2, bh_ai_new2, bh_ar_new2, bh_nx_new2, bh_nc_new2, bh_ns_new2, Nat.lt_irrefl, Nat.le_refl, bq_le0, bq_neg, bq_nat, bq_lt, bq_le, bq_eq, bn_one, bn_dec, d3, bl_i1])
            (refine bw_step rfl ?_; simp +decide only [bw_gi_s, bw_ga_s, bw_go_s, bw_w_i, bw_w_a, bw_w_l, bw_sum_n, bw_sum_c, bw_xs_n, bw_iconst, bw_bipush, bw_sipush, bw_ldc, bw_ldc_w, bw_anull, bw_iload0, bw_aload0, bw_istore0, bw_astore0, bw_iload1, bw_aload1, bw_istore1, bw_astore1, bw_iload2, bw_aload2, bw_istore2, bw_astore2, bw_iload3, bw_aload3, bw_istore3, bw_astore3, bw_iload, bw_aload, bw_istore, bw_astore, bw_iinc, bw_iadd, bw_isub, bw_imul, bw_iand, bw_ixor, bw_idiv, bw_irem, bw_i2l, bw_lcmp, bw_dupi, bw_dupa, bw_dup2ia, bw_dup2ii, bw_getf0, bw_getf2, bw_getf1, bw_putf0, bw_putf2, bw_putf1, bw_iaload, bw_baload, bw_laload, bw_aaload, bw_iastore, bw_bastore, bw_lastore, bw_aastore, bw_alen, bw_newa_int, bw_newa_boolean, bw_newa_long, bw_anewa, bw_multi, bw_new, bw_static, bw_virt, bw_obj, bw_t_nop, bw_t_goto, bw_t_eq_z, bw_t_eq_i, bw_t_ne_z, bw_t_ne_i, bw_t_lt_z, bw_t_lt_i, bw_t_ge_z, bw_t_ge_i, bw_t_gt_z, bw_t_gt_i, bw_t_le_z, bw_t_le_i, bw_t_null, bw_t_nonnull, bw_t_switch, bw_t_ireturn0, bw_t_ireturn1, bw_t_areturn, bw_t_return, bw_t_athrow, bw_t_try, List.lookup_cons, List.lookup_nil, bi_st, List.filter_cons, List.filter_nil, List.take_succ_cons, List.take_zero, List.take_nil, List.drop_succ_cons, List.drop_zero, List.reverse_cons, List.reverse_nil, List.nil_append, List.cons_append, Option.toList_some, Option.toList_none, List.length_cons, List.length_nil, bi_loc, List.zipIdx_cons, List.zipIdx_nil, List.map_cons, List.map_nil, List.getD_cons_zero, List.getD_cons_succ, Nat.zero_add, Bool.not_true, Bool.not_false, Bool.false_eq_true, if_true, if_false, ite_true, ite_false, ↓reduceIte, true_and, and_true, Bool.not_eq_true, beq_self_eq_true, Nat.reduceBEq, Nat.reduceEqDiff, Nat.reduceAdd, Nat.reduceLeDiff, Nat.reduceLT, Nat.reduceSub, Nat.reduceMul, Int32.reduceOfInt, Int32.reduceOfNat, Int32.reduceToNatClampNeg, Int32.reduceLT, Int32.reduceLE, Int32.reduceAdd, Int32.reduceSub, Int32.reduceMul, Int32.reduceDiv, Int32.reduceToInt, Int.reduceLT, Int.reduceSub, Int.reduceToNat, not_false_eq_true, ne_eq, or_true, true_or, or_false, false_or, and_false, false_and, not_true_eq_false, reduceCtorEq, and_self, or_self, eq_self, bh_k_sfi, bh_k_sfr, bh_k_sai, bh_k_sar, bh_k_new, bh_fi_sfi, bh_fi_sfr, bh_fi_sai, bh_fi_sar, bh_fi_new, bh_fr_sfi, bh_fr_sfr, bh_fr_sai, bh_fr_sar, bh_fr_new, bh_ai_sfi, bh_ai_sfr, bh_ai_sai, bh_ai_sar, bh_ai_new, bh_ar_sfi, bh_ar_sfr, bh_ar_sai, bh_ar_sar, bh_ar_new, bh_nx_sfi, bh_nx_sfr, bh_nx_sai, bh_nx_sar, bh_nx_new, bh_nc_sfi, bh_nc_sfr, bh_nc_sai, bh_nc_sar, bh_nc_new, bh_ns_sfi, bh_ns_sfr, bh_ns_sai, bh_ns_sar, bh_ns_new, bh_k_new2, bh_fi_new2, bh_fr_new2, bh_ai_new2, bh_ar_new2, bh_nx_new2, bh_nc_new2, bh_ns_new2, Nat.lt_irrefl, Nat.le_refl, bq_le0, bq_neg, bq_nat, bq_lt, bq_le, bq_eq, bn_one, bn_dec, d4', bl_i4096])
            (refine bw_step rfl ?_; simp +decide only [bw_gi_s, bw_ga_s, bw_go_s, bw_w_i, bw_w_a, bw_w_l, bw_sum_n, bw_sum_c, bw_xs_n, bw_iconst, bw_bipush, bw_sipush, bw_ldc, bw_ldc_w, bw_anull, bw_iload0, bw_aload0, bw_istore0, bw_astore0, bw_iload1, bw_aload1, bw_istore1, bw_astore1, bw_iload2, bw_aload2, bw_istore2, bw_astore2, bw_iload3, bw_aload3, bw_istore3, bw_astore3, bw_iload, bw_aload, bw_istore, bw_astore, bw_iinc, bw_iadd, bw_isub, bw_imul, bw_iand, bw_ixor, bw_idiv, bw_irem, bw_i2l, bw_lcmp, bw_dupi, bw_dupa, bw_dup2ia, bw_dup2ii, bw_getf0, bw_getf2, bw_getf1, bw_putf0, bw_putf2, bw_putf1, bw_iaload, bw_baload, bw_laload, bw_aaload, bw_iastore, bw_bastore, bw_lastore, bw_aastore, bw_alen, bw_newa_int, bw_newa_boolean, bw_newa_long, bw_anewa, bw_multi, bw_new, bw_static, bw_virt, bw_obj, bw_t_nop, bw_t_goto, bw_t_eq_z, bw_t_eq_i, bw_t_ne_z, bw_t_ne_i, bw_t_lt_z, bw_t_lt_i, bw_t_ge_z, bw_t_ge_i, bw_t_gt_z, bw_t_gt_i, bw_t_le_z, bw_t_le_i, bw_t_null, bw_t_nonnull, bw_t_switch, bw_t_ireturn0, bw_t_ireturn1, bw_t_areturn, bw_t_return, bw_t_athrow, bw_t_try, List.lookup_cons, List.lookup_nil, bi_st, List.filter_cons, List.filter_nil, List.take_succ_cons, List.take_zero, List.take_nil, List.drop_succ_cons, List.drop_zero, List.reverse_cons, List.reverse_nil, List.nil_append, List.cons_append, Option.toList_some, Option.toList_none, List.length_cons, List.length_nil, bi_loc, List.zipIdx_cons, List.zipIdx_nil, List.map_cons, List.map_nil, List.getD_cons_zero, List.getD_cons_succ, Nat.zero_add, Bool.not_true, Bool.not_false, Bool.false_eq_true, if_true, if_false, ite_true, ite_false, ↓reduceIte, true_and, and_true, Bool.not_eq_true, beq_self_eq_true, Nat.reduceBEq, Nat.reduceEqDiff, Nat.reduceAdd, Nat.reduceLeDiff, Nat.reduceLT, Nat.reduceSub, Nat.reduceMul, Int32.reduceOfInt, Int32.reduceOfNat, Int32.reduceToNatClampNeg, Int32.reduceLT, Int32.reduceLE, Int32.reduceAdd, Int32.reduceSub, Int32.reduceMul, Int32.reduceDiv, Int32.reduceToInt, Int.reduceLT, Int.reduceSub, Int.reduceToNat, not_false_eq_true, ne_eq, or_true, true_or, or_false, false_or, and_false, false_and, not_true_eq_false, reduceCtorEq, and_self, or_self, eq_self, bh_k_sfi, bh_k_sfr, bh_k_sai, bh_k_sar, bh_k_new, bh_fi_sfi, bh_fi_sfr, bh_fi_sai, bh_fi_sar, bh_fi_new, bh_fr_sfi, bh_fr_sfr, bh_fr_sai, bh_fr_sar, bh_fr_new, bh_ai_sfi, bh_ai_sfr, bh_ai_sai, bh_ai_sar, bh_ai_new, bh_ar_sfi, bh_ar_sfr, bh_ar_sai, bh_ar_sar, bh_ar_new, bh_nx_sfi, bh_nx_sfr, bh_nx_sai, bh_nx_sar, bh_nx_new, bh_nc_sfi, bh_nc_sfr, bh_nc_sai, bh_nc_sar, bh_nc_new, bh_ns_sfi, bh_ns_sfr, bh_ns_sai, bh_ns_sar, bh_ns_new, bh_k_new2, bh_fi_new2, bh_fr_new2, bh_ai_new2, bh_ar_new2, bh_nx_new2, bh_nc_new2, bh_ns_new2, Nat.lt_irrefl, Nat.le_refl, bq_le0, bq_neg, bq_nat, bq_lt, bq_le, bq_eq, bn_one, bn_dec, L.k12, f6, e4, bl_i4])
            (refine bw_step rfl ?_; simp +decide only [bw_gi_s, bw_ga_s, bw_go_s, bw_w_i, bw_w_a, bw_w_l, bw_sum_n, bw_sum_c, bw_xs_n, bw_iconst, bw_bipush, bw_sipush, bw_ldc, bw_ldc_w, bw_anull, bw_iload0, bw_aload0, bw_istore0, bw_astore0, bw_iload1, bw_aload1, bw_istore1, bw_astore1, bw_iload2, bw_aload2, bw_istore2, bw_astore2, bw_iload3, bw_aload3, bw_istore3, bw_astore3, bw_iload, bw_aload, bw_istore, bw_astore, bw_iinc, bw_iadd, bw_isub, bw_imul, bw_iand, bw_ixor, bw_idiv, bw_irem, bw_i2l, bw_lcmp, bw_dupi, bw_dupa, bw_dup2ia, bw_dup2ii, bw_getf0, bw_getf2, bw_getf1, bw_putf0, bw_putf2, bw_putf1, bw_iaload, bw_baload, bw_laload, bw_aaload, bw_iastore, bw_bastore, bw_lastore, bw_aastore, bw_alen, bw_newa_int, bw_newa_boolean, bw_newa_long, bw_anewa, bw_multi, bw_new, bw_static, bw_virt, bw_obj, bw_t_nop, bw_t_goto, bw_t_eq_z, bw_t_eq_i, bw_t_ne_z, bw_t_ne_i, bw_t_lt_z, bw_t_lt_i, bw_t_ge_z, bw_t_ge_i, bw_t_gt_z, bw_t_gt_i, bw_t_le_z, bw_t_le_i, bw_t_null, bw_t_nonnull, bw_t_switch, bw_t_ireturn0, bw_t_ireturn1, bw_t_areturn, bw_t_return, bw_t_athrow, bw_t_try, List.lookup_cons, List.lookup_nil, bi_st, List.filter_cons, List.filter_nil, List.take_succ_cons, List.take_zero, List.take_nil, List.drop_succ_cons, List.drop_zero, List.reverse_cons, List.reverse_nil, List.nil_append, List.cons_append, Option.toList_some, Option.toList_none, List.length_cons, List.length_nil, bi_loc, List.zipIdx_cons, List.zipIdx_nil, List.map_cons, List.map_nil, List.getD_cons_zero, List.getD_cons_succ, Nat.zero_add, Bool.not_true, Bool.not_false, Bool.false_eq_true, if_true, if_false, ite_true, ite_false, ↓reduceIte, true_and, and_true, Bool.not_eq_true, beq_self_eq_true, Nat.reduceBEq, Nat.reduceEqDiff, Nat.reduceAdd, Nat.reduceLeDiff, Nat.reduceLT, Nat.reduceSub, Nat.reduceMul, Int32.reduceOfInt, Int32.reduceOfNat, Int32.reduceToNatClampNeg, Int32.reduceLT, Int32.reduceLE, Int32.reduceAdd, Int32.reduceSub, Int32.reduceMul, Int32.reduceDiv, Int32.reduceToInt, Int.reduceLT, Int.reduceSub, Int.reduceToNat, not_false_eq_true, ne_eq, or_true, true_or, or_false, false_or, and_false, false_and, not_true_eq_false, reduceCtorEq, and_self, or_self, eq_self, bh_k_sfi, bh_k_sfr, bh_k_sai, bh_k_sar, bh_k_new, bh_fi_sfi, bh_fi_sfr, bh_fi_sai, bh_fi_sar, bh_fi_new, bh_fr_sfi, bh_fr_sfr, bh_fr_sai, bh_fr_sar, bh_fr_new, bh_ai_sfi, bh_ai_sfr, bh_ai_sai, bh_ai_sar, bh_ai_new, bh_ar_sfi, bh_ar_sfr, bh_ar_sai, bh_ar_sar, bh_ar_new, bh_nx_sfi, bh_nx_sfr, bh_nx_sai, bh_nx_sar, bh_nx_new, bh_nc_sfi, bh_nc_sfr, bh_nc_sai, bh_nc_sar, bh_nc_new, bh_ns_sfi, bh_ns_sfr, bh_ns_sai, bh_ns_sar, bh_ns_new, bh_k_new2, bh_fi_new2, bh_fr_new2, bh_ai_new2, bh_ar_new2, bh_nx_new2, bh_nc_new2, bh_ns_new2, Nat.lt_irrefl, Nat.le_refl, bq_le0, bq_neg, bq_nat, bq_lt, bq_le, bq_eq, bn_one, bn_dec, L.k12, L.r12, L.k112, L.r13, L.k113, f6, q1, hN, bl_i0])
            (refine bw_sub2 _ ?_ (s0); exact ⟨rfl, rfl, rfl, rfl, trivial⟩)
end NF
