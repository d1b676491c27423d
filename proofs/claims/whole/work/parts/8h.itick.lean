/-! what holds is kept: a group; what the rules of ticks want -/
section NU
variable {S S' : ba_S} {W W' : ba_W} {M M' C s : Nat} {t : ba_T}
theorem bz_V.grp (V : bz_V S M C) {n p : Nat} (hN : bz_N S < 4) (h1 : n ≤ 8) (h2 : p ≤ 4096) (h3 : 0 < p) : bz_V (bz_sN (bz_sD (bz_sG S 7 (Int32.ofNat (bz_N S + 1))) (bz_N S) (n, p)) (bz_N S + 1)) M C := by
  obtain ⟨i1, i2, i3, i4, i5, i6, i7, i8, i9, i10⟩ := V.I
  have eD : ∀ g, bz_D (bz_sN (bz_sD (bz_sG S 7 (Int32.ofNat (bz_N S + 1))) (bz_N S) (n, p)) (bz_N S + 1)) g = if g = bz_N S then (n, p) else bz_D S g := fun g => rfl
  have eN : bz_N (bz_sN (bz_sD (bz_sG S 7 (Int32.ofNat (bz_N S + 1))) (bz_N S) (n, p)) (bz_N S + 1)) = bz_N S + 1 := rfl
  refine ⟨⟨i1, i2, i3, i4, i5, ⟨rfl, ?_⟩, i7, i8, fun g hg => ?_, fun m hm => ?_⟩, fun k k0 hk => ?_, fun g hg => ?_, fun g hg => V.R hg, fun x hx => V.T hx, fun i hi => V.p hi, fun m hm => ?_, fun x hx hn => ?_, V.mx⟩
  · rw [eN]
    omega
  · rw [eD]
    split
    · exact ⟨h1, h2⟩
    · exact i9 g hg
  · obtain ⟨x, a1, a2, a3⟩ := i10 m hm
    exact ⟨x, a1, by rw [eN]; omega, a3⟩
  · obtain ⟨a1, a2, a3⟩ := V.wd k k0 hk
    rw [eD, if_neg (by show ba_g (bz_W S) k ≠ bz_N S; omega), eN]
    exact ⟨a1, a2, Nat.lt_succ_of_lt a3⟩
  · rw [eN] at hg
    rw [eD]
    split
    · exact h3
    · exact V.D (by omega)
  · obtain ⟨sd, e, k, n', b1, b2, b3⟩ := V.m hm
    exact ⟨sd, e, k, n', b1, by rw [eN]; omega, b3⟩
  · rw [eN] at hn
    exact V.ini hx (by omega)
theorem bz_V.group (V : bz_V S M C) (n p : Int32) : bz_V (bx_group S n p).1 M C := by
  unfold bx_group
  split
  · exact V
  · rename_i c1
    split
    · exact V
    · rename_i c2
      have d1 : ¬ n < 1 := fun w => c1 (Or.inl w)
      have d2 : ¬ 8 < n := fun w => c1 (Or.inr (Or.inl w))
      have d3 : ¬ p < 1 := fun w => c1 (Or.inr (Or.inr (Or.inl w)))
      have d4 : ¬ 4096 < p := fun w => c1 (Or.inr (Or.inr (Or.inr w)))
      have en : Int32.ofNat n.toNatClampNeg = n := bn_of (Int32.le_trans (show (0 : Int32) ≤ 1 by decide) (Int32.not_lt.mp d1))
      have ep : Int32.ofNat p.toNatClampNeg = p := bn_of (Int32.le_trans (show (0 : Int32) ≤ 1 by decide) (Int32.not_lt.mp d3))
      have bn : n.toNatClampNeg < 2147483648 := bn_clamp_lt n
      have bp : p.toNatClampNeg < 2147483648 := bn_clamp_lt p
      refine V.grp (by have := V.I.gr.2; omega) ?_ ?_ ?_
      · refine Nat.not_lt.mp (fun w => d2 ?_)
        rw [← en]
        exact (bn_lt (a := 8) (by decide) bn).mpr w
      · refine Nat.not_lt.mp (fun w => d4 ?_)
        rw [← ep]
        exact (bn_lt (a := 4096) (by decide) bp).mpr w
      · refine Nat.pos_of_ne_zero (fun w => d3 ?_)
        rw [← ep, w]
        decide
/-- ticks -/
theorem bz_V.fok (V : bz_V S M C) (hs : s < 8) (hN : s % 4 < bz_N S) : bx_fok S s ∧ bz_fok S s := by
  have T := V.T hs
  have sm := V.snsm hs
  have hM := V.mx.1
  have he : ∃ e, e < 4000 ∧ bs_c (bz_T S s) 7 = Int32.ofNat e := ⟨bs_ep (bz_T S s), by have := T.2.1.2.1.2.1; omega, T.2.1.1.1⟩
  refine ⟨⟨he, fun h1 h2 => V.pln hs (T.tg h1 h2), fun h1 h2 => ?_⟩, he, T.2.2.1.1, fun h1 h2 => V.rl hs hN (T.tg h1 h2), fun h1 h2 h3 => ?_⟩
  · by_cases c : Int32.ofNat (bs_latest (bz_T S s)) = bs_c (bz_T S s) 9
    · unfold bs_plan
      show _ ∧ (ba_sp (bz_W S) (ba_l (bz_W S) (ba_lo (Int32.ofNat (bs_latest (bz_T S s))) (bs_sn (bz_T S s))) - ba_l (bz_W S) (ba_lo (bs_c (bz_T S s) 9) (bs_sn (bz_T S s)))) (ba_lo (Int32.ofNat (bs_latest (bz_T S s))) (bs_sn (bz_T S s)))).length ≤ _
      rw [c, Nat.sub_self]
      refine ⟨Nat.le_refl _, ?_⟩
      have e0 : ∀ k, (ba_sp (bz_W S) 0 k).length = 0 := fun k => by
        unfold ba_sp
        rw [List.length_eq_zero_iff, List.filterMap_eq_nil_iff]
        intro p _
        exact if_pos rfl
      rw [e0]
      exact Nat.zero_le _
    · obtain ⟨⟨-, g2, q, hq, g3, -, g4⟩, -, -⟩ := T.ltg sm h1 c
      have g2 : bv_id (bs_sn (bz_T S s)) (bs_c (bz_T S s) 9) := g2
      have hq : q ∈ bs_sn (bz_T S s) := hq
      have g3 : Int32.ofNat (bs_latest (bz_T S s)) = Int32.ofNat q.1 := g3
      have g4 : bs_c (bz_T S s) 9 < Int32.ofNat (bs_latest (bz_T S s)) := g4
      rw [g3] at g4
      obtain ⟨al, -, g5, g6, g7, -, g8, g9⟩ := bv_plan V.I.W (V.I.o hs) T.1.2.1 sm hq g2 g4
      unfold bs_plan
      show _ ∧ (ba_sp (bz_W S) (ba_l (bz_W S) (ba_lo (Int32.ofNat (bs_latest (bz_T S s))) (bs_sn (bz_T S s))) - ba_l (bz_W S) (ba_lo (bs_c (bz_T S s) 9) (bs_sn (bz_T S s)))) (ba_lo (Int32.ofNat (bs_latest (bz_T S s))) (bs_sn (bz_T S s)))).length ≤ _
      rw [g3, g5, g6]
      exact ⟨g7.1, by rw [g8]; exact Nat.le_trans g9 (V.need hs)⟩
  · obtain ⟨⟨-, g2, q, hq, g3, g3', g4⟩, -, -⟩ := T.ltg sm h1 h3
    have g2 : bv_id (bs_sn (bz_T S s)) (bs_c (bz_T S s) 9) := g2
    have hq : q ∈ bs_sn (bz_T S s) := hq
    have g3 : Int32.ofNat (bs_latest (bz_T S s)) = Int32.ofNat q.1 := g3
    have g3' : q.1 / 4096 = bs_ep (bz_T S s) := g3'
    have g4 : bs_c (bz_T S s) 9 < Int32.ofNat (bs_latest (bz_T S s)) := g4
    obtain ⟨a, b, c, d, ee, ⟨f1, f2, f3⟩, g, i, j⟩ := id T
    have h15 : bs_c (bz_T S s) 15 = 0 := Decidable.byContradiction (fun u => (f2 u).2 h2)
    refine V.rl0 (t := bs_sc (bs_sc (bz_T S s) 10 (Int32.ofNat (bs_latest (bz_T S s)))) 14 (bs_c (bz_T S s) 9)) hs hN ⟨a, b, c, d, fun _ => ⟨(ee h1).1, g2, Or.inr ⟨q, hq, g3, g3', g4, g4⟩⟩, ⟨Or.inl h15, fun w => absurd h15 w, fun w => absurd (h15.symm.trans w) (by decide)⟩, g, i, j⟩ ((V.I.o hs).of rfl rfl) hq g3 g2 g4 (bz_T_same _ _ _) rfl rfl rfl
theorem bz_V.idv (V : bz_V S M C) (hs : s < 8) : bs_c (bz_T S s) 8 < 4095 → Int32.ofNat (4096 * bs_c (bz_T S s) 7 + (bs_c (bz_T S s) 8 + 1)).toNatClampNeg = 4096 * bs_c (bz_T S s) 7 + (bs_c (bz_T S s) 8 + 1) := fun _ => by
  obtain ⟨⟨b1, b2, b3⟩, ⟨b4, b5, b6⟩, b7⟩ := (V.T hs).2.1
  have hM := V.mx.1
  rw [b1, b2, show Int32.ofNat (bs_tk (bz_T S s)) + 1 = Int32.ofNat (bs_tk (bz_T S s) + 1) from bn_one _]
  exact bn_id (by omega) (by omega)
theorem bz_V.c8 (V : bz_V S M C) (hs : s < 8) : bs_c (bz_T S s) 8 ≤ 4095 := by
  obtain ⟨⟨b1, b2, b3⟩, -⟩ := (V.T hs).2.1
  rw [b2]
  exact (bn_le (b := 4095) (by omega) (by decide)).mpr b3
theorem bz_V.rg (V : bz_V S M C) {g : Nat} (hg : g < 4) : (bz_R S g).length < 9000 := by
  have h1 := (V.R hg).2.1
  have h2 := V.mx.2
  omega
theorem bz_V.l14 (V : bz_V S M C) (hs : s < 8) : (bs_sn (bz_T S s)).length ≤ 14 := by
  have := (V.T hs).1.2.2
  omega
theorem bz_V.tok (V : bz_V S M C) (hs : s < 8) (hN : s % 4 < bz_N S) (hC : C + 1 ≤ 8900) : bx_tok S s ∧ bz_tok S s := by
  obtain ⟨f1, f2⟩ := V.fok hs hN
  have key : bs_c (bz_T S s) 6 = 1 → bs_c (bz_T S s) 8 < 4095 → bx_fok (bx_take S s).1 s ∧ bz_fok (bx_take S s).1 s := fun h6 h8 => (V.take hs hN h6 h8 hC).1.fok hs (by rw [bx_take_N]; exact hN)
  exact ⟨⟨V.l14 hs, V.idv hs, f1, fun h6 h8 _ => (key h6 h8).1⟩, V.l14 hs, V.rg (by omega), V.idv hs, f2, fun h6 h8 _ => (key h6 h8).2⟩
theorem bz_V.cp (V : bz_V S M C) (hs : s < 8) (h6 : bs_c (bz_T S s) 6 = 0) : bs_kept (bz_T S s) = bs_now (bz_T S s) := (bv_T.cp (V.T hs) V.I.W (V.I.o hs) (Or.inl h6)).2
theorem bz_V.e7 (V : bz_V S M C) (hs : s < 8) : ∃ e, e < 4000 ∧ bs_c (bz_T S s) 7 = Int32.ofNat e := ⟨bs_ep (bz_T S s), by have := (V.T hs).2.1.2.1.2.1; have := V.mx.1; omega, (V.T hs).2.1.1.1⟩
theorem bz_V.gi (V : bz_V S M C) (hs : s < 8) (h6 : bs_c (bz_T S s) 6 ≠ 2) : bs_c (bz_T S s) 13 = 0 := by
  rcases (V.T hs).2.2.2.1 with d | ⟨d, -⟩
  · exact d
  · exact absurd d h6
theorem bz_V.lg (V : bz_V S M C) (hs : s < 8) : (bs_lo (bz_T S s)).length < 60001 ∧ ∀ k ∈ bs_lo (bz_T S s), 0 < k ∧ k ≤ ba_n (bz_W S) ∧ ba_g (bz_W S) k = s % 4 := by
  obtain ⟨h1, h2⟩ := (V.T hs).2.2.2.2.2.2.2.1
  exact ⟨by omega, h2⟩
theorem bz_V.ml (V : bz_V S M C) : ∀ m ∈ bz_F S, m.2.length < 20000 := fun m hm => by
  obtain ⟨sd, e, k, n, -, -, -, -, -, -, -, -, h9, h10, -⟩ := V.m hm
  omega
end NU
