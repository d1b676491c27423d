/-! what holds is kept: a newer epoch, what is staged -/
section NN
variable {S S' : ba_S} {W W' : ba_W} {M M' C s : Nat} {t : ba_T}
/-- a store with no staging of its own -/
theorem bv_T.g0 {R : List (Nat × Nat)} {win eo n : Nat} (T : bv_Tn n W R win eo M s t) (h : bs_c t 6 ≠ 0) : ∀ k, k ≤ 5 → bs_g t k = 0 := by
  rcases T.2.2.2.2.2.2.1 with g | ⟨g0, -⟩
  · exact g
  · exact absurd g0 h
theorem bs_clr_g (t : ba_T) : ∀ k, k ≤ 5 → bs_g (bs_clr t) k = 0 := fun k hk => by
  show (if k < 6 then 0 else _) = _
  rw [if_pos (by omega)]
theorem bs_src_no (h : bs_c t 6 = 0 ∨ bs_c t 6 = 3) : ¬ bs_src t = true := by
  unfold bs_src
  rcases h with h | h <;> (rw [h]; decide)
/-- a newer epoch is followed -/
theorem bz_V.learn (V : bz_V S M C) (hs : s < 8) (hN : s % 4 < bz_N S) {en : Nat} (he : bv_e S M (s % 4) en) (hl : bs_c (bz_T S s) 7 < Int32.ofNat en) : bz_V (bz_sT (bx_act S (s / 4)) s (bs_learn (bz_T S s) (Int32.ofNat en))) M C := by
  have V1 := V.act (s / 4)
  have eT : bz_T (bx_act S (s / 4)) = bz_T S := bx_act_T _ _
  have eW : bz_W (bx_act S (s / 4)) = bz_W S := bx_act_W _ _
  have hN1 : s % 4 < bz_N (bx_act S (s / 4)) := by rw [bx_act_N]; exact hN
  have T := V1.T hs
  rw [eT] at T
  have hM := V.mx.1
  obtain ⟨a, ⟨b1, ⟨b4, b5, b6⟩, b7⟩, ⟨c1, c2, c3, c4⟩, d, e, ⟨f1, f2, f3⟩, g, i, j⟩ := id T
  have hlt : bs_ep (bz_T S s) < en := by
    rw [b1.1] at hl
    exact (bn_lt (by omega) (by have := he.2.1; omega)).mp hl
  have hsi : bv_site en ≠ s / 4 := fun w => by
    have h1 := he.2.2
    rw [w, show 4 * (s / 4) + s % 4 = s by omega] at h1
    omega
  have heo : en ≤ bs_ep (bz_T S ((s + 4) % 8)) := by
    have h1 := he.2.2
    have h2 := bv_site_lt en
    rw [show 4 * bv_site en + s % 4 = (s + 4) % 8 by omega] at h1
    exact h1
  have e7 : bs_ep (bs_learn (bz_T S s) (Int32.ofNat en)) = en := by
    show (Int32.ofNat en).toNatClampNeg = en
    exact bn_nat (by have := he.2.1; omega)
  have e8 : bs_tk (bs_learn (bz_T S s) (Int32.ofNat en)) = 0 := rfl
  have e22 : (bs_learn (bz_T S s) (Int32.ofNat en)).2.2 = (bz_T S s).2.2 := by
    unfold bs_learn
    split
    · rfl
    · split <;> rfl
  have esn : bs_sn (bs_learn (bz_T S s) (Int32.ofNat en)) = bs_sn (bz_T S s) := congrArg (fun x => x.2.1) e22
  have eno : bs_now (bs_learn (bz_T S s) (Int32.ofNat en)) = bs_now (bz_T S s) := congrArg (fun x => x.1.1) e22
  have elo : bs_lo (bs_learn (bz_T S s) (Int32.ofNat en)) = bs_lo (bz_T S s) := congrArg (fun x => x.2.2) e22
  have esa : bs_safe (bs_learn (bz_T S s) (Int32.ofNat en)) = bs_safe (bz_T S s) := congrArg (fun x => x.1.2.1) e22
  have eln : bs_line (bs_learn (bz_T S s) (Int32.ofNat en)) = bs_line (bz_T S s) := by
    unfold bs_line
    rw [esn]
  have e6 : (bs_c (bs_learn (bz_T S s) (Int32.ofNat en)) 6 = 0 ∧ (bs_c (bz_T S s) 6 = 0 ∨ bs_c (bz_T S s) 6 = 2)) ∨ bs_c (bs_learn (bz_T S s) (Int32.ofNat en)) 6 = 3 := by
    unfold bs_learn
    by_cases w : bs_c (bz_T S s) 6 = 2 ∧ bs_c (bz_T S s) 13 = Int32.ofNat en
    · rw [if_pos w]
      exact Or.inl ⟨rfl, Or.inr w.1⟩
    · rw [if_neg w]
      by_cases w2 : bs_c (bz_T S s) 6 = 1 ∨ bs_c (bz_T S s) 6 = 2
      · rw [if_pos w2]
        exact Or.inr rfl
      · rw [if_neg w2]
        rcases c1 with c1 | c1 | c1 | c1
        · exact Or.inl ⟨c1, Or.inl c1⟩
        · exact absurd (Or.inl c1) w2
        · exact absurd (Or.inr c1) w2
        · exact Or.inr c1
  have h13 : bs_c (bs_learn (bz_T S s) (Int32.ofNat en)) 13 = 0 := rfl
  have h15 : bs_c (bs_learn (bz_T S s) (Int32.ofNat en)) 15 = 0 := rfl
  have nsrc : ¬ bs_src (bs_learn (bz_T S s) (Int32.ofNat en)) = true := bs_src_no (by
    rcases e6 with w | w
    · exact Or.inl w.1
    · exact Or.inr w)
  refine V1.sT hs hN1 (by rw [eW]; exact bs_learn_ok (V.I.o hs) _) (by rw [eT]; exact bs_learn_0 _ _) (by rw [eT]; exact Or.inl (by rw [e7]; exact hlt)) ?_ ?_
  · rw [eT, eW]
    have en1 : bs_need (bz_W S) (bs_learn (bz_T S s) (Int32.ofNat en)) = bs_need (bz_W S) (bz_T S s) := by
      unfold bs_need bs_an
      rw [esn, eno, show bs_kept (bs_learn (bz_T S s) (Int32.ofNat en)) = bs_kept (bz_T S s) from congrArg (fun x => x.1.2.2) e22]
    unfold bs_use
    rw [en1]
    exact Nat.add_le_add_left (Nat.zero_le _) _
  · rw [eT]
    refine ⟨by rw [esn]; exact a, ⟨⟨by rw [e7]; rfl, by rw [e8]; rfl, by rw [e8]; exact Nat.zero_le _⟩, ⟨by rw [e7]; exact he.1, by rw [e7]; exact he.2.1, fun _ => by rw [e7]; exact heo⟩, fun q hq => ?_⟩, ⟨?_, fun w => ?_, fun w q hq => ?_, fun w => absurd w nsrc⟩, Or.inl h13, fun w => absurd w nsrc, ⟨Or.inl h15, fun w => absurd h15 w, fun w => by rw [h15] at w; exact absurd w (by decide)⟩, Or.inl (bs_clr_g _), by rw [elo]; exact i, ?_, by rw [eno]; exact j.2⟩
    · rw [esn] at hq
      rw [e7]
      have := b7 q hq
      omega
    · rcases e6 with w | w
      · exact Or.inl w.1
      · exact Or.inr (Or.inr (Or.inr w))
    · rw [eno, eln]
      rcases e6 with u | u
      · exact c2 u.2
      · rw [u] at w
        exact absurd w (by decide)
    · rw [esn] at hq
      rw [e7]
      have := b7 q hq
      omega
    · unfold bs_pend
      rw [eno, esa]
      exact j.1
/-- a COPY's lines -/
theorem bv_T.cp {R : List (Nat × Nat)} {win eo n : Nat} (T : bv_Tn n W R win eo M s t) (hW : ba_ok W) (o : bs_ok W t) (h : bs_c t 6 = 0 ∨ bs_c t 6 = 2) : bs_now t = bs_line t ∧ bs_kept t = bs_now t := by
  have h1 := T.2.2.1.2.1 h
  refine ⟨h1, ?_⟩
  have h2 := o.kn
  have h3 := (o.lat hW).1
  rw [h1] at h2 ⊢
  exact ba_anc_eq h2 h3
/-- what is staged goes on -/
theorem bz_V.prog (V : bz_V S M C) (hs : s < 8) (hN : s % 4 < bz_N S) {k : Nat} (hk : k = 2 ∨ k = 4) : bz_V (bx_prog S s (Int32.ofNat k)) M C := by
  have T := V.T hs
  have h4 : ∃ c, c ≤ 2100 ∧ bs_g (bz_T S s) 4 = Int32.ofNat c := by
    rcases T.2.2.2.2.2.2.1 with g | ⟨-, id, ln, wn, ck, -, -, -, -, -, -, -, -, g1, g2, -⟩
    · exact ⟨0, by omega, g 4 (by decide)⟩
    · exact ⟨ck, g2, g1⟩
  exact V.send ⟨s, _, k, 0, hs, hN, rfl, rfl, by omega, by omega, T.2.1.1.1, V.ep hs, rfl, by omega, fun h => by omega, fun _ => h4, fun h => by omega, fun h => by omega⟩
/-- what the two sides want of what is staged -/
theorem bz_V.cok (V : bz_V S M C) (hs : s < 8) (hN : s % 4 < bz_N S) : bx_cok S s ∧ bz_sa S s := by
  have T := V.T hs
  have hW := V.I.W
  have o := V.I.o hs
  have RG := V.R (g := s % 4) (by omega)
  have sm := V.sm (g := s % 4) (by omega)
  have hlen : (bs_sn (bz_T S s)).length ≤ 14 := by have := T.1.2.2; omega
  have hr : (bz_R S (s % 4)).length ≤ 9000 := by have := RG.2.1; have := V.mx.2; omega
  rcases T.2.2.2.2.2.2.1 with g | ⟨g0, id, ln, wn, ck, g1, g2, g3, g4, g4', g5, g6, g7, g8, g9, g10⟩
  · have z0 := g 0 (by decide)
    have z1 := g 1 (by decide)
    have z2 := g 2 (by decide)
    have z3 := g 3 (by decide)
    have z4 := g 4 (by decide)
    have z5 := g 5 (by decide)
    have ck : bx_cok S s := by
      unfold bx_cok
      rw [z0, z1, z2]
      exact ⟨Nat.zero_le _, rfl, rfl, fun w => absurd rfl w, hlen⟩
    refine ⟨ck, ?_⟩
    unfold bz_sa bz_sk
    rw [z3, z4, z5, z1, z0, z2]
    refine ⟨rfl, fun _ => ⟨ck, ba_rg_0 sm, ?_, fun w => absurd rfl w, hr⟩⟩
    rw [if_pos rfl]
    exact ba_rg_0 sm
  · obtain ⟨hnl, hkn⟩ := bv_T.cp T hW o (Or.inl g0)
    have hid := sm _ g2
    have hid : 0 < id ∧ id < 2147483648 := hid
    have hln := RG.ln _ g2
    have hln : ln ≤ ba_n (bz_W S) := hln
    have n6 := hW.1
    have t1 : (bs_g (bz_T S s) 1).toNatClampNeg = id := by rw [g1, bn_nat hid.2]
    have t2 : (bs_g (bz_T S s) 2).toNatClampNeg = ln := by rw [g3, bn_nat (by omega)]
    have ck' : bx_cok S s := by
      unfold bx_cok
      rw [t1, t2]
      refine ⟨hln, g3.symm, g1.symm, fun w => ?_, hlen⟩
      rcases g5 with ⟨g5, -⟩ | ⟨-, -, g5, -⟩
      · exact absurd g5 w
      · exact ⟨hkn, hnl.symm, g5⟩
    refine ⟨ck', ?_⟩
    unfold bz_sa
    refine ⟨?_, fun _ => ?_⟩
    · rw [g6, g8, g10, show (4 : Int32) = Int32.ofNat 4 from rfl, bn_mul, bn_le (by omega) (by omega), bn_le (by omega) (by omega)]
      refine propext ⟨fun w => ?_, fun w => ?_⟩ <;> omega
    · unfold bz_sk
      rw [t2]
      refine ⟨ck', by rw [g1]; exact ba_rg_mem RG.1 sm g2, ?_, (RG.2.2 _ g2).2.2.2, hr⟩
      rcases g5 with ⟨g5, -⟩ | ⟨g5, g5', -, -⟩
      · rw [g5, if_pos rfl]
        exact ba_rg_0 sm
      · rw [if_neg g5, g5']
        have hne : bs_sn (bz_T S s) ≠ [] := fun w => by
          apply g5
          rw [g5']
          unfold bs_latest
          rw [w]
          rfl
        exact ba_rg_mem RG.1 sm (p := (bs_latest (bz_T S s), bs_line (bz_T S s))) (T.1.1 _ (bv_last hne))
/-- what is staged is committed -/
theorem bz_V.commit (V : bz_V S M C) (hs : s < 8) (hN : s % 4 < bz_N S) (h1 : bs_g (bz_T S s) 1 ≠ 0) (h3 : bs_g (bz_T S s) 3 ≤ bs_g (bz_T S s) 5) : bz_V (bx_commit S s) M C := by
  have T := V.T hs
  have hW := V.I.W
  have o := V.I.o hs
  have RG := V.R (g := s % 4) (by omega)
  have sm := V.sm (g := s % 4) (by omega)
  have snm := V.snsm hs
  rcases T.2.2.2.2.2.2.1 with g | ⟨g0, id, ln, wn, ck, g1, g2, g3, g4, g4', g5, g6, g7, g8, g9, g10⟩
  · exact absurd (g 1 (by decide)) h1
  · obtain ⟨hnl, hkn⟩ := bv_T.cp T hW o (Or.inl g0)
    have hid := sm _ g2
    have hid : 0 < id ∧ id < 2147483648 := hid
    have hln := RG.ln _ g2
    have hln : ln ≤ ba_n (bz_W S) := hln
    have n6 := hW.1
    have t1 : (bs_g (bz_T S s) 1).toNatClampNeg = id := by rw [g1, bn_nat hid.2]
    have t2 : (bs_g (bz_T S s) 2).toNatClampNeg = ln := by rw [g3, bn_nat (by omega)]
    have hwn : wn ≤ min (4 * ck) wn := by
      rw [g6, g10] at h3
      exact (bn_le (by omega) (by omega)).mp h3
    have hit : bs_it (bz_T S s) = min (4 * ck) wn := by
      unfold bs_it
      rw [g10, bn_nat (by omega)]
    unfold bx_commit
    rw [t1, t2]
    generalize ba_no (bz_W S) [] (ba_l (bz_W S) ln - (if bs_g (bz_T S s) 0 = 0 then 0 else ba_l (bz_W S) (bs_line (bz_T S s)))) ln + 1 = A
    have V1 := V.acts A (s / 4)
    by_cases c1 : (bx_acts A S (s / 4)).2 = true
    · rw [if_pos c1]
      have eT : bz_T (bx_acts A S (s / 4)).1 = bz_T S := by rw [bx_acts_T]
      have eW : bz_W (bx_acts A S (s / 4)).1 = bz_W S := by rw [bx_acts_W]
      have hN1 : s % 4 < bz_N (bx_acts A S (s / 4)).1 := by rw [bx_acts_N]; exact hN
      have T1 := V1.T hs
      have RG1 := V1.R (g := s % 4) (by omega)
      have hk1 := V1.I.kp.2.2
      generalize hS1 : (bx_acts A S (s / 4)).1 = S1 at *
      rw [eT, eW] at T1
      -- the store with what it adopts
      have key : ∀ l : List (Nat × Nat), l.Sublist (bs_sn (bz_T S s)) → bs_ok (bz_W S) (bs_ss (bs_sl (bz_T S s) (ln, ln, ln)) (l ++ [(id, ln)])) → bs_need (bz_W S) (bs_ss (bs_sl (bz_T S s) (ln, ln, ln)) (l ++ [(id, ln)])) ≤ bs_need (bz_W S) (bz_T S s) + wn → bz_V (bx_thin (bz_sT S1 s (bs_clr (bs_ss (bs_sl (bz_T S s) (ln, ln, ln)) (l ++ [(id, ln)])))) s) M C := by
        intro l hl o2 hu
        obtain ⟨⟨a1, a2, a3⟩, ⟨b1, b2, b3⟩, ⟨q1, q2, q3, q4⟩, d, e, ⟨f1, f2, f3⟩, -, i, j⟩ := T1
        have gR : (id, ln) ∈ bz_R S1 (s % 4) := by
          have : bz_R S1 = bz_R S := by
            rw [← hS1]
            exact (bx_li.acts s S A (s / 4)).R
          rw [this]
          exact g2
        have nsrc : ¬ bs_src (bz_T S s) = true := bs_src_no (Or.inl g0)
        have hlast : bs_line (bs_clr (bs_ss (bs_sl (bz_T S s) (ln, ln, ln)) (l ++ [(id, ln)]))) = ln := by
          show ((l ++ [(id, ln)]).getD ((l ++ [(id, ln)]).length - 1) (0, 0)).2 = ln
          rw [List.length_append, List.length_singleton, Nat.add_sub_cancel, bk_gb]
        have sm2 : bv_sm (l ++ [(id, ln)]) := fun q hq => by
          rcases List.mem_append.mp hq with w | w
          · exact snm q (hl.mem w)
          · rw [List.mem_singleton] at w
            subst w
            exact hid
        have h15 : bs_c (bz_T S s) 15 = 0 := by
          by_cases w : bs_c (bz_T S s) 15 = 0
          · exact w
          · exact absurd (f2 w).1 nsrc
        have T2 : bv_Tn 9 (bz_W S) (bz_R S1 (s % 4)) (bz_win S1) (bs_ep (bz_T S ((s + 4) % 8))) M s (bs_clr (bs_ss (bs_sl (bz_T S s) (ln, ln, ln)) (l ++ [(id, ln)]))) := by
          refine ⟨⟨fun q hq => ?_, ?_, ?_⟩, ⟨b1, b2, fun q hq => ?_⟩, ⟨q1, fun _ => hlast.symm, fun w => ?_, fun w => absurd w nsrc⟩, d, fun w => absurd w nsrc, ⟨Or.inl h15, fun w => absurd h15 w, fun w => ?_⟩, Or.inl (bs_clr_g _), i, ?_, (RG.2.2 _ g2).2.2.2⟩
          · rcases List.mem_append.mp hq with w | w
            · exact a1 q (hl.mem w)
            · rw [List.mem_singleton] at w
              subst w
              exact gR
          · refine List.pairwise_append.mpr ⟨List.Pairwise.sublist hl a2, by simp, fun a ha b hb => ?_⟩
            rw [List.mem_singleton] at hb
            subst hb
            exact Nat.lt_of_le_of_lt (bv_max a2 (hl.mem ha)) g4
          · show (l ++ [(id, ln)]).length ≤ 9
            rw [List.length_append, List.length_singleton]
            have := hl.length_le
            omega
          · rcases List.mem_append.mp hq with w | w
            · exact b3 q (hl.mem w)
            · rw [List.mem_singleton] at w
              subst w
              exact g4'
          · have w : bs_c (bz_T S s) 6 = 3 := w
            rw [g0] at w
            exact absurd w (by decide)
          · have w : bs_c (bz_T S s) 15 = 2 := w
            rw [h15] at w
            exact absurd w (by decide)
          · show ba_l _ ln - ba_l _ ln ≤ 64
            rw [Nat.sub_self]
            exact Nat.zero_le _
        have o3 : bs_ok (bz_W S) (bs_clr (bs_ss (bs_sl (bz_T S s) (ln, ln, ln)) (l ++ [(id, ln)]))) := o2.of rfl rfl
        have V3 := V1.sT hs hN1 (t := bs_thin (bz_keep S1) (bs_clr (bs_ss (bs_sl (bz_T S s) (ln, ln, ln)) (l ++ [(id, ln)])))) (by rw [eW]; exact bs_thin_ok _ o3) (by rw [eT]; rfl) (by rw [eT]; exact Or.inr ⟨rfl, Nat.le_refl _⟩) (by
          rw [eT, eW]
          unfold bs_use
          have h5 := bs_need_thin hW o3 (bz_keep S1)
          have h6 : bs_need (bz_W S) (bs_clr (bs_ss (bs_sl (bz_T S s) (ln, ln, ln)) (l ++ [(id, ln)]))) = bs_need (bz_W S) (bs_ss (bs_sl (bz_T S s) (ln, ln, ln)) (l ++ [(id, ln)])) := rfl
          have h7 : bs_it (bs_thin (bz_keep S1) (bs_clr (bs_ss (bs_sl (bz_T S s) (ln, ln, ln)) (l ++ [(id, ln)])))) = 0 := rfl
          omega) (by rw [eT, eW]; exact bv_Tn.thin T2 hk1 sm2)
        have e9 : bx_thin (bz_sT S1 s (bs_clr (bs_ss (bs_sl (bz_T S s) (ln, ln, ln)) (l ++ [(id, ln)])))) s = bz_sT S1 s (bs_thin (bz_keep S1) (bs_clr (bs_ss (bs_sl (bz_T S s) (ln, ln, ln)) (l ++ [(id, ln)])))) := by
          unfold bx_thin
          rw [bz_T_same, bz_sT_sT]
          rfl
        rw [e9]
        exact V3
      refine bz_V.tell (k := 5) ?_ hs ?_ (by omega) _
      rotate_left
      · exact hN1
      rcases g5 with ⟨g5, g5'⟩ | ⟨g5, -, g5', g5''⟩
      · rw [if_pos g5]
        refine key [] (List.nil_sublist _) (o.adopt hW hln (Or.inl rfl) (by simp)) ?_
        show bs_need (bz_W S) (bs_ss (bs_sl (bz_T S s) (ln, ln, ln)) [(id, ln)]) ≤ _
        rw [bs_use_adopt0 hW, ← g5']
        omega
      · rw [if_neg g5]
        refine key _ (List.Sublist.refl _) (o.adopt hW hln (Or.inr ⟨rfl, g5'⟩) (by have := T.1.2.2; omega)) ?_
        rw [bs_use_adopt hW o hnl g5', ← g5'']
        exact Nat.le_refl _
    · rw [if_neg c1]
      exact V1
theorem bz_V.staged (V : bz_V S M C) (hs : s < 8) (hN : s % 4 < bz_N S) (h1 : bs_g (bz_T S s) 1 ≠ 0) {k : Nat} (hk : k = 2 ∨ k = 4) : bz_V (bx_staged S s (Int32.ofNat k)) M C := by
  unfold bx_staged
  split
  · rename_i c
    exact V.commit hs hN h1 c
  · exact V.prog hs hN hk
end NN
