/-! what holds is kept: offers and pieces received, what is sent on -/
section NO
variable {S S' : ba_S} {W W' : ba_W} {M M' C s : Nat} {t : ba_T}
theorem bv_T.g5 {R : List (Nat × Nat)} {win eo n : Nat} (T : bv_Tn n W R win eo M s t) : bs_g t 5 = Int32.ofNat (bs_it t) := by
  unfold bs_it
  rcases T.2.2.2.2.2.2.1 with g | ⟨-, id, ln, wn, ck, -, -, -, -, -, -, -, g7, -, g9, g10⟩
  · rw [g 5 (by decide)]
    rfl
  · rw [g10, bn_nat (by omega)]
theorem bs_ini_use (hW : ba_ok W) (h : bs_ini s t) : bs_use W t = 0 := by
  obtain ⟨-, h2, h3⟩ := h
  have e5 : bs_it t = 0 := by
    unfold bs_it
    rw [h2 5 (by decide)]
    rfl
  have e1 : bs_need W t = 0 := by
    unfold bs_need bs_an
    have a1 : bs_sn t = [] := by show t.2.2.2.1 = []; rw [h3]
    have a2 : bs_kept t = 0 := by show t.2.2.1.2.2 = 0; rw [h3]
    have a3 : bs_now t = 0 := by show t.2.2.1.1 = 0; rw [h3]
    rw [a1, a2, a3]
    show ba_pl W (ba_l W 0) (ba_l W 0 - ba_l W 0) 0 + (ba_pl W (ba_l W 0) (ba_l W 0 - ba_l W 0) 0 + 0) = 0
    rw [Nat.sub_self]
    rfl
  unfold bs_use
  omega
/-- what is free -/
theorem bz_V.free (V : bz_V S M C) {i : Nat} (hi : i < 2) : bx_free S i = Int32.ofNat (bz_pool S - bz_use S i) := by
  have hp := V.p hi
  have hW := V.I.W
  have u : ∀ g, g < 4 → (if g < bz_N S then Int32.ofNat (bs_need (bz_W S) (bz_T S (4 * i + g))) + bs_g (bz_T S (4 * i + g)) 5 else 0) = Int32.ofNat (bs_use (bz_W S) (bz_T S (4 * i + g))) := fun g hg => by
    by_cases c : g < bz_N S
    · rw [if_pos c, bv_T.g5 (V.T (s := 4 * i + g) (by omega)), bn_add]
      rfl
    · rw [if_neg c, bs_ini_use hW (V.ini (s := 4 * i + g) (by omega) (by omega))]
      rfl
  have step : ∀ g x, g < 4 → bx_fr S i g = Int32.ofNat x → bs_use (bz_W S) (bz_T S (4 * i + g)) ≤ x → bx_fr S i (g + 1) = Int32.ofNat (x - bs_use (bz_W S) (bz_T S (4 * i + g))) := fun g x hg hx hl => by
    have h1 := u g hg
    show (if g < bz_N S then bx_fr S i g - (Int32.ofNat (bs_need (bz_W S) (bz_T S (4 * i + g))) + bs_g (bz_T S (4 * i + g)) 5) else bx_fr S i g) = _
    by_cases c : g < bz_N S
    · rw [if_pos c] at h1 ⊢
      rw [h1, hx, bn_sub hl]
    · rw [if_neg c, hx, bs_ini_use hW (V.ini (s := 4 * i + g) (by omega) (by omega))]
      rfl
  unfold bz_use at hp ⊢
  have h0 : bx_fr S i 0 = Int32.ofNat (bz_pool S) := V.I.pl.1
  have h1 := step 0 _ (by decide) h0 (by show bs_use _ (bz_T S (4 * i)) ≤ _; omega)
  have h2 := step 1 _ (by decide) h1 (by show bs_use _ (bz_T S (4 * i + 1)) ≤ _ - bs_use _ (bz_T S (4 * i)); omega)
  have h3 := step 2 _ (by decide) h2 (by show bs_use _ (bz_T S (4 * i + 2)) ≤ _ - bs_use _ (bz_T S (4 * i)) - bs_use _ (bz_T S (4 * i + 1)); omega)
  have h4 := step 3 _ (by decide) h3 (by show bs_use _ (bz_T S (4 * i + 3)) ≤ _ - bs_use _ (bz_T S (4 * i)) - bs_use _ (bz_T S (4 * i + 1)) - bs_use _ (bz_T S (4 * i + 2)); omega)
  show bx_fr S i 4 = _
  rw [h4]
  show Int32.ofNat (bz_pool S - bs_use _ (bz_T S (4 * i)) - bs_use _ (bz_T S (4 * i + 1)) - bs_use _ (bz_T S (4 * i + 2)) - bs_use _ (bz_T S (4 * i + 3))) = _
  congr 1
  omega
/-- an offer or a piece, as of the store that receives it -/
def bv_of (S : ba_S) (s : Nat) (m : ba_G) (bi ln wn al : Nat) : Prop := m.1 4 = Int32.ofNat bi ∧ (bi, ln) ∈ bz_R S (s % 4) ∧ (m.1 3 = 0 ∧ al = 0 ∨ ∃ ai, m.1 3 = Int32.ofNat ai ∧ (ai, al) ∈ bz_R S (s % 4)) ∧ ba_anc (bz_W S) al ln ∧ wn = ba_pl (bz_W S) (ba_l (bz_W S) al) (ba_l (bz_W S) ln - ba_l (bz_W S) al) ln ∧ wn ≤ 8192
/-- the line of its base is the latest's -/
theorem bz_V.base (V : bz_V S M C) (hs : s < 8) {m : ba_G} {bi ln wn al : Nat} (h : bv_of S s m bi ln wn al) (h3 : m.1 3 = 0 ∨ m.1 3 = Int32.ofNat (bs_latest (bz_T S s))) : m.1 3 = 0 ∧ al = 0 ∨ m.1 3 ≠ 0 ∧ m.1 3 = Int32.ofNat (bs_latest (bz_T S s)) ∧ al = bs_line (bz_T S s) := by
  have sm := V.sm (g := s % 4) (by omega)
  rcases h.2.2.1 with w | ⟨ai, w1, w2⟩
  · exact Or.inl w
  · have hai := sm _ w2
    have hai : 0 < ai ∧ ai < 2147483648 := hai
    have n0 : m.1 3 ≠ 0 := by
      rw [w1]
      exact bv_ne0 sm _ w2
    have h3' := h3.resolve_left n0
    refine Or.inr ⟨n0, h3', ?_⟩
    have hne : bs_sn (bz_T S s) ≠ [] := fun w => by
      apply n0
      rw [h3']
      unfold bs_latest
      rw [w]
      rfl
    have hla := bv_last hne
    have hlR := (V.T hs).1.1 _ hla
    have hll := (V.snsm hs _ hla).2
    have e1 : ai = bs_latest (bz_T S s) := (bn_eq hai.2 hll).mp (w1.symm.trans h3')
    have e2 := bv_key (V.R (g := s % 4) (by omega)).1 w2 hlR e1
    exact congrArg Prod.snd e2
/-- an offer is staged -/
theorem bz_V.stage (V : bz_V S M C) (hs : s < 8) (hN : s % 4 < bz_N S) {m : ba_G} {bi ln wn al : Nat} (h : bv_of S s m bi ln wn al) (hb : bi / 4096 ≤ bs_ep (bz_T S s)) (h5 : m.1 5 = Int32.ofNat wn) (h7 : m.1 7 = Int32.ofNat ln) (h6 : bs_c (bz_T S s) 6 = 0) (h3 : m.1 3 = 0 ∨ m.1 3 = Int32.ofNat (bs_latest (bz_T S s))) (h4 : Int32.ofNat (bs_latest (bz_T S s)) < m.1 4) : bz_V (bz_sT (bx_act S (s / 4)) s (bs_stage (bz_T S s) m)) M C := by
  have V1 := V.act (s / 4)
  have eT : bz_T (bx_act S (s / 4)) = bz_T S := bx_act_T _ _
  have eW : bz_W (bx_act S (s / 4)) = bz_W S := bx_act_W _ _
  have hN1 : s % 4 < bz_N (bx_act S (s / 4)) := by rw [bx_act_N]; exact hN
  have eR : bz_R (bx_act S (s / 4)) = bz_R S := by
    obtain ⟨f, ef⟩ := bx_act_in S (s / 4)
    rw [ef]
    rfl
  have T := V1.T hs
  rw [eT, eW, eR] at T
  have hW := V.I.W
  have sm := V.sm (g := s % 4) (by omega)
  have hbase := V.base hs h h3
  obtain ⟨g1, g2, -, g4, g5, g6⟩ := h
  have hbi : 0 < bi ∧ bi < 2147483648 := sm _ g2
  have hlat : bs_latest (bz_T S s) < 2147483648 := by
    by_cases c : bs_sn (bz_T S s) = []
    · unfold bs_latest
      rw [c]
      decide
    · exact (V.snsm hs _ (bv_last c)).2
  have hlt : bs_latest (bz_T S s) < bi := by
    rw [g1] at h4
    exact (bn_lt hlat hbi.2).mp h4
  refine V1.sT hs hN1 (by rw [eW]; exact (V.I.o hs).of rfl rfl) (by rw [eT]; rfl) (by rw [eT]; exact Or.inr ⟨rfl, Nat.le_refl _⟩) ?_ ?_
  · rw [eT, eW]
    show bs_need (bz_W S) (bz_T S s) + 0 ≤ _
    exact Nat.add_le_add_left (Nat.zero_le _) _
  · rw [eT, eW, eR]
    obtain ⟨a, b, c, d, e, f, -, i, j⟩ := T
    refine ⟨a, b, c, d, e, f, Or.inr ⟨h6, bi, ln, wn, 0, g1, g2, h7, hlt, hb, ?_, h5, g6, rfl, Nat.zero_le _, ?_⟩, i, j⟩
    · rcases hbase with ⟨w1, w2⟩ | ⟨w1, w2, w3⟩
      · refine Or.inl ⟨w1, ?_⟩
        rw [g5, w2, ba_l0 hW, Nat.sub_zero]
      · refine Or.inr ⟨w1, w2, ?_, ?_⟩
        · rw [w3] at g4
          exact g4
        · rw [w3] at g5
          exact g5
    · rw [Nat.mul_zero, Nat.zero_min]
      rfl
theorem bz_V.onOffer (V : bz_V S M C) (hs : s < 8) (hN : s % 4 < bz_N S) {m : ba_G} {bi ln wn al : Nat} (h : bv_of S s m bi ln wn al) (hb : bi / 4096 ≤ bs_ep (bz_T S s)) (h5 : m.1 5 = Int32.ofNat wn) (h7 : m.1 7 = Int32.ofNat ln) : bz_V (bx_onOffer S s m) M C := by
  unfold bx_onOffer
  by_cases c0 : bs_c (bz_T S s) 6 ≠ 0 ∨ m.1 4 < Int32.ofNat (bs_latest (bz_T S s))
  · rw [if_pos c0]
    exact V
  · rw [if_neg c0]
    have c6 : bs_c (bz_T S s) 6 = 0 := Decidable.byContradiction (fun w => c0 (Or.inl w))
    by_cases c1 : m.1 4 = Int32.ofNat (bs_latest (bz_T S s))
    · rw [if_pos c1]
      exact V.tell hs hN (k := 5) (by omega) _
    · rw [if_neg c1]
      by_cases c2 : m.1 3 ≠ 0 ∧ m.1 3 ≠ Int32.ofNat (bs_latest (bz_T S s))
      · rw [if_pos c2]
        exact V.tell hs hN (k := 6) (by omega) _
      · rw [if_neg c2]
        have h3 : m.1 3 = 0 ∨ m.1 3 = Int32.ofNat (bs_latest (bz_T S s)) := Decidable.byContradiction (fun w => c2 ⟨fun u => w (Or.inl u), fun u => w (Or.inr u)⟩)
        have h4 : Int32.ofNat (bs_latest (bz_T S s)) < m.1 4 := by
          have w := Int32.not_lt.mp (fun w => c0 (Or.inr w))
          rcases Int32.lt_or_eq_of_le w with w | w
          · exact w
          · exact absurd w.symm c1
        by_cases c3 : bs_just (bz_T S s) m = true
        · rw [if_pos c3]
          refine V.staged hs hN ?_ (k := 2) (by omega)
          unfold bs_just at c3
          simp only [Bool.and_eq_true, decide_eq_true_eq] at c3
          exact c3.1.1
        · rw [if_neg c3]
          by_cases c4 : bz_I S (s / 4) 3 = 0
          · rw [if_pos c4]
            exact V.act _
          · rw [if_neg c4]
            refine (V.stage hs hN h hb h5 h7 c6 h3 h4).staged hs (by show s % 4 < bz_N (bx_act S (s / 4)); rw [bx_act_N]; exact hN) ?_ (k := 2) (by omega)
            rw [bz_T_same]
            show m.1 4 ≠ 0
            rw [h.1]
            exact bv_ne0 (V.sm (g := s % 4) (by omega)) _ h.2.1
/-- a piece fits what is staged -/
theorem bz_V.fits (V : bz_V S M C) (hs : s < 8) {m : ba_G} {bi ln wn al : Nat} (h : bv_of S s m bi ln wn al) (hj : bs_just (bz_T S s) m = true) : ∃ ck, bs_c (bz_T S s) 6 = 0 ∧ bs_g (bz_T S s) 3 = Int32.ofNat wn ∧ bs_g (bz_T S s) 4 = Int32.ofNat ck ∧ ck ≤ 2100 ∧ bs_g (bz_T S s) 5 = Int32.ofNat (min (4 * ck) wn) ∧ wn ≤ 8192 := by
  unfold bs_just at hj
  simp only [Bool.and_eq_true, decide_eq_true_eq] at hj
  obtain ⟨⟨j1, j2⟩, j3⟩ := hj
  have sm := V.sm (g := s % 4) (by omega)
  have RG := V.R (g := s % 4) (by omega)
  rcases (V.T hs).2.2.2.2.2.2.1 with g | ⟨g0, id, ln', wn', ck, g1, g2, g3, g4, g4', g5, g6, g7, g8, g9, g10⟩
  · exact absurd (g 1 (by decide)) j1
  · have e1 : id = bi := (bn_eq (sm _ g2).2 (sm _ h.2.1).2).mp (g1.symm.trans (j3.trans h.1))
    have e2 : ln' = ln := congrArg Prod.snd (bv_key RG.1 g2 h.2.1 e1)
    have hb := V.base hs h (by
      rw [← j2]
      rcases g5 with ⟨g5, -⟩ | ⟨-, g5, -⟩
      · exact Or.inl g5
      · exact Or.inr g5)
    have e3 : wn' = wn := by
      rcases g5 with ⟨w1, w2⟩ | ⟨w1, w2, w3, w4⟩
      · rcases hb with ⟨-, u⟩ | ⟨u, -⟩
        · rw [w2, h.2.2.2.2.1, u, e2, ba_l0 V.I.W, Nat.sub_zero]
        · exact absurd (j2.symm.trans w1) u
      · rcases hb with ⟨u, -⟩ | ⟨-, -, u⟩
        · exact absurd (j2.trans u) w1
        · rw [w4, h.2.2.2.2.1, u, e2]
    subst e3
    exact ⟨ck, g0, g6, g8, g9, g10, g7⟩
/-- a piece is taken -/
theorem bz_V.piece (V : bz_V S M C) (hs : s < 8) (hN : s % 4 < bz_N S) {m : ba_G} {bi ln wn al ch n : Nat} (h : bv_of S s m bi ln wn al) (hj : bs_just (bz_T S s) m = true) (h5 : m.1 5 = Int32.ofNat ch) (hch : 4 * ch < wn) (hn : n = min 4 (wn - 4 * ch)) (hc : bs_g (bz_T S s) 4 = m.1 5) (hf : ¬ bx_free S (s / 4) < Int32.ofNat n) : bz_V (bz_sT (bx_act S (s / 4)) s (bs_sg (bs_sg (bz_T S s) 4 (bs_g (bz_T S s) 4 + 1)) 5 (bs_g (bz_T S s) 5 + Int32.ofNat n))) M C := by
  have V1 := V.act (s / 4)
  have hs4 : s / 4 < 2 := by omega
  have eT : bz_T (bx_act S (s / 4)) = bz_T S := bx_act_T _ _
  have eW : bz_W (bx_act S (s / 4)) = bz_W S := bx_act_W _ _
  have hN1 : s % 4 < bz_N (bx_act S (s / 4)) := by rw [bx_act_N]; exact hN
  obtain ⟨ck, f0, f3, f4, f4', f5, f6⟩ := V.fits hs h hj
  have eck : ck = ch := (bn_eq (by omega) (by omega)).mp (f4.symm.trans (hc.trans h5))
  subst eck
  have e4 : bs_g (bz_T S s) 4 + 1 = Int32.ofNat (ck + 1) := by
    rw [f4]
    exact bn_one _
  have e5 : bs_g (bz_T S s) 5 + Int32.ofNat n = Int32.ofNat (min (4 * (ck + 1)) wn) := by
    rw [f5, bn_add]
    congr 1
    omega
  have hfr := V.free hs4
  rw [hfr, bn_lt (by have := V.I.pl.2; omega) (by omega)] at hf
  have hp := V.p hs4
  have hit : bs_it (bz_T S s) = min (4 * ck) wn := by
    unfold bs_it
    rw [f5, bn_nat (by omega)]
  have hit2 : bs_it (bs_sg (bs_sg (bz_T S s) 4 (bs_g (bz_T S s) 4 + 1)) 5 (bs_g (bz_T S s) 5 + Int32.ofNat n)) = min (4 * (ck + 1)) wn := by
    show (bs_g (bz_T S s) 5 + Int32.ofNat n).toNatClampNeg = _
    rw [e5, bn_nat (by omega)]
  have T := V1.T hs
  rw [eT, eW] at T
  have o := V.I.o hs
  -- as in bz_V.sT, but the room is counted anew
  have hlx : bv_lex (bz_T (bx_act S (s / 4)) s) (bs_sg (bs_sg (bz_T S s) 4 (bs_g (bz_T S s) 4 + 1)) 5 (bs_g (bz_T S s) 5 + Int32.ofNat n)) := by
    rw [eT]
    exact Or.inr ⟨rfl, Nat.le_refl _⟩
  have T2 : bv_T (bz_W (bx_act S (s / 4))) (bz_R (bx_act S (s / 4)) (s % 4)) (bz_win (bx_act S (s / 4))) (bs_ep (bz_T (bx_act S (s / 4)) ((s + 4) % 8))) M s (bs_sg (bs_sg (bz_T S s) 4 (bs_g (bz_T S s) 4 + 1)) 5 (bs_g (bz_T S s) 5 + Int32.ofNat n)) := by
    rw [eT, eW]
    obtain ⟨a, b, c, d, e, f, g, i, j⟩ := T
    rcases g with g | ⟨g0, id, ln', wn', ck', g1, g2, g3, g4, g4', g5, g6, g7, g8, g9, g10⟩
    · unfold bs_just at hj
      simp only [Bool.and_eq_true, decide_eq_true_eq] at hj
      exact absurd (g 1 (by decide)) hj.1.1
    · have ew : wn' = wn := (bn_eq (by omega) (by omega)).mp (g6.symm.trans f3)
      subst ew
      exact ⟨a, b, c, d, e, f, Or.inr ⟨g0, id, ln', wn', ck + 1, g1, g2, g3, g4, g4', g5, g6, g7, e4, by omega, e5⟩, i, j⟩
  have V1' := V1
  obtain ⟨q1, q2, q3, q4, q5, q6, q7, q8, q9⟩ := V1'
  have hW1 := V1.I.W
  refine ⟨V1.I.sT (by rw [eW]; exact o.of rfl rfl) (by rw [eT]; rfl), q2, q3, fun g hg => (V1.R hg).sT hg hlx, fun x hx => ?_, fun i hi => ?_, fun m hm => (V1.m hm).le hW1 (fun g hg => (V1.R hg).ln) (bv_le.sT hlx) (Nat.le_refl _), fun x hx hn => ?_, q9⟩
  · by_cases c : x = s
    · subst c
      rw [bz_T_same, bz_T_ne _ _ (show (x + 4) % 8 ≠ x by omega)]
      exact T2
    · rw [bz_T_ne _ _ c]
      exact (V1.T hx).le hW1 (V1.I.o hx) (V1.R (by omega)).ln (ba_ext_rf _) (fun _ h => h) ((bv_le.sT hlx).ep (by omega)) (Nat.le_refl _)
  · have epool : bz_pool (bz_sT (bx_act S (s / 4)) s (bs_sg (bs_sg (bz_T S s) 4 (bs_g (bz_T S s) 4 + 1)) 5 (bs_g (bz_T S s) 5 + Int32.ofNat n))) = bz_pool S := by
      show (bz_G (bx_act S (s / 4)) 0).toNatClampNeg = _
      rw [bx_act_G]
      rfl
    rw [epool]
    have key : ∀ x, bs_use (bz_W S) (bz_T (bz_sT (bx_act S (s / 4)) s (bs_sg (bs_sg (bz_T S s) 4 (bs_g (bz_T S s) 4 + 1)) 5 (bs_g (bz_T S s) 5 + Int32.ofNat n))) x) = bs_use (bz_W S) (bz_T S x) + (if x = s then min (4 * (ck + 1)) wn - min (4 * ck) wn else 0) := fun x => by
      by_cases c : x = s
      · rw [c, bz_T_same, if_pos rfl]
        unfold bs_use
        rw [hit2, hit]
        show bs_need (bz_W S) (bz_T S s) + _ = _
        omega
      · rw [bz_T_ne _ _ c, if_neg c, eT, Nat.add_zero]
    have k0 := key (4 * i)
    have k1 := key (4 * i + 1)
    have k2 := key (4 * i + 2)
    have k3 := key (4 * i + 3)
    have hpi := V.p hi
    unfold bz_use at hp hpi hf ⊢
    rw [show bz_W (bz_sT (bx_act S (s / 4)) s (bs_sg (bs_sg (bz_T S s) 4 (bs_g (bz_T S s) 4 + 1)) 5 (bs_g (bz_T S s) 5 + Int32.ofNat n))) = bz_W S from eW, k0, k1, k2, k3]
    by_cases c : i = s / 4
    · subst c
      have : s = 4 * (s / 4) ∨ s = 4 * (s / 4) + 1 ∨ s = 4 * (s / 4) + 2 ∨ s = 4 * (s / 4) + 3 := by omega
      rcases this with e | e | e | e
      · rw [if_pos e.symm, if_neg (by omega), if_neg (by omega), if_neg (by omega)]
        omega
      · rw [if_neg (by omega), if_pos e.symm, if_neg (by omega), if_neg (by omega)]
        omega
      · rw [if_neg (by omega), if_neg (by omega), if_pos e.symm, if_neg (by omega)]
        omega
      · rw [if_neg (by omega), if_neg (by omega), if_neg (by omega), if_pos e.symm]
        omega
    · rw [if_neg (by omega), if_neg (by omega), if_neg (by omega), if_neg (by omega)]
      omega
  · rw [bz_T_ne _ _ (fun e => by
      rw [e] at hn
      have hn : bz_N (bx_act S (s / 4)) ≤ s % 4 := hn
      omega)]
    exact q8 x hx hn
theorem bz_V.onData (V : bz_V S M C) (hs : s < 8) (hN : s % 4 < bz_N S) {m : ba_G} {bi ln wn al ch n : Nat} (h : bv_of S s m bi ln wn al) (h5 : m.1 5 = Int32.ofNat ch) (hch : 4 * ch < wn) (hn : n = min 4 (wn - 4 * ch)) (h2 : m.2.length = 3 * n) : bz_V (bx_onData S s m) M C := by
  have e3 : m.2.length / 3 = n := by omega
  unfold bx_onData
  rw [e3]
  by_cases c0 : bs_c (bz_T S s) 6 ≠ 0 ∨ bs_just (bz_T S s) m = false
  · rw [if_pos c0]
    exact V
  · rw [if_neg c0]
    have hj : bs_just (bz_T S s) m = true := by
      cases w : bs_just (bz_T S s) m
      · exact absurd (Or.inr w) c0
      · rfl
    have hj1 : bs_g (bz_T S s) 1 ≠ 0 := by
      have w := hj
      unfold bs_just at w
      simp only [Bool.and_eq_true, decide_eq_true_eq] at w
      exact w.1.1
    by_cases c1 : m.1 5 < bs_g (bz_T S s) 4 ∨ bs_g (bz_T S s) 3 ≤ bs_g (bz_T S s) 5
    · rw [if_pos c1]
      exact V.prog hs hN (k := 4) (by omega)
    · rw [if_neg c1]
      by_cases c2 : bs_g (bz_T S s) 4 < m.1 5
      · rw [if_pos c2]
        exact V
      · rw [if_neg c2]
        by_cases c3 : bx_free S (s / 4) < Int32.ofNat n
        · rw [if_pos c3]
          refine V.sT hs hN ((V.I.o hs).of rfl rfl) rfl (Or.inr ⟨rfl, Nat.le_refl _⟩) (Nat.le_refl _) ?_
          obtain ⟨a, b, c, d, e, f, g, i, j⟩ := V.T hs
          refine ⟨a, b, c, d, e, f, ?_, i, j⟩
          rcases g with g | g
          · refine Or.inl (fun k hk => ?_)
            show ba_u (bs_g (bz_T S s)) 6 _ k = 0
            rw [ba_u_ne _ _ (by omega)]
            exact g k hk
          · exact Or.inr g
        · rw [if_neg c3]
          by_cases c4 : bz_I S (s / 4) 3 = 0
          · rw [if_pos c4]
            exact V.act _
          · rw [if_neg c4]
            have hc : bs_g (bz_T S s) 4 = m.1 5 := Int32.le_antisymm (Int32.not_lt.mp (fun w => c1 (Or.inl w))) (Int32.not_lt.mp c2)
            refine (V.piece hs hN h hj h5 hch hn hc c3).staged hs (by show s % 4 < bz_N (bx_act S (s / 4)); rw [bx_act_N]; exact hN) ?_ (k := 4) (by omega)
            rw [bz_T_same]
            exact hj1
end NO
