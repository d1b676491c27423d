/-! what the rules of messages and ticks want holds -/
section NR
variable {S S' : ba_S} {W W' : ba_W} {M M' C s : Nat} {t : ba_T}
theorem bv_k {m : ba_G} {k : Nat} (h : m.1 0 = Int32.ofNat k) (hk : k ≤ 11) {v : Nat} (hv : v ≤ 11) (e : m.1 0 = Int32.ofNat v) : k = v := (bn_eq (by omega) (by omega)).mp (h.symm.trans e)
theorem bz_V.pl14 (V : bz_V S M C) (hs : s < 8) (h1 : bs_src (bz_T S s) = true) (h2 : bs_c (bz_T S s) 10 ≠ 0) {v : Int32} (hv : v = 0 ∨ ba_fd v (bs_sn (bz_T S s)) 0 ≠ -1 ∧ v < bs_c (bz_T S s) 10) : (bv_id (bs_sn (bz_T S s)) v ∧ ∃ q ∈ bs_sn (bz_T S s), bs_c (bz_T S s) 10 = Int32.ofNat q.1 ∧ v < bs_c (bz_T S s) 10) ∧ ba_l (bz_W S) (ba_lo v (bs_sn (bz_T S s))) ≤ ba_l (bz_W S) (ba_lo (bs_c (bz_T S s) 10) (bs_sn (bz_T S s))) ∧ (bs_plan (bz_W S) (bs_sc (bz_T S s) 14 v)).length ≤ bz_pool S := by
  have T := V.T hs
  obtain ⟨e1, e2, e3⟩ := T.2.2.2.2.1 h1
  rcases e3 with e3 | ⟨q, hq, e4, e5, e6, e7⟩
  · exact absurd e3 h2
  · have hid : bv_id (bs_sn (bz_T S s)) v := by
      rcases hv with hv | ⟨hv, -⟩
      · exact Or.inl hv
      · obtain ⟨p, hp, ep⟩ := ba_fd_mem hv
        exact Or.inr ⟨p, hp, ep.symm⟩
    have hlt : v < bs_c (bz_T S s) 10 := by
      rcases hv with hv | ⟨-, hv⟩
      · rw [hv, e4]
        have := V.snsm hs q hq
        exact (bn_lt (a := 0) (by decide) this.2).mpr this.1
      · exact hv
    refine ⟨⟨hid, q, hq, e4, hlt⟩, ?_⟩
    rw [e4] at hlt
    obtain ⟨al, g1, g5, g6, g7, -, g8, g9⟩ := bv_plan V.I.W (V.I.o hs) T.1.2.1 (V.snsm hs) hq hid hlt
    unfold bs_plan
    show ba_l (bz_W S) (ba_lo v (bs_sn (bz_T S s))) ≤ ba_l (bz_W S) (ba_lo (bs_c (bz_T S s) 10) (bs_sn (bz_T S s))) ∧ (ba_sp (bz_W S) (ba_l (bz_W S) (ba_lo (bs_c (bz_T S s) 10) (bs_sn (bz_T S s))) - ba_l (bz_W S) (ba_lo v (bs_sn (bz_T S s)))) (ba_lo (bs_c (bz_T S s) 10) (bs_sn (bz_T S s)))).length ≤ bz_pool S
    rw [e4, g5, g6]
    exact ⟨g7.1, by rw [g8]; exact Nat.le_trans g9 (V.need hs)⟩
theorem bn_id {e k : Nat} (he : e ≤ 3900) (hk : k ≤ 4096) : Int32.ofNat (4096 * Int32.ofNat e + Int32.ofNat k).toNatClampNeg = 4096 * Int32.ofNat e + Int32.ofNat k := by
  rw [show (4096 : Int32) = Int32.ofNat 4096 from rfl, bn_mul, bn_add, bn_nat (by omega)]
theorem bz_V.hk (V : bz_V S M C) (hs : s < 8) (hN : s % 4 < bz_N S) {m : ba_G} (hm : bv_M S M m) (h1 : m.1 1 = Int32.ofNat ((s + 4) % 8)) : bx_hk S s m := by
  have T := V.T hs
  obtain ⟨e, k, n, k0, k1, k2, k3, k4, k5, k6, k7, k8, k9, k10⟩ := hm.at V.mx.1 hs h1
  have ck := (V.cok hs hN).1
  have hM := V.mx.1
  have pl : ∀ p, bs_sends (bz_T S s) m p = true → p ≠ 0 → ba_l (bz_W S) (ba_lo (bs_c (bz_T S s) 14) (bs_sn (bz_T S s))) ≤ ba_l (bz_W S) (ba_lo (bs_c (bz_T S s) 10) (bs_sn (bz_T S s))) ∧ (bs_plan (bz_W S) (bz_T S s)).length ≤ bz_pool S := fun p hp h0 => by
    obtain ⟨a1, a2, -, -⟩ := bs_sends_in hp
    exact V.pln hs (T.tg a1 (T.2.2.2.2.2.1.2.1 (by rw [a2]; exact h0)).2)
  refine ⟨⟨k, k1, k2, k0⟩, fun w h6 => ?_, fun w => ?_, fun w h => pl 1 h (by decide), fun w => ⟨by omega, fun h6 hj => ?_⟩, fun w => ⟨fun h => ?_, fun h => pl 2 h (by decide)⟩, fun w h6 h10 v hv => (V.pl14 hs h6 h10 hv).2, fun w h6 => ?_, fun w => ⟨V.snsm hs, n, k6, k5⟩, fun w h6 => V.span hs _⟩
  · have ek := bv_k k0 k2 (v := 1) (by omega) w
    obtain ⟨bi, ln, wn, al, a1, a2, a3, -⟩ := k7 (Or.inl ek)
    exact ⟨fun _ => ck, fun h3 => (V.stok hs hN a1 (a3 ek).2 h6 h3).1⟩
  · obtain ⟨c, a1, a2⟩ := k8 (by
      rcases w with w | w
      · exact Or.inl (bv_k k0 k2 (v := 2) (by omega) w)
      · exact Or.inr (bv_k k0 k2 (v := 4) (by omega) w))
    exact ⟨c, by omega, a2⟩
  · unfold bx_cok at ck ⊢
    rw [bz_T_same, show bz_W (bz_sT (bx_act S (s / 4)) s (bs_sg (bs_sg (bz_T S s) 4 (bs_g (bz_T S s) 4 + 1)) 5 (bs_g (bz_T S s) 5 + Int32.ofNat (m.2.length / 3)))) = bz_W S from bx_act_W _ _]
    exact ck
  · obtain ⟨a1, a2, -, -⟩ := bs_sends_in h
    obtain ⟨ch, nx, w1, w2, w3, w4, -⟩ := T.2.2.2.2.2.1.2.2 a2
    exact ⟨nx, by omega, w2⟩
  · have ek := bv_k k0 k2 (v := 8) (by omega) w
    obtain ⟨ce, b1, b2, b3, b4⟩ := k9 ek
    obtain ⟨hnl, hkn⟩ := bv_T.cp T V.I.W (V.I.o hs) (Or.inl h6)
    refine ⟨⟨hkn, by have := T.1.2.2; omega⟩, ?_⟩
    rw [b1]
    exact bn_id (k := 1) (by omega) (by omega)
/-- a store with increasing snapshots, cut at an ID -/
theorem bv_getD {l : List (Nat × Nat)} {i : Nat} (h : i < l.length) : l.getD i (0, 0) = l[i] := by
  rw [List.getD_eq_getElem?_getD, List.getElem?_eq_getElem h]
  rfl
theorem bv_cut {l : List (Nat × Nat)} (hi : bv_inc l) (hs : bv_sm l) (hl : l.length ≤ 100) {v : Int32} (hv : v = 0 ∨ ba_fd v l 0 ≠ -1) (i : Nat) (h : i < l.length) : v < Int32.ofNat (l.getD i (0, 0)).1 ↔ (ba_tk v l).length ≤ i := by
  have mem : ∀ i, i < l.length → l.getD i (0, 0) ∈ l := fun i h => by
    rw [bv_getD h]
    exact List.getElem_mem h
  have inc : ∀ i j, i < j → j < l.length → (l.getD i (0, 0)).1 < (l.getD j (0, 0)).1 := fun i j hij hj => by
    rw [bv_getD hj, bv_getD (show i < l.length by omega)]
    exact List.pairwise_iff_getElem.mp hi i j _ _ hij
  have si := hs _ (mem i h)
  rcases ba_fd_spec v l 0 with ⟨e, -⟩ | ⟨j, hj, e1, e2, -, -⟩
  · have v0 := hv.resolve_right (fun w => w e)
    unfold ba_tk
    rw [if_pos e, v0]
    exact ⟨fun _ => Nat.zero_le _, fun _ => (bn_lt (a := 0) (by decide) si.2).mpr si.1⟩
  · have sj := hs _ (mem j hj)
    rw [Nat.zero_add] at e1
    have ne : ba_fd v l 0 ≠ -1 := by
      rw [e1]
      intro w
      have := congrArg Int32.toNatClampNeg w
      rw [bn_nat (by omega)] at this
      have w2 : j = 0 := this
      rw [w2] at w
      exact absurd w (by decide)
    unfold ba_tk
    rw [if_neg ne, e1, bn_nat (by omega), List.length_take, ← e2, bn_lt sj.2 si.2]
    constructor
    · intro w
      have : ¬ i ≤ j := fun u => by
        rcases Nat.lt_or_eq_of_le u with u | u
        · have := inc i j u hj
          omega
        · rw [u] at w
          exact Nat.lt_irrefl _ w
      omega
    · intro w
      exact inc j i (by omega) h
/-- what is staged may be committed -/
theorem bz_V.sk (V : bz_V S M C) (hs : s < 8) (hN : s % 4 < bz_N S) : bz_sk S s := by
  have T := V.T hs
  have RG := V.R (g := s % 4) (by omega)
  have sm := V.sm (g := s % 4) (by omega)
  have hr : (bz_R S (s % 4)).length ≤ 9000 := by have := RG.2.1; have := V.mx.2; omega
  obtain ⟨ck, sa⟩ := V.cok hs hN
  rcases T.2.2.2.2.2.2.1 with g | ⟨g0, id, ln, wn, ck', g1, g2, g3, g4, g4', g5, g6, g7, g8, g9, g10⟩
  · exact sa.2 (by rw [g 3 (by decide), g 5 (by decide)]; exact Int32.le_refl _)
  · have hln : ln ≤ ba_n (bz_W S) := RG.ln _ g2
    have n6 := V.I.W.1
    have t2 : (bs_g (bz_T S s) 2).toNatClampNeg = ln := by rw [g3, bn_nat (by omega)]
    unfold bz_sk
    rw [t2]
    refine ⟨ck, by rw [g1]; exact ba_rg_mem RG.1 sm g2, ?_, (RG.2.2 _ g2).2.2.2, hr⟩
    rcases g5 with ⟨g5, -⟩ | ⟨g5, g5', -, -⟩
    · rw [g5, if_pos rfl]
      exact ba_rg_0 sm
    · rw [if_neg g5, g5']
      have hne : bs_sn (bz_T S s) ≠ [] := fun w => by
        apply g5
        rw [g5']
        unfold bs_latest
        rw [w]
        rfl
      exact ba_rg_mem RG.1 sm (p := (bs_latest (bz_T S s), bs_line (bz_T S s))) (T.1.1 _ (bv_last hne))
theorem bz_V.mk (V : bz_V S M C) (hs : s < 8) (hN : s % 4 < bz_N S) {m : ba_G} (hm : bv_M S M m) (h1 : m.1 1 = Int32.ofNat ((s + 4) % 8)) {y y' : Nat} (hy : y ≤ y') (hyb : m.1 0 = 11 → bs_c (bz_T S s) 6 = 3 → bs_c (bz_T S s) 19 ≠ 0 → (m.1 4 = 0 ∨ ba_fd (m.1 4) (bs_sn (bz_T S s)) 0 ≠ -1) → bz_I S (s / 4) 3 ≠ 0 → y + 16384 ≤ y') : bx_mk S s m y y' := by
  have T := V.T hs
  obtain ⟨e, k, n, k0, k1, k2, k3, k4, k5, k6, k7, k8, k9, k10⟩ := hm.at V.mx.1 hs h1
  obtain ⟨ck, sa⟩ := V.cok hs hN
  have hM := V.mx.1
  have sm := V.snsm hs
  refine ⟨⟨k, k1, k2, k0⟩, fun w h6 => ?_, fun w h => ?_, fun w h6 hj => ⟨sa.1, fun h5 h3 => ?_⟩, fun w h => ?_, fun w h6 h10 => ⟨?_, fun h15 => ⟨fun hf => ?_, ?_⟩⟩, fun w h6 => ?_, fun w => sm, fun w h6 h19 => ⟨V.D hN, fun h0 => ?_, fun hf => ⟨fun i hi => ?_, fun hI => ?_⟩⟩, hy⟩
  · have ek := bv_k k0 k2 (v := 1) (by omega) w
    obtain ⟨bi, ln, wn, al, a1, a2, a3, -⟩ := k7 (Or.inl ek)
    refine ⟨?_, fun _ => sa, fun h3 => (V.stok hs hN a1 (a3 ek).2 h6 h3).2⟩
    by_cases c : bs_sn (bz_T S s) = []
    · unfold bs_latest
      rw [c]
      decide
    · exact (sm _ (bv_last c)).2
  · obtain ⟨a1, a2, -, -⟩ := bs_sends_in h
    obtain ⟨c, b1, b2⟩ := k8 (Or.inl (bv_k k0 k2 (v := 2) (by omega) w))
    exact ⟨V.rl hs hN (T.tg a1 (T.2.2.2.2.2.1.2.1 (by rw [a2]; decide)).2), c, by omega, b2⟩
  · have ek := bv_k k0 k2 (v := 3) (by omega) w
    obtain ⟨bi, ln, wn, al, a1, a2, -, a4⟩ := k7 (Or.inr ek)
    obtain ⟨ch, b1, b2, b3⟩ := a4 ek
    obtain ⟨c', f0, f3, f4, f4', f5, f6⟩ := V.fits hs a1 hj
    have eck : c' = ch := (bn_eq (by omega) (by omega)).mp (f4.symm.trans (h5.symm.trans b1))
    subst eck
    have en : m.2.length / 3 = n := by rw [k5]; omega
    have eS : bz_T (bz_sT (bx_act S (s / 4)) s (bs_sg (bs_sg (bz_T S s) 4 (bs_g (bz_T S s) 4 + 1)) 5 (bs_g (bz_T S s) 5 + Int32.ofNat (m.2.length / 3)))) s = bs_sg (bs_sg (bz_T S s) 4 (bs_g (bz_T S s) 4 + 1)) 5 (bs_g (bz_T S s) 5 + Int32.ofNat (m.2.length / 3)) := bz_T_same _ _ _
    have eW : bz_W (bz_sT (bx_act S (s / 4)) s (bs_sg (bs_sg (bz_T S s) 4 (bs_g (bz_T S s) 4 + 1)) 5 (bs_g (bz_T S s) 5 + Int32.ofNat (m.2.length / 3)))) = bz_W S := bx_act_W _ _
    have eR : bz_R (bz_sT (bx_act S (s / 4)) s (bs_sg (bs_sg (bz_T S s) 4 (bs_g (bz_T S s) 4 + 1)) 5 (bs_g (bz_T S s) 5 + Int32.ofNat (m.2.length / 3)))) = bz_R S := by
      show bz_R (bx_act S (s / 4)) = bz_R S
      obtain ⟨f, ef⟩ := bx_act_in S (s / 4)
      rw [ef]
      rfl
    have hsk := V.sk hs hN
    unfold bz_sa
    rw [eS]
    refine ⟨?_, fun _ => ?_⟩
    · show (bs_g (bz_T S s) 3 ≤ 4 * (bs_g (bz_T S s) 4 + 1)) = (bs_g (bz_T S s) 3 ≤ bs_g (bz_T S s) 5 + Int32.ofNat (m.2.length / 3))
      rw [en, f3, f4, f5, show (1 : Int32) = Int32.ofNat 1 from rfl, show (4 : Int32) = Int32.ofNat 4 from rfl, bn_add, bn_mul, bn_add, bn_le (by omega) (by omega), bn_le (by omega) (by omega)]
      refine propext ⟨fun w => ?_, fun w => ?_⟩ <;> omega
    · unfold bz_sk bx_cok at hsk ⊢
      rw [eS, eW, eR]
      exact hsk
  · obtain ⟨a1, a2, -, -⟩ := bs_sends_in h
    obtain ⟨c, b1, b2⟩ := k8 (Or.inr (bv_k k0 k2 (v := 4) (by omega) w))
    obtain ⟨ch, nx, w1, w2, w3, w4, -⟩ := T.2.2.2.2.2.1.2.2 a2
    exact ⟨V.rl hs hN (T.tg a1 (T.2.2.2.2.2.1.2.1 (by rw [a2]; decide)).2), c, ch, nx, by omega, by omega, w3, b2, w1, w2, fun _ => V.done hs a2⟩
  · rcases T.2.2.2.2.2.1.1 with c | c | c
    · rw [c]
      decide
    · rw [c]
      decide
    · rw [c]
      decide
  · obtain ⟨p, hp, ep⟩ := ba_fd_mem hf
    rw [← ep]
    have := sm p hp
    exact (bn_lt (a := 0) (by decide) this.2).mpr this.1
  · obtain ⟨⟨hid, q, hq, e4, hlt⟩, -⟩ := V.pl14 hs h6 h10 (v := if m.1 4 < bs_c (bz_T S s) 10 ∧ ba_fd (m.1 4) (bs_sn (bz_T S s)) 0 ≠ -1 then m.1 4 else 0) (by
      split
      · rename_i u
        exact Or.inr ⟨u.2, u.1⟩
      · exact Or.inl rfl)
    generalize (if m.1 4 < bs_c (bz_T S s) 10 ∧ ba_fd (m.1 4) (bs_sn (bz_T S s)) 0 ≠ -1 then m.1 4 else 0) = v at *
    obtain ⟨a, b, c, d, ee, f, g, i, j⟩ := id T
    obtain ⟨e1, -, e3⟩ := ee h6
    rcases e3 with e3 | ⟨q', hq', e4', e5', e6', e7'⟩
    · exact absurd e3 h10
    · have hr := V.rl0 (S' := bz_sT S s (bs_sc (bs_sc (bz_T S s) 14 v) 15 1)) hs hN (t := bs_sc (bs_sc (bz_T S s) 14 v) 15 1) ⟨a, b, c, d, fun _ => ⟨e1, hid, Or.inr ⟨q', hq', e4', e5', e6', hlt⟩⟩, ⟨Or.inr (Or.inl rfl), fun _ => ⟨h6, h10⟩, fun w => absurd w (by show (1 : Int32) ≠ 2; decide)⟩, g, i, j⟩ ((V.I.o hs).of rfl rfl) hq' e4' hid hlt (bz_T_same _ _ _) rfl rfl rfl
      unfold bz_rl bx_sc at *
      rw [bz_T_same] at hr ⊢
      exact hr
  · have ek := bv_k k0 k2 (v := 8) (by omega) w
    obtain ⟨ce, b1, b2, b3, b4⟩ := k9 ek
    obtain ⟨hnl, hkn⟩ := bv_T.cp T V.I.W (V.I.o hs) (Or.inl h6)
    refine ⟨by have := T.1.2.2; omega, hkn, ?_, ?_⟩
    · have h2 := (V.R (g := s % 4) (by omega)).2.1
      have := V.mx.2
      omega
    · rw [b1]
      exact bn_id (k := 1) (by omega) (by omega)
  · rw [h0]
    exact ba_lo_0 sm
  · exact bv_cut T.1.2.1 sm (by have := T.1.2.2; omega) hf i hi
  · have h2 := V.span hs (m.1 4)
    have h3 := V.I.pl.2
    have h4 := hyb w h6 h19 hf hI
    omega
end NR
