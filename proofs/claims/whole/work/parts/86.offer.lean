/-! what is sent, out of what holds -/
section NJ
variable {S S' : ba_S} {W W' : ba_W} {M M' C s : Nat} {t : ba_T}
theorem bs_need_use (W : ba_W) (t : ba_T) : bs_need W t ≤ bs_use W t := Nat.le_add_right _ _
theorem bz_use_s (S : ba_S) (hs : s < 8) : bs_use (bz_W S) (bz_T S s) ≤ bz_use S (s / 4) := by
  unfold bz_use
  have : s = 4 * (s / 4) ∨ s = 4 * (s / 4) + 1 ∨ s = 4 * (s / 4) + 2 ∨ s = 4 * (s / 4) + 3 := by omega
  rcases this with e | e | e | e
  · rw [← e]
    omega
  · rw [← e]
    omega
  · rw [← e]
    omega
  · rw [← e]
    omega
theorem bz_V.need (V : bz_V S M C) (hs : s < 8) : bs_need (bz_W S) (bz_T S s) ≤ bz_pool S := Nat.le_trans (bs_need_use _ _) (Nat.le_trans (bz_use_s S hs) (V.p (by omega)))
/-- two snapshots, or none and one: what lies between them -/
theorem bv_plan (hW : ba_ok W) (o : bs_ok W t) (hi : bv_inc (bs_sn t)) (hs : bv_sm (bs_sn t)) {q : Nat × Nat} (hq : q ∈ bs_sn t) {v : Int32} (hv : bv_id (bs_sn t) v) (hl : v < Int32.ofNat q.1) : ∃ al, (v = 0 ∧ al = 0 ∨ ∃ ai, v = Int32.ofNat ai ∧ (ai, al) ∈ bs_sn t) ∧ ba_lo (Int32.ofNat q.1) (bs_sn t) = q.2 ∧ ba_lo v (bs_sn t) = al ∧ ba_anc W al q.2 ∧ q.2 ≤ ba_n W ∧ (ba_sp W (ba_l W q.2 - ba_l W al) q.2).length = ba_pl W (ba_l W al) (ba_l W q.2 - ba_l W al) q.2 ∧ ba_pl W (ba_l W al) (ba_l W q.2 - ba_l W al) q.2 ≤ bs_need W t := by
  have hqn : q.2 ≤ ba_n W := ba_anc_in hW o.1 (bs_anc_now hW o hq)
  have lq := ba_lo_mem hi.dis hs hq
  have len : ∀ al, ba_anc W al q.2 → (ba_sp W (ba_l W q.2 - ba_l W al) q.2).length = ba_pl W (ba_l W al) (ba_l W q.2 - ba_l W al) q.2 := fun al ha => by
    rw [ba_sp_len hW hqn (Nat.sub_le _ _)]
    have := ha.1
    rw [show ba_l W q.2 - (ba_l W q.2 - ba_l W al) = ba_l W al by omega]
  rcases hv with rfl | ⟨p, hp, rfl⟩
  · refine ⟨0, Or.inl ⟨rfl, rfl⟩, lq, ba_lo_0 hs, ba_anc_0 hW hqn, hqn, len 0 (ba_anc_0 hW hqn), ?_⟩
    obtain ⟨a, r, e, -⟩ := bs_an_split hq
    have := bs_need_one hW o e
    rw [ba_l0 hW, Nat.sub_zero]
    exact this
  · have hpq : p.1 < q.1 := (bn_lt (hs p hp).2 (hs q hq).2).mp hl
    have ha := bs_anc_two hW o hi hp hq hpq
    refine ⟨p.2, Or.inr ⟨p.1, rfl, hp⟩, lq, ba_lo_mem hi.dis hs hp, ha, hqn, len _ ha, ?_⟩
    obtain ⟨a, b, r, e⟩ := bs_an_two hi hp hq hpq
    exact bs_need_two hW o e
/-- the registry's lines are a store's -/
theorem bz_V.rl0 (V : bz_V S M C) (hs : s < 8) (hN : s % 4 < bz_N S) (T : bv_T (bz_W S) (bz_R S (s % 4)) (bz_win S) (bs_ep (bz_T S ((s + 4) % 8))) M s t) (o : bs_ok (bz_W S) t) {q : Nat × Nat} (hq : q ∈ bs_sn t) (h10 : bs_c t 10 = Int32.ofNat q.1) (hv : bv_id (bs_sn t) (bs_c t 14)) (hl : bs_c t 14 < bs_c t 10) (eT : bz_T S' s = t) (eW : bz_W S' = bz_W S) (eR : bz_R S' = bz_R S) (eD : bz_D S' = bz_D S) : bz_rl S' s := by
  have hW := V.I.W
  have RG := V.R (g := s % 4) (by omega)
  have sm := RG.sm V.mx.1
  have snm : bv_sm (bs_sn t) := fun q hq => sm q (T.1.1 q hq)
  rw [h10] at hl
  obtain ⟨al, h1, h2, h3, h4, h5, -⟩ := bv_plan hW o T.1.2.1 snm hq hv hl
  have hqR := T.1.1 q hq
  unfold bz_rl
  rw [eT, eW, eR, eD, h10, h2, h3]
  refine ⟨⟨?_, ba_rg_mem RG.1 sm hqR⟩, h4, h5, (RG.2.2 q hqR).2.2.2, Nat.le_trans RG.2.1 (by have := V.mx.2; omega), V.D hN⟩
  rcases h1 with ⟨e1, e2⟩ | ⟨ai, e1, e2⟩
  · rw [e1, e2]
    exact ba_rg_0 sm
  · rw [e1]
    exact ba_rg_mem RG.1 sm (T.1.1 _ e2)
/-- a target to be -/
def bv_tg (t : ba_T) : Prop := bs_src t = true ∧ bv_id (bs_sn t) (bs_c t 14) ∧ ∃ q ∈ bs_sn t, bs_c t 10 = Int32.ofNat q.1 ∧ q.1 / 4096 = bs_ep t ∧ bs_c t 14 < bs_c t 10
theorem bv_T.tg {R : List (Nat × Nat)} {win eo : Nat} (T : bv_T W R win eo M s t) (h1 : bs_src t = true) (h2 : bs_c t 10 ≠ 0) : bv_tg t := by
  obtain ⟨e1, e2, e3⟩ := T.2.2.2.2.1 h1
  rcases e3 with e3 | ⟨q, hq, e4, e4', -, e5⟩
  · exact absurd e3 h2
  · exact ⟨h1, e2, q, hq, e4, e4', e5⟩
theorem bz_V.rl (V : bz_V S M C) (hs : s < 8) (hN : s % 4 < bz_N S) (h : bv_tg (bz_T S s)) : bz_rl S s := by
  obtain ⟨-, h2, q, hq, h3, -, h4⟩ := h
  exact V.rl0 hs hN (V.T hs) (V.I.o hs) hq h3 h2 h4 rfl rfl rfl rfl
theorem bz_V.pln (V : bz_V S M C) (hs : s < 8) (h : bv_tg (bz_T S s)) : ba_l (bz_W S) (ba_lo (bs_c (bz_T S s) 14) (bs_sn (bz_T S s))) ≤ ba_l (bz_W S) (ba_lo (bs_c (bz_T S s) 10) (bs_sn (bz_T S s))) ∧ (bs_plan (bz_W S) (bz_T S s)).length ≤ bz_pool S := by
  obtain ⟨-, h2, q, hq, h3, -, h4⟩ := h
  rw [h3] at h4
  obtain ⟨al, h1, h5, h6, h7, -, h8, h9⟩ := bv_plan V.I.W (V.I.o hs) (V.T hs).1.2.1 (V.snsm hs) hq h2 h4
  unfold bs_plan
  rw [h3, h5, h6]
  exact ⟨h7.1, by rw [h8]; exact Nat.le_trans h9 (V.need hs)⟩
/-- a store's snapshots, latest and acknowledged -/
theorem bv_T.ltg {R : List (Nat × Nat)} {win eo : Nat} (T : bv_T W R win eo M s t) (sm : bv_sm (bs_sn t)) (h1 : bs_src t = true) (h3 : Int32.ofNat (bs_latest t) ≠ bs_c t 9) : bv_tg (bs_sc (bs_sc t 10 (Int32.ofNat (bs_latest t))) 14 (bs_c t 9)) ∧ bs_latest t / 4096 = bs_ep t ∧ bs_sn t ≠ [] := by
  obtain ⟨e1, -, -⟩ := T.2.2.2.2.1 h1
  have hne : bs_sn t ≠ [] := fun e => by
    apply h3
    have e0 : bs_latest t = 0 := by
      unfold bs_latest
      rw [e]
      rfl
    rw [e0]
    rcases e1 with e1 | ⟨q, hq, -⟩
    · rw [e1]
      rfl
    · rw [e] at hq
      cases hq
  have hla := bv_last hne
  refine ⟨⟨h1, e1, (bs_latest t, bs_line t), hla, rfl, (T.2.2.1.2.2.2 h1).2 hne, ?_⟩, (T.2.2.1.2.2.2 h1).2 hne, hne⟩
  show bs_c t 9 < Int32.ofNat (bs_latest t)
  rcases e1 with e1 | ⟨q, hq, e1⟩
  · rw [e1]
    have := sm _ hla
    exact (bn_lt (a := 0) (by decide) this.2).mpr this.1
  · rw [e1] at h3 ⊢
    have h4 := bv_max T.1.2.1 hq
    have h5 : q.1 ≠ bs_latest t := fun e => h3 (by rw [e])
    have h4 : q.1 ≤ bs_latest t := h4
    exact (bn_lt (sm q hq).2 (sm _ hla).2).mpr (show q.1 < bs_latest t by omega)
/-- an offer, the target or the base set just before -/
theorem bz_V.offer1 (V : bz_V S M C) (hs : s < 8) (hN : s % 4 < bz_N S) {u v : Int32} (h9 : bs_c (bz_T S s) 9 < u) (h : bv_tg (bs_sc (bs_sc (bz_T S s) 10 u) 14 v)) : bz_V (bx_offer (bz_sT S s (bs_sc (bs_sc (bz_T S s) 10 u) 14 v)) s) M C := by
  have T := V.T hs
  obtain ⟨h1, h2, q, hq, h3, h3', h4⟩ := id h
  have h1 : bs_src (bz_T S s) = true := h1
  have h2 : bv_id (bs_sn (bz_T S s)) v := h2
  have hq : q ∈ bs_sn (bz_T S s) := hq
  have h3 : u = Int32.ofNat q.1 := h3
  have h3' : q.1 / 4096 = bs_ep (bz_T S s) := h3'
  have h4 : v < u := h4
  subst h3
  have sm := V.snsm hs
  have h10 : Int32.ofNat q.1 ≠ 0 := bv_ne0 sm q hq
  have V1 : bz_V (bz_sT S s (bs_sc (bs_sc (bs_sc (bs_sc (bz_T S s) 10 (Int32.ofNat q.1)) 14 v) 15 1) 18 0)) M C := by
    refine V.sT hs hN ((V.I.o hs).of rfl rfl) rfl (Or.inr ⟨rfl, Nat.le_refl _⟩) (Nat.le_refl _) ?_
    obtain ⟨a, b, c, d, e, ⟨f1, f2, f3⟩, g, i, j⟩ := T
    exact ⟨a, b, c, d, fun _ => ⟨(e h1).1, h2, Or.inr ⟨q, hq, rfl, h3', h9, h4⟩⟩, ⟨Or.inr (Or.inl rfl), fun _ => ⟨h1, h10⟩, fun w => absurd w (by show (1 : Int32) ≠ 2; decide)⟩, g, i, j⟩
  have e7 := T.2.1.1.1
  obtain ⟨al, g1, g5, g6, g7, -, g8, g9⟩ := bv_plan (v := v) V.I.W (V.I.o hs) T.1.2.1 sm hq h2 h4
  have hpl : (bs_plan (bz_W S) (bs_sc (bs_sc (bz_T S s) 10 (Int32.ofNat q.1)) 14 v)).length = ba_pl (bz_W S) (ba_l (bz_W S) al) (ba_l (bz_W S) q.2 - ba_l (bz_W S) al) q.2 := by
    unfold bs_plan
    show (ba_sp (bz_W S) (ba_l (bz_W S) (ba_lo (Int32.ofNat q.1) (bs_sn (bz_T S s))) - ba_l (bz_W S) (ba_lo v (bs_sn (bz_T S s)))) (ba_lo (Int32.ofNat q.1) (bs_sn (bz_T S s)))).length = _
    rw [g5, g6]
    exact g8
  have hM : bv_M S M (bx_m S s 1 v (Int32.ofNat q.1) (Int32.ofNat (bs_plan (bz_W S) (bs_sc (bs_sc (bz_T S s) 10 (Int32.ofNat q.1)) 14 v)).length) (Int32.ofNat (ba_l (bz_W S) (ba_lo (Int32.ofNat q.1) (bs_sn (bz_T S s))))) (Int32.ofNat (ba_lo (Int32.ofNat q.1) (bs_sn (bz_T S s)))) []) := by
    refine ⟨s, _, 1, 0, hs, hN, rfl, rfl, by omega, by omega, e7, V.ep hs, rfl, by omega, fun _ => ?_, fun h => by omega, fun h => by omega, fun h => by omega⟩
    refine ⟨q.1, q.2, _, al, rfl, T.1.1 q hq, Nat.le_of_eq h3', ?_, g7, rfl, ?_, fun _ => ⟨?_, ?_⟩, fun h => by omega⟩
    · rcases g1 with ⟨e1, e2⟩ | ⟨ai, e1, e2⟩
      · exact Or.inl ⟨e1, e2⟩
      · exact Or.inr ⟨ai, e1, T.1.1 _ e2⟩
    · exact Nat.le_trans g9 (Nat.le_trans (V.need hs) V.I.pl.2)
    · show Int32.ofNat (bs_plan (bz_W S) _).length = _
      rw [hpl]
    · show Int32.ofNat (ba_lo (Int32.ofNat q.1) (bs_sn (bz_T S s))) = _
      rw [g5]
  have eS : bx_offer (bz_sT S s (bs_sc (bs_sc (bz_T S s) 10 (Int32.ofNat q.1)) 14 v)) s = bx_send (bz_sT S s (bs_sc (bs_sc (bs_sc (bs_sc (bz_T S s) 10 (Int32.ofNat q.1)) 14 v) 15 1) 18 0)) (bx_m S s 1 v (Int32.ofNat q.1) (Int32.ofNat (bs_plan (bz_W S) (bs_sc (bs_sc (bz_T S s) 10 (Int32.ofNat q.1)) 14 v)).length) (Int32.ofNat (ba_l (bz_W S) (ba_lo (Int32.ofNat q.1) (bs_sn (bz_T S s))))) (Int32.ofNat (ba_lo (Int32.ofNat q.1) (bs_sn (bz_T S s)))) []) := by
    unfold bx_offer
    rw [bz_T_same, bz_sT_sT, bx_m_of (S := S) (by rw [bz_T_same]; rfl), show bz_W (bz_sT S s (bs_sc (bs_sc (bz_T S s) 10 (Int32.ofNat q.1)) 14 v)) = bz_W S from rfl]
    generalize bs_plan (bz_W S) (bs_sc (bs_sc (bz_T S s) 10 (Int32.ofNat q.1)) 14 v) = pl
    have a1 : bs_c (bs_sc (bs_sc (bz_T S s) 10 (Int32.ofNat q.1)) 14 v) 10 = Int32.ofNat q.1 := rfl
    have a2 : bs_c (bs_sc (bs_sc (bz_T S s) 10 (Int32.ofNat q.1)) 14 v) 14 = v := rfl
    have a3 : bs_sn (bs_sc (bs_sc (bz_T S s) 10 (Int32.ofNat q.1)) 14 v) = bs_sn (bz_T S s) := rfl
    rw [a1, a2, a3]
  rw [eS]
  refine V1.send ?_
  exact hM.le V.I.W (fun g hg => (V.R hg).ln) (bv_le.sT (Or.inr ⟨rfl, Nat.le_refl _⟩)) (Nat.le_refl _)
theorem bs_sc_id (t : ba_T) (k : Nat) : bs_sc t k (bs_c t k) = t := by
  show (ba_u t.1 k (t.1 k), t.2) = t
  rw [ba_u_id]
/-- an offer -/
theorem bz_V.offer (V : bz_V S M C) (hs : s < 8) (hN : s % 4 < bz_N S) (h : bv_tg (bz_T S s)) : bz_V (bx_offer S s) M C := by
  have e1 : bs_sc (bs_sc (bz_T S s) 10 (bs_c (bz_T S s) 10)) 14 (bs_c (bz_T S s) 14) = bz_T S s := by rw [bs_sc_id, bs_sc_id]
  have h10 : bs_c (bz_T S s) 10 ≠ 0 := by
    obtain ⟨-, -, q, hq, h3, -⟩ := h
    rw [h3]
    exact bv_ne0 (V.snsm hs) q hq
  obtain ⟨e2, e3, e4⟩ := (V.T hs).2.2.2.2.1 h.1
  rcases e4 with e4 | ⟨q, hq, e5, e6, e7, e8⟩
  · exact absurd e4 h10
  · have h9 := V.offer1 hs hN (u := bs_c (bz_T S s) 10) (v := bs_c (bz_T S s) 14) e7 (by rw [e1]; exact h)
    rw [e1, bz_sT_id] at h9
    exact h9
end NJ
