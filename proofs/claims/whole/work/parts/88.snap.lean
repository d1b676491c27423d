/-! what holds is kept: snapshots -/
section NL
variable {S S' : ba_S} {W W' : ba_W} {M M' C s : Nat} {t : ba_T}
theorem ba_lo_app {v : Int32} {r : List (Nat × Nat)} : ∀ {l : List (Nat × Nat)}, (∃ q ∈ l, Int32.ofNat q.1 = v) → ba_lo v (l ++ r) = ba_lo v l
  | [], h => by
    obtain ⟨q, hq, -⟩ := h
    cases hq
  | a :: l, h => by
    show (if Int32.ofNat a.1 = v then a.2 else ba_lo v (l ++ r)) = if Int32.ofNat a.1 = v then a.2 else ba_lo v l
    by_cases c : Int32.ofNat a.1 = v
    · rw [if_pos c, if_pos c]
    · rw [if_neg c, if_neg c]
      refine ba_lo_app ?_
      obtain ⟨q, hq, e⟩ := h
      rcases List.mem_cons.mp hq with rfl | hq'
      · exact absurd e c
      · exact ⟨q, hq', e⟩
theorem ba_lo_id {v : Int32} {l r : List (Nat × Nat)} (hv : bv_id l v) (hl : bv_sm l) (hr : bv_sm (l ++ r)) : ba_lo v (l ++ r) = ba_lo v l := by
  rcases hv with rfl | ⟨q, hq, rfl⟩
  · rw [ba_lo_0 hl, ba_lo_0 hr]
  · exact ba_lo_app ⟨q, hq, rfl⟩
/-- a PRIMARY with one more snapshot -/
theorem bv_snap {R : List (Nat × Nat)} {win eo id : Nat} (a1 : ∀ q ∈ bs_sn t, q ∈ R) (a2 : bv_inc (bs_sn t)) (a3 : (bs_sn t).length ≤ 8) (a4 : ∀ q ∈ bs_sn t, q.1 < id) (b1 : bs_c t 7 = Int32.ofNat (bs_ep t) ∧ bs_c t 8 = Int32.ofNat (bs_tk t) ∧ bs_tk t ≤ 4095) (b2 : 1 ≤ bs_ep t ∧ bs_ep t ≤ M ∧ bv_site (bs_ep t) = s / 4) (b3 : ∀ q ∈ bs_sn t, q.1 / 4096 ≤ bs_ep t) (hM : M ≤ 3900) (ei : id = 4096 * bs_ep t + bs_tk t) (c6 : bs_c t 6 = 1) (d : bs_c t 13 = 0) (e : bv_id (bs_sn t) (bs_c t 9) ∧ bv_id (bs_sn t) (bs_c t 14) ∧ (bs_c t 10 = 0 ∨ ∃ q ∈ bs_sn t, bs_c t 10 = Int32.ofNat q.1 ∧ q.1 / 4096 = bs_ep t ∧ bs_c t 9 < bs_c t 10 ∧ bs_c t 14 < bs_c t 10)) (f : (bs_c t 15 = 0 ∨ bs_c t 15 = 1 ∨ bs_c t 15 = 2) ∧ (bs_c t 15 ≠ 0 → bs_c t 10 ≠ 0) ∧ (bs_c t 15 = 2 → bv_w W win t)) (g : ∀ k, k ≤ 5 → bs_g t k = 0) (i : (bs_lo t).length ≤ 32768 ∧ ∀ k ∈ bs_lo t, 0 < k ∧ k ≤ ba_n W ∧ ba_g W k = s % 4) (j : bs_pend W t ≤ 64 ∧ (bs_now t ≠ 0 → ba_g W (bs_now t) = s % 4)) (sm : bv_sm (bs_sn t)) : bv_Tn 9 W (R ++ [(id, bs_now t)]) win eo M s (bs_ss t (bs_sn t ++ [(id, bs_now t)])) ∧ bv_sm (bs_sn t ++ [(id, bs_now t)]) := by
  have d1 : id / 4096 = bs_ep t := by omega
  have idm : 0 < id ∧ id < 2147483648 := by omega
  have sm' : bv_sm (bs_sn t ++ [(id, bs_now t)]) := fun q hq => by
    rcases List.mem_append.mp hq with w | w
    · exact sm q w
    · rw [List.mem_singleton] at w
      subst w
      exact idm
  have hsrc : bs_src t = true := by
    unfold bs_src
    rw [c6]
    rfl
  have kid : ∀ v, bv_id (bs_sn t) v → bv_id (bs_sn t ++ [(id, bs_now t)]) v := fun v h => by
    rcases h with h | ⟨q, hq, h⟩
    · exact Or.inl h
    · exact Or.inr ⟨q, List.mem_append_left _ hq, h⟩
  have ela : bs_latest (bs_ss t (bs_sn t ++ [(id, bs_now t)])) = id := by
    show ((bs_sn t ++ [(id, bs_now t)]).getD ((bs_sn t ++ [(id, bs_now t)]).length - 1) (0, 0)).1 = id
    rw [List.length_append, List.length_singleton, Nat.add_sub_cancel, bk_gb]
  refine ⟨⟨⟨fun q hq => ?_, ?_, ?_⟩, ⟨b1, ⟨b2.1, b2.2.1, fun w => absurd b2.2.2 w⟩, fun q hq => ?_⟩, ⟨Or.inr (Or.inl c6), fun w => ?_, fun w => ?_, fun _ => ⟨b2.2.2, fun _ => ?_⟩⟩, Or.inl d, fun _ => ⟨kid _ e.1, kid _ e.2.1, ?_⟩, ⟨f.1, fun w => ⟨hsrc, f.2.1 w⟩, fun w => ?_⟩, Or.inl g, i, j.1, j.2⟩, sm'⟩
  · rcases List.mem_append.mp hq with w | w
    · exact List.mem_append_left _ (a1 q w)
    · exact List.mem_append_right _ w
  · refine List.pairwise_append.mpr ⟨a2, by simp, fun a ha b hb => ?_⟩
    rw [List.mem_singleton] at hb
    subst hb
    exact a4 a ha
  · show (bs_sn t ++ [(id, bs_now t)]).length ≤ 9
    rw [List.length_append, List.length_singleton]
    omega
  · rcases List.mem_append.mp hq with w | w
    · exact b3 q w
    · rw [List.mem_singleton] at w
      subst w
      exact Nat.le_of_eq d1
  · have w : bs_c t 6 = 0 ∨ bs_c t 6 = 2 := w
    rw [c6] at w
    exact absurd w (by decide)
  · have w : bs_c t 6 = 3 := w
    rw [c6] at w
    exact absurd w (by decide)
  · rw [ela]
    exact d1
  · rcases e.2.2 with e3 | ⟨q, hq, e4⟩
    · exact Or.inl e3
    · exact Or.inr ⟨q, List.mem_append_left _ hq, e4⟩
  · obtain ⟨ch, nx, w1, w2, w3, w4, w5⟩ := f.2.2 w
    refine ⟨ch, nx, w1, w2, w3, w4, ?_⟩
    have ep : bs_plan W (bs_ss t (bs_sn t ++ [(id, bs_now t)])) = bs_plan W t := by
      have e10 : bv_id (bs_sn t) (bs_c t 10) := by
        rcases e.2.2 with e3 | ⟨q, hq, e4, -⟩
        · exact Or.inl e3
        · exact Or.inr ⟨q, hq, e4⟩
      unfold bs_plan
      show ba_sp W (ba_l W (ba_lo (bs_c t 10) (bs_sn t ++ [(id, bs_now t)])) - ba_l W (ba_lo (bs_c t 14) (bs_sn t ++ [(id, bs_now t)]))) (ba_lo (bs_c t 10) (bs_sn t ++ [(id, bs_now t)])) = _
      rw [ba_lo_id e10 sm sm', ba_lo_id e.2.1 sm sm']
    rw [ep]
    exact w5
/-- a snapshot, and the store thinned -/
theorem bz_V.snth (V : bz_V S M C) (hs : s < 8) (hN : s % 4 < bz_N S) (o : bs_ok (bz_W S) t) (h0 : bs_c t 0 = bs_c (bz_T S s) 0) (hl : bs_ep (bz_T S s) < bs_ep t ∨ bs_ep (bz_T S s) = bs_ep t ∧ bs_tk (bz_T S s) < bs_tk t) (hu : bs_use (bz_W S) t ≤ bs_use (bz_W S) (bz_T S s)) (hkn : bs_kept t = bs_now t) (hsi : bv_site (bs_ep t) = s / 4) (hC : C + 1 ≤ 8900) (v : Int32) {id : Nat} (ei : id = 4096 * bs_ep t + bs_tk t) (ev : v.toNatClampNeg = id) (hlen : (bs_sn t).length ≤ 8) (T : bv_Tn 9 (bz_W S) (bz_R S (s % 4) ++ [(id, bs_now t)]) (bz_win S) (bs_ep (bz_T S ((s + 4) % 8))) M s (bs_ss t (bs_sn t ++ [(id, bs_now t)])) ∧ bv_sm (bs_sn t ++ [(id, bs_now t)])) : bz_V (bx_thin (bx_snap (bz_sT S s t) s v) s) M (C + 1) := by
  have e1 : bx_thin (bx_snap (bz_sT S s t) s v) s = bz_sR (bz_sT S s (bs_thin (bz_keep S) (bs_ss t (bs_sn t ++ [(id, bs_now t)])))) (s % 4) (bz_R S (s % 4) ++ [(id, bs_now t)]) := by
    unfold bx_thin bx_snap
    rw [bz_T_same, ev]
    unfold bs_snap
    rw [ev]
    show bz_sT (bz_sR (bz_sT (bz_sT S s t) s (bs_ss t (bs_sn t ++ [(id, bs_now t)]))) (s % 4) (bz_R S (s % 4) ++ [(id, bs_now t)])) s (bs_thin (bz_keep S) (bz_T (bz_sT (bz_sT S s t) s (bs_ss t (bs_sn t ++ [(id, bs_now t)]))) s)) = _
    rw [bz_T_same, bz_sT_sT]
    show bz_sR (bz_sT (bz_sT S s (bs_ss t (bs_sn t ++ [(id, bs_now t)]))) s _) (s % 4) _ = _
    rw [bz_sT_sT]
  rw [e1]
  have o2 : bs_ok (bz_W S) (bs_ss t (bs_sn t ++ [(id, bs_now t)])) := by
    have := o.snap hkn (by omega) v
    unfold bs_snap at this
    rw [ev] at this
    exact this
  have hW := V.I.W
  refine V.snap hs hN (bs_thin_ok _ o2) h0 hl ?_ ei hsi o.1 T.1.2.2.2.2.2.2.2.2.2 hC (bv_Tn.thin T.1 V.I.kp.2.2 T.2)
  refine Nat.le_trans (Nat.add_le_add_right ?_ _) hu
  refine Nat.le_trans (bs_need_thin hW o2 _) ?_
  rw [bs_need_snap hkn id]
  exact Nat.le_refl _
/-- IDs of a store that leads its own epoch -/
theorem bz_V.ids (V : bz_V S M C) (hs : s < 8) (hsi : bv_site (bs_ep (bz_T S s)) = s / 4) : ∀ q ∈ bs_sn (bz_T S s), q.1 ≤ 4096 * bs_ep (bz_T S s) + bs_tk (bz_T S s) := fun q hq => by
  have T := V.T hs
  have h1 := T.2.1.2.2 q hq
  by_cases c : q.1 / 4096 = bs_ep (bz_T S s)
  · have h2 := ((V.R (g := s % 4) (by omega)).2.2 q (T.1.1 q hq)).2.1
    rw [c, hsi, show 4 * (s / 4) + s % 4 = s by omega] at h2
    have := h2 rfl
    omega
  · omega
theorem bs_ep_sc {t : ba_T} {e : Nat} (he : e < 2147483648) (k : Nat) (h : bs_c t 7 = Int32.ofNat e) : bs_ep t = e := by
  unfold bs_ep
  rw [h, bn_nat he]
theorem bs_src_of (h : bs_c t 6 = 1 ∨ bs_c t 6 = 2) : bs_src t = true := by
  unfold bs_src
  rcases h with h | h <;> (rw [h]; rfl)
/-- take -/
theorem bz_V.take (V : bz_V S M C) (hs : s < 8) (hN : s % 4 < bz_N S) (h6 : bs_c (bz_T S s) 6 = 1) (h8 : bs_c (bz_T S s) 8 < 4095) (hC : C + 1 ≤ 8900) : bz_V (bx_take S s).1 M (C + 1) ∧ bs_c (bz_T (bx_take S s).1 s) 6 = 1 := by
  have L := bx_li.check S s
  have V1 := V.check hs hN
  have hN1 : s % 4 < bz_N (bx_check S s).1 := by rw [L.N]; exact hN
  have hc : bs_c (bz_T (bx_check S s).1 s) = bs_c (bz_T S s) := L.c
  unfold bx_take
  by_cases c1 : (bx_check S s).2 = true
  · rw [if_pos c1]
    have hkn := bx_check_kn S s c1
    by_cases c2 : bz_I (bx_check S s).1 (s / 4) 3 = 0
    · rw [if_pos c2]
      refine ⟨(V1.act _).up (Nat.le_refl _) (Nat.le_succ C) V.mx.1 hC, ?_⟩
      show bs_c (bz_T (bx_act (bx_check S s).1 (s / 4)) s) 6 = 1
      rw [bx_act_T, hc]
      exact h6
    · rw [if_neg c2]
      have V2 := V1.act (s / 4)
      have eT : bz_T (bx_act (bx_check S s).1 (s / 4)) = bz_T (bx_check S s).1 := bx_act_T _ _
      have hN2 : s % 4 < bz_N (bx_act (bx_check S s).1 (s / 4)) := by rw [bx_act_N]; exact hN1
      have T := V2.T hs
      have sm := V2.snsm hs
      have o := V2.I.o hs
      have hid := V2.ids hs
      generalize hS2 : bx_act (bx_check S s).1 (s / 4) = S2 at *
      have c62 : bs_c (bz_T S2 s) 6 = 1 := by rw [eT, hc]; exact h6
      have c82 : bs_c (bz_T S2 s) 8 = bs_c (bz_T S s) 8 := by rw [eT, hc]
      have c72 : bs_c (bz_T S2 s) 7 = bs_c (bz_T S s) 7 := by rw [eT, hc]
      have hkn2 : bs_kept (bz_T S2 s) = bs_now (bz_T S2 s) := by rw [eT]; exact hkn
      rw [← c82, ← c72]
      have hsrc := bs_src_of (t := bz_T S2 s) (Or.inl c62)
      obtain ⟨⟨a1, a2, a3⟩, ⟨⟨b1, b2, b3⟩, ⟨b4, b5, b6⟩, b7⟩, ⟨q1, q2, q3, q4⟩, d, e, ⟨f1, f2, f3⟩, g, i, j⟩ := T
      have hM := V.mx.1
      have htk : bs_tk (bz_T S2 s) < 4095 := by
        rw [← c82, b2] at h8
        exact (bn_lt (b := 4095) (by omega) (by decide)).mp h8
      have e8 : bs_c (bz_T S2 s) 8 + 1 = Int32.ofNat (bs_tk (bz_T S2 s) + 1) := by
        rw [b2]
        exact bn_one _
      have hv : 4096 * bs_c (bz_T S2 s) 7 + (bs_c (bz_T S2 s) 8 + 1) = Int32.ofNat (4096 * bs_ep (bz_T S2 s) + (bs_tk (bz_T S2 s) + 1)) := by
        rw [e8, b1, show (4096 : Int32) = Int32.ofNat 4096 from rfl, bn_mul, bn_add]
      have etk : bs_tk (bs_sc (bz_T S2 s) 8 (bs_c (bz_T S2 s) 8 + 1)) = bs_tk (bz_T S2 s) + 1 := by
        show (bs_c (bz_T S2 s) 8 + 1).toNatClampNeg = _
        rw [e8, bn_nat (by omega)]
      have eep : bs_ep (bs_sc (bz_T S2 s) 8 (bs_c (bz_T S2 s) 8 + 1)) = bs_ep (bz_T S2 s) := rfl
      have hsi := (q4 hsrc).1
      have eg : ∀ k, k ≤ 5 → bs_g (bz_T S2 s) k = 0 := by
        rcases g with g | ⟨g0, -⟩
        · exact g
        · rw [c62] at g0
          exact absurd g0 (by decide)
      have d0 : bs_c (bz_T S2 s) 13 = 0 := by
        rcases d with d | ⟨d1, -⟩
        · exact d
        · rw [c62] at d1
          exact absurd d1 (by decide)
      have sn := bv_snap (t := bs_sc (bz_T S2 s) 8 (bs_c (bz_T S2 s) 8 + 1)) (s := s) (M := M) (R := bz_R S2 (s % 4)) (W := bz_W S2) (win := bz_win S2) (eo := bs_ep (bz_T S2 ((s + 4) % 8))) (id := 4096 * bs_ep (bz_T S2 s) + (bs_tk (bz_T S2 s) + 1)) a1 a2 a3 (fun q hq => by have := hid hsi q hq; omega) ⟨b1, by rw [etk]; exact e8, by omega⟩ ⟨b4, b5, hsi⟩ b7 hM (by rw [etk, eep]) c62 d0 (e hsrc) ⟨f1, fun w => (f2 w).2, f3⟩ eg i j sm
      have h9 := V2.snth hs hN2 (t := bs_sc (bz_T S2 s) 8 (bs_c (bz_T S2 s) 8 + 1)) (o.of rfl rfl) rfl (Or.inr ⟨rfl, by omega⟩) (Nat.le_refl _) hkn2 hsi hC (4096 * bs_c (bz_T S2 s) 7 + (bs_c (bz_T S2 s) 8 + 1)) (id := 4096 * bs_ep (bz_T S2 s) + (bs_tk (bz_T S2 s) + 1)) (by rw [etk, eep]) (by rw [hv, bn_nat (by omega)]) a3 sn
      refine ⟨h9, ?_⟩
      unfold bx_thin
      rw [bz_T_same]
      show bs_c (bz_T (bx_snap (bx_sc S2 s 8 (bs_c (bz_T S2 s) 8 + 1)) s _) s) 6 = 1
      unfold bx_snap
      show bs_c (bz_T (bz_sT _ s _) s) 6 = 1
      rw [bz_T_same]
      unfold bx_sc
      rw [bz_T_same]
      exact c62
  · rw [if_neg c1]
    refine ⟨V1.up (Nat.le_refl _) (Nat.le_succ C) V.mx.1 hC, ?_⟩
    show bs_c (bz_T (bx_check S s).1 s) 6 = 1
    rw [hc]
    exact h6
end NL
