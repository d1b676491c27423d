/-! what holds is kept: a common snapshot, any message; what the rules of messages want -/
section NQ
variable {S S' : ba_S} {W W' : ba_W} {M M' C s : Nat} {t : ba_T}
theorem bz_V.onCommon (V : bz_V S M C) (hs : s < 8) (hN : s % 4 < bz_N S) (m : ba_G) : bz_V (bx_onCommon S s m) M C := by
  unfold bx_onCommon
  split
  · rename_i w
    split
    · exact V.act _
    · have V1 := V.act (s / 4)
      have eT : bz_T (bx_act S (s / 4)) = bz_T S := bx_act_T _ _
      have eW : bz_W (bx_act S (s / 4)) = bz_W S := bx_act_W _ _
      have hN1 : s % 4 < bz_N (bx_act S (s / 4)) := by rw [bx_act_N]; exact hN
      have o := V.I.o hs
      have hW := V.I.W
      have T := V1.T hs
      rw [eT, eW] at T
      obtain ⟨⟨a1, a2, a3⟩, ⟨b1, b2, b3⟩, -, d, -, ⟨-, f2, -⟩, -, -, -, j2⟩ := id T
      obtain ⟨j, hj, k1, -, k2⟩ := ba_tk_ln (v := m.1 4) (l := bs_sn (bz_T S s)) (by have := o.2.2; omega)
      unfold bs_back
      rw [k1, ← k2]
      have hL1 := ba_sp_le (bz_W S) (ba_l (bz_W S) (bs_now (bz_T S s)) - ba_l (bz_W S) (ba_ln ((bs_sn (bz_T S s)).take j))) (bs_now (bz_T S s))
      have hL2 : ∀ k ∈ ba_sp (bz_W S) (ba_l (bz_W S) (bs_now (bz_T S s)) - ba_l (bz_W S) (ba_ln ((bs_sn (bz_T S s)).take j))) (bs_now (bz_T S s)), 0 < k ∧ k ≤ ba_n (bz_W S) ∧ ba_g (bz_W S) k = s % 4 := fun k hk => by
        obtain ⟨q1, q2⟩ := (ba_sp_mem hW o.1 (Nat.sub_le _ _) k).mp hk
        have q3 := ba_at_le hW (ba_s (bz_W S) k) _ _ o.1 (Nat.sub_le (ba_l (bz_W S) (bs_now (bz_T S s))) (ba_l (bz_W S) (ba_ln ((bs_sn (bz_T S s)).take j))))
        rw [q2] at q3
        refine ⟨Nat.pos_of_ne_zero q1, Nat.le_trans q3 o.1, ?_⟩
        rcases ba_at_spec hW (ba_s (bz_W S) k) _ _ o.1 (Nat.sub_le (ba_l (bz_W S) (bs_now (bz_T S s))) (ba_l (bz_W S) (ba_ln ((bs_sn (bz_T S s)).take j)))) with ⟨q4, -⟩ | ⟨i, -, q4, -⟩
        · rw [q2] at q4
          exact absurd q4 q1
        · rw [q2] at q4
          rw [q4] at q1 ⊢
          exact ba_g_up hW i _ o.1 j2 q1
      generalize ba_sp (bz_W S) (ba_l (bz_W S) (bs_now (bz_T S s)) - ba_l (bz_W S) (ba_ln ((bs_sn (bz_T S s)).take j))) (bs_now (bz_T S s)) = L at *
      have hng : ba_ln ((bs_sn (bz_T S s)).take j) ≠ 0 → ba_g (bz_W S) (ba_ln ((bs_sn (bz_T S s)).take j)) = s % 4 := fun h0 => by
        have hne : (bs_sn (bz_T S s)).take j ≠ [] := fun e => h0 (by rw [e]; rfl)
        have hm := List.mem_of_mem_take (bv_last hne)
        exact ba_g_anc hW o.1 (bs_anc_now hW o hm) j2 h0
      have h13 : bs_c (bz_T S s) 13 = 0 := by
        rcases d with d | ⟨d, -⟩
        · exact d
        · rw [w.1] at d
          exact absurd d (by decide)
      have h15 : bs_c (bz_T S s) 15 = 0 := Decidable.byContradiction (fun u => bs_src_no (Or.inr w.1) (f2 u).1)
      have g0 := bv_T.g0 T (by rw [w.1]; decide)
      refine bz_V.thin (S := bz_sT (bx_act S (s / 4)) s _) ?_ hs hN1
      refine V1.sT hs hN1 (by rw [eW]; exact (o.tk hW hj).of rfl rfl) (by rw [eT]; rfl) (by rw [eT]; exact Or.inr ⟨rfl, Nat.le_refl _⟩) (by rw [eT, eW]; exact Nat.add_le_add_right (bs_need_back j L) _) ?_
      rw [eT, eW]
      refine ⟨⟨fun q hq => a1 q (List.mem_of_mem_take hq), List.Pairwise.sublist (List.take_sublist j _) a2, ?_⟩, ⟨b1, b2, fun q hq => b3 q (List.mem_of_mem_take hq)⟩, ⟨Or.inl rfl, fun _ => rfl, fun w => absurd w (by show (0 : Int32) ≠ 3; decide), fun w => absurd w (bs_src_no (Or.inl rfl))⟩, Or.inl h13, fun w => absurd w (bs_src_no (Or.inl rfl)), ⟨Or.inl h15, fun w => absurd h15 w, fun w => absurd (h15.symm.trans w) (by decide)⟩, Or.inl g0, ⟨hL1, hL2⟩, ?_, hng⟩
      · show ((bs_sn (bz_T S s)).take j).length ≤ 8
        rw [List.length_take]
        omega
      · show ba_l (bz_W S) (ba_ln ((bs_sn (bz_T S s)).take j)) - ba_l (bz_W S) (ba_ln ((bs_sn (bz_T S s)).take j)) ≤ 64
        rw [Nat.sub_self]
        exact Nat.zero_le _
  · exact V
/-- what a store that goes back loses fits -/
theorem bz_V.span (V : bz_V S M C) (hs : s < 8) (v : Int32) : (ba_sp (bz_W S) (ba_l (bz_W S) (bs_now (bz_T S s)) - ba_l (bz_W S) (ba_lo v (bs_sn (bz_T S s)))) (bs_now (bz_T S s))).length ≤ bz_pool S := by
  have hW := V.I.W
  have o := V.I.o hs
  rw [ba_sp_len hW o.1 (Nat.sub_le _ _)]
  refine Nat.le_trans ?_ (V.need hs)
  by_cases c : ∃ q ∈ bs_sn (bz_T S s), Int32.ofNat q.1 = v
  · obtain ⟨q, hq, rfl⟩ := c
    rw [ba_lo_mem (V.T hs).1.2.1.dis (V.snsm hs) hq]
    have := (bs_anc_now hW o hq).1
    rw [show ba_l (bz_W S) (bs_now (bz_T S s)) - (ba_l (bz_W S) (bs_now (bz_T S s)) - ba_l (bz_W S) q.2) = ba_l (bz_W S) q.2 by omega]
    exact bs_need_now hW o hq
  · rw [ba_lo_no (fun q hq w => c ⟨q, hq, w⟩), ba_l0 hW, Nat.sub_zero, Nat.sub_self]
    exact bs_need_now0 hW o
/-- an offer staged: as it must be for a commit -/
theorem bz_V.stok (V : bz_V S M C) (hs : s < 8) (hN : s % 4 < bz_N S) {m : ba_G} {bi ln wn al : Nat} (h : bv_of S s m bi ln wn al) (h7 : m.1 7 = Int32.ofNat ln) (h6 : bs_c (bz_T S s) 6 = 0) (h3 : m.1 3 = 0 ∨ m.1 3 = Int32.ofNat (bs_latest (bz_T S s))) : bx_cok (bz_sT (bx_act S (s / 4)) s (bs_stage (bz_T S s) m)) s ∧ bz_sa (bz_sT (bx_act S (s / 4)) s (bs_stage (bz_T S s) m)) s := by
  have T := V.T hs
  have hW := V.I.W
  have o := V.I.o hs
  have RG := V.R (g := s % 4) (by omega)
  have sm := V.sm (g := s % 4) (by omega)
  have hlen : (bs_sn (bz_T S s)).length ≤ 14 := by have := T.1.2.2; omega
  have hr : (bz_R S (s % 4)).length ≤ 9000 := by have := RG.2.1; have := V.mx.2; omega
  have eW : bz_W (bx_act S (s / 4)) = bz_W S := bx_act_W _ _
  have eR : bz_R (bx_act S (s / 4)) = bz_R S := by
    obtain ⟨f, ef⟩ := bx_act_in S (s / 4)
    rw [ef]
    rfl
  have hb := V.base hs h h3
  obtain ⟨g1, g2, -, g4, -, -⟩ := h
  obtain ⟨hnl, hkn⟩ := bv_T.cp T hW o (Or.inl h6)
  have hid : 0 < bi ∧ bi < 2147483648 := sm _ g2
  have hln : ln ≤ ba_n (bz_W S) := RG.ln _ g2
  have n6 := hW.1
  have t1 : (m.1 4).toNatClampNeg = bi := by rw [g1, bn_nat hid.2]
  have t2 : (m.1 7).toNatClampNeg = ln := by rw [h7, bn_nat (by omega)]
  have eT : bz_T (bz_sT (bx_act S (s / 4)) s (bs_stage (bz_T S s) m)) s = bs_stage (bz_T S s) m := bz_T_same _ _ _
  have eW' : bz_W (bz_sT (bx_act S (s / 4)) s (bs_stage (bz_T S s) m)) = bz_W S := eW
  have eR' : bz_R (bz_sT (bx_act S (s / 4)) s (bs_stage (bz_T S s) m)) = bz_R S := eR
  have c0 : bs_g (bs_stage (bz_T S s) m) 0 = m.1 3 := rfl
  have c1 : bs_g (bs_stage (bz_T S s) m) 1 = m.1 4 := rfl
  have c2 : bs_g (bs_stage (bz_T S s) m) 2 = m.1 7 := rfl
  have c3 : bs_g (bs_stage (bz_T S s) m) 3 = m.1 5 := rfl
  have c4 : bs_g (bs_stage (bz_T S s) m) 4 = 0 := rfl
  have c5 : bs_g (bs_stage (bz_T S s) m) 5 = 0 := rfl
  have c6 : bs_line (bs_stage (bz_T S s) m) = bs_line (bz_T S s) := rfl
  have ck : bx_cok (bz_sT (bx_act S (s / 4)) s (bs_stage (bz_T S s) m)) s := by
    unfold bx_cok
    rw [eT, eW', c0, c1, c2, t1, t2]
    refine ⟨hln, h7.symm, g1.symm, fun w => ?_, hlen⟩
    rcases hb with ⟨w1, -⟩ | ⟨-, -, w3⟩
    · exact absurd w1 w
    · refine ⟨hkn, hnl.symm, ?_⟩
      rw [w3] at g4
      exact g4
  refine ⟨ck, ?_⟩
  unfold bz_sa
  refine ⟨?_, fun _ => ?_⟩
  · rw [eT, c3, c4, c5]
    rfl
  · unfold bz_sk
    rw [eT, eW', eR', c0, c1, c2, c6, t2]
    refine ⟨ck, by rw [g1]; exact ba_rg_mem RG.1 sm g2, ?_, (RG.2.2 _ g2).2.2.2, hr⟩
    rcases hb with ⟨w1, -⟩ | ⟨w1, w2, -⟩
    · rw [w1, if_pos rfl]
      exact ba_rg_0 sm
    · rw [if_neg w1, w2]
      have hne : bs_sn (bz_T S s) ≠ [] := fun w => by
        apply w1
        rw [w2]
        unfold bs_latest
        rw [w]
        rfl
      exact ba_rg_mem RG.1 sm (p := (bs_latest (bz_T S s), bs_line (bz_T S s))) (T.1.1 _ (bv_last hne))
/-- what a message says to its receiver -/
theorem bv_M.at {m : ba_G} (h : bv_M S M m) (hM : M ≤ 3900) (hs : s < 8) (h1 : m.1 1 = Int32.ofNat ((s + 4) % 8)) : ∃ e k n, m.1 0 = Int32.ofNat k ∧ 1 ≤ k ∧ k ≤ 11 ∧ m.1 2 = Int32.ofNat e ∧ bv_e S M (s % 4) e ∧ m.2.length = 3 * n ∧ n ≤ 40 ∧
  (k = 1 ∨ k = 3 → ∃ bi ln wn al, bv_of S s m bi ln wn al ∧ bi / 4096 ≤ e ∧ (k = 1 → m.1 5 = Int32.ofNat wn ∧ m.1 7 = Int32.ofNat ln) ∧ (k = 3 → ∃ ch, m.1 5 = Int32.ofNat ch ∧ 4 * ch < wn ∧ n = min 4 (wn - 4 * ch))) ∧
  (k = 2 ∨ k = 4 → ∃ c, c ≤ 2100 ∧ m.1 5 = Int32.ofNat c) ∧
  (k = 8 → ∃ ce, m.1 5 = Int32.ofNat ce ∧ e < ce ∧ ce ≤ M ∧ bv_site ce = s / 4) ∧
  (k = 10 → ∀ j, j < n → ∃ id, m.2.getD (3 * j) 0 = Int32.ofNat id ∧ 0 < id ∧ id < 4096 * e) := by
  obtain ⟨sd, e, k, n, h2, h3, h4, h5, h6, h7, h8, h9, h10, h11, h12, h13, h14, h15⟩ := h
  have esd : sd = (s + 4) % 8 := (bn_eq (by omega) (by omega)).mp (h4.symm.trans h1)
  have eg : sd % 4 = s % 4 := by omega
  rw [eg] at h9 h12
  refine ⟨e, k, n, h5, h6, h7, h8, h9, h10, h11, fun hk => ?_, h13, fun hk => ?_, h15⟩
  · obtain ⟨bi, ln, wn, al, a1, a2, a2', a3, a4, a5, a6, a7, a8⟩ := h12 hk
    exact ⟨bi, ln, wn, al, ⟨a1, a2, a3, a4, a5, a6⟩, a2', a7, a8⟩
  · obtain ⟨ce, b1, b2, b3, b4⟩ := h14 hk
    have := bv_site_lt ce
    exact ⟨ce, b1, b2, b3, by omega⟩
theorem bz_V.kind (V : bz_V S M C) (hs : s < 8) (hN : s % 4 < bz_N S) {m : ba_G} (hm : bv_M S M m) (h1 : m.1 1 = Int32.ofNat ((s + 4) % 8)) (he : bs_c (bz_T S s) 7 = m.1 2) (hC : C + 1 ≤ 8900) : bz_V (bx_kind S s m) M (C + 1) := by
  have up : ∀ {S'}, bz_V S' M C → bz_V S' M (C + 1) := fun V' => V'.up (Nat.le_refl _) (Nat.le_succ C) V.mx.1 hC
  have hM := V.mx.1
  obtain ⟨e, k, n, k0, k1, k2, k3, k4, k5, k6, k7, k8, k9, k10⟩ := hm.at hM hs h1
  have ee : bs_ep (bz_T S s) = e := by
    have h7 := (V.T hs).2.1.1.1
    have h8 := (V.T hs).2.1.2.1.2.1
    have h9 := k4.2.1
    exact (bn_eq (by omega) (by omega)).mp (h7.symm.trans (he.trans k3))
  rw [bx_kind_eq k1 k2 k0]
  by_cases c1 : k = 1
  · rw [if_pos c1]
    obtain ⟨bi, ln, wn, al, a1, a2, a3, -⟩ := k7 (Or.inl c1)
    exact up (V.onOffer hs hN a1 (by omega) (a3 c1).1 (a3 c1).2)
  rw [if_neg c1]
  by_cases c2 : k = 2
  · rw [if_pos c2]
    obtain ⟨c, a1, a2⟩ := k8 (Or.inl c2)
    exact up (V.onAccept hs hN a1 a2)
  rw [if_neg c2]
  by_cases c3 : k = 3
  · rw [if_pos c3]
    obtain ⟨bi, ln, wn, al, a1, a2, -, a4⟩ := k7 (Or.inr c3)
    obtain ⟨ch, b1, b2, b3⟩ := a4 c3
    exact up (V.onData hs hN a1 b1 b2 b3 k5)
  rw [if_neg c3]
  by_cases c4 : k = 4
  · rw [if_pos c4]
    obtain ⟨c, a1, a2⟩ := k8 (Or.inr c4)
    exact up (V.onAck hs hN a1 a2)
  rw [if_neg c4]
  by_cases c5 : k = 5
  · rw [if_pos c5]
    exact up (V.onHave hs hN m)
  rw [if_neg c5]
  by_cases c6 : k = 6
  · rw [if_pos c6]
    exact up (V.onLack hs hN m)
  rw [if_neg c6]
  by_cases c8 : k = 8
  · rw [if_pos c8]
    obtain ⟨ce, b1, b2, b3, b4⟩ := k9 c8
    exact V.onGive hs hN b1 (by omega) b3 b4 hC
  rw [if_neg c8]
  by_cases c10 : k = 10
  · rw [if_pos c10]
    exact up (V.onHello hs hN k5 (by rw [ee]; exact k10 c10))
  rw [if_neg c10]
  by_cases c11 : k = 11
  · rw [if_pos c11]
    exact up (V.onCommon hs hN m)
  rw [if_neg c11]
  exact up V
/-- learnt, and the message still holds -/
theorem bz_V.lm (V : bz_V S M C) (hs : s < 8) (hN : s % 4 < bz_N S) {m : ba_G} (hm : bv_M S M m) (h1 : m.1 1 = Int32.ofNat ((s + 4) % 8)) (hl : bs_c (bz_T S s) 7 < m.1 2) : bz_V (bz_sT (bx_act S (s / 4)) s (bs_learn (bz_T S s) (m.1 2))) M C ∧ bv_M (bz_sT (bx_act S (s / 4)) s (bs_learn (bz_T S s) (m.1 2))) M m ∧ bs_c (bz_T (bz_sT (bx_act S (s / 4)) s (bs_learn (bz_T S s) (m.1 2))) s) 7 = m.1 2 ∧ s % 4 < bz_N (bz_sT (bx_act S (s / 4)) s (bs_learn (bz_T S s) (m.1 2))) := by
  have hM := V.mx.1
  obtain ⟨e, k, n, k0, k1, k2, k3, k4, -⟩ := hm.at hM hs h1
  have V1 := V.act (s / 4)
  have eT : bz_T (bx_act S (s / 4)) = bz_T S := bx_act_T _ _
  have e7 : bs_c (bs_learn (bz_T S s) (m.1 2)) 7 = m.1 2 := rfl
  have h7 := (V.T hs).2.1.1.1
  have h8 := (V.T hs).2.1.2.1.2.1
  have h9 := k4.2.1
  have lx : bv_lex (bz_T (bx_act S (s / 4)) s) (bs_learn (bz_T S s) (m.1 2)) := by
    left
    rw [eT]
    have : bs_ep (bs_learn (bz_T S s) (m.1 2)) = e := by
      show (bs_c (bs_learn (bz_T S s) (m.1 2)) 7).toNatClampNeg = e
      rw [e7, k3, bn_nat (by omega)]
    rw [this]
    rw [h7, k3] at hl
    exact (bn_lt (by omega) (by omega)).mp hl
  have l1 : bv_le S (bx_act S (s / 4)) := by
    obtain ⟨f, ef⟩ := bx_act_in S (s / 4)
    rw [ef]
    exact bv_le.rf S
  have hm1 : bv_M (bx_act S (s / 4)) M m := hm.le V.I.W (fun g hg => (V.R hg).ln) l1 (Nat.le_refl _)
  refine ⟨?_, hm1.le V1.I.W (fun g hg => (V1.R hg).ln) (bv_le.sT lx) (Nat.le_refl _), ?_, ?_⟩
  · rw [k3] at hl ⊢
    exact V.learn hs hN k4 hl
  · rw [bz_T_same]
    exact e7
  · show s % 4 < bz_N (bx_act S (s / 4))
    rw [bx_act_N]
    exact hN
theorem bz_V.rcv (V : bz_V S M C) (hs : s < 8) (hN : s % 4 < bz_N S) {m : ba_G} (hm : bv_M S M m) (h1 : m.1 1 = Int32.ofNat ((s + 4) % 8)) (hC : C + 1 ≤ 8900) : bz_V (bx_rcv S s m) M (C + 1) := by
  have up : ∀ {S'}, bz_V S' M C → bz_V S' M (C + 1) := fun V' => V'.up (Nat.le_refl _) (Nat.le_succ C) V.mx.1 hC
  unfold bx_rcv
  by_cases c0 : bz_I S (s / 4) 1 = 0
  · rw [if_pos c0]
    exact up V
  rw [if_neg c0]
  by_cases c1 : m.1 2 < bs_c (bz_T S s) 7
  · rw [if_pos c1]
    split
    · exact up (V.tell hs hN (k := 7) (by omega) 0)
    · exact up V
  rw [if_neg c1]
  by_cases c2 : bs_c (bz_T S s) 7 < m.1 2
  · rw [if_pos c2]
    split
    · exact up (V.act _)
    · obtain ⟨V2, hm2, he2, hN2⟩ := V.lm hs hN hm h1 c2
      exact V2.kind hs hN2 hm2 h1 he2 hC
  · rw [if_neg c2]
    exact V.kind hs hN hm h1 (Int32.le_antisymm (Int32.not_lt.mp c1) (Int32.not_lt.mp c2)) hC
/-- the receiver -/
theorem bv_M.to {m : ba_G} (h : bv_M S M m) {s : Nat} (e : s = ((m.1 1).toNatClampNeg + 4) % 8) : s < 8 ∧ s % 4 < bz_N S ∧ m.1 1 = Int32.ofNat ((s + 4) % 8) := by
  obtain ⟨sd, -, -, -, h1, h2, h3, -⟩ := h
  rw [h3, bn_nat (by omega)] at e
  refine ⟨by omega, by rw [show s % 4 = sd % 4 by omega]; exact h2, ?_⟩
  rw [h3]
  congr 1
  omega
theorem bz_V.receive (V : bz_V S M C) {m : ba_G} (hm : bv_M S M m) (hC : C + 1 ≤ 8900) : bz_V (bx_receive S m) M (C + 1) := by
  obtain ⟨h1, h2, h3⟩ := hm.to rfl
  exact V.rcv h1 h2 hm h3 hC
theorem bz_V.drop (V : bz_V S M C) {i : Nat} (hi : i < (bz_F S).length) : bz_V (bx_drop S i) M C := V.of (V.I.drop hi) rfl rfl rfl rfl rfl (fun _ _ => rfl) (fun m hm => Or.inl (List.mem_of_mem_eraseIdx hm))
theorem bz_V.pass (V : bz_V S M C) (i how : Int32) (hC : C + 1 ≤ 8900) : bz_V (bx_pass S i how).1 M (C + 1) := by
  have up : ∀ {S'}, bz_V S' M C → bz_V S' M (C + 1) := fun V' => V'.up (Nat.le_refl _) (Nat.le_succ C) V.mx.1 hC
  unfold bx_pass
  split
  · exact up V
  · rename_i c
    have c0 : bx_at S i = true := by
      cases h : bx_at S i
      · exact absurd (Or.inl h) c
      · rfl
    obtain ⟨hi0, hi1⟩ := bx_at_in V.I c0
    have hmem : (bz_F S).getD i.toNatClampNeg bx_g0 ∈ bz_F S := by
      rw [List.getD_eq_getElem?_getD, List.getElem?_eq_getElem hi1]
      exact List.getElem_mem hi1
    have hm := V.m hmem
    split
    · exact up (V.drop hi1)
    · split
      · exact (V.drop hi1).receive hm hC
      · exact V.receive hm hC
end NQ
