/-! what holds is kept: accepted, acknowledged, had, lacked, given, greeted, back -/
section NP
variable {S S' : ba_S} {W W' : ba_W} {M M' C s : Nat} {t : ba_T}
theorem bx_send_sT (S : ba_S) (s : Nat) (t : ba_T) (m : ba_G) : bx_send (bz_sT S s t) m = bz_sT (bx_send S m) s t := by
  unfold bx_send
  show (if (bz_F S).length < 60 then _ else _) = bz_sT (if (bz_F S).length < 60 then _ else _) s t
  split <;> rfl
theorem bx_send_4 (S : ba_S) (m : ba_G) : bz_T (bx_send S m) = bz_T S ∧ bz_W (bx_send S m) = bz_W S ∧ bz_G (bx_send S m) = bz_G S ∧ bz_N (bx_send S m) = bz_N S := by
  obtain ⟨F, L, e⟩ := bx_send_eq S m
  rw [e]
  exact ⟨rfl, rfl, rfl, rfl⟩
theorem bx_items_len (W : ba_W) (L : List Nat) (c : Nat) : (bx_items W L c).length = 3 * min 4 (L.length - 4 * c) := by
  unfold bx_items
  have key : ∀ l : List Nat, (l.flatMap (fun w => [Int32.ofNat (ba_s W w / 4096), Int32.ofNat (ba_s W w % 4096), ba_v W w])).length = 3 * l.length := fun l => by
    induction l with
    | nil => rfl
    | cons q l ih =>
      rw [List.flatMap_cons, List.length_append, ih]
      simp
      omega
  rw [key, List.length_take, List.length_drop]
/-- all that may be sent is sent -/
theorem bz_V.son (hs : s < 8) {ch : Nat} : ∀ (n nx : Nat) (S : ba_S), bz_V (bz_sT S s (bs_sc (bz_T S s) 15 1)) M C → s % 4 < bz_N S → bs_c (bz_T S s) 15 = 2 → bs_c (bz_T S s) 16 = Int32.ofNat ch → bs_c (bz_T S s) 17 = Int32.ofNat nx → ch ≤ nx → nx ≤ 2100 → ch + bz_win S < nx + n → bz_V (bx_son n S s) M C
  | n, nx, S, V, hN, h15, h16, h17, hc, hx, hn => by
    have hN1 : s % 4 < bz_N (bz_sT S s (bs_sc (bz_T S s) 15 1)) := hN
    have T := V.T hs
    have hwin := V.I.wi
    have hG2 : bz_G S 2 = Int32.ofNat (bz_win S) := hwin.1
    have hw8 : bz_win S ≤ 8 := hwin.2.2
    rw [bz_T_same] at T
    have o := V.I.o hs
    rw [bz_T_same] at o
    have o : bs_ok (bz_W S) (bz_T S s) := o.of rfl rfl
    have eplan : bs_plan (bz_W S) (bs_sc (bz_T S s) 15 1) = bs_plan (bz_W S) (bz_T S s) := rfl
    have h2 : (1 : Int32) ≠ 0 := by decide
    obtain ⟨hsrc, h10⟩ := T.2.2.2.2.2.1.2.1 h2
    have tg := T.tg hsrc h10
    have hpl := (V.pln hs (by rw [bz_T_same]; exact tg)).2
    rw [bz_T_same] at hpl
    have hpl : (bs_plan (bz_W S) (bz_T S s)).length ≤ bz_pool S := by
      rw [← eplan]
      exact hpl
    have hpl2 : bz_pool S ≤ 8192 := V.I.pl.2
    have cond : (bs_c (bz_T S s) 17 < bs_c (bz_T S s) 16 + bz_G S 2 ∧ 4 * bs_c (bz_T S s) 17 < Int32.ofNat (bs_plan (bz_W S) (bz_T S s)).length) ↔ (nx < ch + bz_win S ∧ 4 * nx < (bs_plan (bz_W S) (bz_T S s)).length) := by
      rw [h16, h17, hG2, bn_add, show (4 : Int32) = Int32.ofNat 4 from rfl, bn_mul, bn_lt (by omega) (by omega), bn_lt (by omega) (by omega)]
    -- where nothing more may be sent
    have stop : ¬ (nx < ch + bz_win S ∧ 4 * nx < (bs_plan (bz_W S) (bz_T S s)).length) → bz_V S M C := fun w => by
      have h9 := V.sT hs hN1 (t := bz_T S s) o (by rw [bz_T_same]; rfl) (by rw [bz_T_same]; exact Or.inr ⟨rfl, Nat.le_refl _⟩) (by rw [bz_T_same]; exact Nat.le_refl _) (by
        rw [bz_T_ne _ _ (show (s + 4) % 8 ≠ s by omega)]
        have T2 := T
        rw [bz_T_ne _ _ (show (s + 4) % 8 ≠ s by omega)] at T2
        obtain ⟨a, b, c, d, e, ⟨f1, f2, f3⟩, g, i, j⟩ := T2
        exact ⟨a, b, c, d, e, ⟨Or.inr (Or.inr h15), fun _ => ⟨hsrc, h10⟩, fun _ => ⟨ch, nx, h16, h17, hc, hx, w⟩⟩, g, i, j⟩)
      rw [bz_sT_sT, bz_sT_id] at h9
      exact h9
    match n with
    | 0 => exact stop (by omega)
    | n + 1 =>
      unfold bx_son
      by_cases c : bs_c (bz_T S s) 17 < bs_c (bz_T S s) 16 + bz_G S 2 ∧ 4 * bs_c (bz_T S s) 17 < Int32.ofNat (bs_plan (bz_W S) (bz_T S s)).length
      · rw [if_pos c]
        obtain ⟨c1, c2⟩ := cond.mp c
        -- the message
        obtain ⟨-, t2, q, hq, t3, t3', t4⟩ := tg
        have t3 : bs_c (bz_T S s) 10 = Int32.ofNat q.1 := t3
        have t4 : bs_c (bz_T S s) 14 < bs_c (bz_T S s) 10 := t4
        rw [t3] at t4
        have sm : bv_sm (bs_sn (bz_T S s)) := by
          have := V.snsm hs
          rw [bz_T_same] at this
          exact this
        obtain ⟨al, g1, g5, g6, g7, -, g8, g9⟩ := bv_plan V.I.W o T.1.2.1 sm hq t2 t4
        have g6 : ba_lo (bs_c (bz_T S s) 14) (bs_sn (bz_T S s)) = al := g6
        have hpll : (bs_plan (bz_W S) (bz_T S s)).length = ba_pl (bz_W S) (ba_l (bz_W S) al) (ba_l (bz_W S) q.2 - ba_l (bz_W S) al) q.2 := by
          unfold bs_plan
          rw [t3, g5, g6]
          exact g8
        have e17 : (bs_c (bz_T S s) 17).toNatClampNeg = nx := by rw [h17, bn_nat (by omega)]
        obtain ⟨m, hmm⟩ : ∃ m, m = bx_m S s 3 (bs_c (bz_T S s) 14) (bs_c (bz_T S s) 10) (bs_c (bz_T S s) 17) 0 0 (bx_items (bz_W S) (bs_plan (bz_W S) (bz_T S s)) (bs_c (bz_T S s) 17).toNatClampNeg) := ⟨_, rfl⟩
        have hm : bv_M (bz_sT S s (bs_sc (bz_T S s) 15 1)) M m := by
          have he := V.ep hs
          rw [bz_T_same] at he
          rw [hmm]
          refine ⟨s, _, 3, min 4 ((bs_plan (bz_W S) (bz_T S s)).length - 4 * nx), hs, hN, rfl, rfl, by omega, by omega, T.2.1.1.1, he, ?_, by omega, fun _ => ?_, fun h => by omega, fun h => by omega, fun h => by omega⟩
          · show (bx_items _ _ _).length = _
            rw [bx_items_len, e17]
          · refine ⟨q.1, q.2, _, al, t3, T.1.1 q hq, Nat.le_of_eq t3', ?_, g7, rfl, ?_, fun h => by omega, fun _ => ⟨nx, h17, ?_, ?_⟩⟩
            · rcases g1 with ⟨e1, e2⟩ | ⟨ai, e1, e2⟩
              · exact Or.inl ⟨e1, e2⟩
              · exact Or.inr ⟨ai, e1, T.1.1 _ e2⟩
            · show ba_pl (bz_W S) (ba_l (bz_W S) al) (ba_l (bz_W S) q.2 - ba_l (bz_W S) al) q.2 ≤ 8192
              rw [← hpll]
              omega
            · show 4 * nx < ba_pl (bz_W S) (ba_l (bz_W S) al) (ba_l (bz_W S) q.2 - ba_l (bz_W S) al) q.2
              rw [← hpll]
              exact c2
            · show _ = min 4 (ba_pl (bz_W S) (ba_l (bz_W S) al) (ba_l (bz_W S) q.2 - ba_l (bz_W S) al) q.2 - 4 * nx)
              rw [← hpll]
        have V2 := V.send hm
        rw [bx_send_sT] at V2
        obtain ⟨sT, sW, sG, sN⟩ := bx_send_4 S m
        have e1 : bs_c (bz_T S s) 17 + 1 = Int32.ofNat (nx + 1) := by
          rw [h17]
          exact bn_one _
        have eS' : bx_data S s = bz_sT (bx_send S m) s (bs_sc (bz_T S s) 17 (Int32.ofNat (nx + 1))) := by
          unfold bx_data bx_sc
          rw [← hmm, sT, e1]
        have V3 : bz_V (bz_sT (bx_data S s) s (bs_sc (bz_T (bx_data S s) s) 15 1)) M C := by
          rw [eS', bz_T_same, bz_sT_sT]
          have o2 : bs_ok (bz_W (bz_sT (bx_send S m) s (bs_sc (bz_T S s) 15 1))) (bs_sc (bs_sc (bz_T S s) 17 (Int32.ofNat (nx + 1))) 15 1) := by
            show bs_ok (bz_W (bx_send S m)) _
            rw [sW]
            exact o.of rfl rfl
          have h9 := V2.sT hs (show s % 4 < bz_N (bx_send S m) by rw [sN]; exact hN) (t := bs_sc (bs_sc (bz_T S s) 17 (Int32.ofNat (nx + 1))) 15 1) o2 (by rw [bz_T_same]; rfl) (by rw [bz_T_same]; exact Or.inr ⟨rfl, Nat.le_refl _⟩) (by rw [bz_T_same]; exact Nat.le_refl _) (by
            have T2 := V2.T hs
            rw [bz_T_same] at T2
            obtain ⟨a, b, c, d, e, ⟨f1, f2, f3⟩, g, i, j⟩ := T2
            exact ⟨a, b, c, d, e, ⟨f1, f2, fun w => absurd w (by show (1 : Int32) ≠ 2; decide)⟩, g, i, j⟩)
          rw [bz_sT_sT] at h9
          exact h9
        have hT' : bz_T (bx_data S s) s = bs_sc (bz_T S s) 17 (Int32.ofNat (nx + 1)) := by rw [eS', bz_T_same]
        have hwin' : bz_win (bx_data S s) = bz_win S := by
          rw [eS']
          show (bz_G (bx_send S m) 2).toNatClampNeg = _
          rw [sG]
          rfl
        refine bz_V.son hs n (nx + 1) (bx_data S s) V3 ?_ (by rw [hT']; exact h15) (by rw [hT']; exact h16) (by rw [hT']; rfl) (by omega) (by omega) (by rw [hwin']; omega)
        rw [eS']
        show s % 4 < bz_N (bx_send S m)
        rw [sN]
        exact hN
      · rw [if_neg c]
        exact stop (fun w => c (cond.mpr w))
/-- a base or a target is being sent -/
theorem bs_sends_in {m : ba_G} {p : Int32} (h : bs_sends t m p = true) : bs_src t = true ∧ bs_c t 15 = p ∧ bs_c t 14 = m.1 3 ∧ bs_c t 10 = m.1 4 := by
  unfold bs_sends at h
  simp only [Bool.and_eq_true, decide_eq_true_eq] at h
  exact ⟨h.1.1.1, h.1.1.2, h.1.2, h.2⟩
theorem bz_V.onAccept (V : bz_V S M C) (hs : s < 8) (hN : s % 4 < bz_N S) {m : ba_G} {c : Nat} (hc : c ≤ 2100) (h5 : m.1 5 = Int32.ofNat c) : bz_V (bx_onAccept S s m) M C := by
  unfold bx_onAccept
  split
  · rename_i w
    obtain ⟨h1, h2, -, -⟩ := bs_sends_in w
    rw [h5]
    refine bz_V.son hs (ch := c) 9 c _ ?_ hN (by rw [bz_T_same]; rfl) (by rw [bz_T_same]; rfl) (by rw [bz_T_same]; rfl) (Nat.le_refl _) hc ?_
    · rw [bz_T_same, bz_sT_sT]
      refine V.sT hs hN ((V.I.o hs).of rfl rfl) rfl (Or.inr ⟨rfl, Nat.le_refl _⟩) (Nat.le_refl _) ?_
      obtain ⟨a, b, c', d, e, ⟨f1, f2, f3⟩, g, i, j⟩ := V.T hs
      have h10 := (f2 (by rw [h2]; decide)).2
      exact ⟨a, b, c', d, e, ⟨Or.inr (Or.inl rfl), fun _ => ⟨h1, h10⟩, fun w => absurd w (by show (1 : Int32) ≠ 2; decide)⟩, g, i, j⟩
    · show c + bz_win S < c + 9
      have := V.I.wi.2.2
      omega
  · exact V
theorem bz_V.onAck (V : bz_V S M C) (hs : s < 8) (hN : s % 4 < bz_N S) {m : ba_G} {c : Nat} (hc : c ≤ 2100) (h5 : m.1 5 = Int32.ofNat c) : bz_V (bx_onAck S s m) M C := by
  unfold bx_onAck
  split
  · rename_i w
    obtain ⟨h1, h2, -, -⟩ := bs_sends_in w.1
    obtain ⟨a, b, c', d, e, ⟨f1, f2, f3⟩, g, i, j⟩ := id (V.T hs)
    have h10 := (f2 (by rw [h2]; decide)).2
    obtain ⟨ch, nx, w1, w2, w3, w4, -⟩ := f3 h2
    have e17 : (if m.1 5 ≤ bs_c (bz_T S s) 17 then bs_c (bz_T S s) 17 else m.1 5) = Int32.ofNat (max nx c) := by
      rw [h5, w2]
      by_cases u : c ≤ nx
      · rw [if_pos ((bn_le (by omega) (by omega)).mpr u), Nat.max_eq_left u]
      · rw [if_neg (fun v => u ((bn_le (by omega) (by omega)).mp v)), Nat.max_eq_right (by omega)]
    rw [e17, h5]
    refine bz_V.son hs (ch := c) 9 (max nx c) _ ?_ hN (by rw [bz_T_same]; exact h2) (by rw [bz_T_same]; rfl) (by rw [bz_T_same]; rfl) (by omega) (by omega) ?_
    · rw [bz_T_same, bz_sT_sT]
      refine V.sT hs hN ((V.I.o hs).of rfl rfl) rfl (Or.inr ⟨rfl, Nat.le_refl _⟩) (Nat.le_refl _) ?_
      exact ⟨a, b, c', d, e, ⟨Or.inr (Or.inl rfl), fun _ => ⟨h1, h10⟩, fun w => absurd w (by show (1 : Int32) ≠ 2; decide)⟩, g, i, j⟩
    · show c + bz_win S < max nx c + 9
      have := V.I.wi.2.2
      omega
  · exact V
/-- phase 2: nothing more is to be sent -/
theorem bz_V.done (V : bz_V S M C) (hs : s < 8) (h15 : bs_c (bz_T S s) 15 = 2) : bx_son 9 S s = S := by
  have T := V.T hs
  obtain ⟨ch, nx, w1, w2, w3, w4, w5⟩ := T.2.2.2.2.2.1.2.2 h15
  obtain ⟨hsrc, h10⟩ := T.2.2.2.2.2.1.2.1 (by rw [h15]; decide)
  have hpl := (V.pln hs (T.tg hsrc h10)).2
  have hwin := V.I.wi
  have h82 := V.I.pl.2
  unfold bx_son
  refine if_neg (fun w => w5 ?_)
  rw [w1, w2, hwin.1, bn_add, show (4 : Int32) = Int32.ofNat 4 from rfl, bn_mul, bn_lt (by omega) (by omega), bn_lt (by omega) (by omega)] at w
  exact w
/-- had -/
theorem bz_V.onHave (V : bz_V S M C) (hs : s < 8) (hN : s % 4 < bz_N S) (m : ba_G) : bz_V (bx_onHave S s m) M C := by
  unfold bx_onHave
  split
  · rename_i w
    split
    · exact V.act _
    · have V1 := V.act (s / 4)
      have eT : bz_T (bx_act S (s / 4)) = bz_T S := bx_act_T _ _
      have eW : bz_W (bx_act S (s / 4)) = bz_W S := bx_act_W _ _
      have hN1 : s % 4 < bz_N (bx_act S (s / 4)) := by rw [bx_act_N]; exact hN
      have V2 : bz_V (bz_sT (bx_act S (s / 4)) s (bs_sc (bs_sc (bs_sc (bs_sc (bs_sc (bz_T S s) 9 (m.1 4)) 14 (m.1 4)) 10 0) 15 0) 18 0)) M C := by
        refine V1.sT hs hN1 (by rw [eW]; exact (V.I.o hs).of rfl rfl) (by rw [eT]; rfl) (by rw [eT]; exact Or.inr ⟨rfl, Nat.le_refl _⟩) (by rw [eT]; exact Nat.le_refl _) ?_
        have T := V1.T hs
        rw [eT] at T ⊢
        obtain ⟨a, b, c, d, e, ⟨f1, f2, f3⟩, g, i, j⟩ := T
        obtain ⟨e1, e2, e3⟩ := e w.1
        have hid : bv_id (bs_sn (bz_T S s)) (m.1 4) := by
          rw [← w.2.2]
          rcases e3 with e3 | ⟨q, hq, e4, -⟩
          · exact Or.inl e3
          · exact Or.inr ⟨q, hq, e4⟩
        exact ⟨a, b, c, d, fun _ => ⟨hid, hid, Or.inl rfl⟩, ⟨Or.inl rfl, fun w => absurd rfl w, fun w => absurd w (by show (0 : Int32) ≠ 2; decide)⟩, g, i, j⟩
      exact V2.thin hs hN1
  · exact V
/-- lacked -/
theorem bz_V.onLack (V : bz_V S M C) (hs : s < 8) (hN : s % 4 < bz_N S) (m : ba_G) : bz_V (bx_onLack S s m) M C := by
  unfold bx_onLack
  split
  · rename_i w
    have T := V.T hs
    obtain ⟨e1, e2, e3⟩ := T.2.2.2.2.1 w.1
    rcases e3 with e3 | ⟨q, hq, e4, e5, e6, e7⟩
    · exact absurd e3 w.2.1
    · obtain ⟨v, hv⟩ : ∃ v, v = (if m.1 4 < bs_c (bz_T S s) 10 ∧ ba_fd (m.1 4) (bs_sn (bz_T S s)) 0 ≠ -1 then m.1 4 else 0) := ⟨_, rfl⟩
      rw [← hv]
      have v1 : bv_id (bs_sn (bz_T S s)) v := by
        rw [hv]
        split
        · rename_i u
          obtain ⟨p, hp, ep⟩ := ba_fd_mem u.2
          exact Or.inr ⟨p, hp, ep.symm⟩
        · exact Or.inl rfl
      have v2 : v < bs_c (bz_T S s) 10 := by
        rw [hv]
        split
        · rename_i u
          exact u.1
        · rw [e4]
          have := V.snsm hs q hq
          exact (bn_lt (a := 0) (by decide) this.2).mpr this.1
      have tg : bv_tg (bs_sc (bz_T S s) 14 v) := ⟨w.1, v1, q, hq, e4, e5, v2⟩
      have h9 := V.offer1 hs hN (u := bs_c (bz_T S s) 10) (v := v) e6 (by rw [bs_sc_id]; exact tg)
      rw [bs_sc_id] at h9
      exact h9
  · exact V
/-- given -/
theorem bz_V.onGive (V : bz_V S M C) (hs : s < 8) (hN : s % 4 < bz_N S) {m : ba_G} {ce : Nat} (h5 : m.1 5 = Int32.ofNat ce) (he : bs_ep (bz_T S s) < ce) (hM : ce ≤ M) (hsi : bv_site ce = s / 4) (hC : C + 1 ≤ 8900) : bz_V (bx_onGive S s m) M (C + 1) := by
  have up : ∀ {S'}, bz_V S' M C → bz_V S' M (C + 1) := fun V' => V'.up (Nat.le_refl _) (Nat.le_succ C) V.mx.1 hC
  unfold bx_onGive
  split
  · rename_i w
    split
    · exact up (V.act _)
    · have V1 := V.act (s / 4)
      have eT : bz_T (bx_act S (s / 4)) = bz_T S := bx_act_T _ _
      have hN1 : s % 4 < bz_N (bx_act S (s / 4)) := by rw [bx_act_N]; exact hN
      have T := V.T hs
      have o := V.I.o hs
      have hcp := bv_T.cp T V.I.W o (Or.inl w.1)
      have hid : bv_id (bs_sn (bz_T S s)) (m.1 4) := by
        rw [w.2]
        by_cases c : bs_sn (bz_T S s) = []
        · left
          unfold bs_latest
          rw [c]
          rfl
        · exact Or.inr ⟨_, bv_last c, rfl⟩
      have h13 : bs_c (bz_T S s) 13 = 0 := by
        rcases T.2.2.2.1 with d | ⟨d, -⟩
        · exact d
        · rw [w.1] at d
          exact absurd d (by decide)
      have h15 : bs_c (bz_T S s) 15 = 0 := by
        by_cases u : bs_c (bz_T S s) 15 = 0
        · exact u
        · exact absurd (T.2.2.2.2.2.1.2.1 u).1 (bs_src_no (Or.inl w.1))
      rw [h5]
      have V2 := V1.begin hs hN1 (t1 := bs_sc (bs_sc (bs_sc (bs_sc (bs_sc (bz_T S s) 9 (m.1 4)) 14 (m.1 4)) 10 0) 11 0) 12 0) (en := ce) (by rw [eT]; rfl) (by rw [eT]; rfl) (by rw [eT]; exact hcp.2) (by rw [eT]; exact he) hM hsi h13 (by rw [eT]; exact hid) (by rw [eT]; exact hid) rfl h15 hC
      exact V2.tell hs hN1 (k := 9) (by omega) 0
  · exact up V
/-- greeted -/
theorem bx_com_in {l : List (Nat × Nat)} : ∀ (r : List Int32), bx_com l r = 0 ∨ (∃ q ∈ l, Int32.ofNat q.1 = bx_com l r) ∧ ∃ j, 3 * j + 2 < r.length ∧ r.getD (3 * j) 0 = bx_com l r
  | [] => Or.inl rfl
  | [_] => Or.inl rfl
  | [_, _] => Or.inl rfl
  | a :: b :: c :: r => by
    show (if ba_fd a l 0 ≠ -1 then a else bx_com l r) = 0 ∨ _
    by_cases w : ba_fd a l 0 ≠ -1
    · have e : bx_com l (a :: b :: c :: r) = a := if_pos w
      rw [e]
      refine Or.inr ⟨ba_fd_mem w, 0, by simp, rfl⟩
    · have e : bx_com l (a :: b :: c :: r) = bx_com l r := if_neg w
      rw [e, if_neg w]
      rcases bx_com_in r with h | ⟨h1, j, h2, h3⟩
      · exact Or.inl h
      · refine Or.inr ⟨h1, j + 1, by simp; omega, ?_⟩
        rw [← h3]
        rfl
theorem bz_V.onHello (V : bz_V S M C) (hs : s < 8) (hN : s % 4 < bz_N S) {m : ba_G} {n : Nat} (h2 : m.2.length = 3 * n) (hi : ∀ j, j < n → ∃ id, m.2.getD (3 * j) 0 = Int32.ofNat id ∧ 0 < id ∧ id < 4096 * bs_ep (bz_T S s)) : bz_V (bx_onHello S s m) M C := by
  unfold bx_onHello
  split
  · rename_i w
    split
    · exact V.act _
    · have V1 := V.act (s / 4)
      have eT : bz_T (bx_act S (s / 4)) = bz_T S := bx_act_T _ _
      have eW : bz_W (bx_act S (s / 4)) = bz_W S := bx_act_W _ _
      have hN1 : s % 4 < bz_N (bx_act S (s / 4)) := by rw [bx_act_N]; exact hN
      have hsrc := bs_src_of (t := bz_T S s) (Or.inl w.1)
      have sm := V.snsm hs
      have hM := V.mx.1
      have hcom := bx_com_in (l := bs_sn (bz_T S s)) m.2
      generalize bx_com (bs_sn (bz_T S s)) m.2 = v at *
      have hv : bv_id (bs_sn (bz_T S s)) v := by
        rcases hcom with h | ⟨⟨q, hq, h⟩, -⟩
        · exact Or.inl h
        · exact Or.inr ⟨q, hq, h.symm⟩
      suffices V5 : bz_V (bz_sT (bx_act S (s / 4)) s (bs_sc (bs_sc (bs_sc (bs_sc (bs_sc (bs_sc (bs_sc (bz_T S s) 9 v) 11 0) 12 0) 10 (if bs_c (bz_T S s) 10 = v then 0 else bs_c (bz_T S s) 10)) 14 v) 15 0) 18 0)) M C from (V5.thin hs hN1).tell (k := 11) hs hN1 (by omega) _
      refine V1.sT hs hN1 (by rw [eW]; exact (V.I.o hs).of rfl rfl) (by rw [eT]; rfl) (by rw [eT]; exact Or.inr ⟨rfl, Nat.le_refl _⟩) (by rw [eT]; exact Nat.le_refl _) ?_
      have T := V1.T hs
      rw [eT] at T ⊢
      obtain ⟨a, b, c, d, e, ⟨f1, f2, f3⟩, g, i, j⟩ := T
      obtain ⟨e1, e2, e3⟩ := e hsrc
      refine ⟨a, b, c, d, fun _ => ⟨hv, hv, ?_⟩, ⟨Or.inl rfl, fun w => absurd rfl w, fun w => absurd w (by show (0 : Int32) ≠ 2; decide)⟩, g, i, j⟩
      show (if bs_c (bz_T S s) 10 = v then 0 else bs_c (bz_T S s) 10) = 0 ∨ _
      by_cases c1 : bs_c (bz_T S s) 10 = v
      · exact Or.inl (if_pos c1)
      · rw [if_neg c1]
        rcases e3 with e3 | ⟨q, hq, e4, e5, e6, e7⟩
        · exact Or.inl e3
        · refine Or.inr ⟨q, hq, ?_, e5, ?_, ?_⟩
          · show bs_c (bz_T S s) 10 = _
            exact e4
          all_goals
            show v < bs_c (bz_T S s) 10
            rw [e4]
            rcases hcom with h | ⟨-, jj, h3, h4⟩
            · rw [h]
              have := sm q hq
              exact (bn_lt (a := 0) (by decide) this.2).mpr this.1
            · obtain ⟨id, i1, i2, i3⟩ := hi jj (by omega)
              have ev : v = Int32.ofNat id := h4.symm.trans i1
              rw [ev]
              have h5 := b.2.1.2.1
              have h5 : bs_ep (bz_T S s) ≤ M := h5
              have h6 : q.1 / 4096 = bs_ep (bz_T S s) := e5
              exact (bn_lt (by omega) (sm q hq).2).mpr (by omega)
  · exact V
end NP
