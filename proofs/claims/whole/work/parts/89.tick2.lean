/-! what holds is kept: epochs, a tick -/
section NM
variable {S S' : ba_S} {W W' : ba_W} {M M' C s : Nat} {t : ba_T}
/-- the least epoch above that leaves a rest -/
theorem bv_next {e r : Nat} (he : e < 4000) (hr : r < 4) : ∃ n, ba_next (Int32.ofNat e) r = Int32.ofNat n ∧ e < n ∧ n ≤ e + 4 ∧ n % 4 = r := by
  refine ⟨e + 1 + (r + 4 - (e + 1) % 4) % 4, ?_, by omega, by omega, by omega⟩
  unfold ba_next
  rw [bn_nat (by omega)]
/-- an epoch begins -/
theorem bz_V.begin (V : bz_V S M C) (hs : s < 8) (hN : s % 4 < bz_N S) {t1 : ba_T} {en : Nat} (hl : t1.2.2 = (bz_T S s).2.2) (h0 : bs_c t1 0 = bs_c (bz_T S s) 0) (hkn : bs_kept (bz_T S s) = bs_now (bz_T S s)) (he : bs_ep (bz_T S s) < en) (heM : en ≤ M) (hsi : bv_site en = s / 4) (d : bs_c t1 13 = 0) (e1 : bv_id (bs_sn (bz_T S s)) (bs_c t1 9)) (e2 : bv_id (bs_sn (bz_T S s)) (bs_c t1 14)) (e3 : bs_c t1 10 = 0) (f : bs_c t1 15 = 0) (hC : C + 1 ≤ 8900) : bz_V (bx_begin (bz_sT S s t1) s (Int32.ofNat en)) M (C + 1) := by
  have T := V.T hs
  have hM := V.mx.1
  have o := V.I.o hs
  obtain ⟨⟨a1, a2, a3⟩, ⟨-, -, b7⟩, -, -, -, -, -, i, j⟩ := T
  have esn : bs_sn t1 = bs_sn (bz_T S s) := congrArg (fun x => x.2.1) hl
  have eno : bs_now t1 = bs_now (bz_T S s) := congrArg (fun x => x.1.1) hl
  have elo : bs_lo t1 = bs_lo (bz_T S s) := congrArg (fun x => x.2.2) hl
  have esa : bs_safe t1 = bs_safe (bz_T S s) := congrArg (fun x => x.1.2.1) hl
  have eke : bs_kept t1 = bs_kept (bz_T S s) := congrArg (fun x => x.1.2.2) hl
  have e7 : bs_ep (bs_clr (bs_sc (bs_sc (bs_sc t1 6 1) 7 (Int32.ofNat en)) 8 1)) = en := by
    show (Int32.ofNat en).toNatClampNeg = en
    exact bn_nat (by omega)
  have e8 : bs_tk (bs_clr (bs_sc (bs_sc (bs_sc t1 6 1) 7 (Int32.ofNat en)) 8 1)) = 1 := rfl
  have hv : 4096 * Int32.ofNat en + 1 = Int32.ofNat (4096 * en + 1) := by
    rw [show (4096 : Int32) = Int32.ofNat 4096 from rfl, bn_mul, bn_one]
  have eS : bx_begin (bz_sT S s t1) s (Int32.ofNat en) = bx_thin (bx_snap (bz_sT S s (bs_clr (bs_sc (bs_sc (bs_sc t1 6 1) 7 (Int32.ofNat en)) 8 1))) s (4096 * Int32.ofNat en + 1)) s := by
    unfold bx_begin
    rw [bz_T_same, bz_sT_sT]
  rw [eS]
  have o1 : bs_ok (bz_W S) (bs_clr (bs_sc (bs_sc (bs_sc t1 6 1) 7 (Int32.ofNat en)) 8 1)) := o.of (congrArg (fun x => x.1) hl) esn
  have pe : bs_pend (bz_W S) (bs_clr (bs_sc (bs_sc (bs_sc t1 6 1) 7 (Int32.ofNat en)) 8 1)) ≤ 64 := by
    show ba_l _ (bs_now t1) - ba_l _ (bs_safe t1) ≤ 64
    rw [eno, esa]
    exact j.1
  have sn := bv_snap (t := bs_clr (bs_sc (bs_sc (bs_sc t1 6 1) 7 (Int32.ofNat en)) 8 1)) (s := s) (M := M) (R := bz_R S (s % 4)) (W := bz_W S) (win := bz_win S) (eo := bs_ep (bz_T S ((s + 4) % 8))) (id := 4096 * en + 1) (fun q hq => a1 q (by rw [← esn]; exact hq)) (by show bv_inc (bs_sn t1); rw [esn]; exact a2) (by show (bs_sn t1).length ≤ 8; rw [esn]; exact a3) (fun q hq => by have := b7 q (by rw [← esn]; exact hq); omega) ⟨by rw [e7]; rfl, by rw [e8]; rfl, by rw [e8]; decide⟩ ⟨by rw [e7]; omega, by rw [e7]; exact heM, by rw [e7]; exact hsi⟩ (fun q hq => by rw [e7]; have := b7 q (by rw [← esn]; exact hq); omega) hM (by rw [e7, e8]) rfl d ⟨by show bv_id (bs_sn t1) (bs_c t1 9); rw [esn]; exact e1, by show bv_id (bs_sn t1) (bs_c t1 14); rw [esn]; exact e2, Or.inl e3⟩ ⟨Or.inl f, fun w => absurd f w, fun w => by
      have w : bs_c t1 15 = 2 := w
      rw [f] at w
      exact absurd w (by decide)⟩ (fun k hk => by
      show (if k < 6 then 0 else _) = _
      rw [if_pos (by omega)]) (by show (bs_lo t1).length ≤ 32768 ∧ ∀ k ∈ bs_lo t1, _; rw [elo]; exact i) ⟨pe, by show bs_now t1 ≠ 0 → ba_g _ (bs_now t1) = _; rw [eno]; exact j.2⟩ (by show bv_sm (bs_sn t1); rw [esn]; exact V.snsm hs)
  refine V.snth hs hN o1 h0 (Or.inl (by rw [e7]; exact he)) ?_ (by show bs_kept t1 = bs_now t1; rw [eke, eno]; exact hkn) (by rw [e7]; exact hsi) hC _ (id := 4096 * en + 1) (by rw [e7, e8]) (by rw [hv, bn_nat (by omega)]) (by show (bs_sn t1).length ≤ 8; rw [esn]; exact a3) sn
  have en1 : bs_need (bz_W S) (bs_clr (bs_sc (bs_sc (bs_sc t1 6 1) 7 (Int32.ofNat en)) 8 1)) = bs_need (bz_W S) (bz_T S s) := by
    unfold bs_need bs_an
    show ba_nd _ 0 ((bs_sn t1).map (fun q => q.2) ++ [bs_kept t1, bs_now t1]) = _
    rw [esn, eke, eno]
  unfold bs_use
  rw [en1]
  exact Nat.add_le_add_left (Nat.zero_le _) _
/-- handing over -/
theorem bz_V.hand (V : bz_V S M C) (hs : s < 8) (hN : s % 4 < bz_N S) (h6 : bs_c (bz_T S s) 6 = 2) (he : bs_ep (bz_T S s) + 4 ≤ M) : bz_V (bx_hand S s) M C := by
  have T := V.T hs
  unfold bx_hand
  by_cases c0 : bs_c (bz_T S s) 13 = 0
  · rw [if_neg (not_not_intro c0)]
    split
    · exact V.act _
    · have V1 := V.act (s / 4)
      have eT : bz_T (bx_act S (s / 4)) = bz_T S := bx_act_T _ _
      have hN1 : s % 4 < bz_N (bx_act S (s / 4)) := by rw [bx_act_N]; exact hN
      have T1 := V1.T hs
      have hM := V.mx.1
      rw [eT] at T1
      rw [T.2.1.1.1]
      obtain ⟨n, e1, e2, e3, e4⟩ := bv_next (e := bs_ep (bz_T S s)) (r := if s < 4 then 2 else 1) (by omega) (by split <;> decide)
      rw [e1]
      have hsn : bv_site n ≠ s / 4 := by
        unfold bv_site
        by_cases c : s < 4
        · rw [if_pos c] at e4
          rw [if_neg (by omega)]
          omega
        · rw [if_neg c] at e4
          rw [if_pos (by omega)]
          omega
      have V2 : bz_V (bx_sc (bx_act S (s / 4)) s 13 (Int32.ofNat n)) M C := by
        refine V1.sT hs hN1 ((V1.I.o hs).of rfl rfl) rfl (Or.inr ⟨rfl, Nat.le_refl _⟩) (Nat.le_refl _) ?_
        rw [eT]
        obtain ⟨a, b, c, d, e, f, g, i, j⟩ := T1
        exact ⟨a, b, c, Or.inr ⟨h6, n, rfl, e2, by omega, hsn⟩, e, f, g, i, j⟩
      refine V2.give hs hN1 ?_
      unfold bx_sc
      rw [bz_T_same]
      show Int32.ofNat n ≠ 0
      rw [show (0 : Int32) = Int32.ofNat 0 from rfl, ne_eq, bn_eq (by omega) (by decide)]
      omega
  · rw [if_pos c0]
    have V1 := (V.w hs hN (bs_c (bz_T S s) 18 + 1)).1
    split
    · refine V1.give hs hN ?_
      unfold bx_sc
      rw [bz_T_same]
      exact c0
    · exact V1
/-- sending on -/
theorem bz_V.fwd (V : bz_V S M C) (hs : s < 8) (hN : s % 4 < bz_N S) (hsrc : bs_src (bz_T S s) = true) (he : bs_ep (bz_T S s) + 4 ≤ M) : bz_V (bx_fwd S s) M C := by
  have T := V.T hs
  unfold bx_fwd
  by_cases c0 : bs_c (bz_T S s) 10 = 0
  · rw [if_neg (not_not_intro c0)]
    by_cases c1 : Int32.ofNat (bs_latest (bz_T S s)) = bs_c (bz_T S s) 9
    · rw [if_neg (not_not_intro c1)]
      split
      · rename_i c2
        exact V.hand hs hN c2 he
      · exact V
    · rw [if_pos c1]
      split
      · exact V.act _
      · have V1 := V.act (s / 4)
        have eT : bz_T (bx_act S (s / 4)) = bz_T S := bx_act_T _ _
        have hN1 : s % 4 < bz_N (bx_act S (s / 4)) := by rw [bx_act_N]; exact hN
        obtain ⟨tg, el, -⟩ := T.ltg (V.snsm hs) hsrc c1
        have h9 := V1.offer1 hs hN1 (u := Int32.ofNat (bs_latest (bz_T S s))) (v := bs_c (bz_T S s) 9) (by rw [eT]; exact tg.2.2.elim (fun q w => w.2.2.2)) (by rw [eT]; exact tg)
        rw [eT] at h9
        exact h9
  · rw [if_pos c0]
    have V1 := (V.w hs hN (bs_c (bz_T S s) 18 + 1)).1
    split
    · refine V1.offer hs hN ?_
      unfold bx_sc
      rw [bz_T_same]
      exact T.tg hsrc c0
    · exact V1
/-- what a tick does behind the snapshot -/
theorem bz_V.tk2 (V : bz_V S M C) (hs : s < 8) (hN : s % 4 < bz_N S) (he : bs_ep (bz_T S s) + 4 ≤ M) : bz_V (bx_tk2 S s) M C := by
  unfold bx_tk2
  split
  · rename_i c
    exact V.fwd hs hN c he
  · split
    · rename_i c
      have V1 := (V.w hs hN (bs_c (bz_T S s) 18 + 1)).1
      split
      · refine V1.hello hs hN ?_
        unfold bx_sc
        rw [bz_T_same]
        exact c.1
      · exact V1
    · exact V
/-- epochs stay -/
def bv_same (S S' : ba_S) : Prop := ∀ x, bs_c (bz_T S' x) 7 = bs_c (bz_T S x) 7
theorem bv_same.rf (S : ba_S) : bv_same S S := fun _ => rfl
theorem bv_same.tr {S1 S2 S3 : ba_S} (h1 : bv_same S1 S2) (h2 : bv_same S2 S3) : bv_same S1 S3 := fun x => (h2 x).trans (h1 x)
theorem bv_same.act (S : ba_S) (i : Nat) : bv_same S (bx_act S i) := fun x => by rw [bx_act_T]
theorem bv_same.send (S : ba_S) (g : ba_G) : bv_same S (bx_send S g) := fun x => by
  obtain ⟨F, L, e⟩ := bx_send_eq S g
  rw [e]
  rfl
theorem bv_same.sT (S : ba_S) (s : Nat) {t : ba_T} (h : bs_c t 7 = bs_c (bz_T S s) 7) : bv_same S (bz_sT S s t) := fun x => by
  by_cases c : x = s
  · rw [c, bz_T_same]
    exact h
  · rw [bz_T_ne _ _ c]
theorem bv_same.li (h : bx_li s S S') : bv_same S S' := fun x => by
  by_cases c : x = s
  · rw [c, h.c]
  · rw [h.T c]
theorem bv_same.take (S : ba_S) (s : Nat) : bv_same S (bx_take S s).1 := by
  have h1 := bv_same.li (bx_li.check S s)
  unfold bx_take
  split
  · split
    · exact h1.tr (bv_same.act _ _)
    · refine h1.tr ((bv_same.act _ (s / 4)).tr ?_)
      intro x
      unfold bx_thin bx_snap bx_sc
      by_cases c : x = s
      · rw [c, bz_T_same]
        show bs_c (bz_T (bz_sT _ s _) s) 7 = _
        rw [bz_T_same, bz_T_same]
        rfl
      · rw [bz_T_ne _ _ c]
        show bs_c (bz_T (bz_sT _ s _) x) 7 = _
        rw [bz_T_ne _ _ c, bz_T_ne _ _ c]
  · exact h1
theorem bv_same.tk2 (S : ba_S) (s : Nat) : bv_same S (bx_tk2 S s) := by
  have w : ∀ (S : ba_S) k v, k ≠ 7 → bv_same S (bx_sc S s k v) := fun S k v hk => bv_same.sT S s (ba_u_ne _ _ (fun e => hk e.symm))
  have hg : ∀ S : ba_S, bv_same S (bx_give S s) := fun S => (w S 18 0 (by decide)).tr (bv_same.send _ _)
  have hh : ∀ S : ba_S, bv_same S (bx_hello S s) := fun S => (w S 18 0 (by decide)).tr (bv_same.send _ _)
  have ho : ∀ S : ba_S, bv_same S (bx_offer S s) := fun S => (bv_same.sT S s (t := bs_sc (bs_sc (bz_T S s) 15 1) 18 0) rfl).tr (bv_same.send _ _)
  unfold bx_tk2
  split
  · unfold bx_fwd
    split
    · split
      · exact (w _ 18 _ (by decide)).tr (ho _)
      · exact w _ 18 _ (by decide)
    · split
      · split
        · exact bv_same.act _ _
        · exact ((bv_same.act S (s / 4)).tr (bv_same.sT _ s (by rw [bx_act_T]; rfl))).tr (ho _)
      · split
        · unfold bx_hand
          split
          · split
            · exact (w _ 18 _ (by decide)).tr (hg _)
            · exact w _ 18 _ (by decide)
          · split
            · exact bv_same.act _ _
            · exact ((bv_same.act S (s / 4)).tr (w _ 13 _ (by decide))).tr (hg _)
        · exact bv_same.rf S
  · split
    · split
      · exact (w _ 18 _ (by decide)).tr (hh _)
      · exact w _ 18 _ (by decide)
    · exact bv_same.rf S
theorem bv_same.ep (h : bv_same S S') (x : Nat) : bs_ep (bz_T S' x) = bs_ep (bz_T S x) := by
  unfold bs_ep
  rw [h x]
/-- a tick of a store -/
theorem bz_V.tk1 (V : bz_V S M C) (hs : s < 8) (hN : s % 4 < bz_N S) (he : bs_ep (bz_T S s) + 4 ≤ M) (hC : C + 1 ≤ 8900) : bz_V (bx_tk1 S s) M (C + 1) ∧ bv_same S (bx_tk1 S s) := by
  unfold bx_tk1
  split
  · rename_i c
    obtain ⟨V1, -⟩ := V.take hs hN c.1 c.2.2.2.2 hC
    have e1 := bv_same.take S s
    split
    · exact ⟨V1.tk2 hs (by rw [bx_take_N]; exact hN) (by rw [e1.ep]; exact he), e1.tr (bv_same.tk2 _ s)⟩
    · exact ⟨V1, e1⟩
  · exact ⟨(V.tk2 hs hN he).up (Nat.le_refl _) (Nat.le_succ C) V.mx.1 hC, bv_same.tk2 S s⟩
theorem bz_V.tks : ∀ (n : Nat), bz_V S M C → (∀ s, s < 8 → bs_ep (bz_T S s) + 4 ≤ M) → n ≤ 8 → C + 8 ≤ 8900 → bz_V (bx_tks n S) M (C + n) ∧ bv_same S (bx_tks n S)
  | 0, V, _, _, _ => ⟨V, bv_same.rf S⟩
  | n + 1, V, he, hn, hC => by
    obtain ⟨V1, e1⟩ := bz_V.tks n V he (by omega) hC
    unfold bx_tks
    split
    · rename_i c
      obtain ⟨V2, e2⟩ := V1.tk1 (s := n) (by omega) (by rw [bx_tks_N]; exact c.1) (by rw [e1.ep]; exact he n (by omega)) (by omega)
      exact ⟨V2, e1.tr e2⟩
    · exact ⟨V1.up (Nat.le_refl _) (by omega) V.mx.1 (by omega), e1⟩
end NM
