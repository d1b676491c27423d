/-! what holds is kept: the other calls -/
section NT
variable {S S' : ba_S} {W W' : ba_W} {M M' C s : Nat} {t : ba_T}
theorem ba_th_end {f : Int32 → Bool} {k : Nat} {q : Nat × Nat} (hq : f (Int32.ofNat q.1) = true) : ∀ (r d : List (Nat × Nat)), ba_ln (ba_th f k d (r ++ [q])) = q.2
  | [], d => by
    show ba_ln (if k < d.length + 1 then (if f (Int32.ofNat q.1) = true then d ++ [q] else d) else d ++ [q]) = q.2
    rw [if_pos hq]
    split <;> exact ba_ln_snoc d q
  | a :: r, d => by
    show ba_ln (if k < d.length + ((r ++ [q]).length + 1) then (if f (Int32.ofNat a.1) = true then ba_th f k (d ++ [a]) (r ++ [q]) else ba_th f k d (r ++ [q])) else d ++ a :: (r ++ [q])) = q.2
    split
    · split
      · exact ba_th_end hq r _
      · exact ba_th_end hq r _
    · rw [show d ++ a :: (r ++ [q]) = (d ++ a :: r) ++ [q] by simp]
      exact ba_ln_snoc _ q
theorem bx_take_ln (S : ba_S) (s : Nat) (h : (bx_take S s).2 = true) : bs_now (bz_T (bx_take S s).1 s) = bs_line (bz_T (bx_take S s).1 s) := by
  unfold bx_take at h ⊢
  by_cases c1 : (bx_check S s).2 = true
  · rw [if_pos c1] at h ⊢
    by_cases c2 : bz_I (bx_check S s).1 (s / 4) 3 = 0
    · rw [if_pos c2] at h
      exact absurd h (show ¬ false = true by decide)
    · rw [if_neg c2]
      generalize bx_act (bx_check S s).1 (s / 4) = S2
      generalize bs_c (bz_T S s) 8 + 1 = v8
      generalize 4096 * bs_c (bz_T S s) 7 + v8 = v
      have e1 : bz_T (bx_snap (bx_sc S2 s 8 v8) s v) s = bs_snap (bs_sc (bz_T S2 s) 8 v8) v := by
        unfold bx_snap bx_sc
        show bz_T (bz_sT _ s _) s = _
        rw [bz_T_same, bz_T_same]
      show bs_now (bz_T (bx_thin (bx_snap (bx_sc S2 s 8 v8) s v) s) s) = bs_line (bz_T (bx_thin (bx_snap (bx_sc S2 s 8 v8) s v) s) s)
      unfold bx_thin
      rw [bz_T_same, e1]
      have hpin : bs_pin (bs_snap (bs_sc (bz_T S2 s) 8 v8) v) (Int32.ofNat (v.toNatClampNeg, bs_now (bz_T S2 s)).1) = true := by
        unfold bs_pin
        have e2 : bs_latest (bs_snap (bs_sc (bz_T S2 s) 8 v8) v) = v.toNatClampNeg := ba_la_snoc _ _
        rw [e2]
        simp
      exact (ba_th_end (k := bz_keep (bx_snap (bx_sc S2 s 8 v8) s v)) hpin (bs_sn (bz_T S2 s)) []).symm
  · rw [if_neg c1] at h
    exact absurd h (show ¬ false = true by decide)
theorem bz_V.lv2 (V : bz_V S M C) (hs : s < 8) (hN : s % 4 < bz_N S) (h6 : bs_c (bz_T S s) 6 = 1) (hl : bs_now (bz_T S s) = bs_line (bz_T S s)) : bz_V (bx_lv2 S s).1 M C := by
  unfold bx_lv2
  split
  · exact V.act _
  · have V1 := V.act (s / 4)
    have eT : bz_T (bx_act S (s / 4)) = bz_T S := bx_act_T _ _
    have eW : bz_W (bx_act S (s / 4)) = bz_W S := bx_act_W _ _
    have hN1 : s % 4 < bz_N (bx_act S (s / 4)) := by rw [bx_act_N]; exact hN
    have hsrc := bs_src_of (t := bz_T S s) (Or.inl h6)
    refine V1.sT hs hN1 (by rw [eW]; exact (V.I.o hs).of rfl rfl) (by rw [eT]; rfl) (by rw [eT]; exact Or.inr ⟨rfl, Nat.le_refl _⟩) (by rw [eT]; exact Nat.le_refl _) ?_
    have T := V1.T hs
    rw [eT] at T ⊢
    have g0 := bv_T.g0 T (by rw [h6]; decide)
    obtain ⟨a, b, ⟨c1, c2, c3, c4⟩, d, e, ⟨f1, f2, f3⟩, g, i, j⟩ := T
    exact ⟨a, b, ⟨Or.inr (Or.inr (Or.inl rfl)), fun _ => hl, fun w => absurd w (by show (2 : Int32) ≠ 3; decide), fun _ => c4 hsrc⟩, Or.inl rfl, fun _ => e hsrc, ⟨f1, fun w => ⟨bs_src_of (Or.inr rfl), (f2 w).2⟩, f3⟩, Or.inl g0, i, j⟩
theorem bz_V.snp (V : bz_V S M C) (hs : s < 8) (hN : s % 4 < bz_N S) (hC : C + 1 ≤ 8900) : bz_V (bx_snp S s).1 M (C + 1) := by
  have up : ∀ {S'}, bz_V S' M C → bz_V S' M (C + 1) := fun V' => V'.up (Nat.le_refl _) (Nat.le_succ C) V.mx.1 hC
  unfold bx_snp
  split
  · exact up V
  · rename_i c0
    have hr := bv_ref (Decidable.byContradiction c0)
    split
    · exact up V
    · split
      · exact up V
      · rename_i c1
        have V1 := (V.take hs hN hr.2 (Int32.not_le.mp c1) hC).1
        split
        · exact V1
        · exact V1
theorem bz_V.lv (V : bz_V S M C) (hs : s < 8) (hN : s % 4 < bz_N S) (hC : C + 1 ≤ 8900) : bz_V (bx_lv S s).1 M (C + 1) := by
  have up : ∀ {S'}, bz_V S' M C → bz_V S' M (C + 1) := fun V' => V'.up (Nat.le_refl _) (Nat.le_succ C) V.mx.1 hC
  unfold bx_lv
  split
  · exact up V
  · rename_i c0
    have hr := bv_ref (Decidable.byContradiction c0)
    split
    · rename_i c1
      exact up (V.lv2 hs hN hr.2 c1)
    · split
      · exact up V
      · rename_i c1
        obtain ⟨V1, h6⟩ := V.take hs hN hr.2 (Int32.not_le.mp c1) hC
        split
        · rename_i c2
          exact V1.lv2 hs (by rw [bx_take_N]; exact hN) h6 (bx_take_ln S s c2)
        · exact V1
theorem bz_V.sty (V : bz_V S M C) (hs : s < 8) (hN : s % 4 < bz_N S) : bz_V (bx_sty S s).1 M C := by
  unfold bx_sty
  split
  · exact V
  · rename_i c0
    have hr := bv_ref (Decidable.byContradiction c0)
    split
    · exact V
    · rename_i c1
      have h13 : bs_c (bz_T S s) 13 = 0 := Decidable.byContradiction c1
      split
      · exact V.act _
      · have V1 := V.act (s / 4)
        have eT : bz_T (bx_act S (s / 4)) = bz_T S := bx_act_T _ _
        have eW : bz_W (bx_act S (s / 4)) = bz_W S := bx_act_W _ _
        have hN1 : s % 4 < bz_N (bx_act S (s / 4)) := by rw [bx_act_N]; exact hN
        have hsrc := bs_src_of (t := bz_T S s) (Or.inr hr.2)
        unfold bx_sc
        rw [eT]
        refine V1.sT hs hN1 (by rw [eW]; exact (V.I.o hs).of rfl rfl) (by rw [eT]; rfl) (by rw [eT]; exact Or.inr ⟨rfl, Nat.le_refl _⟩) (by rw [eT]; exact Nat.le_refl _) ?_
        have T := V1.T hs
        rw [eT] at T ⊢
        have g0 := bv_T.g0 T (by rw [hr.2]; decide)
        obtain ⟨a, b, ⟨c1, c2, c3, c4⟩, d, e, ⟨f1, f2, f3⟩, g, i, j⟩ := T
        exact ⟨a, b, ⟨Or.inr (Or.inl rfl), fun w => absurd w (by show ¬ ((1 : Int32) = 0 ∨ (1 : Int32) = 2); decide), fun w => absurd w (by show (1 : Int32) ≠ 3; decide), fun _ => c4 hsrc⟩, Or.inl h13, fun _ => e hsrc, ⟨f1, fun w => ⟨bs_src_of (Or.inl rfl), (f2 w).2⟩, f3⟩, Or.inl g0, i, j⟩
theorem bz_V.bck (V : bz_V S M C) (hs : s < 8) (hN : s % 4 < bz_N S) : bz_V (bx_bck S s).1 M C := by
  unfold bx_bck
  split
  · exact V
  · rename_i c0
    have hr := bv_ref (Decidable.byContradiction c0)
    refine (V.w hs hN 1).2.hello hs hN ?_
    unfold bx_sc
    rw [bz_T_same]
    exact hr.2
theorem bz_V.frc (V : bz_V S M C) (hs : s < 8) (hN : s % 4 < bz_N S) (hM : M + 4 ≤ 3900) (hC : C + 1 ≤ 8900) : bz_V (bx_frc S s).1 (M + 4) (C + 1) := by
  have up : ∀ {S'}, bz_V S' M C → bz_V S' (M + 4) (C + 1) := fun V' => V'.up (Nat.le_add_right _ _) (Nat.le_succ C) hM hC
  unfold bx_frc
  split
  · exact up V
  · split
    · exact up V
    · rename_i c0 c1
      have c6 : bs_c (bz_T S s) 6 = 0 ∨ bs_c (bz_T S s) 6 = 3 := by
        by_cases d : bs_c (bz_T S s) 6 = 0
        · exact Or.inl d
        · exact Or.inr (Decidable.byContradiction (fun w => c1 ⟨d, w⟩))
      have L : bx_li s S (bx_frc1 S s).1 := by
        unfold bx_frc1
        split
        · exact bx_li.check S s
        · exact bx_li.rf s S
      have V1 : bz_V (bx_frc1 S s).1 M C := by
        unfold bx_frc1
        split
        · exact V.check hs hN
        · exact V
      have hN1 : s % 4 < bz_N (bx_frc1 S s).1 := by rw [L.N]; exact hN
      split
      · rename_i c2
        have hkn : bs_kept (bz_T (bx_frc1 S s).1 s) = bs_now (bz_T (bx_frc1 S s).1 s) := by
          unfold bx_frc1 at c2 ⊢
          split at c2
          · rename_i d
            rw [if_pos d]
            exact bx_check_kn S s c2
          · rename_i d
            rw [if_neg d]
            exact (bv_T.cp (V.T hs) V.I.W (V.I.o hs) (Or.inl (c6.resolve_right d))).2
        have hc6 : bs_c (bz_T (bx_frc1 S s).1 s) 6 = 0 ∨ bs_c (bz_T (bx_frc1 S s).1 s) 6 = 3 := by rw [L.c]; exact c6
        split
        · exact up (V1.act _)
        · have V2 : bz_V (bx_act (bx_frc1 S s).1 (s / 4)) (M + 4) C := (V1.act (s / 4)).up (Nat.le_add_right _ _) (Nat.le_refl _) hM (by omega)
          have eT : bz_T (bx_act (bx_frc1 S s).1 (s / 4)) = bz_T (bx_frc1 S s).1 := bx_act_T _ _
          have hN2 : s % 4 < bz_N (bx_act (bx_frc1 S s).1 (s / 4)) := by rw [bx_act_N]; exact hN1
          have T := V1.T hs
          rw [← eT] at hkn hc6 T
          generalize bx_act (bx_frc1 S s).1 (s / 4) = S2 at *
          have hep : bs_ep (bz_T S2 s) ≤ M := T.2.1.2.1.2.1
          have e7 : bs_c (bz_T S2 s) 7 = Int32.ofNat (bs_ep (bz_T S2 s)) := T.2.1.1.1
          obtain ⟨en, n1, n2, n3, n4⟩ := bv_next (e := bs_ep (bz_T S2 s)) (r := if s < 4 then 3 else 0) (by omega) (by split <;> omega)
          have h13 : bs_c (bz_T S2 s) 13 = 0 := by
            rcases T.2.2.2.1 with d | ⟨d, -⟩
            · exact d
            · rcases hc6 with w | w
              · rw [w] at d
                exact absurd d (by decide)
              · rw [w] at d
                exact absurd d (by decide)
          show bz_V (bx_frc2 S2 s) (M + 4) (C + 1)
          unfold bx_frc2
          rw [e7, n1]
          refine V2.begin hs hN2 rfl rfl hkn n2 (by omega) ?_ h13 (Or.inl rfl) (Or.inl rfl) rfl rfl hC
          unfold bv_site
          by_cases d : s < 4
          · rw [if_pos d] at n4
            rw [if_pos (by omega)]
            omega
          · rw [if_neg d] at n4
            rw [if_neg (by omega)]
            omega
      · exact up V1
theorem bz_V.on (V : bz_V S M C) {f : ba_S → Nat → ba_S × Int32} (j : Int32) (hM : M ≤ M') {C' : Nat} (hC : C ≤ C') (h1 : M' ≤ 3900) (h2 : C' ≤ 8900) (hf : ∀ s, s < 8 → s % 4 < bz_N S → bz_V (f S s).1 M' C') : bz_V (bx_on f S j).1 M' C' := by
  unfold bx_on
  split
  · rename_i c
    obtain ⟨hs, hN⟩ := bx_ok_in c
    exact hf _ hs hN
  · exact V.up hM hC h1 h2
theorem bz_V.period (V : bz_V S M C) (n : Int32) : bz_V (bx_period S n).1 M C := by
  unfold bx_period
  split
  · exact V
  · exact V.of V.I rfl rfl rfl rfl rfl (fun k hk => by
      have : k = 0 ∨ k = 1 ∨ k = 2 := by omega
      rcases this with rfl | rfl | rfl <;> rfl) (fun m hm => Or.inl hm)
theorem bz_V.tick (V : bz_V S M C) (hM : M + 4 ≤ 3900) (hC : C + 8 ≤ 8900) : bz_V (bx_tick S).1 (M + 4) (C + 8) := by
  have V1 : bz_V (bz_sG S 8 (bz_G S 8 + 1)) M C := V.of V.I rfl rfl rfl rfl rfl (fun k hk => by
      have : k = 0 ∨ k = 1 ∨ k = 2 := by omega
      rcases this with rfl | rfl | rfl <;> rfl) (fun m hm => Or.inl hm)
  have V2 := V1.up (Nat.le_add_right M 4) (Nat.le_refl _) hM (by omega)
  exact (bz_V.tks 8 V2 (fun s hs => by have := (V1.T hs).2.1.2.1.2.1; omega) (Nat.le_refl _) hC).1
theorem bz_V.power (V : bz_V S M C) (i n : Int32) : bz_V (bx_power S i n).1 M C := by
  unfold bx_power
  split
  · exact V
  · exact V.of (V.I.sI (k := 3) (by omega)) rfl rfl rfl rfl rfl (fun _ _ => rfl) (fun m hm => Or.inl hm)
theorem bz_V.crash (V : bz_V S M C) (i : Int32) : bz_V (bx_crash S i).1 M C := by
  unfold bx_crash
  split
  · exact V
  · split
    · exact V
    · exact V.of ((V.I.sI (k := 1) (v := 0) (Or.inr (Or.inr ⟨rfl, Or.inl rfl⟩))).sI (k := 3) (by omega)) rfl rfl rfl rfl rfl (fun _ _ => rfl) (fun m hm => Or.inl hm)
/-- a store wakes -/
theorem bz_V.wake (V : bz_V S M C) (hs : s < 8) (hN : s % 4 < bz_N S) : bz_V (bz_sT S s (bs_wake (bz_T S s))) M C := by
  have hW := V.I.W
  have o := V.I.o hs
  have T := V.T hs
  refine V.sT hs hN ((o.lose hW).of rfl rfl) rfl (Or.inr ⟨rfl, Nat.le_refl _⟩) (Nat.add_le_add_right (bs_use_lose o) _) ?_
  have hcp := bv_T.cp T hW o
  obtain ⟨a, b, ⟨c1, c2, c3, c4⟩, d, e, ⟨f1, f2, f3⟩, g, i, j1, j2⟩ := T
  refine ⟨a, b, ⟨c1, fun w => ?_, c3, c4⟩, d, fun w => ?_, ⟨Or.inl rfl, fun w => absurd rfl w, fun w => absurd w (by show (0 : Int32) ≠ 2; decide)⟩, g, i, ?_, fun w => ?_⟩
  · obtain ⟨h1, h2⟩ := hcp w
    have k1 := o.ks.1
    have k2 := o.sn
    have e1 : ba_l (bz_W S) (bs_now (bz_T S s)) - ba_l (bz_W S) (bs_safe (bz_T S s)) = 0 := by
      rw [h2] at k1
      omega
    have k3 := k2.2
    rw [e1] at k3
    have k3 : bs_now (bz_T S s) = bs_safe (bz_T S s) := k3
    show bs_safe (bz_T S s) = bs_line (bz_T S s)
    rw [← k3]
    exact h1
  · obtain ⟨e1, e2, e3⟩ := e w
    refine ⟨e1, e1, ?_⟩
    rcases e3 with e3 | ⟨q, hq, e4, e5, e6, e7⟩
    · exact Or.inl e3
    · exact Or.inr ⟨q, hq, e4, e5, e6, e6⟩
  · show ba_l (bz_W S) (bs_safe (bz_T S s)) - ba_l (bz_W S) (bs_safe (bz_T S s)) ≤ 64
    rw [Nat.sub_self]
    exact Nat.zero_le _
  · exact ba_g_anc hW o.1 o.sn j2 w
theorem bz_V.wk {i : Nat} (hi : i < 2) : ∀ (g : Nat), g ≤ 4 → bz_V S M C → bz_V (bx_wk i g S).1 M C ∧ bz_N (bx_wk i g S).1 = bz_N S
  | 0, _, V => ⟨V, rfl⟩
  | g + 1, hg, V => by
    obtain ⟨V1, eN⟩ := bz_V.wk hi g (by omega) V
    unfold bx_wk
    split
    · rename_i c
      exact ⟨V1.wake (by omega) (by rw [eN]; omega), eN⟩
    · exact ⟨V1, eN⟩
theorem bz_V.upc (V : bz_V S M C) (i : Int32) : bz_V (bx_upc S i).1 M C := by
  unfold bx_upc
  split
  · exact V
  · rename_i c
    split
    · exact V
    · have hi : i.toNatClampNeg < 2 := (bx_site (fun u => c (Or.inl u)) (fun u => c (Or.inr u))).1
      exact (bz_V.wk hi 4 (Nat.le_refl _) (V.of (V.I.sI (k := 1) (v := 1) (Or.inr (Or.inr ⟨rfl, Or.inr rfl⟩))) rfl rfl rfl rfl rfl (fun _ _ => rfl) (fun m hm => Or.inl hm))).1
end NT
