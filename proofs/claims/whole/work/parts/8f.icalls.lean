/-! what holds is kept: writes -/
section NS
variable {S S' : ba_S} {W W' : ba_W} {M M' C s : Nat} {t : ba_T}
theorem bz_V.gp (V : bz_V S M C) : bz_gp S := fun _ hs _ => (V.T hs).2.2.2.2.2.2.2.2.2
theorem bz_V.lw (V : bz_V S M C) : bz_lw S := fun _ hs k hk => ((V.T hs).2.2.2.2.2.2.2.1.2 k hk).2.1
theorem bz_V.pend (V : bz_V S M C) (hs : s < 8) : bs_pend (bz_W S) (bz_T S s) ≤ 64 := (V.T hs).2.2.2.2.2.2.2.2.1
theorem bz_V.wr (V : bz_V S M C) (hs : s < 8) : bz_wr S s := ⟨V.I, V.wd, V.gp, V.lw, V.pend hs⟩
theorem bv_ref {r : Int32} (h : bx_ref S s r = 0) : bz_I S (s / 4) 1 ≠ 0 ∧ bs_c (bz_T S s) 6 = r := by
  unfold bx_ref at h
  split at h
  · exact absurd h (by decide)
  · rename_i c
    split at h
    · rename_i c1
      exact ⟨c, c1⟩
    · exact absurd h (by decide)
theorem bz_V.put (V : bz_V S M C) (hs : s < 8) (hN : s % 4 < bz_N S) (h6 : bs_c (bz_T S s) 6 = 1) (hp : bs_pend (bz_W S) (bz_T S s) < 64) (hn : ba_n (bz_W S) < 60000) {q : Nat} (h1 : q / 4096 < (bz_D S (s % 4)).1) (h2 : q % 4096 < (bz_D S (s % 4)).2) (v : Int32) (hf : bz_use S (s / 4) + 1 ≤ bz_pool S) : bz_V (bx_put S s q v) M C := by
  have hx := ba_add_ext (bz_W S) (bs_now (bz_T S s)) q v (s % 4)
  have hW := V.I.W
  have o := V.I.o hs
  have T := V.T hs
  obtain ⟨I', wd', gp', -, p'⟩ := bz_wr.put V.I V.wd V.gp V.lw hs hN hp hn h1 h2 v
  have eT : bz_T (bx_put S s q v) s = bs_sl (bz_T S s) (ba_n (bz_W S) + 1, bs_safe (bz_T S s), bs_kept (bz_T S s)) := bz_T_same _ _ _
  have eT' : ∀ t, t ≠ s → bz_T (bx_put S s q v) t = bz_T S t := fun t ht => bz_T_ne _ _ ht
  have eW : bz_W (bx_put S s q v) = ba_add (bz_W S) (bs_now (bz_T S s)) q v (s % 4) := rfl
  have eR : bz_R (bx_put S s q v) = bz_R S := rfl
  have ew : bz_win (bx_put S s q v) = bz_win S := rfl
  have ep : bz_pool (bx_put S s q v) = bz_pool S := rfl
  have gn : ba_g (ba_add (bz_W S) (bs_now (bz_T S s)) q v (s % 4)) (ba_n (bz_W S) + 1) = s % 4 := ba_u_same _ _ _
  have et : ∀ x, bs_ep (bz_T (bx_put S s q v) x) = bs_ep (bz_T S x) ∧ bs_tk (bz_T (bx_put S s q v) x) = bs_tk (bz_T S x) := fun x => by
    by_cases c : x = s
    · rw [c, eT]
      exact ⟨rfl, rfl⟩
    · rw [eT' x c]
      exact ⟨rfl, rfl⟩
  have l : bv_le S (bx_put S s q v) := ⟨hx, fun _ _ _ h => h, fun x _ => Or.inr ⟨(et x).1.symm, Nat.le_of_eq (et x).2.symm⟩, rfl⟩
  refine ⟨I', wd', V.2.2.1, fun g hg => ?_, fun x hx8 => ?_, fun i hi => ?_, fun m hm => (V.m hm).le hW (fun g hg => (V.R hg).ln) l (Nat.le_refl _), fun x hx8 hn8 => ?_, V.mx⟩
  · obtain ⟨a1, a2, a3⟩ := V.R hg
    refine ⟨a1, a2, fun r hr => ?_⟩
    obtain ⟨b1, b2, b3, b4⟩ := a3 r hr
    refine ⟨b1.le hg l (Nat.le_refl _), fun w => ?_, Nat.le_succ_of_le b3, fun w => ?_⟩
    · rw [(et _).1] at w
      rw [(et _).2]
      exact b2 w
    · rw [eW, (hx.2 _ b3).2.2.2.2.2]
      exact b4 w
  · have T1 := (V.T hx8).le hW (V.I.o hx8) (V.R (by omega)).ln hx (fun _ h => h) (Nat.le_refl _) (Nat.le_refl M)
    rw [eW, eR, ew, (et _).1]
    by_cases c : x = s
    · subst c
      rw [eT] at p' ⊢
      obtain ⟨a, b, ⟨c1, c2, c3, c4⟩, d, e, f, g, i, j1, j2⟩ := T1
      refine ⟨a, b, ⟨c1, fun w => ?_, c3, c4⟩, d, e, f, g, i, p', fun _ => gn⟩
      have w : bs_c (bz_T S x) 6 = 0 ∨ bs_c (bz_T S x) 6 = 2 := w
      rw [h6] at w
      exact absurd w (by decide)
    · rw [eT' x c]
      exact T1
  · rw [ep]
    have hpi := V.p hi
    have key : ∀ x, x < 8 → bs_use (ba_add (bz_W S) (bs_now (bz_T S s)) q v (s % 4)) (bz_T (bx_put S s q v) x) ≤ bs_use (bz_W S) (bz_T S x) + (if x = s then 1 else 0) := fun x hx8 => by
      by_cases c : x = s
      · rw [c, eT, if_pos rfl]
        unfold bs_use
        rw [bs_need_put hW o]
        show bs_need (bz_W S) (bz_T S s) + _ + bs_it (bz_T S s) ≤ _
        split <;> omega
      · rw [eT' x c, if_neg c]
        unfold bs_use
        rw [bs_need_ext hW hx (V.I.o hx8)]
        exact Nat.le_refl _
    have k0 := key (4 * i) (by omega)
    have k1 := key (4 * i + 1) (by omega)
    have k2 := key (4 * i + 2) (by omega)
    have k3 := key (4 * i + 3) (by omega)
    unfold bz_use at hpi hf ⊢
    rw [eW]
    by_cases c : i = s / 4
    · subst c
      have : s = 4 * (s / 4) ∨ s = 4 * (s / 4) + 1 ∨ s = 4 * (s / 4) + 2 ∨ s = 4 * (s / 4) + 3 := by omega
      rcases this with e | e | e | e
      · rw [if_pos e.symm] at k0
        rw [if_neg (by omega)] at k1 k2 k3
        omega
      · rw [if_pos e.symm] at k1
        rw [if_neg (by omega)] at k0 k2 k3
        omega
      · rw [if_pos e.symm] at k2
        rw [if_neg (by omega)] at k0 k1 k3
        omega
      · rw [if_pos e.symm] at k3
        rw [if_neg (by omega)] at k0 k1 k2
        omega
    · rw [if_neg (by omega)] at k0 k1 k2 k3
      omega
  · rw [eT' x (fun e => by
      rw [e] at hn8
      have hn8 : bz_N S ≤ s % 4 := hn8
      omega)]
    exact V.ini hx8 hn8
theorem bz_V.fl64 (V : bz_V S M C) (hs : s < 8) (hN : s % 4 < bz_N S) : bz_V (bx_fl64 S s).1 M C := by
  unfold bx_fl64
  split
  · exact V.flush hs hN
  · exact V
theorem bz_V.w1 (V : bz_V S M C) (hs : s < 8) (hN : s % 4 < bz_N S) {q : Nat} (h1 : q / 4096 < (bz_D S (s % 4)).1) (h2 : q % 4096 < (bz_D S (s % 4)).2) (v : Int32) : bz_V (bx_w1 S s q v).1 M C := by
  have L := bx_li.fl64 S s
  have V1 := V.fl64 hs hN
  unfold bx_w1
  split
  · exact V
  · rename_i c0
    have hr := bv_ref (Decidable.byContradiction c0)
    split
    · exact V
    · rename_i c
      split
      · rename_i c1
        split
        · exact V1
        · rename_i c2
          have hp := ((V.wr hs).fl64 hs).2.2.2.2.1 c1
          have hs4 : s / 4 < 2 := by omega
          rw [V1.free hs4, show (1 : Int32) = Int32.ofNat 1 from rfl, bn_lt (by have := V1.I.pl.2; omega) (by omega)] at c2
          refine V1.put hs (by rw [L.N]; exact hN) (by rw [L.c]; exact hr.2) (by rw [L.W]; exact hp) (by rw [L.W]; omega) (by rw [L.D]; exact h1) (by rw [L.D]; exact h2) v ?_
          have := V1.p hs4
          omega
      · exact V1
theorem bx_spot_in {v p : Int32} {d : Nat × Nat} (h1 : v.toNatClampNeg < d.1) (h2 : p.toNatClampNeg < d.2) (h3 : d.2 ≤ 4096) : bx_spot v p / 4096 < d.1 ∧ bx_spot v p % 4096 < d.2 := by
  unfold bx_spot
  constructor <;> omega
theorem bz_V.write (V : bz_V S M C) (j v p x : Int32) : bz_V (bx_write S j v p x).1 M C := by
  unfold bx_write
  split
  · rename_i c
    obtain ⟨d1, d2, d3, d4, d5, d6⟩ := bx_pl_in V.I c
    obtain ⟨hs, hN⟩ := bx_ok_in d1
    obtain ⟨e1, e2⟩ := bx_spot_in d3 d4 (V.I.dd (g := j.toNatClampNeg % 4) (by omega)).2
    have V1 := V.w1 hs hN e1 e2 x
    split
    · exact V1
    · exact V1
  · exact V
theorem bz_V.fil (hs : s < 8) : ∀ (n : Nat) {S : ba_S} (q : Nat) (v : Int32) (i : Nat), bz_V S M C → s % 4 < bz_N S → (∀ j, j < n → (q + j) / 4096 < (bz_D S (s % 4)).1 ∧ (q + j) % 4096 < (bz_D S (s % 4)).2) → bz_V (bx_fil n S s q v i).1 M C
  | 0, _, _, _, _, V, _, _ => V
  | n + 1, S, q, v, i, V, hN, h => by
    obtain ⟨h1, h2⟩ := h 0 (by omega)
    have V1 := V.w1 hs hN h1 h2 v
    obtain ⟨-, eN, eD⟩ := bz_wr.w1 (V.wr hs) hs hN h1 h2 v
    rw [Nat.add_zero] at V1 eN eD
    unfold bx_fil
    split
    · refine bz_V.fil hs n (q + 1) (v + 1) (i + 1) V1 (by rw [eN]; exact hN) (fun j hj => ?_)
      have := h (j + 1) (by omega)
      rw [eD, show q + 1 + j = q + (j + 1) by omega]
      exact this
    · exact V1
theorem bz_V.fill (V : bz_V S M C) (j v p n x : Int32) : bz_V (bx_fill S j v p n x).1 M C := by
  unfold bx_fill
  split
  · rename_i c
    obtain ⟨c, -, -, c3⟩ := c
    obtain ⟨d1, d2, d3, d4, d5, d6⟩ := bx_pl_in V.I c
    obtain ⟨hs, hN⟩ := bx_ok_in d1
    have h3 := (V.I.dd (g := j.toNatClampNeg % 4) (by omega)).2
    refine bz_V.fil hs _ _ _ _ V hN (fun k hk => ?_)
    unfold bx_spot
    constructor <;> omega
  · exact V
theorem bz_V.fls (V : bz_V S M C) (j : Int32) : bz_V (bx_fls S j).1 M C := by
  unfold bx_fls
  split
  · rename_i c
    obtain ⟨hs, hN⟩ := bx_ok_in c
    have V1 := V.flush hs hN
    split
    · exact V
    · split
      · exact V1
      · exact V1
  · exact V
theorem bz_V.cks (V : bz_V S M C) (j : Int32) : bz_V (bx_cks S j).1 M C := by
  unfold bx_cks
  split
  · rename_i c
    obtain ⟨hs, hN⟩ := bx_ok_in c
    have V1 := V.check hs hN
    split
    · exact V
    · split
      · exact V1
      · exact V1
  · exact V
end NS
