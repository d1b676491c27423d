/-! what holds is kept: lines, snapshots, a tick -/
section NK
variable {S S' : ba_S} {W W' : ba_W} {M M' C s : Nat} {t : ba_T}
/-- only wait or returns has changed -/
theorem bv_T.w {R : List (Nat × Nat)} {win eo : Nat} (T : bv_T W R win eo M s t) (v : Int32) : bv_T W R win eo M s (bs_sc t 18 v) ∧ bv_T W R win eo M s (bs_sc t 19 v) := by
  obtain ⟨a, b, c, d, e, f, g, i, j⟩ := T
  exact ⟨⟨a, b, c, d, e, f, g, i, j⟩, ⟨a, b, c, d, e, f, g, i, j⟩⟩
theorem bz_V.w (V : bz_V S M C) (hs : s < 8) (hN : s % 4 < bz_N S) (v : Int32) : bz_V (bx_sc S s 18 v) M C ∧ bz_V (bx_sc S s 19 v) M C := ⟨V.sT hs hN ((V.I.o hs).of rfl rfl) rfl (Or.inr ⟨rfl, Nat.le_refl _⟩) (Nat.le_refl _) ((V.T hs).w v).1, V.sT hs hN ((V.I.o hs).of rfl rfl) rfl (Or.inr ⟨rfl, Nat.le_refl _⟩) (Nat.le_refl _) ((V.T hs).w v).2⟩
/-- a message as of a store with another wait -/
theorem bv_M.s18 {m : ba_G} (V : bz_V S M C) (h : bv_M S M m) {t : ba_T} (e7 : bs_ep (bz_T S s) = bs_ep t) (e8 : bs_tk (bz_T S s) = bs_tk t) : bv_M (bz_sT S s t) M m := h.le V.I.W (fun g hg => (V.R hg).ln) (bv_le.sT (Or.inr ⟨e7, Nat.le_of_eq e8⟩)) (Nat.le_refl _)
/-- GIVE -/
theorem bz_V.give (V : bz_V S M C) (hs : s < 8) (hN : s % 4 < bz_N S) (h2 : bs_c (bz_T S s) 13 ≠ 0) : bz_V (bx_give S s) M C := by
  have T := V.T hs
  obtain ⟨-, gf, g1, g2, g3, g4⟩ := T.2.2.2.1.resolve_left h2
  have hm : bv_M S M (bx_m S s 8 0 (Int32.ofNat (bs_latest (bz_T S s))) (bs_c (bz_T S s) 13) 0 0 []) := ⟨s, _, 8, 0, hs, hN, rfl, rfl, by omega, by omega, T.2.1.1.1, V.ep hs, rfl, by omega, fun h => by omega, fun h => by omega, fun _ => ⟨gf, g1, g2, g3, g4⟩, fun h => by omega⟩
  exact (V.w hs hN 0).1.send (hm.s18 V rfl rfl)
/-- HELLO -/
theorem bk_hl : ∀ (l : List (Nat × Nat)) (j : Nat), j < l.length → (l.flatMap (fun q => [Int32.ofNat q.1, 0, 0])).getD (3 * j) 0 = Int32.ofNat (l.getD j (0, 0)).1
  | [], j, h => absurd h (Nat.not_lt_zero _)
  | q :: l, 0, _ => rfl
  | q :: l, j + 1, h => by
    rw [List.flatMap_cons]
    show ([Int32.ofNat q.1, 0, 0] ++ _).getD (3 * j + 3) 0 = _
    rw [List.getD_eq_getElem?_getD, List.getElem?_append_right (by simp), ← List.getD_eq_getElem?_getD]
    exact bk_hl l j (by simpa using h)
theorem bk_hn (l : List (Nat × Nat)) : (l.flatMap (fun q => [Int32.ofNat q.1, (0 : Int32), 0])).length = 3 * l.length := by
  induction l with
  | nil => rfl
  | cons q l ih =>
    rw [List.flatMap_cons, List.length_append, ih]
    simp
    omega
theorem bz_V.hello (V : bz_V S M C) (hs : s < 8) (hN : s % 4 < bz_N S) (h3 : bs_c (bz_T S s) 6 = 3) : bz_V (bx_hello S s) M C := by
  have T := V.T hs
  have sm := V.snsm hs
  have hm : bv_M S M (bx_m S s 10 0 0 0 0 0 ((bs_sn (bz_T S s)).reverse.flatMap (fun q => [Int32.ofNat q.1, 0, 0]))) := by
    refine ⟨s, _, 10, (bs_sn (bz_T S s)).length, hs, hN, rfl, rfl, by omega, by omega, T.2.1.1.1, V.ep hs, ?_, by have := T.1.2.2; omega, fun h => by omega, fun h => by omega, fun h => by omega, fun _ j hj => ?_⟩
    · show ((bs_sn (bz_T S s)).reverse.flatMap (fun q => [Int32.ofNat q.1, (0 : Int32), 0])).length = _
      rw [bk_hn, List.length_reverse]
    · have hj' : j < (bs_sn (bz_T S s)).reverse.length := by rw [List.length_reverse]; exact hj
      refine ⟨((bs_sn (bz_T S s)).reverse.getD j (0, 0)).1, bk_hl _ j hj', ?_⟩
      have hm : (bs_sn (bz_T S s)).reverse.getD j (0, 0) ∈ bs_sn (bz_T S s) := by
        rw [List.getD_eq_getElem?_getD, List.getElem?_eq_getElem hj']
        exact List.mem_reverse.mp (List.getElem_mem hj')
      have h5 := T.2.2.1.2.2.1 h3 _ hm
      refine ⟨(sm _ hm).1, ?_⟩
      omega
  exact (V.w hs hN 0).1.send (hm.s18 V rfl rfl)
/-- the lines of a store that is no COPY nor LEAVING, or that stay -/
theorem bv_T.ln {R : List (Nat × Nat)} {win eo : Nat} (T : bv_T W R win eo M s t) {b c : Nat} (hp : bs_pend W (bs_sl t (bs_now t, b, c)) ≤ 64) : bv_T W R win eo M s (bs_sl t (bs_now t, b, c)) := by
  obtain ⟨a, b, c, d, e, f, g, i, j1, j2⟩ := T
  exact ⟨a, b, c, d, e, f, g, i, hp, j2⟩
theorem bz_V.save (V : bz_V S M C) (hs : s < 8) (hN : s % 4 < bz_N S) : bz_V (bx_save S s) M C := by
  have o := V.I.o hs
  refine V.sT hs hN (o.save V.I.W) rfl (Or.inr ⟨rfl, Nat.le_refl _⟩) (Nat.le_refl _) ((V.T hs).ln ?_)
  have h1 := bs_pend_save V.I.W o
  have h2 := (V.T hs).2.2.2.2.2.2.2.2.1
  unfold bs_save at h1
  rw [h1]
  omega
theorem bz_V.check (V : bz_V S M C) (hs : s < 8) (hN : s % 4 < bz_N S) : bz_V (bx_check S s).1 M C := by
  unfold bx_check
  split
  · exact V
  · have V1 := V.acts (ba_no (bz_W S) [] (ba_l (bz_W S) (bs_now (bz_T S s)) - ba_l (bz_W S) (bs_kept (bz_T S s))) (bs_now (bz_T S s)) + 1) (s / 4)
    generalize hA : ba_no (bz_W S) [] (ba_l (bz_W S) (bs_now (bz_T S s)) - ba_l (bz_W S) (bs_kept (bz_T S s))) (bs_now (bz_T S s)) + 1 = A at *
    split
    · have eT : bz_T (bx_acts A S (s / 4)).1 = bz_T S := by rw [bx_acts_T]
      have eW : bz_W (bx_acts A S (s / 4)).1 = bz_W S := by rw [bx_acts_W]
      have o := V1.I.o hs
      have T := V1.T hs
      have hN1 : s % 4 < bz_N (bx_acts A S (s / 4)).1 := by rw [bx_acts_N]; exact hN
      have h9 := V1.sT hs hN1 (t := bs_sl (bz_T (bx_acts A S (s / 4)).1 s) (bs_now (bz_T (bx_acts A S (s / 4)).1 s), bs_now (bz_T (bx_acts A S (s / 4)).1 s), bs_now (bz_T (bx_acts A S (s / 4)).1 s))) o.keep rfl (Or.inr ⟨rfl, Nat.le_refl _⟩) (Nat.add_le_add_right (bs_need_keep V1.I.W o _) _) (T.ln (by
        show ba_l (bz_W (bx_acts A S (s / 4)).1) (bs_now (bz_T (bx_acts A S (s / 4)).1 s)) - ba_l (bz_W (bx_acts A S (s / 4)).1) (bs_now (bz_T (bx_acts A S (s / 4)).1 s)) ≤ 64
        rw [Nat.sub_self]
        exact Nat.zero_le _))
      rw [eT] at h9
      exact h9
    · exact V1
theorem bz_V.fl : ∀ (n : Nat) {S : ba_S}, bz_V S M C → s < 8 → s % 4 < bz_N S → bz_V (bx_fl n S s).1 M C
  | 0, _, V, _, _ => V
  | n + 1, S, V, hs, hN => by
    unfold bx_fl
    split
    · exact V.act _
    · have hN1 : s % 4 < bz_N (bx_act S (s / 4)) := by rw [bx_act_N]; exact hN
      exact bz_V.fl n ((V.act _).save hs hN1) hs hN1
theorem bz_V.flush (V : bz_V S M C) (hs : s < 8) (hN : s % 4 < bz_N S) : bz_V (bx_flush S s).1 M C := by
  unfold bx_flush
  split
  · exact V.check hs hN
  · exact V.fl _ hs hN
/-- thinning -/
theorem ba_lo_sub {v : Int32} {l m : List (Nat × Nat)} (hi : bv_inc l) (hs : bv_sm l) (hm : m.Sublist l) (hk : ∀ q ∈ l, Int32.ofNat q.1 = v → q ∈ m) : ba_lo v m = ba_lo v l := by
  by_cases c : ∃ q ∈ l, Int32.ofNat q.1 = v
  · obtain ⟨q, hq, rfl⟩ := c
    rw [ba_lo_mem hi.dis hs hq, ba_lo_mem (List.Pairwise.sublist hm hi.dis) (fun p hp => hs p (hm.mem hp)) (hk q hq rfl)]
  · rw [ba_lo_no (fun q hq w => c ⟨q, hq, w⟩), ba_lo_no (fun q hq w => c ⟨q, hm.mem hq, w⟩)]
theorem bv_Tn.th {R : List (Nat × Nat)} {n win eo : Nat} {l : List (Nat × Nat)} (T : bv_Tn n W R win eo M s t) (sm : bv_sm (bs_sn t)) (hsub : l.Sublist (bs_sn t)) (hlen : l.length ≤ 8) (hla : ba_la l = bs_latest t ∧ ba_ln l = bs_line t) (hk : ∀ q ∈ bs_sn t, bs_pin t (Int32.ofNat q.1) = true → q ∈ l) : bv_T W R win eo M s (bs_ss t l) := by
  obtain ⟨⟨a1, a2, a3⟩, ⟨b1, b2, b3⟩, ⟨c1, c2, c3, c4⟩, d, e, ⟨f1, f2, f3⟩, g, i, j⟩ := T
  have pin : ∀ v, (v = bs_c t 9 ∨ v = bs_c t 10 ∨ v = bs_c t 14) → bs_pin t v = true := fun v hv => by
    unfold bs_pin
    rcases hv with rfl | rfl | rfl <;> simp
  have kid : ∀ v, (v = bs_c t 9 ∨ v = bs_c t 10 ∨ v = bs_c t 14) → bv_id (bs_sn t) v → bv_id l v := fun v hv h => by
    rcases h with h | ⟨q, hq, h⟩
    · exact Or.inl h
    · exact Or.inr ⟨q, hk q hq (pin _ (by rw [← h]; exact hv)), h⟩
  have el : bs_latest (bs_ss t l) = bs_latest t := hla.1
  have en : bs_line (bs_ss t l) = bs_line t := hla.2
  refine ⟨⟨fun q hq => a1 q (hsub.mem hq), List.Pairwise.sublist hsub a2, hlen⟩, ⟨b1, b2, fun q hq => b3 q (hsub.mem hq)⟩, ⟨c1, fun w => ?_, fun w q hq => c3 w q (hsub.mem hq), fun w => ⟨(c4 w).1, fun u => ?_⟩⟩, d, fun w => ?_, ⟨f1, f2, fun w => ?_⟩, ?_, i, j⟩
  · rw [en]
    exact c2 w
  · rw [el]
    refine (c4 w).2 (fun z => u ?_)
    have h9 : l.Sublist [] := by rw [← z]; exact hsub
    exact List.sublist_nil.mp h9
  · obtain ⟨e1, e2, e3⟩ := e w
    refine ⟨kid _ (Or.inl rfl) e1, kid _ (Or.inr (Or.inr rfl)) e2, ?_⟩
    rcases e3 with e3 | ⟨q, hq, e4, e5⟩
    · exact Or.inl e3
    · exact Or.inr ⟨q, hk q hq (pin _ (Or.inr (Or.inl e4.symm))), e4, e5⟩
  · obtain ⟨ch, nx, w1, w2, w3, w4, w5⟩ := f3 w
    refine ⟨ch, nx, w1, w2, w3, w4, ?_⟩
    have ep : bs_plan W (bs_ss t l) = bs_plan W t := by
      unfold bs_plan
      have e10 : ba_lo (bs_c t 10) l = ba_lo (bs_c t 10) (bs_sn t) := ba_lo_sub a2 sm hsub (fun q hq h => hk q hq (pin _ (Or.inr (Or.inl h))))
      have e14 : ba_lo (bs_c t 14) l = ba_lo (bs_c t 14) (bs_sn t) := ba_lo_sub a2 sm hsub (fun q hq h => hk q hq (pin _ (Or.inr (Or.inr h))))
      show ba_sp W (ba_l W (ba_lo (bs_c t 10) l) - ba_l W (ba_lo (bs_c t 14) l)) (ba_lo (bs_c t 10) l) = _
      rw [e10, e14]
    rw [ep]
    exact w5
  · unfold bv_g
    rw [el, en]
    exact g
/-- a store with more than eight, thinned -/
theorem bv_Tn.thin {R : List (Nat × Nat)} {n win eo k : Nat} (T : bv_Tn n W R win eo M s t) (hk : k ≤ 8) (sm : bv_sm (bs_sn t)) : bv_T W R win eo M s (bs_thin k t) := T.th sm (ba_th_sub (bs_pin t) k (bs_sn t) []) (bs_thin_len hk T.1.2.1.dis sm) (bs_thin_last T.1.2.1) (fun q hq hf => ba_th_keep (bs_pin t) k (bs_sn t) [] q (Or.inr ⟨hq, hf⟩))
theorem bz_V.thin (V : bz_V S M C) (hs : s < 8) (hN : s % 4 < bz_N S) : bz_V (bx_thin S s) M C := by
  have T := V.T hs
  have sm := V.snsm hs
  have o := V.I.o hs
  exact V.sT hs hN (bs_thin_ok _ o) rfl (Or.inr ⟨rfl, Nat.le_refl _⟩) (Nat.add_le_add_right (bs_need_thin V.I.W o _) _) (bv_Tn.thin T V.I.kp.2.2 sm)
end NK
