/-! how many stores are on their way back -/
def bv_f (S : ba_S) (x : Nat) : Nat := if bs_c (bz_T S x) 19 = 0 then 0 else 1
def bv_ph (S : ba_S) : Nat := bv_f S 0 + bv_f S 1 + bv_f S 2 + bv_f S 3 + bv_f S 4 + bv_f S 5 + bv_f S 6 + bv_f S 7
def bv_n (S S' : ba_S) : Prop := ∀ x, bs_c (bz_T S' x) 19 = bs_c (bz_T S x) 19 ∨ bs_c (bz_T S' x) 19 = 0
section NW
variable {S S' S1 S2 S3 : ba_S} {M M' C s : Nat} {t : ba_T}
theorem bv_f_le {x : Nat} (h : bs_c (bz_T S' x) 19 = bs_c (bz_T S x) 19 ∨ bs_c (bz_T S' x) 19 = 0) : bv_f S' x ≤ bv_f S x := by
  unfold bv_f
  rcases h with h | h
  · rw [h]
    exact Nat.le_refl _
  · rw [h, if_pos rfl]
    exact Nat.zero_le _
theorem bv_f_1 (S : ba_S) (x : Nat) : bv_f S x ≤ 1 := by
  unfold bv_f
  split <;> omega
theorem bv_n.le (h : bv_n S S') : bv_ph S' ≤ bv_ph S := by
  have h0 := bv_f_le (h 0)
  have h1 := bv_f_le (h 1)
  have h2 := bv_f_le (h 2)
  have h3 := bv_f_le (h 3)
  have h4 := bv_f_le (h 4)
  have h5 := bv_f_le (h 5)
  have h6 := bv_f_le (h 6)
  have h7 := bv_f_le (h 7)
  unfold bv_ph
  omega
/-- all but one store -/
theorem bv_ph_one (hs : s < 8) (h : ∀ x, x ≠ s → bs_c (bz_T S' x) 19 = bs_c (bz_T S x) 19 ∨ bs_c (bz_T S' x) 19 = 0) : bv_ph S' + bv_f S s ≤ bv_ph S + bv_f S' s := by
  have h0 := fun w => bv_f_le (h 0 w)
  have h1 := fun w => bv_f_le (h 1 w)
  have h2 := fun w => bv_f_le (h 2 w)
  have h3 := fun w => bv_f_le (h 3 w)
  have h4 := fun w => bv_f_le (h 4 w)
  have h5 := fun w => bv_f_le (h 5 w)
  have h6 := fun w => bv_f_le (h 6 w)
  have h7 := fun w => bv_f_le (h 7 w)
  unfold bv_ph
  have : s = 0 ∨ s = 1 ∨ s = 2 ∨ s = 3 ∨ s = 4 ∨ s = 5 ∨ s = 6 ∨ s = 7 := by omega
  rcases this with rfl | rfl | rfl | rfl | rfl | rfl | rfl | rfl
  · have a1 := h1 (by decide); have a2 := h2 (by decide); have a3 := h3 (by decide); have a4 := h4 (by decide); have a5 := h5 (by decide); have a6 := h6 (by decide); have a7 := h7 (by decide)
    omega
  · have a1 := h0 (by decide); have a2 := h2 (by decide); have a3 := h3 (by decide); have a4 := h4 (by decide); have a5 := h5 (by decide); have a6 := h6 (by decide); have a7 := h7 (by decide)
    omega
  · have a1 := h1 (by decide); have a2 := h0 (by decide); have a3 := h3 (by decide); have a4 := h4 (by decide); have a5 := h5 (by decide); have a6 := h6 (by decide); have a7 := h7 (by decide)
    omega
  · have a1 := h1 (by decide); have a2 := h2 (by decide); have a3 := h0 (by decide); have a4 := h4 (by decide); have a5 := h5 (by decide); have a6 := h6 (by decide); have a7 := h7 (by decide)
    omega
  · have a1 := h1 (by decide); have a2 := h2 (by decide); have a3 := h3 (by decide); have a4 := h0 (by decide); have a5 := h5 (by decide); have a6 := h6 (by decide); have a7 := h7 (by decide)
    omega
  · have a1 := h1 (by decide); have a2 := h2 (by decide); have a3 := h3 (by decide); have a4 := h4 (by decide); have a5 := h0 (by decide); have a6 := h6 (by decide); have a7 := h7 (by decide)
    omega
  · have a1 := h1 (by decide); have a2 := h2 (by decide); have a3 := h3 (by decide); have a4 := h4 (by decide); have a5 := h5 (by decide); have a6 := h0 (by decide); have a7 := h7 (by decide)
    omega
  · have a1 := h1 (by decide); have a2 := h2 (by decide); have a3 := h3 (by decide); have a4 := h4 (by decide); have a5 := h5 (by decide); have a6 := h6 (by decide); have a7 := h0 (by decide)
    omega
theorem bv_n.lt (h : bv_n S S') (hs : s < 8) (h1 : bs_c (bz_T S s) 19 ≠ 0) (h2 : bs_c (bz_T S' s) 19 = 0) : bv_ph S' + 1 ≤ bv_ph S := by
  have h3 := bv_ph_one hs (fun x _ => h x)
  unfold bv_f at h3
  rw [if_neg h1, if_pos h2] at h3
  exact h3
theorem bv_n.rf (S : ba_S) : bv_n S S := fun _ => Or.inl rfl
theorem bv_n.tr (h1 : bv_n S1 S2) (h2 : bv_n S2 S3) : bv_n S1 S3 := fun x => by
  rcases h2 x with w | w
  · rw [w]
    exact h1 x
  · exact Or.inr w
/-- the calls -/
theorem bv_n.group (S : ba_S) (n p : Int32) : bv_n S (bx_group S n p).1 := by
  unfold bx_group
  split
  · exact bv_n.rf S
  · split
    · exact bv_n.rf S
    · exact bv_n.rf S
theorem bv_n.w1 (S : ba_S) (s q : Nat) (v : Int32) : bv_n S (bx_w1 S s q v).1 := by
  have q1 : bv_n S (bx_fl64 S s).1 := (bv_q.li (bx_li.fl64 S s)).2
  unfold bx_w1
  split
  · exact bv_n.rf S
  · split
    · exact bv_n.rf S
    · split
      · split
        · exact q1
        · refine q1.tr (fun x => Or.inl ?_)
          unfold bx_put
          by_cases c : x = s
          · rw [c, bz_T_same]
            rfl
          · rw [bz_T_ne _ _ c]
            rfl
      · exact q1
theorem bv_n.write (S : ba_S) (j v p x : Int32) : bv_n S (bx_write S j v p x).1 := by
  unfold bx_write
  have q1 := bv_n.w1 S j.toNatClampNeg (bx_spot v p) x
  split
  · split
    · exact q1
    · exact q1
  · exact bv_n.rf S
theorem bv_n.fil (s : Nat) : ∀ (n : Nat) (S : ba_S) (q : Nat) (v : Int32) (i : Nat), bv_n S (bx_fil n S s q v i).1
  | 0, S, _, _, _ => bv_n.rf S
  | n + 1, S, q, v, i => by
    have q1 := bv_n.w1 S s q v
    unfold bx_fil
    split
    · exact q1.tr (bv_n.fil s n _ _ _ _)
    · exact q1
theorem bv_n.fill (S : ba_S) (j v p n x : Int32) : bv_n S (bx_fill S j v p n x).1 := by
  unfold bx_fill
  split
  · exact bv_n.fil _ _ _ _ _ _
  · exact bv_n.rf S
theorem bv_n.fls (S : ba_S) (j : Int32) : bv_n S (bx_fls S j).1 := by
  unfold bx_fls
  have q1 : bv_n S (bx_flush S j.toNatClampNeg).1 := (bv_q.li (bx_li.flush S _)).2
  split
  · split
    · exact bv_n.rf S
    · split
      · exact q1
      · exact q1
  · exact bv_n.rf S
theorem bv_n.cks (S : ba_S) (j : Int32) : bv_n S (bx_cks S j).1 := by
  unfold bx_cks
  have q1 : bv_n S (bx_check S j.toNatClampNeg).1 := (bv_q.li (bx_li.check S _)).2
  split
  · split
    · exact bv_n.rf S
    · split
      · exact q1
      · exact q1
  · exact bv_n.rf S
theorem bv_n.on {f : ba_S → Nat → ba_S × Int32} (S : ba_S) (j : Int32) (h : ∀ s, bv_n S (f S s).1) : bv_n S (bx_on f S j).1 := by
  unfold bx_on
  split
  · exact h _
  · exact bv_n.rf S
theorem bv_n.snp (S : ba_S) (s : Nat) : bv_n S (bx_snp S s).1 := by
  unfold bx_snp
  have q1 := (bv_q.take S s).2
  split
  · exact bv_n.rf S
  · split
    · exact bv_n.rf S
    · split
      · exact bv_n.rf S
      · split
        · exact q1
        · exact q1
theorem bv_n.lv2 (S : ba_S) (s : Nat) : bv_n S (bx_lv2 S s).1 := by
  unfold bx_lv2
  split
  · exact (bv_q.act S _).2
  · exact (bv_q.at S (s / 4) (s := s) (t := bs_sc (bs_sc (bz_T S s) 6 2) 13 0) (Or.inl rfl)).2
theorem bv_n.lv (S : ba_S) (s : Nat) : bv_n S (bx_lv S s).1 := by
  unfold bx_lv
  have q1 : bv_n S (bx_take S s).1 := (bv_q.take S s).2
  split
  · exact bv_n.rf S
  · split
    · exact bv_n.lv2 S s
    · split
      · exact bv_n.rf S
      · split
        · exact q1.tr (bv_n.lv2 _ s)
        · exact q1
theorem bv_n.sty (S : ba_S) (s : Nat) : bv_n S (bx_sty S s).1 := by
  unfold bx_sty
  split
  · exact bv_n.rf S
  · split
    · exact bv_n.rf S
    · split
      · exact (bv_q.act S _).2
      · exact ((bv_q.act S (s / 4)).tr (bv_q.sc _ s (k := 6) (by decide) 1)).2
theorem bv_n.frc (S : ba_S) (s : Nat) : bv_n S (bx_frc S s).1 := by
  have q1 : bv_q S (bx_frc1 S s).1 := by
    unfold bx_frc1
    split
    · exact bv_q.li (bx_li.check S s)
    · exact bv_q.rf S
  unfold bx_frc
  split
  · exact bv_n.rf S
  · split
    · exact bv_n.rf S
    · split
      · split
        · exact (q1.tr (bv_q.act _ _)).2
        · have q2 := q1.tr (bv_q.act _ (s / 4))
          generalize bx_act (bx_frc1 S s).1 (s / 4) = S2 at *
          refine (q2.tr ?_).2
          show bv_q S2 (bx_frc2 S2 s)
          unfold bx_frc2
          refine (bv_q.sT S2 (s := s) ?_).tr (bv_q.begin _ s _)
          exact Or.inr rfl
      · exact q1.2
theorem bv_n.period (S : ba_S) (n : Int32) : bv_n S (bx_period S n).1 := by
  unfold bx_period
  split
  · exact bv_n.rf S
  · exact bv_n.rf S
theorem bv_n.tick (S : ba_S) : bv_n S (bx_tick S).1 := (bv_q.tks 8 (bz_sG S 8 (bz_G S 8 + 1))).2
theorem bv_n.power (S : ba_S) (i n : Int32) : bv_n S (bx_power S i n).1 := by
  unfold bx_power
  split
  · exact bv_n.rf S
  · exact bv_n.rf S
theorem bv_n.crash (S : ba_S) (i : Int32) : bv_n S (bx_crash S i).1 := by
  unfold bx_crash
  split
  · exact bv_n.rf S
  · split
    · exact bv_n.rf S
    · exact bv_n.rf S
theorem bv_n.wk (i : Nat) : ∀ (g : Nat) (S : ba_S), bv_n S (bx_wk i g S).1
  | 0, S => bv_n.rf S
  | g + 1, S => by
    have q1 := bv_n.wk i g S
    unfold bx_wk
    split
    · refine q1.tr (bv_q.sT _ (s := 4 * i + g) ?_).2
      exact Or.inr rfl
    · exact q1
theorem bv_n.upc (S : ba_S) (i : Int32) : bv_n S (bx_upc S i).1 := by
  unfold bx_upc
  split
  · exact bv_n.rf S
  · split
    · exact bv_n.rf S
    · exact bv_n.wk i.toNatClampNeg 4 (bz_sI S i.toNatClampNeg 1 1)
theorem bv_n.pass (S : ba_S) (i how : Int32) : bv_n S (bx_pass S i how).1 := by
  unfold bx_pass
  split
  · exact bv_n.rf S
  · split
    · exact bv_n.rf S
    · split
      · exact (bv_q.rcv (bx_drop S i.toNatClampNeg) _ _).2
      · exact (bv_q.rcv S _ _).2
/-- back: one more at most -/
theorem bv_ph_bck (S : ba_S) (j : Int32) : bv_ph (bx_on bx_bck S j).1 ≤ bv_ph S + 1 := by
  unfold bx_on
  split
  · rename_i c
    obtain ⟨hs, hN⟩ := bx_ok_in c
    unfold bx_bck
    split
    · exact Nat.le_succ _
    · have q1 := bv_q.hello (bx_sc S j.toNatClampNeg 19 1) j.toNatClampNeg
      refine Nat.le_trans (bv_n.le q1.2) ?_
      have h1 := bv_ph_one (S := S) (S' := bx_sc S j.toNatClampNeg 19 1) hs (fun x hx => by
        unfold bx_sc
        rw [bz_T_ne _ _ hx]
        exact Or.inl rfl)
      have h2 := bv_f_1 (bx_sc S j.toNatClampNeg 19 1) j.toNatClampNeg
      omega
  · exact Nat.le_succ _
/-- a way back is gone: one less -/
theorem bx_common_19 {m : ba_G} (h6 : bs_c (bz_T S s) 6 = 3) (h19 : bs_c (bz_T S s) 19 ≠ 0) (hf : m.1 4 = 0 ∨ ba_fd (m.1 4) (bs_sn (bz_T S s)) 0 ≠ -1) (hI : bz_I S (s / 4) 3 ≠ 0) (h0 : m.1 0 = 11) : bs_c (bz_T (bx_kind S s m) s) 19 = 0 := by
  rw [bx_kind_eq (k := 11) (by decide) (by decide) h0]
  show bs_c (bz_T (bx_onCommon S s m) s) 19 = 0
  unfold bx_onCommon
  rw [if_pos ⟨h6, h19, hf⟩, if_neg hI]
  unfold bx_thin
  rw [bz_T_same, bz_T_same]
  rfl
end NW
