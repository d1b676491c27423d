/-! the calls leave the object's numbers, and how many groups there are -/
section PI
variable {S S' S1 S2 S3 : ba_S} {M M' C C' s : Nat} {t : ba_T}
theorem bv_N7 (V : bz_V S M C) (V' : bz_V S' M' C') (h : bz_G S' 7 = bz_G S 7) : bz_N S' = bz_N S := by
  have h1 := V.I.gr
  have h2 := V'.I.gr
  rw [h2.1, h1.1] at h
  exact (bn_eq (by omega) (by omega)).mp h
theorem bv_q.seven (q : bv_q S S') (V : bz_V S M C) (V' : bz_V S' M' C') : bz_N S' = bz_N S := bv_N7 V V' (congrFun q.1 7)
theorem bv_q.w1 (S : ba_S) (s q : Nat) (v : Int32) : bv_q S (bx_w1 S s q v).1 := by
  have q1 : bv_q S (bx_fl64 S s).1 := bv_q.li (bx_li.fl64 S s)
  unfold bx_w1
  split
  · exact bv_q.rf S
  · split
    · exact bv_q.rf S
    · split
      · split
        · exact q1
        · refine q1.tr ⟨rfl, fun x => Or.inl ?_⟩
          unfold bx_put
          by_cases c : x = s
          · rw [c, bz_T_same]
            rfl
          · rw [bz_T_ne _ _ c]
            rfl
      · exact q1
theorem bv_q.write (S : ba_S) (j v p x : Int32) : bv_q S (bx_write S j v p x).1 := by
  unfold bx_write
  have q1 := bv_q.w1 S j.toNatClampNeg (bx_spot v p) x
  split
  · split
    · exact q1
    · exact q1
  · exact bv_q.rf S
theorem bv_q.fil (s : Nat) : ∀ (n : Nat) (S : ba_S) (q : Nat) (v : Int32) (i : Nat), bv_q S (bx_fil n S s q v i).1
  | 0, S, _, _, _ => bv_q.rf S
  | n + 1, S, q, v, i => by
    have q1 := bv_q.w1 S s q v
    unfold bx_fil
    split
    · exact q1.tr (bv_q.fil s n _ _ _ _)
    · exact q1
theorem bv_q.fill (S : ba_S) (j v p n x : Int32) : bv_q S (bx_fill S j v p n x).1 := by
  unfold bx_fill
  split
  · exact bv_q.fil _ _ _ _ _ _
  · exact bv_q.rf S
theorem bv_q.fls (S : ba_S) (j : Int32) : bv_q S (bx_fls S j).1 := by
  unfold bx_fls
  have q1 : bv_q S (bx_flush S j.toNatClampNeg).1 := bv_q.li (bx_li.flush S _)
  split
  · split
    · exact bv_q.rf S
    · split
      · exact q1
      · exact q1
  · exact bv_q.rf S
theorem bv_q.cks (S : ba_S) (j : Int32) : bv_q S (bx_cks S j).1 := by
  unfold bx_cks
  have q1 : bv_q S (bx_check S j.toNatClampNeg).1 := bv_q.li (bx_li.check S _)
  split
  · split
    · exact bv_q.rf S
    · split
      · exact q1
      · exact q1
  · exact bv_q.rf S
theorem bv_q.on {f : ba_S → Nat → ba_S × Int32} (S : ba_S) (j : Int32) (h : ∀ s, bv_q S (f S s).1) : bv_q S (bx_on f S j).1 := by
  unfold bx_on
  split
  · exact h _
  · exact bv_q.rf S
theorem bv_q.snp (S : ba_S) (s : Nat) : bv_q S (bx_snp S s).1 := by
  unfold bx_snp
  have q1 := bv_q.take S s
  split
  · exact bv_q.rf S
  · split
    · exact bv_q.rf S
    · split
      · exact bv_q.rf S
      · split
        · exact q1
        · exact q1
theorem bv_q.lv2 (S : ba_S) (s : Nat) : bv_q S (bx_lv2 S s).1 := by
  unfold bx_lv2
  split
  · exact bv_q.act S _
  · exact bv_q.at S (s / 4) (s := s) (t := bs_sc (bs_sc (bz_T S s) 6 2) 13 0) (Or.inl rfl)
theorem bv_q.lv (S : ba_S) (s : Nat) : bv_q S (bx_lv S s).1 := by
  unfold bx_lv
  have q1 : bv_q S (bx_take S s).1 := bv_q.take S s
  split
  · exact bv_q.rf S
  · split
    · exact bv_q.lv2 S s
    · split
      · exact bv_q.rf S
      · split
        · exact q1.tr (bv_q.lv2 _ s)
        · exact q1
theorem bv_q.sty (S : ba_S) (s : Nat) : bv_q S (bx_sty S s).1 := by
  unfold bx_sty
  split
  · exact bv_q.rf S
  · split
    · exact bv_q.rf S
    · split
      · exact bv_q.act S _
      · exact (bv_q.act S (s / 4)).tr (bv_q.sc _ s (k := 6) (by decide) 1)
theorem bv_q.frc (S : ba_S) (s : Nat) : bv_q S (bx_frc S s).1 := by
  have q1 : bv_q S (bx_frc1 S s).1 := by
    unfold bx_frc1
    split
    · exact bv_q.li (bx_li.check S s)
    · exact bv_q.rf S
  unfold bx_frc
  split
  · exact bv_q.rf S
  · split
    · exact bv_q.rf S
    · split
      · split
        · exact q1.tr (bv_q.act _ _)
        · have q2 := q1.tr (bv_q.act _ (s / 4))
          generalize bx_act (bx_frc1 S s).1 (s / 4) = S2 at *
          refine q2.tr ?_
          show bv_q S2 (bx_frc2 S2 s)
          unfold bx_frc2
          refine (bv_q.sT S2 (s := s) ?_).tr (bv_q.begin _ s _)
          exact Or.inr rfl
      · exact q1
theorem bv_q.power (S : ba_S) (i n : Int32) : bv_q S (bx_power S i n).1 := by
  unfold bx_power
  split
  · exact bv_q.rf S
  · exact bv_q.rf S
theorem bv_q.crash (S : ba_S) (i : Int32) : bv_q S (bx_crash S i).1 := by
  unfold bx_crash
  split
  · exact bv_q.rf S
  · split
    · exact bv_q.rf S
    · exact bv_q.rf S
theorem bv_q.wk (i : Nat) : ∀ (g : Nat) (S : ba_S), bv_q S (bx_wk i g S).1
  | 0, S => bv_q.rf S
  | g + 1, S => by
    have q1 := bv_q.wk i g S
    unfold bx_wk
    split
    · refine q1.tr (bv_q.sT _ (s := 4 * i + g) ?_)
      exact Or.inr rfl
    · exact q1
theorem bv_q.upc (S : ba_S) (i : Int32) : bv_q S (bx_upc S i).1 := by
  unfold bx_upc
  split
  · exact bv_q.rf S
  · split
    · exact bv_q.rf S
    · exact bv_q.wk i.toNatClampNeg 4 (bz_sI S i.toNatClampNeg 1 1)
theorem bv_q.pass (S : ba_S) (i how : Int32) : bv_q S (bx_pass S i how).1 := by
  unfold bx_pass
  split
  · exact bv_q.rf S
  · split
    · exact bv_q.rf S
    · split
      · exact bv_q.rcv (bx_drop S i.toNatClampNeg) _ _
      · exact bv_q.rcv S _ _
end PI
