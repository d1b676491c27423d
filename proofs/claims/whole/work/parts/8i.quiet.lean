/-! what the calls leave: the object's numbers, and that RETURNS is only taken back -/
def bv_q (S S' : ba_S) : Prop := bz_G S' = bz_G S ∧ ∀ x, bs_c (bz_T S' x) 19 = bs_c (bz_T S x) 19 ∨ bs_c (bz_T S' x) 19 = 0
section NV
variable {S S' S1 S2 S3 : ba_S} {W W' : ba_W} {M M' C s : Nat} {t : ba_T}
theorem bv_q.rf (S : ba_S) : bv_q S S := ⟨rfl, fun _ => Or.inl rfl⟩
theorem bv_q.tr (h1 : bv_q S1 S2) (h2 : bv_q S2 S3) : bv_q S1 S3 := by
  refine ⟨h2.1.trans h1.1, fun x => ?_⟩
  rcases h2.2 x with w | w
  · rw [w]
    exact h1.2 x
  · exact Or.inr w
theorem bv_q.sT (S : ba_S) {s : Nat} {t : ba_T} (h : bs_c t 19 = bs_c (bz_T S s) 19 ∨ bs_c t 19 = 0) : bv_q S (bz_sT S s t) := by
  refine ⟨rfl, fun x => ?_⟩
  by_cases c : x = s
  · rw [c, bz_T_same]
    exact h
  · rw [bz_T_ne _ _ c]
    exact Or.inl rfl
theorem bv_q.act (S : ba_S) (i : Nat) : bv_q S (bx_act S i) := ⟨bx_act_G S i, fun x => by rw [bx_act_T]; exact Or.inl rfl⟩
theorem bv_q.acts (S : ba_S) (n i : Nat) : bv_q S (bx_acts n S i).1 := ⟨bx_acts_G S n i, fun x => by rw [bx_acts_T]; exact Or.inl rfl⟩
theorem bv_q.send (S : ba_S) (m : ba_G) : bv_q S (bx_send S m) := by
  obtain ⟨e1, e2, e3, e4⟩ := bx_send_4 S m
  exact ⟨e3, fun x => by rw [e1]; exact Or.inl rfl⟩
theorem bv_q.li (h : bx_li s S S') : bv_q S S' := by
  refine ⟨h.G, fun x => ?_⟩
  by_cases c : x = s
  · rw [c, h.c]
    exact Or.inl rfl
  · rw [h.T c]
    exact Or.inl rfl
theorem bv_q.at (S : ba_S) (i : Nat) {s : Nat} {t : ba_T} (h : bs_c t 19 = bs_c (bz_T S s) 19 ∨ bs_c t 19 = 0) : bv_q S (bz_sT (bx_act S i) s t) := (bv_q.act S i).tr (bv_q.sT _ (by rw [bx_act_T]; exact h))
theorem bv_q.thin (S : ba_S) (s : Nat) : bv_q S (bx_thin S s) := bv_q.sT S (Or.inl rfl)
theorem bv_q.snap (S : ba_S) (s : Nat) (v : Int32) : bv_q S (bx_snap S s v) := bv_q.sT S (t := bs_snap (bz_T S s) v) (Or.inl rfl)
theorem bv_q.sc (S : ba_S) (s : Nat) {k : Nat} (hk : k ≠ 19) (v : Int32) : bv_q S (bx_sc S s k v) := bv_q.sT S (Or.inl (ba_u_ne _ _ (Ne.symm hk)))
theorem bv_q.tell (S : ba_S) (s : Nat) (k b : Int32) : bv_q S (bx_tell S s k b) := bv_q.send S _
theorem bv_q.prog (S : ba_S) (s : Nat) (k : Int32) : bv_q S (bx_prog S s k) := bv_q.send S _
theorem bv_q.begin (S : ba_S) (s : Nat) (e : Int32) : bv_q S (bx_begin S s e) := ((bv_q.sT S (s := s) (t := bs_clr (bs_sc (bs_sc (bs_sc (bz_T S s) 6 1) 7 e) 8 1)) (Or.inl rfl)).tr (bv_q.snap _ s _)).tr (bv_q.thin _ s)
theorem bv_q.take (S : ba_S) (s : Nat) : bv_q S (bx_take S s).1 := by
  have q1 := bv_q.li (bx_li.check S s)
  unfold bx_take
  split
  · split
    · exact q1.tr (bv_q.act _ _)
    · exact (((q1.tr (bv_q.act _ _)).tr (bv_q.sc _ s (k := 8) (by decide) _)).tr (bv_q.snap _ s _)).tr (bv_q.thin _ s)
  · exact q1
theorem bv_q.offer (S : ba_S) (s : Nat) : bv_q S (bx_offer S s) := (bv_q.sT S (s := s) (t := bs_sc (bs_sc (bz_T S s) 15 1) 18 0) (Or.inl rfl)).tr (bv_q.send _ _)
theorem bv_q.give (S : ba_S) (s : Nat) : bv_q S (bx_give S s) := (bv_q.sc S s (k := 18) (by decide) 0).tr (bv_q.send _ _)
theorem bv_q.hello (S : ba_S) (s : Nat) : bv_q S (bx_hello S s) := (bv_q.sc S s (k := 18) (by decide) 0).tr (bv_q.send _ _)
theorem bv_q.hand (S : ba_S) (s : Nat) : bv_q S (bx_hand S s) := by
  unfold bx_hand
  split
  · split
    · exact (bv_q.sc S s (k := 18) (by decide) _).tr (bv_q.give _ s)
    · exact bv_q.sc S s (k := 18) (by decide) _
  · split
    · exact bv_q.act _ _
    · exact ((bv_q.act S _).tr (bv_q.sc _ s (k := 13) (by decide) _)).tr (bv_q.give _ s)
theorem bv_q.fwd (S : ba_S) (s : Nat) : bv_q S (bx_fwd S s) := by
  unfold bx_fwd
  split
  · split
    · exact (bv_q.sc S s (k := 18) (by decide) _).tr (bv_q.offer _ s)
    · exact bv_q.sc S s (k := 18) (by decide) _
  · split
    · split
      · exact bv_q.act _ _
      · refine (bv_q.at S (s / 4) (s := s) ?_).tr (bv_q.offer _ s)
        exact Or.inl rfl
    · split
      · exact bv_q.hand S s
      · exact bv_q.rf S
theorem bv_q.tk2 (S : ba_S) (s : Nat) : bv_q S (bx_tk2 S s) := by
  unfold bx_tk2
  split
  · exact bv_q.fwd S s
  · split
    · split
      · exact (bv_q.sc S s (k := 18) (by decide) _).tr (bv_q.hello _ s)
      · exact bv_q.sc S s (k := 18) (by decide) _
    · exact bv_q.rf S
theorem bv_q.tk1 (S : ba_S) (s : Nat) : bv_q S (bx_tk1 S s) := by
  unfold bx_tk1
  split
  · split
    · exact (bv_q.take S s).tr (bv_q.tk2 _ s)
    · exact bv_q.take S s
  · exact bv_q.tk2 S s
theorem bv_q.tks : ∀ (n : Nat) (S : ba_S), bv_q S (bx_tks n S)
  | 0, S => bv_q.rf S
  | n + 1, S => by
    have q1 := bv_q.tks n S
    unfold bx_tks
    split
    · exact q1.tr (bv_q.tk1 _ n)
    · exact q1
/-- messages -/
theorem bv_q.commit (S : ba_S) (s : Nat) : bv_q S (bx_commit S s) := by
  unfold bx_commit
  generalize ba_no (bz_W S) [] (ba_l (bz_W S) (bs_g (bz_T S s) 2).toNatClampNeg - (if bs_g (bz_T S s) 0 = 0 then 0 else ba_l (bz_W S) (bs_line (bz_T S s)))) (bs_g (bz_T S s) 2).toNatClampNeg + 1 = A
  generalize (if bs_g (bz_T S s) 0 = 0 then ([] : List (Nat × Nat)) else bs_sn (bz_T S s)) = l
  have q1 := fun n => bv_q.acts S n (s / 4)
  by_cases c : (bx_acts A S (s / 4)).2 = true
  · rw [if_pos c]
    refine (((q1 _).tr (bv_q.sT _ (s := s) ?_)).tr (bv_q.thin _ s)).tr (bv_q.tell _ s _ _)
    rw [bx_acts_T]
    exact Or.inl rfl
  · rw [if_neg c]
    exact q1 _
theorem bv_q.staged (S : ba_S) (s : Nat) (k : Int32) : bv_q S (bx_staged S s k) := by
  unfold bx_staged
  split
  · exact bv_q.commit S s
  · exact bv_q.prog S s k
theorem bv_q.son (s : Nat) : ∀ (n : Nat) (S : ba_S), bv_q S (bx_son n S s)
  | 0, S => bv_q.rf S
  | n + 1, S => by
    unfold bx_son
    split
    · exact ((bv_q.send S _).tr (bv_q.sc _ s (k := 17) (by decide) _)).tr (bv_q.son s n _)
    · exact bv_q.rf S
theorem bs_learn_19 (t : ba_T) (v : Int32) : bs_c (bs_learn t v) 19 = bs_c t 19 := by
  unfold bs_learn
  split
  · rfl
  · split
    · rfl
    · rfl
theorem bv_q.kind (S : ba_S) (s : Nat) (m : ba_G) : bv_q S (bx_kind S s m) := by
  unfold bx_kind
  split
  · unfold bx_onOffer
    split
    · exact bv_q.rf S
    · split
      · exact bv_q.tell S s _ _
      · split
        · exact bv_q.tell S s _ _
        · split
          · exact bv_q.staged S s _
          · split
            · exact bv_q.act _ _
            · refine (bv_q.at S (s / 4) (s := s) ?_).tr (bv_q.staged _ s _)
              exact Or.inl rfl
  split
  · unfold bx_onAccept
    split
    · refine (bv_q.sT S (s := s) ?_).tr (bv_q.son s 9 _)
      exact Or.inl rfl
    · exact bv_q.rf S
  split
  · unfold bx_onData
    split
    · exact bv_q.rf S
    · split
      · exact bv_q.prog S s _
      · split
        · exact bv_q.rf S
        · split
          · refine bv_q.sT S (s := s) ?_
            exact Or.inl rfl
          · split
            · exact bv_q.act _ _
            · refine (bv_q.at S (s / 4) (s := s) ?_).tr (bv_q.staged _ s _)
              exact Or.inl rfl
  split
  · unfold bx_onAck
    split
    · refine (bv_q.sT S (s := s) ?_).tr (bv_q.son s 9 _)
      exact Or.inl rfl
    · exact bv_q.rf S
  split
  · unfold bx_onHave
    split
    · split
      · exact bv_q.act _ _
      · refine (bv_q.at S (s / 4) (s := s) ?_).tr (bv_q.thin _ s)
        exact Or.inl rfl
    · exact bv_q.rf S
  split
  · unfold bx_onLack
    split
    · exact (bv_q.sc S s (k := 14) (by decide) _).tr (bv_q.offer _ s)
    · exact bv_q.rf S
  split
  · unfold bx_onGive
    split
    · split
      · exact bv_q.act _ _
      · refine ((bv_q.at S (s / 4) (s := s) ?_).tr (bv_q.begin _ s _)).tr (bv_q.tell _ s _ _)
        exact Or.inl rfl
    · exact bv_q.rf S
  split
  · unfold bx_onHello
    split
    · split
      · exact bv_q.act _ _
      · refine ((bv_q.at S (s / 4) (s := s) ?_).tr (bv_q.thin _ s)).tr (bv_q.tell _ s _ _)
        exact Or.inl rfl
    · exact bv_q.rf S
  split
  · unfold bx_onCommon
    split
    · split
      · exact bv_q.act _ _
      · refine (bv_q.at S (s / 4) (s := s) ?_).tr (bv_q.thin _ s)
        exact Or.inr rfl
    · exact bv_q.rf S
  · exact bv_q.rf S
theorem bv_q.rcv (S : ba_S) (s : Nat) (m : ba_G) : bv_q S (bx_rcv S s m) := by
  unfold bx_rcv
  split
  · exact bv_q.rf S
  · split
    · split
      · exact bv_q.tell S s _ _
      · exact bv_q.rf S
    · split
      · split
        · exact bv_q.act _ _
        · refine (bv_q.at S (s / 4) (s := s) ?_).tr (bv_q.kind _ s m)
          exact Or.inl (bs_learn_19 _ _)
      · exact bv_q.kind S s m
end NV
