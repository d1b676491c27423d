/-! snapshots, the registry, thinning: lists -/
/-- numbers of IDs: each other than those before it -/
def bv_inc (l : List (Nat × Nat)) : Prop := l.Pairwise (fun a b => a.1 < b.1)
def bv_dis (l : List (Nat × Nat)) : Prop := l.Pairwise (fun a b => a.1 ≠ b.1)
def bv_sm (l : List (Nat × Nat)) : Prop := ∀ q ∈ l, 0 < q.1 ∧ q.1 < 2147483648
theorem bv_inc.dis {l : List (Nat × Nat)} (h : bv_inc l) : bv_dis l := List.Pairwise.imp (fun w => Nat.ne_of_lt w) h
theorem bv_key {l : List (Nat × Nat)} (hd : bv_dis l) {p q : Nat × Nat} (hp : p ∈ l) (hq : q ∈ l) (e : p.1 = q.1) : p = q := by
  induction l with
  | nil => cases hp
  | cons a l ih =>
    obtain ⟨h1, h2⟩ := List.pairwise_cons.mp hd
    rcases List.mem_cons.mp hp with rfl | hp'
    · rcases List.mem_cons.mp hq with rfl | hq'
      · rfl
      · exact absurd e (h1 q hq')
    · rcases List.mem_cons.mp hq with rfl | hq'
      · exact absurd e.symm (h1 p hp')
      · exact ih h2 hp' hq'
theorem ba_lo_mem : ∀ {l : List (Nat × Nat)}, bv_dis l → bv_sm l → ∀ {p : Nat × Nat}, p ∈ l → ba_lo (Int32.ofNat p.1) l = p.2
  | [], _, _, p, hp => by cases hp
  | a :: l, hd, hs, p, hp => by
    obtain ⟨h1, h2⟩ := List.pairwise_cons.mp hd
    show (if Int32.ofNat a.1 = Int32.ofNat p.1 then a.2 else ba_lo (Int32.ofNat p.1) l) = p.2
    have ea : (Int32.ofNat a.1 = Int32.ofNat p.1) = (a.1 = p.1) := bn_eq (hs a List.mem_cons_self).2 (hs p hp).2
    rcases List.mem_cons.mp hp with rfl | hp'
    · rw [if_pos rfl]
    · rw [if_neg (fun w => h1 p hp' (ea.mp w))]
      exact ba_lo_mem h2 (fun q hq => hs q (List.mem_cons_of_mem _ hq)) hp'
theorem ba_lo_no {v : Int32} : ∀ {l : List (Nat × Nat)}, (∀ q ∈ l, Int32.ofNat q.1 ≠ v) → ba_lo v l = 0
  | [], _ => rfl
  | a :: l, h => by
    show (if Int32.ofNat a.1 = v then a.2 else ba_lo v l) = 0
    rw [if_neg (h a List.mem_cons_self)]
    exact ba_lo_no (fun q hq => h q (List.mem_cons_of_mem _ hq))
theorem ba_lo_0 {l : List (Nat × Nat)} (hs : bv_sm l) : ba_lo 0 l = 0 := ba_lo_no (fun q hq w => by
  have h1 := hs q hq
  have : (Int32.ofNat q.1 = Int32.ofNat 0) = (q.1 = 0) := bn_eq h1.2 (by decide)
  have := this.mp w
  omega)
theorem ba_rg_mem : ∀ {l : List (Nat × Nat)}, bv_dis l → bv_sm l → ∀ {p : Nat × Nat}, p ∈ l → ba_rg (Int32.ofNat p.1) l = p.2
  | [], _, _, p, hp => by cases hp
  | a :: l, hd, hs, p, hp => by
    obtain ⟨h1, h2⟩ := List.pairwise_cons.mp hd
    have hs' : bv_sm l := fun q hq => hs q (List.mem_cons_of_mem _ hq)
    show (if (l.any (fun q => decide (Int32.ofNat q.1 = Int32.ofNat p.1))) = true then ba_rg (Int32.ofNat p.1) l else if Int32.ofNat a.1 = Int32.ofNat p.1 then a.2 else 0) = p.2
    rcases List.mem_cons.mp hp with rfl | hp'
    · have : ¬ (l.any (fun q => decide (Int32.ofNat q.1 = Int32.ofNat p.1))) = true := fun w => by
        obtain ⟨q, hq, e⟩ := List.any_eq_true.mp w
        have e := of_decide_eq_true e
        have e2 : (Int32.ofNat q.1 = Int32.ofNat p.1) = (q.1 = p.1) := bn_eq (hs' q hq).2 (hs p List.mem_cons_self).2
        exact h1 q hq (e2.mp e).symm
      rw [if_neg this, if_pos rfl]
    · rw [if_pos (List.any_eq_true.mpr ⟨p, hp', decide_eq_true rfl⟩)]
      exact ba_rg_mem h2 hs' hp'
theorem ba_rg_no {v : Int32} : ∀ {l : List (Nat × Nat)}, (∀ q ∈ l, Int32.ofNat q.1 ≠ v) → ba_rg v l = 0
  | [], _ => rfl
  | a :: l, h => by
    show (if (l.any (fun q => decide (Int32.ofNat q.1 = v))) = true then ba_rg v l else if Int32.ofNat a.1 = v then a.2 else 0) = 0
    have : ¬ (l.any (fun q => decide (Int32.ofNat q.1 = v))) = true := fun w => by
      obtain ⟨q, hq, e⟩ := List.any_eq_true.mp w
      exact h q (List.mem_cons_of_mem _ hq) (of_decide_eq_true e)
    rw [if_neg this, if_neg (h a List.mem_cons_self)]
theorem bv_ne0 {l : List (Nat × Nat)} (hs : bv_sm l) : ∀ q ∈ l, Int32.ofNat q.1 ≠ 0 := fun q hq w => by
  have h1 := hs q hq
  have e : (Int32.ofNat q.1 = Int32.ofNat 0) = (q.1 = 0) := bn_eq h1.2 (by decide)
  have := e.mp w
  omega
theorem ba_rg_0 {l : List (Nat × Nat)} (hs : bv_sm l) : ba_rg 0 l = 0 := ba_rg_no (bv_ne0 hs)
/-- an ID is one of them: what it is found at -/
theorem ba_fd_mem {v : Int32} {l : List (Nat × Nat)} : ba_fd v l 0 ≠ -1 → ∃ q ∈ l, Int32.ofNat q.1 = v := fun h => by
  rcases ba_fd_spec v l 0 with ⟨w, -⟩ | ⟨j, hj, -, e, -⟩
  · exact absurd w h
  · refine ⟨l.getD j (0, 0), ?_, e⟩
    rw [List.getD_eq_getElem?_getD, List.getElem?_eq_getElem hj]
    exact List.getElem_mem hj
/-- thinning -/
theorem ba_th_sub (f : Int32 → Bool) (k : Nat) : ∀ (r d : List (Nat × Nat)), (ba_th f k d r).Sublist (d ++ r)
  | [], d => by
    rw [List.append_nil]
    exact List.Sublist.refl d
  | q :: r, d => by
    unfold ba_th
    split
    · split
      · have h := ba_th_sub f k r (d ++ [q])
        rw [List.append_assoc] at h
        exact h
      · exact (ba_th_sub f k r d).trans (List.Sublist.append (List.Sublist.refl d) (List.sublist_cons_self q r))
    · exact List.Sublist.refl _
theorem ba_th_keep (f : Int32 → Bool) (k : Nat) : ∀ (r d : List (Nat × Nat)) (q : Nat × Nat), (q ∈ d ∨ q ∈ r ∧ f (Int32.ofNat q.1) = true) → q ∈ ba_th f k d r
  | [], d, q, h => by
    rcases h with h | h
    · exact h
    · cases h.1
  | p :: r, d, q, h => by
    unfold ba_th
    split
    · split
      · rename_i c
        refine ba_th_keep f k r (d ++ [p]) q ?_
        rcases h with h | ⟨h, hf⟩
        · exact Or.inl (List.mem_append_left _ h)
        · rcases List.mem_cons.mp h with rfl | h
          · exact Or.inl (List.mem_append_right _ (List.mem_singleton.mpr rfl))
          · exact Or.inr ⟨h, hf⟩
      · rename_i c
        refine ba_th_keep f k r d q ?_
        rcases h with h | ⟨h, hf⟩
        · exact Or.inl h
        · rcases List.mem_cons.mp h with rfl | h
          · exact absurd hf c
          · exact Or.inr ⟨h, hf⟩
    · rcases h with h | h
      · exact List.mem_append_left _ h
      · exact List.mem_append_right _ h.1
theorem ba_th_len (f : Int32 → Bool) (k : Nat) : ∀ (r d : List (Nat × Nat)), (ba_th f k d r).length ≤ k ∨ (ba_th f k d r).length ≤ d.length + (r.filter (fun q => f (Int32.ofNat q.1))).length
  | [], d => Or.inr (Nat.le_add_right _ _)
  | q :: r, d => by
    unfold ba_th
    split
    · split
      · rename_i c
        rcases ba_th_len f k r (d ++ [q]) with h | h
        · exact Or.inl h
        · right
          rw [List.filter_cons, if_pos c, List.length_cons]
          rw [List.length_append, List.length_singleton] at h
          omega
      · rename_i c
        rcases ba_th_len f k r d with h | h
        · exact Or.inl h
        · right
          rw [List.filter_cons, if_neg c]
          exact h
    · rename_i c
      left
      rw [List.length_append, List.length_cons]
      omega
theorem bk_few {α : Type} [BEq α] [LawfulBEq α] : ∀ (l m : List α), l.Nodup → (∀ x ∈ l, x ∈ m) → l.length ≤ m.length
  | [], m, _, _ => Nat.zero_le _
  | a :: l, m, hn, hm => by
    obtain ⟨h1, h2⟩ := List.nodup_cons.mp hn
    have ha := hm a List.mem_cons_self
    have ih := bk_few l (m.erase a) h2 (fun x hx => (List.mem_erase_of_ne (fun e => h1 (by rw [← e]; exact hx))).mpr (hm x (List.mem_cons_of_mem _ hx)))
    rw [List.length_erase_of_mem ha] at ih
    have : 0 < m.length := List.length_pos_of_mem ha
    rw [List.length_cons]
    omega
theorem bs_thin_len {t : ba_T} {k : Nat} (hk : k ≤ 8) (hi : bv_dis (bs_sn t)) (hs : bv_sm (bs_sn t)) : (bs_sn (bs_thin k t)).length ≤ 8 := by
  show (ba_th (bs_pin t) k [] (bs_sn t)).length ≤ 8
  rcases ba_th_len (bs_pin t) k (bs_sn t) [] with h | h
  · omega
  · refine Nat.le_trans h ?_
    rw [List.length_nil, Nat.zero_add]
    have h1 := bk_few (((bs_sn t).filter (fun q => bs_pin t (Int32.ofNat q.1))).map (fun q => Int32.ofNat q.1)) [Int32.ofNat (bs_latest t), bs_c t 9, bs_c t 10, bs_c t 14, bs_c t 11, bs_c t 12] (by
      refine List.pairwise_map.mpr ?_
      have hd : bv_dis ((bs_sn t).filter (fun q => bs_pin t (Int32.ofNat q.1))) := List.Pairwise.sublist List.filter_sublist hi
      refine List.Pairwise.imp_of_mem (fun {a b} ha hb w => ?_) hd
      have a1 := hs a (List.mem_filter.mp ha).1
      have b1 := hs b (List.mem_filter.mp hb).1
      have e : (Int32.ofNat a.1 = Int32.ofNat b.1) = (a.1 = b.1) := bn_eq a1.2 b1.2
      exact fun u => w (e.mp u)) (fun x hx => by
      obtain ⟨q, hq, rfl⟩ := List.mem_map.mp hx
      have h2 := (List.mem_filter.mp hq).2
      unfold bs_pin at h2
      simp only [Bool.or_eq_true, decide_eq_true_eq] at h2
      simp only [List.mem_cons]
      rcases h2 with ((((h2 | h2) | h2) | h2) | h2) | h2
      · exact Or.inl h2
      · exact Or.inr (Or.inl h2)
      · exact Or.inr (Or.inr (Or.inl h2))
      · exact Or.inr (Or.inr (Or.inr (Or.inl h2)))
      · exact Or.inr (Or.inr (Or.inr (Or.inr (Or.inl h2))))
      · exact Or.inr (Or.inr (Or.inr (Or.inr (Or.inr (Or.inl h2))))))
    rw [List.length_map] at h1
    exact Nat.le_trans h1 (show 6 ≤ 8 by decide)
/-- the last of a list -/
theorem bv_last {l : List (Nat × Nat)} (h : l ≠ []) : (ba_la l, ba_ln l) ∈ l := by
  have hl : l.length - 1 < l.length := by
    have := List.length_pos_iff.mpr h
    omega
  show ((l.getD (l.length - 1) (0, 0)).1, (l.getD (l.length - 1) (0, 0)).2) ∈ l
  rw [List.getD_eq_getElem?_getD, List.getElem?_eq_getElem hl]
  exact List.getElem_mem hl
theorem bv_max {l : List (Nat × Nat)} (hi : bv_inc l) {q : Nat × Nat} (hq : q ∈ l) : q.1 ≤ ba_la l := by
  obtain ⟨j, hj, rfl⟩ := List.mem_iff_getElem.mp hq
  show l[j].1 ≤ (l.getD (l.length - 1) (0, 0)).1
  rw [List.getD_eq_getElem?_getD, List.getElem?_eq_getElem (show l.length - 1 < l.length by omega)]
  show l[j].1 ≤ l[l.length - 1].1
  by_cases c : j = l.length - 1
  · subst c
    exact Nat.le_refl _
  · exact Nat.le_of_lt (List.pairwise_iff_getElem.mp hi j (l.length - 1) hj (by omega) (by omega))
theorem bv_last_sub {l m : List (Nat × Nat)} (hi : bv_inc l) (hs : m.Sublist l) (hm : (ba_la l, ba_ln l) ∈ m) : ba_la m = ba_la l ∧ ba_ln m = ba_ln l := by
  have hn : m ≠ [] := List.ne_nil_of_mem hm
  have h1 := bv_last hn
  have h2 : ba_la m ≤ ba_la l := bv_max hi (hs.mem h1)
  have h3 : ba_la l ≤ ba_la m := bv_max (List.Pairwise.sublist hs hi) hm
  have e : (ba_la m, ba_ln m) = (ba_la l, ba_ln l) := bv_key hi.dis (hs.mem h1) (hs.mem hm) (show ba_la m = ba_la l by omega)
  exact ⟨congrArg Prod.fst e, congrArg Prod.snd e⟩
/-- thinning keeps the last -/
theorem bs_thin_last {t : ba_T} {k : Nat} (hi : bv_inc (bs_sn t)) : bs_latest (bs_thin k t) = bs_latest t ∧ bs_line (bs_thin k t) = bs_line t := by
  by_cases c : bs_sn t = []
  · have e : bs_sn (bs_thin k t) = [] := by
      show ba_th (bs_pin t) k [] (bs_sn t) = []
      rw [c]
      rfl
    unfold bs_latest bs_line
    rw [e, c]
    exact ⟨rfl, rfl⟩
  · have hs := ba_th_sub (bs_pin t) k (bs_sn t) []
    have hm : (ba_la (bs_sn t), ba_ln (bs_sn t)) ∈ ba_th (bs_pin t) k [] (bs_sn t) := ba_th_keep (bs_pin t) k (bs_sn t) [] _ (Or.inr ⟨bv_last c, by
      show bs_pin t (Int32.ofNat (bs_latest t)) = true
      unfold bs_pin
      simp⟩)
    exact bv_last_sub hi hs hm
