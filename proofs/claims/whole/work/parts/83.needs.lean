/-! what a store needs, and how it changes -/
section NG
variable {W : ba_W} {t : ba_T}
theorem ba_nd_skip (hW : ba_ok W) {x y z : Nat} {r : List Nat} (hz : z ≤ ba_n W) (h1 : ba_anc W x y) (h2 : ba_anc W y z) : ba_nd W x (z :: r) ≤ ba_nd W x (y :: z :: r) := by
  have := ba_nd_merge hW hz h1 h2 r
  omega
/-- fewer lines before the last need less -/
theorem ba_nd_sub (hW : ba_ok W) {y : Nat} {r : List Nat} : ∀ {m l : List Nat}, m.Sublist l → ∀ x, ba_ch W x (l ++ y :: r) → (∀ a ∈ l ++ y :: r, a ≤ ba_n W) → ba_nd W x (m ++ y :: r) ≤ ba_nd W x (l ++ y :: r)
  | _, _, .slnil, x, _, _ => Nat.le_refl _
  | m, _, .cons (l₂ := l) a h, x, hc, hn => by
    have hc' : ba_anc W x a ∧ ba_ch W a (l ++ y :: r) := hc
    have hx : ba_ch W x (l ++ y :: r) := by
      cases l with
      | nil => exact ⟨ba_anc_tr hc'.1 hc'.2.1, hc'.2.2⟩
      | cons b l => exact ⟨ba_anc_tr hc'.1 hc'.2.1, hc'.2.2⟩
    refine Nat.le_trans (ba_nd_sub hW h x hx (fun b hb => hn b (List.mem_cons_of_mem _ hb))) ?_
    cases l with
    | nil => exact ba_nd_skip hW (hn y (by simp)) hc'.1 hc'.2.1
    | cons b l => exact ba_nd_skip hW (hn b (by simp)) hc'.1 hc'.2.1
  | _, _, .cons₂ (l₁ := m) (l₂ := l) a h, x, hc, hn => by
    have hc' : ba_anc W x a ∧ ba_ch W a (l ++ y :: r) := hc
    have := ba_nd_sub hW h a hc'.2 (fun b hb => hn b (List.mem_cons_of_mem _ hb))
    show ba_pl W _ _ a + ba_nd W a (m ++ y :: r) ≤ ba_pl W _ _ a + ba_nd W a (l ++ y :: r)
    omega
theorem bs_ok.ach (o : bs_ok W t) : ba_ch W 0 (bs_an t) := ba_ch_app.mpr ⟨o.ch2.1, o.kn, trivial⟩
/-- fewer snapshots need less -/
theorem bs_need_sn (hW : ba_ok W) (o : bs_ok W t) {l : List (Nat × Nat)} (hl : l.Sublist (bs_sn t)) : bs_need W (bs_ss t l) ≤ bs_need W t := by
  have h1 := o.ach
  have h2 := o.an hW
  unfold bs_need
  unfold bs_an at h1 h2 ⊢
  exact ba_nd_sub hW (hl.map (fun (q : Nat × Nat) => q.2)) 0 h1 h2
theorem bs_need_thin (hW : ba_ok W) (o : bs_ok W t) (k : Nat) : bs_need W (bs_thin k t) ≤ bs_need W t := bs_need_sn hW o (ba_th_sub (bs_pin t) k (bs_sn t) [])
/-- KEPT becomes NOW -/
theorem bs_need_keep (hW : ba_ok W) (o : bs_ok W t) (b : Nat) : bs_need W (bs_sl t (bs_now t, b, bs_now t)) ≤ bs_need W t := by
  have h1 := bs_need_eq W t
  have h2 := bs_need_eq W (bs_sl t (bs_now t, b, bs_now t))
  have h3 := ba_pl_both hW o.1 (o.lat hW) o.kn
  have e1 : bs_line (bs_sl t (bs_now t, b, bs_now t)) = bs_line t := rfl
  have e2 : bs_now (bs_sl t (bs_now t, b, bs_now t)) = bs_now t := rfl
  have e3 : bs_kept (bs_sl t (bs_now t, b, bs_now t)) = bs_now t := rfl
  have e4 : bs_sn (bs_sl t (bs_now t, b, bs_now t)) = bs_sn t := rfl
  rw [e1, e2, e3, e4, ba_pl_0] at h2
  omega
/-- a snapshot of NOW where KEPT is NOW -/
theorem bs_need_snap (hk : bs_kept t = bs_now t) (i : Nat) : bs_need W (bs_ss t (bs_sn t ++ [(i, bs_now t)])) = bs_need W t := by
  unfold bs_need bs_an
  show ba_nd W 0 ((bs_sn t ++ [(i, bs_now t)]).map (fun q => q.2) ++ [bs_kept t, bs_now t]) = _
  rw [List.map_append, List.append_assoc, hk]
  show ba_nd W 0 ((bs_sn t).map (fun q => q.2) ++ bs_now t :: [bs_now t, bs_now t]) = ba_nd W 0 ((bs_sn t).map (fun q => q.2) ++ bs_now t :: [bs_now t])
  rw [ba_nd_app, ba_nd_app W 0 _ _ [bs_now t]]
  show _ + (ba_pl W _ (ba_l W (bs_now t) - ba_l W (bs_now t)) _ + (ba_pl W _ (ba_l W (bs_now t) - ba_l W (bs_now t)) _ + 0)) = _ + (ba_pl W _ (ba_l W (bs_now t) - ba_l W (bs_now t)) _ + 0)
  rw [ba_pl_0]
/-- NOW falls back to SAFE -/
theorem bs_use_lose (o : bs_ok W t) : bs_need W (bs_sl t (bs_safe t, bs_safe t, bs_kept t)) ≤ bs_need W t := by
  have h1 := bs_need_eq W t
  have h2 := bs_need_eq W (bs_sl t (bs_safe t, bs_safe t, bs_kept t))
  have e1 : bs_line (bs_sl t (bs_safe t, bs_safe t, bs_kept t)) = bs_line t := rfl
  have e2 : bs_now (bs_sl t (bs_safe t, bs_safe t, bs_kept t)) = bs_safe t := rfl
  have e3 : bs_kept (bs_sl t (bs_safe t, bs_safe t, bs_kept t)) = bs_kept t := rfl
  have e4 : bs_sn (bs_sl t (bs_safe t, bs_safe t, bs_kept t)) = bs_sn t := rfl
  rw [e1, e2, e3, e4] at h2
  have h3 := ba_pl_add W (ba_l W (bs_kept t)) (ba_l W (bs_now t) - ba_l W (bs_safe t)) (ba_l W (bs_safe t) - ba_l W (bs_kept t)) (bs_now t)
  have h4 := o.sn.1
  have h5 := o.ks.1
  rw [show ba_l W (bs_now t) - ba_l W (bs_safe t) + (ba_l W (bs_safe t) - ba_l W (bs_kept t)) = ba_l W (bs_now t) - ba_l W (bs_kept t) by omega, o.sn.2] at h3
  omega
/-- what was staged is adopted -/
theorem bs_use_adopt (hW : ba_ok W) (o : bs_ok W t) (hnl : bs_now t = bs_line t) {i k : Nat} (ha : ba_anc W (bs_line t) k) : bs_need W (bs_ss (bs_sl t (k, k, k)) (bs_sn t ++ [(i, k)])) = bs_need W t + ba_pl W (ba_l W (bs_line t)) (ba_l W k - ba_l W (bs_line t)) k := by
  have h1 := bs_need_eq W t
  have hk : bs_kept t = bs_line t := by
    refine (ba_anc_eq (o.lat hW) ?_).symm
    have := o.kn.1
    rw [hnl] at this
    exact this
  rw [hnl, hk, ba_pl_0] at h1
  rw [h1]
  unfold bs_need bs_an
  show ba_nd W 0 ((bs_sn t ++ [(i, k)]).map (fun q => q.2) ++ [k, k]) = _
  rw [List.map_append, List.append_assoc, ba_nd_split, ba_end_ln]
  show _ + (ba_pl W (ba_l W (bs_line t)) (ba_l W k - ba_l W (bs_line t)) k + (ba_pl W _ (ba_l W k - ba_l W k) k + (ba_pl W _ (ba_l W k - ba_l W k) k + 0))) = _
  rw [ba_pl_0]
  omega
theorem bs_use_adopt0 (hW : ba_ok W) {i k : Nat} : bs_need W (bs_ss (bs_sl t (k, k, k)) [(i, k)]) = ba_pl W 0 (ba_l W k) k := by
  unfold bs_need bs_an
  show ba_pl W (ba_l W 0) (ba_l W k - ba_l W 0) k + (ba_pl W _ (ba_l W k - ba_l W k) k + (ba_pl W _ (ba_l W k - ba_l W k) k + 0)) = _
  rw [ba_l0 hW, Nat.sub_zero, Nat.sub_self]
  rfl
/-- back to an earlier snapshot -/
theorem bs_need_back (j : Nat) (x : List Nat) : bs_need W (bs_sx (bs_ss (bs_sl t (ba_ln ((bs_sn t).take j), ba_ln ((bs_sn t).take j), ba_ln ((bs_sn t).take j))) ((bs_sn t).take j)) x) ≤ bs_need W t := by
  have h1 := bs_need_eq W t
  have h2 := bs_need_eq W (bs_sx (bs_ss (bs_sl t (ba_ln ((bs_sn t).take j), ba_ln ((bs_sn t).take j), ba_ln ((bs_sn t).take j))) ((bs_sn t).take j)) x)
  have e1 : bs_line (bs_sx (bs_ss (bs_sl t (ba_ln ((bs_sn t).take j), ba_ln ((bs_sn t).take j), ba_ln ((bs_sn t).take j))) ((bs_sn t).take j)) x) = ba_ln ((bs_sn t).take j) := rfl
  have e2 : bs_now (bs_sx (bs_ss (bs_sl t (ba_ln ((bs_sn t).take j), ba_ln ((bs_sn t).take j), ba_ln ((bs_sn t).take j))) ((bs_sn t).take j)) x) = ba_ln ((bs_sn t).take j) := rfl
  have e3 : bs_kept (bs_sx (bs_ss (bs_sl t (ba_ln ((bs_sn t).take j), ba_ln ((bs_sn t).take j), ba_ln ((bs_sn t).take j))) ((bs_sn t).take j)) x) = ba_ln ((bs_sn t).take j) := rfl
  have e4 : bs_sn (bs_sx (bs_ss (bs_sl t (ba_ln ((bs_sn t).take j), ba_ln ((bs_sn t).take j), ba_ln ((bs_sn t).take j))) ((bs_sn t).take j)) x) = (bs_sn t).take j := rfl
  rw [e1, e2, e3, e4, ba_pl_0] at h2
  have h3 : ba_nd W 0 ((bs_sn t).map (fun q => q.2)) = ba_nd W 0 (((bs_sn t).take j).map (fun q => q.2)) + ba_nd W (ba_end 0 (((bs_sn t).take j).map (fun q => q.2))) (((bs_sn t).drop j).map (fun q => q.2)) := by
    rw [← ba_nd_split, ← List.map_append, List.take_append_drop]
  omega
/-- the places between two lines of a store are counted in what it needs -/
theorem bs_need_two (hW : ba_ok W) (o : bs_ok W t) {a b : Nat} {p q r : List Nat} (e : bs_an t = p ++ a :: (q ++ b :: r)) : ba_pl W (ba_l W a) (ba_l W b - ba_l W a) b ≤ bs_need W t := by
  have hc := o.ach
  have hn := o.an hW
  unfold bs_need
  rw [e] at hc hn ⊢
  rw [ba_nd_app, ba_nd_app W a q b r]
  have h1 := (ba_ch_app.mp hc).2
  have h2 := (ba_ch_app.mp h1).1
  have h3 := ba_nd_ge hW a q b (hn b (by simp)) h2
  omega
theorem bs_need_one (hW : ba_ok W) (o : bs_ok W t) {b : Nat} {q r : List Nat} (e : bs_an t = q ++ b :: r) : ba_pl W 0 (ba_l W b) b ≤ bs_need W t := by
  have hc := o.ach
  have hn := o.an hW
  unfold bs_need
  rw [e] at hc hn ⊢
  rw [ba_nd_app]
  have h2 := (ba_ch_app.mp hc).1
  have h3 := ba_nd_ge hW 0 q b (hn b (by simp)) h2
  rw [ba_l0 hW, Nat.sub_zero] at h3
  omega
/-- a snapshot's place among the lines -/
theorem bs_an_split {q : Nat × Nat} (hq : q ∈ bs_sn t) : ∃ p r, bs_an t = p ++ q.2 :: r ∧ r ≠ [] := by
  obtain ⟨l, m, e⟩ := List.append_of_mem hq
  refine ⟨l.map (fun q => q.2), m.map (fun q => q.2) ++ [bs_kept t, bs_now t], ?_, by simp⟩
  unfold bs_an
  rw [e, List.map_append, List.map_cons, List.append_assoc]
  rfl
theorem bs_an_two (hi : bv_inc (bs_sn t)) {a b : Nat × Nat} (ha : a ∈ bs_sn t) (hb : b ∈ bs_sn t) (hl : a.1 < b.1) : ∃ p q r, bs_an t = p ++ a.2 :: (q ++ b.2 :: r) := by
  obtain ⟨l, m, e⟩ := List.append_of_mem ha
  have hb' := hb
  rw [e] at hb' hi
  rcases List.mem_append.mp hb' with w | w
  · have := (List.pairwise_append.mp hi).2.2 b w a List.mem_cons_self
    omega
  · rcases List.mem_cons.mp w with w | w
    · rw [w] at hl
      omega
    · obtain ⟨m1, m2, e2⟩ := List.append_of_mem w
      refine ⟨l.map (fun q => q.2), m1.map (fun q => q.2), m2.map (fun q => q.2) ++ [bs_kept t, bs_now t], ?_⟩
      unfold bs_an
      rw [e, e2]
      simp
theorem bs_anc_two (hW : ba_ok W) (o : bs_ok W t) (hi : bv_inc (bs_sn t)) {a b : Nat × Nat} (ha : a ∈ bs_sn t) (hb : b ∈ bs_sn t) (hl : a.1 < b.1) : ba_anc W a.2 b.2 := by
  obtain ⟨p, q, r, e⟩ := bs_an_two hi ha hb hl
  have hc := o.ach
  rw [e] at hc
  have h1 := (ba_ch_app.mp hc).2
  exact ba_ch_in hW h1 (List.mem_append_right _ List.mem_cons_self)
theorem bs_anc_now (hW : ba_ok W) (o : bs_ok W t) {a : Nat × Nat} (ha : a ∈ bs_sn t) : ba_anc W a.2 (bs_now t) := by
  obtain ⟨j, hj, e⟩ := List.mem_iff_getElem.mp ha
  have := o.lk hj
  rw [List.getD_eq_getElem?_getD, List.getElem?_eq_getElem hj] at this
  have this : ba_anc W (bs_sn t)[j].2 (bs_kept t) := this
  rw [e] at this
  exact ba_anc_tr this o.kn
/-- from a snapshot to NOW -/
theorem bs_need_now (hW : ba_ok W) (o : bs_ok W t) {a : Nat × Nat} (ha : a ∈ bs_sn t) : ba_pl W (ba_l W a.2) (ba_l W (bs_now t) - ba_l W a.2) (bs_now t) ≤ bs_need W t := by
  obtain ⟨l, m, e⟩ := List.append_of_mem ha
  refine bs_need_two hW o (p := l.map (fun q => q.2)) (q := m.map (fun q => q.2) ++ [bs_kept t]) (r := []) ?_
  unfold bs_an
  rw [e]
  simp
theorem bs_need_now0 (hW : ba_ok W) (o : bs_ok W t) : ba_pl W 0 (ba_l W (bs_now t)) (bs_now t) ≤ bs_need W t := by
  refine bs_need_one hW o (q := (bs_sn t).map (fun q => q.2) ++ [bs_kept t]) (r := []) ?_
  unfold bs_an
  simp
end NG
