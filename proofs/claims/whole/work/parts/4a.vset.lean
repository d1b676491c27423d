/-! the class's vault changed as a whole; lines in their order; one more write -/
section CS
variable {A : Nat → Nat → Nat} {h0 h h' : bi_H} {x y : Nat} {S : ba_S} {s : Nat} {F C : List Nat}
theorem cs_R.V (R : cs_R A h0 x y h S) (hs : s < 8) (d : cv_d A s F C h h') (hC : ∀ c, c ∈ C → c = 54 ∨ c = 55 ∨ c = 56) {t : ba_T} (e1 : bs_c t = bs_c (bz_T S s)) (e2 : bs_g t = bs_g (bz_T S s)) (e3 : bs_lo t = bs_lo (bz_T S s)) (v : ca_v A (bz_W S) (bz_D S (s % 4)) t s h') : cs_R A h0 x y h' (bz_sT S s t) := by
  have hbd : ∀ c, c ∈ C → s < ca_bd c := fun c hc => by rcases hC c hc with rfl | rfl | rfl <;> exact hs
  have hai : ∀ c i j, i < ca_bd c → (∀ c', c' ∈ C → c ≠ c' ∨ i ≠ s) → bi_ai h' (A c i) j = bi_ai h (A c i) j := fun c i j hi hn => d.2.2 _ _ (fun c' hc' z => by
    have := R.ne hi (hbd c' hc') (hn c' hc')
    rw [this] at z
    exact z)
  have Rw := d.w (fun c hc => by rcases hC c hc with rfl | rfl | rfl <;> decide) hbd R.w
  obtain ⟨⟨a1, a2, a3, a4, a5, a6⟩, a7, a8⟩ := d
  have hfi : ∀ c k a, c ≠ 7 → bi_fi h' c k a = bi_fi h c k a := fun c k a hc => a7 c k a (fun z => hc z.1)
  have hne := R.1.2.1
  obtain ⟨r1, r2, r3, r4, r5, r6, r7, r8, r9, r10⟩ := R
  refine ⟨Rw.1, ⟨by rw [a2]; exact r2.1, by rw [a1]; exact r2.2.1, fun c k a hc ha => ?_, fun a j ha hn => ?_, by rw [a3]; exact r2.2.2.2.2.1, by rw [a4]; exact r2.2.2.2.2.2⟩, Rw.2, fun s' hs' => ?_, fun i hi k => ?_, fun k => ?_, fun k => ?_, fun i hi => ?_, ?_, fun j hj => ?_⟩
  · rw [hfi c k a (by omega), a5]
    exact r2.2.2.1 c k a hc ha
  · rw [a8 a j (fun c hc => hn c s (hbd c hc)), a6]
    exact r2.2.2.2.1 a j ha hn
  · obtain ⟨t1, t2, t3, t4, t5⟩ := r4 s' hs'
    have c52 := fun i => hai 52 s' i hs' (fun c' hc' => by rcases hC c' hc' with rfl | rfl | rfl <;> exact Or.inl (by decide))
    have c53 := fun i => hai 53 s' i hs' (fun c' hc' => by rcases hC c' hc' with rfl | rfl | rfl <;> exact Or.inl (by decide))
    show ca_t A _ _ _ (ba_u (bz_T S) s t s') s' _
    by_cases e : s' = s
    · subst e
      rw [ba_u_same]
      refine ⟨fun k => ?_, fun k => ?_, v, ?_, ?_⟩
      · rw [hfi 6 _ _ (by decide), e1]
        exact t1 k
      · rw [hfi 5 _ _ (by decide), e2]
        exact t2 k
      · simp only [c52, hfi 3 _ _ (show (3 : Nat) ≠ 7 by decide)]
        exact t4
      · rw [e3]
        simp only [c53, hfi 3 _ _ (show (3 : Nat) ≠ 7 by decide)]
        exact t5
    · rw [ba_u_ne _ _ e]
      obtain ⟨⟨v1, v1'⟩, ⟨v2, v2', v2''⟩, v3, v4, v5, v6⟩ := t3
      have f7 : ∀ k, bi_fi h' 7 k (A 7 s') = bi_fi h 7 k (A 7 s') := fun k => a7 7 k _ (fun z => e (hne 7 s' 7 s hs' hs z.2.2).2)
      have cc := fun c i (hc : c = 54 ∨ c = 55 ∨ c = 56) => hai c s' i (by rcases hc with rfl | rfl | rfl <;> exact hs') (fun _ _ => Or.inr e)
      refine ⟨fun k => ?_, fun k => ?_, ⟨?_, ?_, ?_, ?_, fun i hi => ?_, fun q hq => ?_⟩, ?_, ?_⟩
      · rw [hfi 6 _ _ (by decide)]
        exact t1 k
      · rw [hfi 5 _ _ (by decide)]
        exact t2 k
      · rw [f7, f7]
        exact ⟨v1, v1'⟩
      · rw [f7, f7, f7]
        exact ⟨v2, v2', v2''⟩
      · rw [f7]
        exact v3
      · rw [f7]
        exact v4
      · rw [cc 55 i (by simp), cc 56 i (by simp)]
        exact v5 i hi
      · rw [cc 54 q (by simp)]
        exact v6 q hq
      · simp only [c52, hfi 3 _ _ (show (3 : Nat) ≠ 7 by decide)]
        exact t4
      · simp only [c53, hfi 3 _ _ (show (3 : Nat) ≠ 7 by decide)]
        exact t5
  · rw [hfi 4 _ _ (by decide)]
    exact r5 i hi k
  · rw [hfi 9 _ _ (by decide)]
    exact r6 k
  · rw [hfi 0 _ _ (by decide)]
    exact r7 k
  · obtain ⟨g1, g2, g3, g4⟩ := r8 i hi
    rw [a6]
    refine ⟨by rw [a1]; exact g1, by rw [a2]; exact g2, fun k => by rw [hfi 2 _ _ (by decide)]; exact g3 k, ?_⟩
    rw [a5]
    rcases g4 with g4 | ⟨g4, g5, g6, g7⟩
    · exact Or.inl g4
    · refine Or.inr ⟨by rw [a2]; exact g4, by rw [a1]; exact g5, g6, fun j hj => ?_⟩
      rw [a8 _ j (fun c hc => g6 c s (hbd c hc))]
      exact g7 j hj
  · rw [hfi 1 _ _ (by decide)]
    exact r9
  · rw [hai 51 0 j (by decide) (fun c' hc' => by rcases hC c' hc' with rfl | rfl | rfl <;> exact Or.inl (by decide))]
    exact r10 j hj
end CS
/-! lines in their order -/
theorem ba_ch_get {W : ba_W} : ∀ {l : List Nat} {x : Nat}, ba_ch W x l → ∀ i, i < l.length → ba_anc W x (l.getD i 0)
  | [], _, _, i, hi => by simp at hi
  | y :: l, x, h, 0, _ => h.1
  | y :: l, x, h, i + 1, hi => ba_anc_tr h.1 (ba_ch_get h.2 i (by simp at hi; omega))
theorem ba_ch_two {W : ba_W} : ∀ {l : List Nat} {x : Nat}, ba_ch W x l → ∀ i j, i ≤ j → j < l.length → ba_anc W (l.getD i 0) (l.getD j 0)
  | [], _, _, i, j, _, hj => by simp at hj
  | y :: l, x, h, 0, 0, _, _ => ba_anc_rf W y
  | y :: l, x, h, 0, j + 1, _, hj => ba_ch_get h.2 j (by simp at hj; omega)
  | y :: l, x, h, i + 1, 0, hij, _ => by omega
  | y :: l, x, h, i + 1, j + 1, hij, hj => ba_ch_two h.2 i j (by omega) (by simp at hj; omega)
theorem ba_ch_pre {W : ba_W} : ∀ {l r : List Nat} {x : Nat}, ba_ch W x (l ++ r) → ba_ch W x l
  | [], _, _, _ => trivial
  | y :: l, r, x, h => ⟨h.1, ba_ch_pre (l := l) h.2⟩
/-- a store's lines are in order -/
def bs_ok (W : ba_W) (t : ba_T) : Prop := bs_now t ≤ ba_n W ∧ ba_ch W 0 ((bs_sn t).map (fun q => q.2) ++ [bs_kept t, bs_safe t, bs_now t]) ∧ (bs_sn t).length ≤ 15
theorem ba_ch_snoc {W : ba_W} : ∀ {l : List Nat} {x y z : Nat} {r : List Nat}, ba_ch W x (l ++ [y]) → ba_anc W y z → ba_ch W z r → ba_ch W x (l ++ z :: r)
  | [], x, y, z, r, h, h1, h2 => ⟨ba_anc_tr h.1 h1, h2⟩
  | a :: l, x, y, z, r, h, h1, h2 => ⟨h.1, ba_ch_snoc (l := l) h.2 h1 h2⟩
section BO
variable {W : ba_W} {t : ba_T}
theorem bs_ok.ch2 (h : bs_ok W t) : ba_ch W 0 ((bs_sn t).map (fun q => q.2) ++ [bs_kept t]) ∧ ba_anc W (bs_kept t) (bs_safe t) ∧ ba_anc W (bs_safe t) (bs_now t) := by
  have := ba_ch_app.mp h.2.1
  exact ⟨this.1, this.2.1, this.2.2.1⟩
theorem bs_ok.sn (h : bs_ok W t) : ba_anc W (bs_safe t) (bs_now t) := h.ch2.2.2
theorem bs_ok.ks (h : bs_ok W t) : ba_anc W (bs_kept t) (bs_safe t) := h.ch2.2.1
theorem bs_ok.kn (h : bs_ok W t) : ba_anc W (bs_kept t) (bs_now t) := ba_anc_tr h.ks h.sn
theorem bs_ok.s_in (hW : ba_ok W) (h : bs_ok W t) : bs_safe t ≤ ba_n W := ba_anc_in hW h.1 h.sn
theorem bs_ok.k_in (hW : ba_ok W) (h : bs_ok W t) : bs_kept t ≤ ba_n W := ba_anc_in hW h.1 h.kn
theorem ba_map_getD (l : List (Nat × Nat)) (i : Nat) : (l.map (fun q => q.2)).getD i 0 = (l.getD i (0, 0)).2 := by
  simp only [List.getD_eq_getElem?_getD, List.getElem?_map]
  cases l[i]? <;> rfl
theorem ba_app_getD (l r : List Nat) (i : Nat) (hi : i < l.length) : (l ++ r).getD i 0 = l.getD i 0 := by
  simp only [List.getD_eq_getElem?_getD]
  rw [List.getElem?_append_left hi]
theorem ba_app_getD2 (l r : List Nat) (i : Nat) : (l ++ r).getD (l.length + i) 0 = r.getD i 0 := by
  simp only [List.getD_eq_getElem?_getD]
  rw [List.getElem?_append_right (by omega)]
  congr 2
  omega
/-- a snapshot's line stands on KEPT -/
theorem bs_ok.lk (h : bs_ok W t) {i : Nat} (hi : i < (bs_sn t).length) : ba_anc W ((bs_sn t).getD i (0, 0)).2 (bs_kept t) := by
  have h1 := ba_ch_two h.ch2.1 i (bs_sn t).length (by omega) (by simp)
  rw [ba_app_getD _ _ _ (by simp; exact hi), ba_map_getD] at h1
  have h2 := ba_app_getD2 ((bs_sn t).map (fun q => q.2)) [bs_kept t] 0
  rw [List.length_map, Nat.add_zero] at h2
  rw [h2] at h1
  exact h1
theorem bs_ok.ll (h : bs_ok W t) {i j : Nat} (hij : i ≤ j) (hj : j < (bs_sn t).length) : ba_anc W ((bs_sn t).getD i (0, 0)).2 ((bs_sn t).getD j (0, 0)).2 := by
  have h1 := ba_ch_two h.ch2.1 i j hij (by simp; omega)
  rw [ba_app_getD _ _ _ (by simp; omega), ba_app_getD _ _ _ (by simp; omega), ba_map_getD, ba_map_getD] at h1
  exact h1
theorem bs_ok.l_in (hW : ba_ok W) (h : bs_ok W t) : ∀ i, i < (bs_sn t).length → ((bs_sn t).getD i (0, 0)).2 ≤ ba_n W := fun _ hi => ba_anc_in hW (h.k_in hW) (h.lk hi)
theorem bs_ok.lat (hW : ba_ok W) (h : bs_ok W t) : ba_anc W (bs_line t) (bs_kept t) := by
  unfold bs_line ba_ln
  by_cases e : (bs_sn t).length = 0
  · rw [List.length_eq_zero_iff.mp e]
    exact ba_anc_0 hW (h.k_in hW)
  · exact h.lk (by omega)
end BO
/-- the snapshots of a vault as the class shows them -/
theorem cs_R.vs {A : Nat → Nat → Nat} {h0 h : bi_H} {x y : Nat} {S : ba_S} {s : Nat} (R : cs_R A h0 x y h S) (hs : s < 8) (hW : ba_ok (bz_W S)) (o : bs_ok (bz_W S) (bz_T S s)) : cv_s A s (bz_W S) (bs_sn (bz_T S s)) h := ⟨R.f79 hs, by have := o.2.2; omega, o.l_in hW, fun _ hi => ⟨R.a55 hs hi, R.a56 hs hi⟩⟩
/-- one more write -/
def ba_add (W : ba_W) (k q : Nat) (v : Int32) (g : Nat) : ba_W := (ba_n W + 1, ba_u (ba_b W) (ba_n W + 1) k, ba_u (ba_s W) (ba_n W + 1) q, ba_u (ba_v W) (ba_n W + 1) v, ba_u (ba_l W) (ba_n W + 1) (ba_l W k + 1), ba_u (ba_e W) (ba_n W + 1) (ba_last W k q), ba_u (ba_g W) (ba_n W + 1) g)
theorem ba_add_ext (W : ba_W) (k q : Nat) (v : Int32) (g : Nat) : ba_ext W (ba_add W k q v g) := by
  refine ⟨Nat.le_succ _, fun j hj => ?_⟩
  have hn : j ≠ ba_n W + 1 := by omega
  exact ⟨ba_u_ne _ _ hn, ba_u_ne _ _ hn, ba_u_ne _ _ hn, ba_u_ne _ _ hn, ba_u_ne _ _ hn, ba_u_ne _ _ hn⟩
theorem ba_row_ext {W W' : ba_W} (hW : ba_ok W) (hx : ba_ext W W') {j : Nat} (h0 : 0 < j) (hj : j ≤ ba_n W) : ba_row W' j := by
  obtain ⟨r1, r2, r3, r4, r5, r6⟩ := hW.2.2 j h0 hj
  obtain ⟨e1, e2, e3, e4, e5, e6⟩ := hx.2 j hj
  have hb := ba_b_in hW hj
  refine ⟨by rw [e1]; exact r1, by rw [e1, e4, (hx.2 _ hb).2.2.2.1]; exact r2, by rw [e2]; exact r3, ?_, by rw [e6]; exact r5, ?_⟩
  · rw [e5, e1, e2, ba_ext_last hW hx _ _ hb]
    exact r4
  · rw [e1, e6, (hx.2 _ hb).2.2.2.2.2]
    exact r6
theorem ba_add_ok {W : ba_W} (hW : ba_ok W) {k q : Nat} {v : Int32} {g : Nat} (hn : ba_n W < 60000) (hk : k ≤ ba_n W) (hq : q < 32768) (hg : g < 4) (hkg : k ≠ 0 → ba_g W k = g) : ba_ok (ba_add W k q v g) := by
  have hx := ba_add_ext W k q v g
  obtain ⟨z1, z2, z3, z4, z5⟩ := hW.2.1
  obtain ⟨e1, e2, e3, e4, e5, e6⟩ := hx.2 0 (Nat.zero_le _)
  refine ⟨hn, ⟨e1.trans z1, e2.trans z2, e3.trans z3, e4.trans z4, e5.trans z5⟩, fun j h0 hj => ?_⟩
  by_cases e : j = ba_n W + 1
  · subst e
    have b1 : ba_b (ba_add W k q v g) (ba_n W + 1) = k := ba_u_same _ _ _
    have b2 : ba_s (ba_add W k q v g) (ba_n W + 1) = q := ba_u_same _ _ _
    have b3 : ba_l (ba_add W k q v g) (ba_n W + 1) = ba_l W k + 1 := ba_u_same _ _ _
    have b4 : ba_e (ba_add W k q v g) (ba_n W + 1) = ba_last W k q := ba_u_same _ _ _
    have b5 : ba_g (ba_add W k q v g) (ba_n W + 1) = g := ba_u_same _ _ _
    refine ⟨by rw [b1]; omega, by rw [b1, b3, (hx.2 k hk).2.2.2.1], by rw [b2]; exact hq, by rw [b4, b1, b2, ba_ext_last hW hx k q hk], by rw [b5]; exact hg, ?_⟩
    rw [b1, b5, (hx.2 k hk).2.2.2.2.2]
    exact hkg
  · have hj' : j ≤ ba_n W := by
      have : ba_n (ba_add W k q v g) = ba_n W + 1 := rfl
      omega
    exact ba_row_ext hW hx h0 hj'
