/-! the reference: write, fill -/
section MZ
variable {O : Nat → Prop} {B : Nat → Nat → Nat} {H : List (Nat × ba_G)} {e : Nat} {g0 h h' : bi_H} {x y z x' y' : Nat} {S S' : ba_S} {s i : Nat}
theorem ba_last_add {W : ba_W} (hW : ba_ok W) {k q : Nat} (hk : k ≤ ba_n W) (v : Int32) (g p : Nat) : ba_last (ba_add W k q v g) (ba_n W + 1) p = if q = p then ba_n W + 1 else ba_last W k p := by
  have hx := ba_add_ext W k q v g
  have e2 : ba_l (ba_add W k q v g) (ba_n W + 1) = ba_l W k + 1 := ba_u_same _ _ _
  have e3 : ba_b (ba_add W k q v g) (ba_n W + 1) = k := ba_u_same _ _ _
  have e4 : ba_s (ba_add W k q v g) (ba_n W + 1) = q := ba_u_same _ _ _
  unfold ba_last
  rw [e2]
  show (if ba_s (ba_add W k q v g) (ba_n W + 1) = p then ba_n W + 1 else ba_at (ba_add W k q v g) p (ba_l W k) (ba_b (ba_add W k q v g) (ba_n W + 1))) = _
  rw [e3, e4, ba_ext_at hW hx p _ k hk]
theorem mb_w_ext (hx : ba_ext (bz_W S) (bz_W S')) (eD : bz_D S' = bz_D S) {k : Nat} (hk : k ≤ ba_n (bz_W S)) : mb_w S' k = mb_w S k := by
  obtain ⟨-, x2, -, -, -, x6⟩ := hx.2 k hk
  unfold mb_w
  rw [x2, x6, eD]
/-- what is lost are writes -/
def bz_lw (S : ba_S) : Prop := ∀ s, s < 8 → ∀ k ∈ bs_lo (bz_T S s), k ≤ ba_n (bz_W S)
theorem ba_getD_mem {l : List Nat} {i : Nat} (hi : i < l.length) : l.getD i 0 ∈ l := by
  rw [List.getD_eq_getElem?_getD, List.getElem?_eq_getElem hi]
  exact List.getElem_mem hi
theorem mb_t.ext {t : ba_T} (T : mb_t B S h s t) (hW : ba_ok (bz_W S)) (hx : ba_ext (bz_W S) (bz_W S')) (eD : bz_D S' = bz_D S) (o : bs_ok (bz_W S) t) (hlo : ∀ k ∈ bs_lo t, k ≤ ba_n (bz_W S)) : mb_t B S' h s t := by
  obtain ⟨t1, t2, t3, t4, t5, t6, t7, t8, t9⟩ := T
  refine ⟨t1, t2, t3, t4, t5, t6, fun i hi => ?_, ?_, ?_⟩
  · have hm := hlo _ (ba_getD_mem hi)
    rw [mb_w_ext hx eD hm, (hx.2 _ hm).2.2.1]
    exact t7 i hi
  · rw [eD]
    rcases t8 with t8 | ⟨t8, t8'⟩
    · exact Or.inl t8
    · exact Or.inr ⟨t8, fun q hq => by rw [ba_ext_last hW hx _ _ o.1]; exact t8' q hq⟩
  · rw [bs_need_ext hW hx o]
    exact t9
theorem mb_s.ext (T : mb_s B S h) (hW : ba_ok (bz_W S)) (hx : ba_ext (bz_W S) (bz_W S')) (eD : bz_D S' = bz_D S) (eN : bz_N S' = bz_N S) : mb_s B S' h := by
  rcases T with T | ⟨g, k, d, hg, hk, hd, e1, e2, e3, e4, e5⟩
  · exact Or.inl T
  · have el : ba_l (bz_W S') k = ba_l (bz_W S) k := (hx.2 k hk).2.2.2.1
    refine Or.inr ⟨g, k, d, by rw [eN]; exact hg, Nat.le_trans hk hx.1, by rw [el]; exact hd, e1, by rw [ba_ext_up hW hx _ _ hk]; exact e2, e3, by rw [ba_ext_sp hW hx _ _ hk]; exact e4, fun i hi => ?_⟩
    rw [ba_ext_sp hW hx _ _ hk] at hi ⊢
    have hm := ba_sp_in hW hk hd (ba_getD_mem hi)
    rw [mb_w_ext hx eD hm, (hx.2 _ hm).2.2.1]
    exact e5 i hi
/-- one more write -/
def mo_p (B : Nat → Nat → Nat) (h : bi_H) (s n k w l : Nat) (v : Int32) : bi_H := bi_sai (bi_sai (bi_sai (bi_sai (bi_sfi h 12 14 (B 12 0) (Int32.ofNat n)) (B 115 0) n (Int32.ofNat k)) (B 116 0) n (Int32.ofNat w)) (B 117 0) n v) (B 118 0) n (Int32.ofNat l)
def mo_q (B : Nat → Nat → Nat) (h : bi_H) (s n w : Nat) : bi_H := bi_sfi (bi_sai h (B 66 s) w (Int32.ofNat n)) 11 4 (B 11 s) (Int32.ofNat n)
theorem ms_R.put0 {hz : bi_H} (R : ms_R O B H e g0 x y h S) (I : bz_ok S) (hlw : bz_lw S) (hs : s < 8) (hN : s % 4 < bz_N S) {q n1 cv : Nat} (h0 : 0 < (bz_D S (s % 4)).2) (v : Int32) (hn1 : n1 = ba_n (bz_W S) + 1) (hcv : ∀ j, j < (bz_D S (s % 4)).1 * (bz_D S (s % 4)).2 → (j = cv ↔ q = mb_vc (bz_D S (s % 4)) j)) (ecv : cv = mb_cv (bz_D S (s % 4)) q) (hc : ∀ j, j < (bz_D S (s % 4)).1 * (bz_D S (s % 4)).2 → bi_ai h (B 66 s) j = Int32.ofNat (ba_last (bz_W S) (bs_now (bz_T S s)) (mb_vc (bz_D S (s % 4)) j))) (d : md B [(12, 0, 14), (11, s, 34), (11, s, 4)] [(115, 0), (116, 0), (117, 0), (118, 0), (66, s)] h hz) (h14 : bi_fi hz 12 14 (B 12 0) = Int32.ofNat n1) (h4 : bi_fi hz 11 4 (B 11 s) = Int32.ofNat n1) (h34 : bi_fi hz 11 34 (B 11 s) = bi_fi h 11 34 (B 11 s) + (if ba_l (bz_W S) (ba_last (bz_W S) (bs_now (bz_T S s)) q) ≤ ba_l (bz_W S) (bs_kept (bz_T S s)) then 1 else 0)) (a66 : ∀ j, bi_ai hz (B 66 s) j = if j = cv then Int32.ofNat n1 else bi_ai h (B 66 s) j) (rows : ∀ k, bi_ai hz (B 115 0) k = (if k = n1 then Int32.ofNat (bs_now (bz_T S s)) else bi_ai h (B 115 0) k) ∧ bi_ai hz (B 116 0) k = (if k = n1 then Int32.ofNat cv else bi_ai h (B 116 0) k) ∧ bi_ai hz (B 117 0) k = (if k = n1 then v else bi_ai h (B 117 0) k) ∧ bi_ai hz (B 118 0) k = (if k = n1 then Int32.ofNat (ba_l (bz_W S) (bs_now (bz_T S s)) + 1) else bi_ai h (B 118 0) k)) (eW : bz_W S' = ba_add (bz_W S) (bs_now (bz_T S s)) q v (s % 4)) (eT : bz_T S' s = bs_sl (bz_T S s) (n1, bs_safe (bz_T S s), bs_kept (bz_T S s))) (eT' : ∀ s', s' ≠ s → bz_T S' s' = bz_T S s') (eD : bz_D S' = bz_D S) (eN : bz_N S' = bz_N S) (eGG : bz_G S' = bz_G S) (eLL : bz_L S' = bz_L S) (eII : bz_I S' = bz_I S) (eRR : bz_R S' = bz_R S) (eFF : bz_F S' = bz_F S) (emm : bz_m S' = bz_m S) : ms_R O B H e g0 x y hz S' := by
  have L := R.L
  have hW := I.W
  have o := I.o hs
  have hx := ba_add_ext (bz_W S) (bs_now (bz_T S s)) q v (s % 4)
  have hx' : ba_ext (bz_W S) (bz_W S') := by rw [eW]; exact hx
  have hP : ∀ q, q ∈ [(12, 0, 14), (11, s, 34), (11, s, 4)] → mb_in (bz_N S) q.1 q.2.1 := fun q hq => by
    simp at hq
    rcases hq with rfl | rfl | rfl
    · exact mi0 (by decide) rfl
    · exact mi2 hs hN
    · exact mi2 hs hN
  have hZ : ∀ q, q ∈ [(115, 0), (116, 0), (117, 0), (118, 0), (66, s)] → mb_in (bz_N S) q.1 q.2 := fun q hq => by
    simp at hq
    rcases hq with rfl | rfl | rfl | rfl | rfl
    · exact mi0 (by decide) rfl
    · exact mi0 (by decide) rfl
    · exact mi0 (by decide) rfl
    · exact mi0 (by decide) rfl
    · exact mi2 hs hN
  have fi12 : ∀ k, k ≠ 14 → bi_fi hz 12 k (B 12 0) = bi_fi h 12 k (B 12 0) := fun k hk => d.fi L hP (mi0 (by decide) rfl) (by simp; exact hk)
  have fi11 : ∀ k, k ≠ 34 → k ≠ 4 → bi_fi hz 11 k (B 11 s) = bi_fi h 11 k (B 11 s) := fun k hk hk' => d.fi L hP (mi2 hs hN) (by simp; exact ⟨hk, hk'⟩)
  have ai : ∀ {c i} (hi : mb_in (bz_N S) c i) (hc : ¬ (115 ≤ c ∧ c ≤ 118)) (hc' : c ≠ 66) j, bi_ai hz (B c i) j = bi_ai h (B c i) j := fun {c i} hi hc hc' j => d.ai L hZ hi (by simp; omega) j
  have hkd : ∀ c i, mb_kd S' c i = mb_kd S c i := fun c i => by
    have e1 : bs_lo (bz_T S' i) = bs_lo (bz_T S i) := by
      by_cases c : i = s
      · rw [c, eT]
        rfl
      · rw [eT' i c]
    unfold mb_kd
    rw [e1, eD]
  obtain ⟨r1, r2, r3, r4, r5, r6, r7, r8, r9, r10, r11⟩ := R
  refine ⟨d.lay r1 hkd eN, (by rw [eN]; exact d.frm r2 (fun q hq => by simp at hq; rcases hq with rfl | rfl | rfl <;> simp) hZ), ?_, ?_, ?_, ?_, ?_, ?_, ?_, ?_, ?_⟩
  · rw [eGG, eN, eLL, emm, eW, fi12 1 (by decide), fi12 2 (by decide), fi12 3 (by decide), fi12 4 (by decide), fi12 5 (by decide), fi12 6 (by decide), fi12 7 (by decide), fi12 8 (by decide), fi12 24 (by decide), h14]
    exact ⟨r3.1, r3.2.1, r3.2.2.1, r3.2.2.2.1, r3.2.2.2.2.1, r3.2.2.2.2.2.1, r3.2.2.2.2.2.2.1, r3.2.2.2.2.2.2.2.1, by rw [hn1]; rfl, r3.2.2.2.2.2.2.2.2.2⟩
  · intro i hi
    rw [eII, ai (mi0 (by decide) rfl) (by decide) (by decide), ai (mi0 (by decide) rfl) (by decide) (by decide), ai (mi0 (by decide) rfl) (by decide) (by decide)]
    exact r4 i hi
  · intro g hg
    rw [eN] at hg
    rw [eD, ai (mi0 (by decide) rfl) (by decide) (by decide), ai (mi0 (by decide) rfl) (by decide) (by decide)]
    exact r5 g hg
  · intro k hk
    obtain ⟨w1, w2, w3, w4⟩ := rows k
    rw [w1, w2, w3, w4]
    have hk : k ≤ n1 := by rw [eW] at hk; rw [hn1]; exact hk
    by_cases c : k = n1
    · subst c
      subst hn1
      rw [if_pos rfl, if_pos rfl, if_pos rfl, if_pos rfl, eW]
      have e1 : ba_b (ba_add (bz_W S) (bs_now (bz_T S s)) q v (s % 4)) (ba_n (bz_W S) + 1) = bs_now (bz_T S s) := ba_u_same _ _ _
      have e2 : ba_v (ba_add (bz_W S) (bs_now (bz_T S s)) q v (s % 4)) (ba_n (bz_W S) + 1) = v := ba_u_same _ _ _
      have e3 : ba_l (ba_add (bz_W S) (bs_now (bz_T S s)) q v (s % 4)) (ba_n (bz_W S) + 1) = ba_l (bz_W S) (bs_now (bz_T S s)) + 1 := ba_u_same _ _ _
      have e4 : mb_w S' (ba_n (bz_W S) + 1) = cv := by
        unfold mb_w
        rw [eW]
        have a1 : ba_g (ba_add (bz_W S) (bs_now (bz_T S s)) q v (s % 4)) (ba_n (bz_W S) + 1) = s % 4 := ba_u_same _ _ _
        have a2 : ba_s (ba_add (bz_W S) (bs_now (bz_T S s)) q v (s % 4)) (ba_n (bz_W S) + 1) = q := ba_u_same _ _ _
        rw [a1, a2, eD, ecv]
      rw [e1, e2, e3, e4]
      exact ⟨rfl, rfl, rfl, rfl⟩
    · have hk' : k ≤ ba_n (bz_W S) := by omega
      rw [if_neg c, if_neg c, if_neg c, if_neg c, eW, mb_w_ext hx' eD hk']
      obtain ⟨x1, x2, x3, x4, x5, x6⟩ := hx.2 k hk'
      rw [x1, x3, x4]
      exact r6 k hk'
  · rw [emm]
    simp only [ai (c := 119) (i := 0) (mi0 (by decide) rfl) (by decide) (by decide), ai (c := 121) (i := 0) (mi0 (by decide) rfl) (by decide) (by decide), ai (c := 122) (i := 0) (mi0 (by decide) rfl) (by decide) (by decide), ai (c := 123) (i := 0) (mi0 (by decide) rfl) (by decide) (by decide)]
    exact r7
  · intro g hg
    rw [eRR, ai (mi0 (by decide) rfl) (by decide) (by decide)]
    simp only [ai (c := 61) (i := g) (mi1 hg rfl) (by decide) (by decide), ai (c := 62) (i := g) (mi1 hg rfl) (by decide) (by decide)]
    exact r8 g hg
  · exact (d.sp L hP hZ (fun q hq => by simp at hq; rcases hq with rfl | rfl | rfl <;> simp) (fun q hq => by simp at hq; rcases hq with rfl | rfl | rfl | rfl | rfl <;> simp) r9).ext hW hx' eD eN
  · intro s' hs' hN'
    rw [eN] at hN'
    by_cases c : s' = s
    · subst c
      rw [eT]
      obtain ⟨t1, t2, t3, t4, t5, t6, t7, t8, t9⟩ := r10 s' hs' hN'
      subst hn1
      have hcf : ∀ k, 6 ≤ k → k ≤ 19 → mb_cf k ≠ 34 ∧ mb_cf k ≠ 4 := by
        intro k k1 k2
        have h3 : ∀ a, a < 20 → 6 ≤ a → mb_cf a ≠ 34 ∧ mb_cf a ≠ 4 := by decide
        exact h3 k (by omega) k1
      have hgf : ∀ k, k ≤ 6 → k ≠ 2 → mb_gf k ≠ 34 ∧ mb_gf k ≠ 4 := by
        intro k k1 k2
        have h3 : ∀ a, a < 7 → a ≠ 2 → mb_gf a ≠ 34 ∧ mb_gf a ≠ 4 := by decide
        exact h3 k (by omega) k2
      have hd2 : (bz_D S (s' % 4)).2 ≤ 4096 := (I.2.2.2.2.2.2.2.2.1 (s' % 4) (by omega)).2
      refine ⟨?_, fun k k1 k2 => ?_, fun k k1 k2 => ?_, ?_, ⟨h4, ?_, ?_, ?_⟩, fun j hj => ?_, fun j hj => ?_, ?_, ?_⟩
      · rw [fi11 0 (by decide) (by decide), fi11 1 (by decide) (by decide)]
        exact t1
      · rw [fi11 _ (hcf k k1 k2).1 (hcf k k1 k2).2]
        exact t2 k k1 k2
      · rw [fi11 _ (hgf k k1 k2).1 (hgf k k1 k2).2]
        exact t3 k k1 k2
      · rw [fi11 22 (by decide) (by decide)]
        exact t4
      · rw [fi11 5 (by decide) (by decide)]
        exact t5.2.1
      · rw [fi11 6 (by decide) (by decide)]
        exact t5.2.2.1
      · rw [fi11 7 (by decide) (by decide)]
        exact t5.2.2.2
      · rw [ai (mi2 hs' hN) (by decide) (by decide), ai (mi2 hs' hN) (by decide) (by decide)]
        exact t6 j hj
      · have hm' := hlw s' hs' _ (ba_getD_mem (l := bs_lo (bz_T S s')) hj)
        rw [ai (mi2 hs' hN) (by decide) (by decide), ai (mi2 hs' hN) (by decide) (by decide)]
        show _ = Int32.ofNat (mb_w S' ((bs_lo (bz_T S s')).getD j 0)) ∧ _ = ba_v (bz_W S') ((bs_lo (bz_T S s')).getD j 0)
        rw [mb_w_ext hx' eD hm', (hx'.2 _ hm').2.2.1]
        exact t7 j hj
      · rw [fi11 32 (by decide) (by decide)]
        rcases t8 with t8 | ⟨t8, -⟩
        · exact Or.inl t8
        · refine Or.inr ⟨t8, fun j hj => ?_⟩
          rw [eD] at hj
          rw [a66, eD, eW]
          show _ = Int32.ofNat (ba_last (ba_add (bz_W S) (bs_now (bz_T S s')) q v (s' % 4)) (ba_n (bz_W S) + 1) (mb_vc (bz_D S (s' % 4)) j))
          rw [ba_last_add hW o.1]
          by_cases c : j = cv
          · rw [if_pos c, if_pos ((hcv j hj).mp c)]
          · rw [if_neg c, if_neg (fun w => c ((hcv j hj).mpr w)), hc j hj]
      · rw [fi11 33 (by decide) (by decide), h34, eW]
        show _ ∨ _ ∧ _ = Int32.ofNat (bs_need (ba_add (bz_W S) (bs_now (bz_T S s')) q v (s' % 4)) (bs_sl (bz_T S s') (ba_n (bz_W S) + 1, bs_safe (bz_T S s'), bs_kept (bz_T S s'))))
        rw [bs_need_put hW o]
        rcases t9 with t9 | ⟨t9, t9'⟩
        · exact Or.inl t9
        · refine Or.inr ⟨t9, ?_⟩
          rw [t9']
          split
          · exact bn_add _ 1
          · rw [Int32.add_zero, Nat.add_zero]
    · rw [eT' s' c]
      exact (d.t L hP hZ hs' hN' (fun q hq w => by simp at hq; rcases hq with rfl | rfl | rfl; exact absurd w.1 (by decide); exact c w.2.symm; exact c w.2.symm) (fun q hq w => by simp at hq; rcases hq with rfl | rfl | rfl | rfl | rfl; exact absurd w.2.1 (by decide); exact absurd w.2.1 (by decide); exact absurd w.2.1 (by decide); exact absurd w.2.1 (by decide); exact c w.2.2.symm) (r10 s' hs' hN')).ext hW hx' eD (I.o hs') (hlw s' hs')
  · obtain ⟨fx, sx, n1, n2, n3, n4, n5, n6, n7, n8, n9⟩ := d.fl L hP hZ (fun q hq => by simp at hq; rcases hq with rfl | rfl | rfl <;> simp) (fun q hq => by simp at hq; rcases hq with rfl | rfl | rfl | rfl | rfl <;> simp) r11
    have gg : ∀ {i : Nat} {g : ba_G}, mb_g B S hz i g → mb_g B S' hz i g := fun {i g} G => by
      obtain ⟨g1, ⟨s, hs, hN, e1, e2⟩, rest⟩ := G
      exact ⟨g1, ⟨s, hs, by rw [eN]; exact hN, e1, e2⟩, rest⟩
    refine ⟨fx, sx, n1, n2, by rw [eFF]; exact n3, n4, n5, n6, fun i hi => ?_, n8, fun q hq => ?_⟩
    · rw [eFF]
      exact ⟨(n7 i hi).1, gg (n7 i hi).2⟩
    · obtain ⟨m1, m2, m3, m4⟩ := n9 q hq
      exact ⟨m1, m2, m3, gg m4⟩
theorem ms_R.put (R : ms_R O B H e g0 x y h S) (I : bz_ok S) (hlw : bz_lw S) (hs : s < 8) (hN : s % 4 < bz_N S) (hn : ba_n (bz_W S) < 60000) {q : Nat} (h1 : q / 4096 < (bz_D S (s % 4)).1) (h2 : q % 4096 < (bz_D S (s % 4)).2) (v : Int32) (hc : ∀ j, j < (bz_D S (s % 4)).1 * (bz_D S (s % 4)).2 → bi_ai h (B 66 s) j = Int32.ofNat (ba_last (bz_W S) (bs_now (bz_T S s)) (mb_vc (bz_D S (s % 4)) j))) {hm : bi_H} (hmd : hm = mo_p B h s (ba_n (bz_W S) + 1) (bs_now (bz_T S s)) (mb_cv (bz_D S (s % 4)) q) (ba_l (bz_W S) (bs_now (bz_T S s)) + 1) v ∧ ¬ ba_l (bz_W S) (ba_last (bz_W S) (bs_now (bz_T S s)) q) ≤ ba_l (bz_W S) (bs_kept (bz_T S s)) ∨ hm = bi_sfi (mo_p B h s (ba_n (bz_W S) + 1) (bs_now (bz_T S s)) (mb_cv (bz_D S (s % 4)) q) (ba_l (bz_W S) (bs_now (bz_T S s)) + 1) v) 11 34 (B 11 s) (bi_fi h 11 34 (B 11 s) + 1) ∧ ba_l (bz_W S) (ba_last (bz_W S) (bs_now (bz_T S s)) q) ≤ ba_l (bz_W S) (bs_kept (bz_T S s))) : ms_R O B H e g0 x y (mo_q B hm s (ba_n (bz_W S) + 1) (mb_cv (bz_D S (s % 4)) q)) (bx_put S s q v) := by
  have L := R.L
  have hW := I.W
  have o := I.o hs
  have hx := ba_add_ext (bz_W S) (bs_now (bz_T S s)) q v (s % 4)
  have hP : ∀ q, q ∈ [(12, 0, 14), (11, s, 34), (11, s, 4)] → mb_in (bz_N S) q.1 q.2.1 := fun q hq => by
    simp at hq
    rcases hq with rfl | rfl | rfl
    · exact mi0 (by decide) rfl
    · exact mi2 hs hN
    · exact mi2 hs hN
  have hZ : ∀ q, q ∈ [(115, 0), (116, 0), (117, 0), (118, 0), (66, s)] → mb_in (bz_N S) q.1 q.2 := fun q hq => by
    simp at hq
    rcases hq with rfl | rfl | rfl | rfl | rfl
    · exact mi0 (by decide) rfl
    · exact mi0 (by decide) rfl
    · exact mi0 (by decide) rfl
    · exact mi0 (by decide) rfl
    · exact mi2 hs hN
  have d1 : md B [(12, 0, 14), (11, s, 34), (11, s, 4)] [(115, 0), (116, 0), (117, 0), (118, 0), (66, s)] h (mo_p B h s (ba_n (bz_W S) + 1) (bs_now (bz_T S s)) (mb_cv (bz_D S (s % 4)) q) (ba_l (bz_W S) (bs_now (bz_T S s)) + 1) v) := ((((md.sfi h (by simp) _).tr (md.sai _ (by simp) _ _)).tr (md.sai _ (by simp) _ _)).tr (md.sai _ (by simp) _ _)).tr (md.sai _ (by simp) _ _)
  have d2 : md B [(12, 0, 14), (11, s, 34), (11, s, 4)] [(115, 0), (116, 0), (117, 0), (118, 0), (66, s)] h hm := by
    rcases hmd with ⟨rfl, -⟩ | ⟨rfl, -⟩
    · exact d1
    · exact d1.tr (md.sfi _ (by simp) _)
  have d : md B [(12, 0, 14), (11, s, 34), (11, s, 4)] [(115, 0), (116, 0), (117, 0), (118, 0), (66, s)] h (mo_q B hm s (ba_n (bz_W S) + 1) (mb_cv (bz_D S (s % 4)) q)) := (d2.tr (md.sai _ (by simp) _ _)).tr (md.sfi _ (by simp) _)
  have fi12 : ∀ k, k ≠ 14 → bi_fi (mo_q B hm s (ba_n (bz_W S) + 1) (mb_cv (bz_D S (s % 4)) q)) 12 k (B 12 0) = bi_fi h 12 k (B 12 0) := fun k hk => d.fi L hP (mi0 (by decide) rfl) (by simp; exact hk)
  have fi11 : ∀ k, k ≠ 34 → k ≠ 4 → bi_fi (mo_q B hm s (ba_n (bz_W S) + 1) (mb_cv (bz_D S (s % 4)) q)) 11 k (B 11 s) = bi_fi h 11 k (B 11 s) := fun k hk hk' => d.fi L hP (mi2 hs hN) (by simp; exact ⟨hk, hk'⟩)
  have ai : ∀ {c i} (hi : mb_in (bz_N S) c i) (hc : ¬ (115 ≤ c ∧ c ≤ 118)) (hc' : c ≠ 66) j, bi_ai (mo_q B hm s (ba_n (bz_W S) + 1) (mb_cv (bz_D S (s % 4)) q)) (B c i) j = bi_ai h (B c i) j := fun {c i} hi hc hc' j => d.ai L hZ hi (by simp; omega) j
  have ne : ∀ {c i c' i'}, mb_in (bz_N S) c i → mb_in (bz_N S) c' i' → (c ≠ c' ∨ i ≠ i') → ¬ B c i = B c' i' := fun hi hi' hn => by
    have := L.ne hi hi' hn
    rw [this]
    exact not_false
  have m5 : mb_in (bz_N S) 115 0 := mi0 (by decide) rfl
  have m6 : mb_in (bz_N S) 116 0 := mi0 (by decide) rfl
  have m7 : mb_in (bz_N S) 117 0 := mi0 (by decide) rfl
  have m8 : mb_in (bz_N S) 118 0 := mi0 (by decide) rfl
  have m66 : mb_in (bz_N S) 66 s := mi2 hs hN
  have hmai : ∀ a j, bi_ai hm a j = bi_ai (mo_p B h s (ba_n (bz_W S) + 1) (bs_now (bz_T S s)) (mb_cv (bz_D S (s % 4)) q) (ba_l (bz_W S) (bs_now (bz_T S s)) + 1) v) a j := fun a j => by
    rcases hmd with ⟨rfl, -⟩ | ⟨rfl, -⟩
    · rfl
    · rw [bh_ai_sfi]
  have hmfi : ∀ c k a, ¬ (c = 11 ∧ k = 34) → bi_fi hm c k a = bi_fi (mo_p B h s (ba_n (bz_W S) + 1) (bs_now (bz_T S s)) (mb_cv (bz_D S (s % 4)) q) (ba_l (bz_W S) (bs_now (bz_T S s)) + 1) v) c k a := fun c k a hn => by
    rcases hmd with ⟨rfl, -⟩ | ⟨rfl, -⟩
    · rfl
    · rw [bh_fi_sfi, if_neg (fun w => hn ⟨w.1, w.2.1⟩)]
  have h14 : bi_fi (mo_q B hm s (ba_n (bz_W S) + 1) (mb_cv (bz_D S (s % 4)) q)) 12 14 (B 12 0) = Int32.ofNat (ba_n (bz_W S) + 1) := by
    unfold mo_q
    rw [bh_fi_sfi, if_neg (fun w => absurd w.1 (by decide)), bh_fi_sai, hmfi _ _ _ (by omega)]
    unfold mo_p
    simp [bh_fi_sfi, bh_fi_sai]
  have h4 : bi_fi (mo_q B hm s (ba_n (bz_W S) + 1) (mb_cv (bz_D S (s % 4)) q)) 11 4 (B 11 s) = Int32.ofNat (ba_n (bz_W S) + 1) := by
    unfold mo_q
    rw [bh_fi_sfi, if_pos ⟨rfl, rfl, rfl⟩]
  have h34 : bi_fi (mo_q B hm s (ba_n (bz_W S) + 1) (mb_cv (bz_D S (s % 4)) q)) 11 34 (B 11 s) = bi_fi h 11 34 (B 11 s) + (if ba_l (bz_W S) (ba_last (bz_W S) (bs_now (bz_T S s)) q) ≤ ba_l (bz_W S) (bs_kept (bz_T S s)) then 1 else 0) := by
    unfold mo_q
    rw [bh_fi_sfi, if_neg (fun w => absurd w.2.1 (by decide)), bh_fi_sai]
    rcases hmd with ⟨rfl, c⟩ | ⟨rfl, c⟩
    · rw [if_neg c, Int32.add_zero]
      unfold mo_p
      simp [bh_fi_sfi, bh_fi_sai]
    · rw [if_pos c, bh_fi_sfi, if_pos ⟨rfl, rfl, rfl⟩]
  have a66 : ∀ j, bi_ai (mo_q B hm s (ba_n (bz_W S) + 1) (mb_cv (bz_D S (s % 4)) q)) (B 66 s) j = if j = mb_cv (bz_D S (s % 4)) q then Int32.ofNat (ba_n (bz_W S) + 1) else bi_ai h (B 66 s) j := fun j => by
    unfold mo_q
    rw [bh_ai_sfi, bh_ai_sai]
    by_cases c : j = mb_cv (bz_D S (s % 4)) q
    · rw [if_pos ⟨rfl, c⟩, if_pos c]
    · rw [if_neg (fun w => c w.2), if_neg c, hmai]
      unfold mo_p
      simp only [bh_ai_sai, bh_ai_sfi]
      rw [if_neg (fun w => ne m66 m8 (Or.inl (by decide)) w.1), if_neg (fun w => ne m66 m7 (Or.inl (by decide)) w.1), if_neg (fun w => ne m66 m6 (Or.inl (by decide)) w.1), if_neg (fun w => ne m66 m5 (Or.inl (by decide)) w.1)]
  have rows : ∀ k, bi_ai (mo_q B hm s (ba_n (bz_W S) + 1) (mb_cv (bz_D S (s % 4)) q)) (B 115 0) k = (if k = ba_n (bz_W S) + 1 then Int32.ofNat (bs_now (bz_T S s)) else bi_ai h (B 115 0) k) ∧ bi_ai (mo_q B hm s (ba_n (bz_W S) + 1) (mb_cv (bz_D S (s % 4)) q)) (B 116 0) k = (if k = ba_n (bz_W S) + 1 then Int32.ofNat (mb_cv (bz_D S (s % 4)) q) else bi_ai h (B 116 0) k) ∧ bi_ai (mo_q B hm s (ba_n (bz_W S) + 1) (mb_cv (bz_D S (s % 4)) q)) (B 117 0) k = (if k = ba_n (bz_W S) + 1 then v else bi_ai h (B 117 0) k) ∧ bi_ai (mo_q B hm s (ba_n (bz_W S) + 1) (mb_cv (bz_D S (s % 4)) q)) (B 118 0) k = (if k = ba_n (bz_W S) + 1 then Int32.ofNat (ba_l (bz_W S) (bs_now (bz_T S s)) + 1) else bi_ai h (B 118 0) k) := fun k => by
    have n5 := L.ne m5 m66 (Or.inl (by decide))
    have n6 := L.ne m6 m66 (Or.inl (by decide))
    have n7 := L.ne m7 m66 (Or.inl (by decide))
    have n8 := L.ne m8 m66 (Or.inl (by decide))
    have n56 := L.ne m5 m6 (Or.inl (by decide))
    have n57 := L.ne m5 m7 (Or.inl (by decide))
    have n58 := L.ne m5 m8 (Or.inl (by decide))
    have n65 := L.ne m6 m5 (Or.inl (by decide))
    have n67 := L.ne m6 m7 (Or.inl (by decide))
    have n68 := L.ne m6 m8 (Or.inl (by decide))
    have n75 := L.ne m7 m5 (Or.inl (by decide))
    have n76 := L.ne m7 m6 (Or.inl (by decide))
    have n78 := L.ne m7 m8 (Or.inl (by decide))
    have n85 := L.ne m8 m5 (Or.inl (by decide))
    have n86 := L.ne m8 m6 (Or.inl (by decide))
    have n87 := L.ne m8 m7 (Or.inl (by decide))
    unfold mo_q
    simp only [bh_ai_sfi, bh_ai_sai, hmai, n5, n6, n7, n8, false_and, if_false]
    unfold mo_p
    simp only [bh_ai_sfi, bh_ai_sai, n56, n57, n58, n65, n67, n68, n75, n76, n78, n85, n86, n87, false_and, if_false, true_and]
  have hD := I.2.2.2.2.2.2.2.2.1 (s % 4) (by omega)
  exact R.put0 I hlw hs hN (by omega) v rfl (fun j hj => ⟨fun w => by rw [w, mb_vc_cv h2], fun w => by rw [w, mb_cv_vc (by omega) hD.2]⟩) rfl hc d h14 h4 h34 a66 rows rfl (bz_T_same _ _ _) (fun s' hn => bz_T_ne _ _ hn) rfl rfl rfl rfl rfl rfl rfl rfl
end MZ
