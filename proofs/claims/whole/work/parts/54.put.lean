/-! the class's vault: one more write -/
theorem bs_ok.an {W : ba_W} {t : ba_T} (hW : ba_ok W) (o : bs_ok W t) : ∀ y ∈ bs_an t, y ≤ ba_n W := by
  intro y hy
  unfold bs_an at hy
  rcases List.mem_append.mp hy with h | h
  · obtain ⟨q, hq, rfl⟩ := List.mem_map.mp h
    obtain ⟨i, hi, e⟩ := List.getElem_of_mem hq
    have := o.l_in hW i hi
    rw [List.getD_eq_getElem?_getD, List.getElem?_eq_getElem hi, Option.getD_some, e] at this
    exact this
  · simp at h
    rcases h with rfl | rfl
    · exact o.k_in hW
    · exact o.1
theorem bs_need_ext {W W' : ba_W} {t : ba_T} (hW : ba_ok W) (hx : ba_ext W W') (o : bs_ok W t) : bs_need W' t = bs_need W t := ba_ext_nd hW hx 0 (bs_an t) (Nat.zero_le _) (o.an hW)
theorem ca_row.ext {W W' : ba_W} {p : Nat} {f a : Nat → Int32} {L : List Nat} (hW : ba_ok W) (hx : ba_ext W W') (r : ca_row W p f a L) : ca_row W' p f a L := by
  obtain ⟨k, d, hk, hd, e0, e1, e3, eL, hL, ha⟩ := r
  have el := (hx.2 k hk).2.2.2.1
  exact ⟨k, d, Nat.le_trans hk hx.1, by rw [el]; exact hd, e0, by rw [el]; exact e1, e3, by rw [ba_ext_sp hW hx d k hk]; exact eL, hL, ha⟩
/-- of the writes only what is behind them has changed -/
def cw_e (A : Nat → Nat → Nat) (h h' : bi_H) : Prop :=
  (bi_k h' = bi_k h ∧ bi_nx h' = bi_nx h ∧ bi_nc h' = bi_nc h ∧ bi_ns h' = bi_ns h ∧ bi_fr h' = bi_fr h ∧ bi_ar h' = bi_ar h) ∧ (∀ c k a, c ≠ 8 → bi_fi h' c k a = bi_fi h c k a) ∧ ∀ a j, (∀ c, 57 ≤ c → c ≤ 61 → a ≠ A c 0) → bi_ai h' a j = bi_ai h a j
section CW
variable {A : Nat → Nat → Nat} {h0 h h' : bi_H} {x y : Nat} {S : ba_S} {s : Nat}
theorem cs_R.wr (R : cs_R A h0 x y h S) (hW : ba_ok (bz_W S)) (ho : ∀ s, s < 8 → bs_ok (bz_W S) (bz_T S s)) {W' : ba_W} (hx : ba_ext (bz_W S) W') (d : cw_e A h h') (hw : ca_w A W' h') : cs_R A h0 x y h' (bz_sW S W') := by
  have hbd : ∀ c, 57 ≤ c → c ≤ 61 → 0 < ca_bd c := fun c h1 h2 => by
    have : c = 57 ∨ c = 58 ∨ c = 59 ∨ c = 60 ∨ c = 61 := by omega
    rcases this with rfl | rfl | rfl | rfl | rfl <;> decide
  have hai : ∀ c i j, i < ca_bd c → (c < 57 ∨ 61 < c) → bi_ai h' (A c i) j = bi_ai h (A c i) j := fun c i j hi hc => d.2.2 _ _ (fun c' h1 h2 z => by
    have := R.ne hi (hbd c' h1 h2) (Or.inl (by omega))
    rw [this] at z
    exact z)
  obtain ⟨⟨a1, a2, a3, a4, a5, a6⟩, a7, a8⟩ := d
  obtain ⟨r1, r2, r3, r4, r5, r6, r7, r8, r9, r10⟩ := R
  refine ⟨?_, ⟨by rw [a2]; exact r2.1, by rw [a1]; exact r2.2.1, fun c k a hc ha => ?_, fun a j ha hn => ?_, by rw [a3]; exact r2.2.2.2.2.1, by rw [a4]; exact r2.2.2.2.2.2⟩, hw, fun s' hs' => ?_, fun i hi k => ?_, fun k => ?_, fun k => ?_, fun i hi => ?_, ?_, fun j hj => ?_⟩
  · unfold ca_lay
    rw [a1, a2, a5, a6]
    exact r1
  · rw [a7 c k a (by omega), a5]
    exact r2.2.2.1 c k a hc ha
  · rw [a8 a j (fun c h1 h2 => hn c 0 (hbd c h1 h2)), a6]
    exact r2.2.2.2.1 a j ha hn
  · obtain ⟨t1, t2, ⟨v1, v2, v3, v4, v5, v6⟩, ⟨L, t4⟩, t5⟩ := r4 s' hs'
    have o := ho s' hs'
    refine ⟨fun k => ?_, fun k => ?_, ⟨?_, ?_, ?_, ?_, fun i hi => ?_, fun q hq => ?_⟩, ⟨L, ?_⟩, ?_⟩
    · rw [a7 6 _ _ (by decide)]
      exact t1 k
    · rw [a7 5 _ _ (by decide)]
      exact t2 k
    · rw [a7 7 _ _ (by decide), a7 7 _ _ (by decide)]
      exact v1
    · rw [a7 7 _ _ (by decide), a7 7 _ _ (by decide), a7 7 _ _ (by decide)]
      exact v2
    · rw [a7 7 _ _ (by decide)]
      exact v3
    · rw [a7 7 _ _ (by decide)]
      show _ = Int32.ofNat (bs_need W' (bz_T S s'))
      rw [bs_need_ext hW hx o]
      exact v4
    · rw [hai 55 s' i hs' (by omega), hai 56 s' i hs' (by omega)]
      exact v5 i hi
    · rw [hai 54 s' q hs' (by omega)]
      show _ = Int32.ofNat (ba_last W' (bs_now (bz_T S s')) q)
      rw [ba_ext_last hW hx _ _ o.1]
      exact v6 q hq
    · simp only [hai 52 s' _ hs' (Or.inl (by decide)), a7 3 _ _ (show (3 : Nat) ≠ 8 by decide)]
      exact t4.ext hW hx
    · simp only [hai 53 s' _ hs' (Or.inl (by decide)), a7 3 _ _ (show (3 : Nat) ≠ 8 by decide)]
      exact t5.ext hW hx
  · rw [a7 4 _ _ (by decide)]
    exact r5 i hi k
  · rw [a7 9 _ _ (by decide)]
    exact r6 k
  · rw [a7 0 _ _ (by decide)]
    exact r7 k
  · obtain ⟨g1, g2, g3, g4⟩ := r8 i hi
    rw [a6]
    refine ⟨by rw [a1]; exact g1, by rw [a2]; exact g2, fun k => by rw [a7 2 _ _ (by decide)]; exact g3 k, ?_⟩
    rw [a5]
    rcases g4 with g4 | ⟨g4, g5, g6, g7⟩
    · exact Or.inl g4
    · refine Or.inr ⟨by rw [a2]; exact g4, by rw [a1]; exact g5, g6, fun j hj => ?_⟩
      rw [a8 _ j (fun c h1 h2 => g6 c 0 (hbd c h1 h2))]
      exact g7 j hj
  · rw [a7 1 _ _ (by decide)]
    exact r9
  · rw [hai 51 0 j (by decide) (by omega)]
    exact r10 j hj
/-- the writes' heap with one more -/
def cw_x (A : Nat → Nat → Nat) (h : bi_H) (n q k e l : Nat) (v : Int32) : bi_H := bi_sai (bi_sai (bi_sai (bi_sai (bi_sai (bi_sfi h 8 0 (A 8 0) (Int32.ofNat n)) (A 57 0) n (Int32.ofNat q)) (A 58 0) n v) (A 59 0) n (Int32.ofNat k)) (A 60 0) n (Int32.ofNat e)) (A 61 0) n (Int32.ofNat l)
theorem cw_x_e (h : bi_H) (n q k e l : Nat) (v : Int32) : cw_e A h (cw_x A h n q k e l v) := by
  refine ⟨⟨rfl, rfl, rfl, rfl, rfl, rfl⟩, fun c f a hc => ?_, fun a j ha => ?_⟩
  · unfold cw_x
    rw [bh_fi_sai, bh_fi_sai, bh_fi_sai, bh_fi_sai, bh_fi_sai, bh_fi_sfi, if_neg (fun z => hc z.1)]
  · unfold cw_x
    rw [bh_ai_sai, if_neg (fun z => ha 61 (by decide) (by decide) z.1), bh_ai_sai, if_neg (fun z => ha 60 (by decide) (by decide) z.1), bh_ai_sai, if_neg (fun z => ha 59 (by decide) (by decide) z.1), bh_ai_sai, if_neg (fun z => ha 58 (by decide) (by decide) z.1), bh_ai_sai, if_neg (fun z => ha 57 (by decide) (by decide) z.1), bh_ai_sfi]
/-- Writes.extend -/
theorem c_extend {p : Nat} {W : ba_W} (R : cw_R A p W h) (hW : ba_ok W) (hn : ba_n W < 60000) {q k e : Nat} (hk : k ≤ ba_n W) (v : Int32) (K : Option bi_V → bi_H → Prop) : bw_C bt_P 151 [.inr (.inl (A 8 0)), .inl (Int32.ofNat k), .inl (Int32.ofNat q), .inl v, .inl (Int32.ofNat e)] h K ↔ K (some (.inl (Int32.ofNat (ba_n W + 1)))) (cw_x A h (ba_n W + 1) q k e (ba_l W k + 1) v) := by
  have q1 : ba_n W + 1 < 60001 := by omega
  have q2 : k < 60001 := by omega
  have q3 : (Int32.ofNat (ba_n W) < 60000) = True := bn_ltT (a := ba_n W) (b := 60000) (by omega) (by decide) hn
  refine bw_C_iff ?_ K
  (refine bw_step rfl ?_; simp +decide only [bw_gi_s, bw_ga_s, bw_go_s, bw_w_i, bw_w_a, bw_w_l, bw_sum_n, bw_sum_c, bw_xs_n, bw_iconst, bw_bipush, bw_sipush, bw_ldc, bw_ldc_w, bw_anull, bw_iload0, bw_aload0, bw_istore0, bw_astore0, bw_iload1, bw_aload1, bw_istore1, bw_astore1, bw_iload2, bw_aload2, bw_istore2, bw_astore2, bw_iload3, bw_aload3, bw_istore3, bw_astore3, bw_iload, bw_aload, bw_istore, bw_astore, bw_iinc, bw_iadd, bw_isub, bw_imul, bw_iand, bw_ixor, bw_idiv, bw_irem, bw_i2l, bw_lcmp, bw_dupi, bw_dupa, bw_dup2ia, bw_dup2ii, bw_getf0, bw_getf2, bw_getf1, bw_putf0, bw_putf2, bw_putf1, bw_iaload, bw_baload, bw_laload, bw_aaload, bw_iastore, bw_bastore, bw_lastore, bw_aastore, bw_alen, bw_newa_int, bw_newa_boolean, bw_newa_long, bw_anewa, bw_multi, bw_new, bw_static, bw_virt, bw_obj, bw_t_nop, bw_t_goto, bw_t_eq_z, bw_t_eq_i, bw_t_ne_z, bw_t_ne_i, bw_t_lt_z, bw_t_lt_i, bw_t_ge_z, bw_t_ge_i, bw_t_gt_z, bw_t_gt_i, bw_t_le_z, bw_t_le_i, bw_t_null, bw_t_nonnull, bw_t_switch, bw_t_ireturn0, bw_t_ireturn1, bw_t_areturn, bw_t_return, bw_t_athrow, bw_t_try, List.lookup_cons, List.lookup_nil, bi_st, List.filter_cons, List.filter_nil, List.take_succ_cons, List.take_zero, List.take_nil, List.drop_succ_cons, List.drop_zero, List.reverse_cons, List.reverse_nil, List.nil_append, List.cons_append, Option.toList_some, Option.toList_none, List.length_cons, List.length_nil, bi_loc, List.zipIdx_cons, List.zipIdx_nil, List.map_cons, List.map_nil, List.getD_cons_zero, List.getD_cons_succ, Nat.zero_add, Bool.not_true, Bool.not_false, Bool.false_eq_true, if_true, if_false, ite_true, ite_false, ↓reduceIte, true_and, and_true, Bool.not_eq_true, beq_self_eq_true, Nat.reduceBEq, Nat.reduceEqDiff, Nat.reduceAdd, Nat.reduceLeDiff, Nat.reduceLT, Nat.reduceSub, Nat.reduceMul, Int32.reduceOfInt, Int32.reduceOfNat, Int32.reduceToNatClampNeg, Int32.reduceLT, Int32.reduceLE, Int32.reduceAdd, Int32.reduceSub, Int32.reduceMul, Int32.reduceDiv, Int32.reduceToInt, Int.reduceLT, Int.reduceSub, Int.reduceToNat, not_false_eq_true, ne_eq, or_true, true_or, or_false, false_or, and_false, false_and, not_true_eq_false, reduceCtorEq, and_self, or_self, eq_self, bh_k_sfi, bh_k_sfr, bh_k_sai, bh_k_sar, bh_k_new, bh_fi_sfi, bh_fi_sfr, bh_fi_sai, bh_fi_sar, bh_fi_new, bh_fr_sfi, bh_fr_sfr, bh_fr_sai, bh_fr_sar, bh_fr_new, bh_ai_sfi, bh_ai_sfr, bh_ai_sai, bh_ai_sar, bh_ai_new, bh_ar_sfi, bh_ar_sfr, bh_ar_sai, bh_ar_sar, bh_ar_new, bh_nx_sfi, bh_nx_sfr, bh_nx_sai, bh_nx_sar, bh_nx_new, bh_nc_sfi, bh_nc_sfr, bh_nc_sai, bh_nc_sar, bh_nc_new, bh_ns_sfi, bh_ns_sfr, bh_ns_sai, bh_ns_sar, bh_ns_new, bh_k_new2, bh_fi_new2, bh_fr_new2, bh_ai_new2, bh_ar_new2, bh_nx_new2, bh_nc_new2, bh_ns_new2, Nat.lt_irrefl, Nat.le_refl, bq_le0, bq_neg, bq_nat, bq_lt, bq_le, bq_eq, bn_one, bn_dec, R.k8, R.f80, q3])
  unfold cw_x
  (refine bw_step rfl ?_; simp +decide only [bw_gi_s, bw_ga_s, bw_go_s, bw_w_i, bw_w_a, bw_w_l, bw_sum_n, bw_sum_c, bw_xs_n, bw_iconst, bw_bipush, bw_sipush, bw_ldc, bw_ldc_w, bw_anull, bw_iload0, bw_aload0, bw_istore0, bw_astore0, bw_iload1, bw_aload1, bw_istore1, bw_astore1, bw_iload2, bw_aload2, bw_istore2, bw_astore2, bw_iload3, bw_aload3, bw_istore3, bw_astore3, bw_iload, bw_aload, bw_istore, bw_astore, bw_iinc, bw_iadd, bw_isub, bw_imul, bw_iand, bw_ixor, bw_idiv, bw_irem, bw_i2l, bw_lcmp, bw_dupi, bw_dupa, bw_dup2ia, bw_dup2ii, bw_getf0, bw_getf2, bw_getf1, bw_putf0, bw_putf2, bw_putf1, bw_iaload, bw_baload, bw_laload, bw_aaload, bw_iastore, bw_bastore, bw_lastore, bw_aastore, bw_alen, bw_newa_int, bw_newa_boolean, bw_newa_long, bw_anewa, bw_multi, bw_new, bw_static, bw_virt, bw_obj, bw_t_nop, bw_t_goto, bw_t_eq_z, bw_t_eq_i, bw_t_ne_z, bw_t_ne_i, bw_t_lt_z, bw_t_lt_i, bw_t_ge_z, bw_t_ge_i, bw_t_gt_z, bw_t_gt_i, bw_t_le_z, bw_t_le_i, bw_t_null, bw_t_nonnull, bw_t_switch, bw_t_ireturn0, bw_t_ireturn1, bw_t_areturn, bw_t_return, bw_t_athrow, bw_t_try, List.lookup_cons, List.lookup_nil, bi_st, List.filter_cons, List.filter_nil, List.take_succ_cons, List.take_zero, List.take_nil, List.drop_succ_cons, List.drop_zero, List.reverse_cons, List.reverse_nil, List.nil_append, List.cons_append, Option.toList_some, Option.toList_none, List.length_cons, List.length_nil, bi_loc, List.zipIdx_cons, List.zipIdx_nil, List.map_cons, List.map_nil, List.getD_cons_zero, List.getD_cons_succ, Nat.zero_add, Bool.not_true, Bool.not_false, Bool.false_eq_true, if_true, if_false, ite_true, ite_false, ↓reduceIte, true_and, and_true, Bool.not_eq_true, beq_self_eq_true, Nat.reduceBEq, Nat.reduceEqDiff, Nat.reduceAdd, Nat.reduceLeDiff, Nat.reduceLT, Nat.reduceSub, Nat.reduceMul, Int32.reduceOfInt, Int32.reduceOfNat, Int32.reduceToNatClampNeg, Int32.reduceLT, Int32.reduceLE, Int32.reduceAdd, Int32.reduceSub, Int32.reduceMul, Int32.reduceDiv, Int32.reduceToInt, Int.reduceLT, Int.reduceSub, Int.reduceToNat, not_false_eq_true, ne_eq, or_true, true_or, or_false, false_or, and_false, false_and, not_true_eq_false, reduceCtorEq, and_self, or_self, eq_self, bh_k_sfi, bh_k_sfr, bh_k_sai, bh_k_sar, bh_k_new, bh_fi_sfi, bh_fi_sfr, bh_fi_sai, bh_fi_sar, bh_fi_new, bh_fr_sfi, bh_fr_sfr, bh_fr_sai, bh_fr_sar, bh_fr_new, bh_ai_sfi, bh_ai_sfr, bh_ai_sai, bh_ai_sar, bh_ai_new, bh_ar_sfi, bh_ar_sfr, bh_ar_sai, bh_ar_sar, bh_ar_new, bh_nx_sfi, bh_nx_sfr, bh_nx_sai, bh_nx_sar, bh_nx_new, bh_nc_sfi, bh_nc_sfr, bh_nc_sai, bh_nc_sar, bh_nc_new, bh_ns_sfi, bh_ns_sfr, bh_ns_sai, bh_ns_sar, bh_ns_new, bh_k_new2, bh_fi_new2, bh_fr_new2, bh_ai_new2, bh_ar_new2, bh_nx_new2, bh_nc_new2, bh_ns_new2, Nat.lt_irrefl, Nat.le_refl, bq_le0, bq_neg, bq_nat, bq_lt, bq_le, bq_eq, bn_one, bn_dec, R.k8, R.f80, R.r81, R.r82, R.r83, R.r84, R.r85, R.k57, R.k58, R.k59, R.k60, R.k61, q1, q2, R.a61 hk, R.ne (c := 61) (i := 0) (c' := 57) (i' := 0) (by decide) (by decide) (Or.inl (by decide)), R.ne (c := 61) (i := 0) (c' := 58) (i' := 0) (by decide) (by decide) (Or.inl (by decide)), R.ne (c := 61) (i := 0) (c' := 59) (i' := 0) (by decide) (by decide) (Or.inl (by decide)), R.ne (c := 61) (i := 0) (c' := 60) (i' := 0) (by decide) (by decide) (Or.inl (by decide))])
theorem cw_x_w {p : Nat} {W : ba_W} (R : cw_R A p W h) (hk : ∀ k, k ≤ ba_n W → k ≤ ba_n W) (k q g : Nat) (v : Int32) : ca_w A (ba_add W k q v g) (cw_x A h (ba_n W + 1) q k (ba_last W k q) (ba_l W k + 1) v) := by
  have n1 := fun c c' (hc : 0 < ca_bd c) (hc' : 0 < ca_bd c') (hn : c ≠ c') => R.ne (c := c) (i := 0) (c' := c') (i' := 0) hc hc' (Or.inl hn)
  have n12 := n1 57 58 (by decide) (by decide) (by decide)
  have n13 := n1 57 59 (by decide) (by decide) (by decide)
  have n14 := n1 57 60 (by decide) (by decide) (by decide)
  have n15 := n1 57 61 (by decide) (by decide) (by decide)
  have n21 := n1 58 57 (by decide) (by decide) (by decide)
  have n23 := n1 58 59 (by decide) (by decide) (by decide)
  have n24 := n1 58 60 (by decide) (by decide) (by decide)
  have n25 := n1 58 61 (by decide) (by decide) (by decide)
  have n31 := n1 59 57 (by decide) (by decide) (by decide)
  have n32 := n1 59 58 (by decide) (by decide) (by decide)
  have n34 := n1 59 60 (by decide) (by decide) (by decide)
  have n35 := n1 59 61 (by decide) (by decide) (by decide)
  have n41 := n1 60 57 (by decide) (by decide) (by decide)
  have n42 := n1 60 58 (by decide) (by decide) (by decide)
  have n43 := n1 60 59 (by decide) (by decide) (by decide)
  have n45 := n1 60 61 (by decide) (by decide) (by decide)
  have n51 := n1 61 57 (by decide) (by decide) (by decide)
  have n52 := n1 61 58 (by decide) (by decide) (by decide)
  have n53 := n1 61 59 (by decide) (by decide) (by decide)
  have n54 := n1 61 60 (by decide) (by decide) (by decide)
  refine ⟨?_, fun j hj => ?_⟩
  · unfold cw_x
    rw [bh_fi_sai, bh_fi_sai, bh_fi_sai, bh_fi_sai, bh_fi_sai, bh_fi_sfi, if_pos ⟨rfl, rfl, rfl⟩]
    rfl
  · unfold cw_x
    simp only [bh_ai_sai, bh_ai_sfi, n12, n13, n14, n15, n21, n23, n24, n25, n31, n32, n34, n35, n41, n42, n43, n45, n51, n52, n53, n54, false_and, if_false, true_and]
    by_cases e : j = ba_n W + 1
    · subst e
      simp only [if_true]
      refine ⟨?_, ?_, ?_, ?_, ?_⟩
      · exact congrArg Int32.ofNat (ba_u_same _ _ _).symm
      · exact (ba_u_same _ _ _).symm
      · exact congrArg Int32.ofNat (ba_u_same _ _ _).symm
      · exact congrArg Int32.ofNat (ba_u_same _ _ _).symm
      · exact congrArg Int32.ofNat (ba_u_same _ _ _).symm
    · have hj' : j ≤ ba_n W := by
        have : ba_n (ba_add W k q v g) = ba_n W + 1 := rfl
        omega
      obtain ⟨x1, x2, x3, x4, x5, x6⟩ := (ba_add_ext W k q v g).2 j hj'
      simp only [e, if_false]
      rw [x1, x2, x3, x4, x5]
      exact R.2.2 j hj'
end CW
/-- what one more write needs -/
theorem bs_need_put {W : ba_W} {t : ba_T} (hW : ba_ok W) (o : bs_ok W t) (q : Nat) (v : Int32) (g : Nat) : bs_need (ba_add W (bs_now t) q v g) (bs_sl t (ba_n W + 1, bs_safe t, bs_kept t)) = bs_need W t + (if ba_l W (ba_last W (bs_now t) q) ≤ ba_l W (bs_kept t) then 1 else 0) := by
  have hx := ba_add_ext W (bs_now t) q v g
  rw [bs_need_eq, bs_need_eq]
  have hl := o.l_in hW
  have hk := o.k_in hW
  have hli : bs_line t ≤ ba_n W := ba_ln_in hl
  have el : ∀ j, j ≤ ba_n W → ba_l (ba_add W (bs_now t) q v g) j = ba_l W j := fun j hj => (hx.2 j hj).2.2.2.1
  have e1 : ba_nd (ba_add W (bs_now t) q v g) 0 ((bs_sn t).map (fun q => q.2)) = ba_nd W 0 ((bs_sn t).map (fun q => q.2)) := ba_ext_nd hW hx 0 _ (Nat.zero_le _) (fun y hy => o.an hW y (List.mem_append_left _ hy))
  have e2 : ba_l (ba_add W (bs_now t) q v g) (ba_n W + 1) = ba_l W (bs_now t) + 1 := ba_u_same _ _ _
  have e3 : ba_b (ba_add W (bs_now t) q v g) (ba_n W + 1) = bs_now t := ba_u_same _ _ _
  have e4 : ba_e (ba_add W (bs_now t) q v g) (ba_n W + 1) = ba_last W (bs_now t) q := ba_u_same _ _ _
  have hkn := o.kn.1
  show ba_nd _ 0 ((bs_sn t).map (fun q => q.2)) + (ba_pl _ (ba_l _ (bs_line t)) (ba_l _ (bs_kept t) - ba_l _ (bs_line t)) (bs_kept t) + ba_pl _ (ba_l _ (bs_kept t)) (ba_l _ (ba_n W + 1) - ba_l _ (bs_kept t)) (ba_n W + 1)) = _
  rw [e1, el _ hli, el _ hk, e2, ba_ext_pl hW hx _ _ _ hk, show ba_l W (bs_now t) + 1 - ba_l W (bs_kept t) = (ba_l W (bs_now t) - ba_l W (bs_kept t)) + 1 by omega]
  have e5 : ba_pl (ba_add W (bs_now t) q v g) (ba_l W (bs_kept t)) (ba_l W (bs_now t) - ba_l W (bs_kept t) + 1) (ba_n W + 1) = (if ba_l W (ba_last W (bs_now t) q) ≤ ba_l W (bs_kept t) then 1 else 0) + ba_pl W (ba_l W (bs_kept t)) (ba_l W (bs_now t) - ba_l W (bs_kept t)) (bs_now t) := by
    show (if ba_l _ (ba_e _ (ba_n W + 1)) ≤ _ then 1 else 0) + ba_pl _ _ _ (ba_b _ (ba_n W + 1)) = _
    rw [e3, e4, el _ (ba_last_in hW _ _ o.1), ba_ext_pl hW hx _ _ _ o.1]
  rw [e5]
  omega
section CU
variable {A : Nat → Nat → Nat} {h0 h : bi_H} {x y : Nat} {S : ba_S} {s : Nat}
/-- Vault.put -/
theorem c_put (R : cs_R A h0 x y h S) (hW : ba_ok (bz_W S)) (hs : s < 8) (ho : ∀ s, s < 8 → bs_ok (bz_W S) (bz_T S s)) (hn : ba_n (bz_W S) < 60000) {q : Nat} (hq : q < 32768) (v : Int32) (hg : bs_now (bz_T S s) ≠ 0 → ba_g (bz_W S) (bs_now (bz_T S s)) = s % 4) : ∃ h', (∀ K : Option bi_V → bi_H → Prop, bw_C bt_P 145 [.inr (.inl (A 7 s)), .inl (Int32.ofNat q), .inl v] h K ↔ K none h') ∧ cs_R A h0 x y h' (bx_put S s q v) := by
  have o := ho s hs
  have hno := o.1
  have hki := o.k_in hW
  have hla := ba_last_in hW (bs_now (bz_T S s)) q hno
  have hW' := ba_add_ok (v := v) hW hn hno hq (show s % 4 < 4 by omega) hg
  have q1 : q < 60001 := by omega
  have q2 : ba_last (bz_W S) (bs_now (bz_T S s)) q < 60001 := by omega
  have q3 : bs_kept (bz_T S s) < 60001 := by omega
  have q4 : ba_l (bz_W S) (ba_last (bz_W S) (bs_now (bz_T S s)) q) < 60001 := by
    have := ba_l_le hW _ hla
    omega
  have q5 : ba_l (bz_W S) (bs_kept (bz_T S s)) < 60001 := by
    have := ba_l_le hW _ hki
    omega
  have hx := ba_add_ext (bz_W S) (bs_now (bz_T S s)) q v (s % 4)
  have hnp := bs_need_put hW o q v (s % 4)
  obtain ⟨v1, v2, v3, v4, v5, v6⟩ := R.v hs
  have R1 := R.wr hW ho hx (cw_x_e h (ba_n (bz_W S) + 1) q (bs_now (bz_T S s)) (ba_last (bz_W S) (bs_now (bz_T S s)) q) (ba_l (bz_W S) (bs_now (bz_T S s)) + 1) v) (cw_x_w R.w (fun _ h => h) _ _ _ _)
  have key : ∀ h1 : bi_H, (h1 = h ∧ ¬ ba_l (bz_W S) (ba_last (bz_W S) (bs_now (bz_T S s)) q) ≤ ba_l (bz_W S) (bs_kept (bz_T S s))) ∨ (h1 = bi_sfi h 7 10 (A 7 s) (Int32.ofNat (bs_need (bz_W S) (bz_T S s) + 1)) ∧ ba_l (bz_W S) (ba_last (bz_W S) (bs_now (bz_T S s)) q) ≤ ba_l (bz_W S) (bs_kept (bz_T S s))) → cs_R A h0 x y (bi_sai (bi_sfi (cw_x A h1 (ba_n (bz_W S) + 1) q (bs_now (bz_T S s)) (ba_last (bz_W S) (bs_now (bz_T S s)) q) (ba_l (bz_W S) (bs_now (bz_T S s)) + 1) v) 7 4 (A 7 s) (Int32.ofNat (ba_n (bz_W S) + 1))) (A 54 s) q (Int32.ofNat (ba_n (bz_W S) + 1))) (bx_put S s q v) := by
    intro h1 hc
    have hk1 : bi_k h1 = bi_k h ∧ bi_nx h1 = bi_nx h ∧ bi_nc h1 = bi_nc h ∧ bi_ns h1 = bi_ns h ∧ bi_fr h1 = bi_fr h ∧ bi_ar h1 = bi_ar h ∧ bi_ai h1 = bi_ai h := by rcases hc with ⟨rfl, -⟩ | ⟨rfl, -⟩ <;> exact ⟨rfl, rfl, rfl, rfl, rfl, rfl, rfl⟩
    have hf1 : ∀ c k a, ¬ (c = 7 ∧ k = 10 ∧ a = A 7 s) → bi_fi h1 c k a = bi_fi h c k a := by
      rcases hc with ⟨rfl, -⟩ | ⟨rfl, -⟩
      · exact fun _ _ _ _ => rfl
      · intro c k a hn
        rw [bh_fi_sfi, if_neg hn]
    have D : cv_d A s [10, 4] [54] (cw_x A h (ba_n (bz_W S) + 1) q (bs_now (bz_T S s)) (ba_last (bz_W S) (bs_now (bz_T S s)) q) (ba_l (bz_W S) (bs_now (bz_T S s)) + 1) v) (bi_sai (bi_sfi (cw_x A h1 (ba_n (bz_W S) + 1) q (bs_now (bz_T S s)) (ba_last (bz_W S) (bs_now (bz_T S s)) q) (ba_l (bz_W S) (bs_now (bz_T S s)) + 1) v) 7 4 (A 7 s) (Int32.ofNat (ba_n (bz_W S) + 1))) (A 54 s) q (Int32.ofNat (ba_n (bz_W S) + 1))) := by
      refine ⟨⟨hk1.1, hk1.2.1, hk1.2.2.1, hk1.2.2.2.1, hk1.2.2.2.2.1, hk1.2.2.2.2.2.1⟩, fun c k a hn => ?_, fun a j hn => ?_⟩
      · unfold cw_x
        simp only [bh_fi_sai, bh_fi_sfi]
        rw [if_neg (fun z => hn ⟨z.1, by rw [z.2.1]; decide, z.2.2⟩), hf1 c k a (fun z => hn ⟨z.1, by rw [z.2.1]; decide, z.2.2⟩)]
      · unfold cw_x
        rw [bh_ai_sai, if_neg (fun z => hn 54 (by decide) z.1)]
        simp only [bh_ai_sai, bh_ai_sfi, hk1.2.2.2.2.2.2]
    have hex := D.2.1
    refine R1.V hs D (fun c hc => by simp at hc; omega) (t := bs_sl (bz_T S s) (ba_n (bz_W S) + 1, bs_safe (bz_T S s), bs_kept (bz_T S s))) rfl rfl rfl ⟨?_, ⟨?_, ?_, ?_⟩, ?_, ?_, fun i hi => ?_, fun p hp => ?_⟩
    · rw [D.2.1 7 1 _ (fun z => by simp at z), D.2.1 7 2 _ (fun z => by simp at z)]
      exact ⟨R1.f71 hs, R1.f72 hs⟩
    · rw [bh_fi_sai, bh_fi_sfi, if_pos ⟨rfl, rfl, rfl⟩]
      rfl
    · rw [D.2.1 7 5 _ (fun z => by simp at z)]
      exact R1.f75 hs
    · rw [D.2.1 7 6 _ (fun z => by simp at z)]
      exact R1.f76 hs
    · rw [D.2.1 7 9 _ (fun z => by simp at z)]
      exact R1.f79 hs
    · show _ = Int32.ofNat (bs_need (ba_add (bz_W S) (bs_now (bz_T S s)) q v (s % 4)) (bs_sl (bz_T S s) (ba_n (bz_W S) + 1, bs_safe (bz_T S s), bs_kept (bz_T S s))))
      rw [hnp]
      unfold cw_x
      simp only [bh_fi_sai, bh_fi_sfi]
      rw [if_neg (by simp), if_neg (by simp)]
      rcases hc with ⟨rfl, c⟩ | ⟨rfl, c⟩
      · rw [if_neg c]
        exact v4
      · rw [if_pos c, bh_fi_sfi, if_pos ⟨rfl, rfl, rfl⟩]
    · rw [cv_d.ai R1.w hs D (fun c hc => by simp at hc; omega) (c := 55) hs (by decide), cv_d.ai R1.w hs D (fun c hc => by simp at hc; omega) (c := 56) hs (by decide)]
      exact ⟨R1.a55 hs hi, R1.a56 hs hi⟩
    · show _ = Int32.ofNat (ba_last (ba_add (bz_W S) (bs_now (bz_T S s)) q v (s % 4)) (ba_n (bz_W S) + 1) p)
      rw [ba_last_b hW' (k := ba_n (bz_W S) + 1) (by omega) (Nat.le_refl _)]
      have b1 : ba_s (ba_add (bz_W S) (bs_now (bz_T S s)) q v (s % 4)) (ba_n (bz_W S) + 1) = q := ba_u_same _ _ _
      have b2 : ba_b (ba_add (bz_W S) (bs_now (bz_T S s)) q v (s % 4)) (ba_n (bz_W S) + 1) = bs_now (bz_T S s) := ba_u_same _ _ _
      rw [b1, b2, bh_ai_sai]
      by_cases e : p = q
      · rw [if_pos ⟨rfl, e⟩, if_pos e.symm]
      · rw [if_neg (fun z => e z.2), if_neg (fun z => e z.symm), bh_ai_sfi]
        have h54 := (R1.v hs).2.2.2.2.2 p hp
        unfold cw_x at h54 ⊢
        simp only [bh_ai_sai, bh_ai_sfi, hk1.2.2.2.2.2.2] at h54 ⊢
        exact h54
  by_cases c : ba_l (bz_W S) (ba_last (bz_W S) (bs_now (bz_T S s)) q) ≤ ba_l (bz_W S) (bs_kept (bz_T S s))
  · have D1 : cv_d A s [10] [] h (bi_sfi h 7 10 (A 7 s) (Int32.ofNat (bs_need (bz_W S) (bz_T S s) + 1))) := cv_d.sfi h (by decide) _
    have Rw1 := D1.w (fun c hc => by simp at hc) (fun c hc => by simp at hc) R.w
    refine ⟨_, fun K => ?_, key (bi_sfi h 7 10 (A 7 s) (Int32.ofNat (bs_need (bz_W S) (bz_T S s) + 1))) (Or.inr ⟨rfl, c⟩)⟩
    refine bw_C_iff ?_ K
    (refine bw_step rfl ?_; simp +decide only [bw_gi_s, bw_ga_s, bw_go_s, bw_w_i, bw_w_a, bw_w_l, bw_sum_n, bw_sum_c, bw_xs_n, bw_iconst, bw_bipush, bw_sipush, bw_ldc, bw_ldc_w, bw_anull, bw_iload0, bw_aload0, bw_istore0, bw_astore0, bw_iload1, bw_aload1, bw_istore1, bw_astore1, bw_iload2, bw_aload2, bw_istore2, bw_astore2, bw_iload3, bw_aload3, bw_istore3, bw_astore3, bw_iload, bw_aload, bw_istore, bw_astore, bw_iinc, bw_iadd, bw_isub, bw_imul, bw_iand, bw_ixor, bw_idiv, bw_irem, bw_i2l, bw_lcmp, bw_dupi, bw_dupa, bw_dup2ia, bw_dup2ii, bw_getf0, bw_getf2, bw_getf1, bw_putf0, bw_putf2, bw_putf1, bw_iaload, bw_baload, bw_laload, bw_aaload, bw_iastore, bw_bastore, bw_lastore, bw_aastore, bw_alen, bw_newa_int, bw_newa_boolean, bw_newa_long, bw_anewa, bw_multi, bw_new, bw_static, bw_virt, bw_obj, bw_t_nop, bw_t_goto, bw_t_eq_z, bw_t_eq_i, bw_t_ne_z, bw_t_ne_i, bw_t_lt_z, bw_t_lt_i, bw_t_ge_z, bw_t_ge_i, bw_t_gt_z, bw_t_gt_i, bw_t_le_z, bw_t_le_i, bw_t_null, bw_t_nonnull, bw_t_switch, bw_t_ireturn0, bw_t_ireturn1, bw_t_areturn, bw_t_return, bw_t_athrow, bw_t_try, List.lookup_cons, List.lookup_nil, bi_st, List.filter_cons, List.filter_nil, List.take_succ_cons, List.take_zero, List.take_nil, List.drop_succ_cons, List.drop_zero, List.reverse_cons, List.reverse_nil, List.nil_append, List.cons_append, Option.toList_some, Option.toList_none, List.length_cons, List.length_nil, bi_loc, List.zipIdx_cons, List.zipIdx_nil, List.map_cons, List.map_nil, List.getD_cons_zero, List.getD_cons_succ, Nat.zero_add, Bool.not_true, Bool.not_false, Bool.false_eq_true, if_true, if_false, ite_true, ite_false, ↓reduceIte, true_and, and_true, Bool.not_eq_true, beq_self_eq_true, Nat.reduceBEq, Nat.reduceEqDiff, Nat.reduceAdd, Nat.reduceLeDiff, Nat.reduceLT, Nat.reduceSub, Nat.reduceMul, Int32.reduceOfInt, Int32.reduceOfNat, Int32.reduceToNatClampNeg, Int32.reduceLT, Int32.reduceLE, Int32.reduceAdd, Int32.reduceSub, Int32.reduceMul, Int32.reduceDiv, Int32.reduceToInt, Int.reduceLT, Int.reduceSub, Int.reduceToNat, not_false_eq_true, ne_eq, or_true, true_or, or_false, false_or, and_false, false_and, not_true_eq_false, reduceCtorEq, and_self, or_self, eq_self, bh_k_sfi, bh_k_sfr, bh_k_sai, bh_k_sar, bh_k_new, bh_fi_sfi, bh_fi_sfr, bh_fi_sai, bh_fi_sar, bh_fi_new, bh_fr_sfi, bh_fr_sfr, bh_fr_sai, bh_fr_sar, bh_fr_new, bh_ai_sfi, bh_ai_sfr, bh_ai_sai, bh_ai_sar, bh_ai_new, bh_ar_sfi, bh_ar_sfr, bh_ar_sai, bh_ar_sar, bh_ar_new, bh_nx_sfi, bh_nx_sfr, bh_nx_sai, bh_nx_sar, bh_nx_new, bh_nc_sfi, bh_nc_sfr, bh_nc_sai, bh_nc_sar, bh_nc_new, bh_ns_sfi, bh_ns_sfr, bh_ns_sai, bh_ns_sar, bh_ns_new, bh_k_new2, bh_fi_new2, bh_fr_new2, bh_ai_new2, bh_ar_new2, bh_nx_new2, bh_nc_new2, bh_ns_new2, Nat.lt_irrefl, Nat.le_refl, bq_le0, bq_neg, bq_nat, bq_lt, bq_le, bq_eq, bn_one, bn_dec, R.w.k7 hs, R.w.r73 hs, R.w.k54 hs, R.w.r70 hs, R.w.k8, R.w.r85, R.w.k61, R.f76 hs, q1, hq, q2, q3, v6 q hq, R.w.a61 hla, R.w.a61 hki, q4, q5, Nat.not_lt.mpr c])
    (refine bw_step rfl ?_; simp +decide only [bw_gi_s, bw_ga_s, bw_go_s, bw_w_i, bw_w_a, bw_w_l, bw_sum_n, bw_sum_c, bw_xs_n, bw_iconst, bw_bipush, bw_sipush, bw_ldc, bw_ldc_w, bw_anull, bw_iload0, bw_aload0, bw_istore0, bw_astore0, bw_iload1, bw_aload1, bw_istore1, bw_astore1, bw_iload2, bw_aload2, bw_istore2, bw_astore2, bw_iload3, bw_aload3, bw_istore3, bw_astore3, bw_iload, bw_aload, bw_istore, bw_astore, bw_iinc, bw_iadd, bw_isub, bw_imul, bw_iand, bw_ixor, bw_idiv, bw_irem, bw_i2l, bw_lcmp, bw_dupi, bw_dupa, bw_dup2ia, bw_dup2ii, bw_getf0, bw_getf2, bw_getf1, bw_putf0, bw_putf2, bw_putf1, bw_iaload, bw_baload, bw_laload, bw_aaload, bw_iastore, bw_bastore, bw_lastore, bw_aastore, bw_alen, bw_newa_int, bw_newa_boolean, bw_newa_long, bw_anewa, bw_multi, bw_new, bw_static, bw_virt, bw_obj, bw_t_nop, bw_t_goto, bw_t_eq_z, bw_t_eq_i, bw_t_ne_z, bw_t_ne_i, bw_t_lt_z, bw_t_lt_i, bw_t_ge_z, bw_t_ge_i, bw_t_gt_z, bw_t_gt_i, bw_t_le_z, bw_t_le_i, bw_t_null, bw_t_nonnull, bw_t_switch, bw_t_ireturn0, bw_t_ireturn1, bw_t_areturn, bw_t_return, bw_t_athrow, bw_t_try, List.lookup_cons, List.lookup_nil, bi_st, List.filter_cons, List.filter_nil, List.take_succ_cons, List.take_zero, List.take_nil, List.drop_succ_cons, List.drop_zero, List.reverse_cons, List.reverse_nil, List.nil_append, List.cons_append, Option.toList_some, Option.toList_none, List.length_cons, List.length_nil, bi_loc, List.zipIdx_cons, List.zipIdx_nil, List.map_cons, List.map_nil, List.getD_cons_zero, List.getD_cons_succ, Nat.zero_add, Bool.not_true, Bool.not_false, Bool.false_eq_true, if_true, if_false, ite_true, ite_false, ↓reduceIte, true_and, and_true, Bool.not_eq_true, beq_self_eq_true, Nat.reduceBEq, Nat.reduceEqDiff, Nat.reduceAdd, Nat.reduceLeDiff, Nat.reduceLT, Nat.reduceSub, Nat.reduceMul, Int32.reduceOfInt, Int32.reduceOfNat, Int32.reduceToNatClampNeg, Int32.reduceLT, Int32.reduceLE, Int32.reduceAdd, Int32.reduceSub, Int32.reduceMul, Int32.reduceDiv, Int32.reduceToInt, Int.reduceLT, Int.reduceSub, Int.reduceToNat, not_false_eq_true, ne_eq, or_true, true_or, or_false, false_or, and_false, false_and, not_true_eq_false, reduceCtorEq, and_self, or_self, eq_self, bh_k_sfi, bh_k_sfr, bh_k_sai, bh_k_sar, bh_k_new, bh_fi_sfi, bh_fi_sfr, bh_fi_sai, bh_fi_sar, bh_fi_new, bh_fr_sfi, bh_fr_sfr, bh_fr_sai, bh_fr_sar, bh_fr_new, bh_ai_sfi, bh_ai_sfr, bh_ai_sai, bh_ai_sar, bh_ai_new, bh_ar_sfi, bh_ar_sfr, bh_ar_sai, bh_ar_sar, bh_ar_new, bh_nx_sfi, bh_nx_sfr, bh_nx_sai, bh_nx_sar, bh_nx_new, bh_nc_sfi, bh_nc_sfr, bh_nc_sai, bh_nc_sar, bh_nc_new, bh_ns_sfi, bh_ns_sfr, bh_ns_sai, bh_ns_sar, bh_ns_new, bh_k_new2, bh_fi_new2, bh_fr_new2, bh_ai_new2, bh_ar_new2, bh_nx_new2, bh_nc_new2, bh_ns_new2, Nat.lt_irrefl, Nat.le_refl, bq_le0, bq_neg, bq_nat, bq_lt, bq_le, bq_eq, bn_one, bn_dec, R.w.k7 hs, R.f710 hs])
    have hext := c_extend (e := ba_last (bz_W S) (bs_now (bz_T S s)) q) (q := q) Rw1 hW hn hno v
    have e1 : bi_k (cw_x A (bi_sfi h 7 10 (A 7 s) (Int32.ofNat (bs_need (bz_W S) (bz_T S s) + 1))) (ba_n (bz_W S) + 1) q (bs_now (bz_T S s)) (ba_last (bz_W S) (bs_now (bz_T S s)) q) (ba_l (bz_W S) (bs_now (bz_T S s)) + 1) v) = bi_k h := Eq.trans rfl rfl
    have e2 : bi_fr (cw_x A (bi_sfi h 7 10 (A 7 s) (Int32.ofNat (bs_need (bz_W S) (bz_T S s) + 1))) (ba_n (bz_W S) + 1) q (bs_now (bz_T S s)) (ba_last (bz_W S) (bs_now (bz_T S s)) q) (ba_l (bz_W S) (bs_now (bz_T S s)) + 1) v) = bi_fr h := Eq.trans rfl rfl
    (refine bw_step rfl ?_; simp +decide only [bw_gi_s, bw_ga_s, bw_go_s, bw_w_i, bw_w_a, bw_w_l, bw_sum_n, bw_sum_c, bw_xs_n, bw_iconst, bw_bipush, bw_sipush, bw_ldc, bw_ldc_w, bw_anull, bw_iload0, bw_aload0, bw_istore0, bw_astore0, bw_iload1, bw_aload1, bw_istore1, bw_astore1, bw_iload2, bw_aload2, bw_istore2, bw_astore2, bw_iload3, bw_aload3, bw_istore3, bw_astore3, bw_iload, bw_aload, bw_istore, bw_astore, bw_iinc, bw_iadd, bw_isub, bw_imul, bw_iand, bw_ixor, bw_idiv, bw_irem, bw_i2l, bw_lcmp, bw_dupi, bw_dupa, bw_dup2ia, bw_dup2ii, bw_getf0, bw_getf2, bw_getf1, bw_putf0, bw_putf2, bw_putf1, bw_iaload, bw_baload, bw_laload, bw_aaload, bw_iastore, bw_bastore, bw_lastore, bw_aastore, bw_alen, bw_newa_int, bw_newa_boolean, bw_newa_long, bw_anewa, bw_multi, bw_new, bw_static, bw_virt, bw_obj, bw_t_nop, bw_t_goto, bw_t_eq_z, bw_t_eq_i, bw_t_ne_z, bw_t_ne_i, bw_t_lt_z, bw_t_lt_i, bw_t_ge_z, bw_t_ge_i, bw_t_gt_z, bw_t_gt_i, bw_t_le_z, bw_t_le_i, bw_t_null, bw_t_nonnull, bw_t_switch, bw_t_ireturn0, bw_t_ireturn1, bw_t_areturn, bw_t_return, bw_t_athrow, bw_t_try, List.lookup_cons, List.lookup_nil, bi_st, List.filter_cons, List.filter_nil, List.take_succ_cons, List.take_zero, List.take_nil, List.drop_succ_cons, List.drop_zero, List.reverse_cons, List.reverse_nil, List.nil_append, List.cons_append, Option.toList_some, Option.toList_none, List.length_cons, List.length_nil, bi_loc, List.zipIdx_cons, List.zipIdx_nil, List.map_cons, List.map_nil, List.getD_cons_zero, List.getD_cons_succ, Nat.zero_add, Bool.not_true, Bool.not_false, Bool.false_eq_true, if_true, if_false, ite_true, ite_false, ↓reduceIte, true_and, and_true, Bool.not_eq_true, beq_self_eq_true, Nat.reduceBEq, Nat.reduceEqDiff, Nat.reduceAdd, Nat.reduceLeDiff, Nat.reduceLT, Nat.reduceSub, Nat.reduceMul, Int32.reduceOfInt, Int32.reduceOfNat, Int32.reduceToNatClampNeg, Int32.reduceLT, Int32.reduceLE, Int32.reduceAdd, Int32.reduceSub, Int32.reduceMul, Int32.reduceDiv, Int32.reduceToInt, Int.reduceLT, Int.reduceSub, Int.reduceToNat, not_false_eq_true, ne_eq, or_true, true_or, or_false, false_or, and_false, false_and, not_true_eq_false, reduceCtorEq, and_self, or_self, eq_self, bh_k_sfi, bh_k_sfr, bh_k_sai, bh_k_sar, bh_k_new, bh_fi_sfi, bh_fi_sfr, bh_fi_sai, bh_fi_sar, bh_fi_new, bh_fr_sfi, bh_fr_sfr, bh_fr_sai, bh_fr_sar, bh_fr_new, bh_ai_sfi, bh_ai_sfr, bh_ai_sai, bh_ai_sar, bh_ai_new, bh_ar_sfi, bh_ar_sfr, bh_ar_sai, bh_ar_sar, bh_ar_new, bh_nx_sfi, bh_nx_sfr, bh_nx_sai, bh_nx_sar, bh_nx_new, bh_nc_sfi, bh_nc_sfr, bh_nc_sai, bh_nc_sar, bh_nc_new, bh_ns_sfi, bh_ns_sfr, bh_ns_sai, bh_ns_sar, bh_ns_new, bh_k_new2, bh_fi_new2, bh_fr_new2, bh_ai_new2, bh_ar_new2, bh_nx_new2, bh_nc_new2, bh_ns_new2, Nat.lt_irrefl, Nat.le_refl, bq_le0, bq_neg, bq_nat, bq_lt, bq_le, bq_eq, bn_one, bn_dec, R.w.k7 hs, R.w.r73 hs, R.w.k54 hs, R.w.r70 hs, R.w.k8, R.f74 hs, q1, hq, hext, e1, e2])
  · refine ⟨_, fun K => ?_, key h (Or.inl ⟨rfl, c⟩)⟩
    refine bw_C_iff ?_ K
    (refine bw_step rfl ?_; simp +decide only [bw_gi_s, bw_ga_s, bw_go_s, bw_w_i, bw_w_a, bw_w_l, bw_sum_n, bw_sum_c, bw_xs_n, bw_iconst, bw_bipush, bw_sipush, bw_ldc, bw_ldc_w, bw_anull, bw_iload0, bw_aload0, bw_istore0, bw_astore0, bw_iload1, bw_aload1, bw_istore1, bw_astore1, bw_iload2, bw_aload2, bw_istore2, bw_astore2, bw_iload3, bw_aload3, bw_istore3, bw_astore3, bw_iload, bw_aload, bw_istore, bw_astore, bw_iinc, bw_iadd, bw_isub, bw_imul, bw_iand, bw_ixor, bw_idiv, bw_irem, bw_i2l, bw_lcmp, bw_dupi, bw_dupa, bw_dup2ia, bw_dup2ii, bw_getf0, bw_getf2, bw_getf1, bw_putf0, bw_putf2, bw_putf1, bw_iaload, bw_baload, bw_laload, bw_aaload, bw_iastore, bw_bastore, bw_lastore, bw_aastore, bw_alen, bw_newa_int, bw_newa_boolean, bw_newa_long, bw_anewa, bw_multi, bw_new, bw_static, bw_virt, bw_obj, bw_t_nop, bw_t_goto, bw_t_eq_z, bw_t_eq_i, bw_t_ne_z, bw_t_ne_i, bw_t_lt_z, bw_t_lt_i, bw_t_ge_z, bw_t_ge_i, bw_t_gt_z, bw_t_gt_i, bw_t_le_z, bw_t_le_i, bw_t_null, bw_t_nonnull, bw_t_switch, bw_t_ireturn0, bw_t_ireturn1, bw_t_areturn, bw_t_return, bw_t_athrow, bw_t_try, List.lookup_cons, List.lookup_nil, bi_st, List.filter_cons, List.filter_nil, List.take_succ_cons, List.take_zero, List.take_nil, List.drop_succ_cons, List.drop_zero, List.reverse_cons, List.reverse_nil, List.nil_append, List.cons_append, Option.toList_some, Option.toList_none, List.length_cons, List.length_nil, bi_loc, List.zipIdx_cons, List.zipIdx_nil, List.map_cons, List.map_nil, List.getD_cons_zero, List.getD_cons_succ, Nat.zero_add, Bool.not_true, Bool.not_false, Bool.false_eq_true, if_true, if_false, ite_true, ite_false, ↓reduceIte, true_and, and_true, Bool.not_eq_true, beq_self_eq_true, Nat.reduceBEq, Nat.reduceEqDiff, Nat.reduceAdd, Nat.reduceLeDiff, Nat.reduceLT, Nat.reduceSub, Nat.reduceMul, Int32.reduceOfInt, Int32.reduceOfNat, Int32.reduceToNatClampNeg, Int32.reduceLT, Int32.reduceLE, Int32.reduceAdd, Int32.reduceSub, Int32.reduceMul, Int32.reduceDiv, Int32.reduceToInt, Int.reduceLT, Int.reduceSub, Int.reduceToNat, not_false_eq_true, ne_eq, or_true, true_or, or_false, false_or, and_false, false_and, not_true_eq_false, reduceCtorEq, and_self, or_self, eq_self, bh_k_sfi, bh_k_sfr, bh_k_sai, bh_k_sar, bh_k_new, bh_fi_sfi, bh_fi_sfr, bh_fi_sai, bh_fi_sar, bh_fi_new, bh_fr_sfi, bh_fr_sfr, bh_fr_sai, bh_fr_sar, bh_fr_new, bh_ai_sfi, bh_ai_sfr, bh_ai_sai, bh_ai_sar, bh_ai_new, bh_ar_sfi, bh_ar_sfr, bh_ar_sai, bh_ar_sar, bh_ar_new, bh_nx_sfi, bh_nx_sfr, bh_nx_sai, bh_nx_sar, bh_nx_new, bh_nc_sfi, bh_nc_sfr, bh_nc_sai, bh_nc_sar, bh_nc_new, bh_ns_sfi, bh_ns_sfr, bh_ns_sai, bh_ns_sar, bh_ns_new, bh_k_new2, bh_fi_new2, bh_fr_new2, bh_ai_new2, bh_ar_new2, bh_nx_new2, bh_nc_new2, bh_ns_new2, Nat.lt_irrefl, Nat.le_refl, bq_le0, bq_neg, bq_nat, bq_lt, bq_le, bq_eq, bn_one, bn_dec, R.w.k7 hs, R.w.r73 hs, R.w.k54 hs, R.w.r70 hs, R.w.k8, R.w.r85, R.w.k61, R.f76 hs, q1, hq, q2, q3, v6 q hq, R.w.a61 hla, R.w.a61 hki, q4, q5, Nat.lt_of_not_le c])
    have hext := c_extend (e := ba_last (bz_W S) (bs_now (bz_T S s)) q) (q := q) R.w hW hn hno v
    have e1 : bi_k (cw_x A h (ba_n (bz_W S) + 1) q (bs_now (bz_T S s)) (ba_last (bz_W S) (bs_now (bz_T S s)) q) (ba_l (bz_W S) (bs_now (bz_T S s)) + 1) v) = bi_k h := Eq.trans rfl rfl
    have e2 : bi_fr (cw_x A h (ba_n (bz_W S) + 1) q (bs_now (bz_T S s)) (ba_last (bz_W S) (bs_now (bz_T S s)) q) (ba_l (bz_W S) (bs_now (bz_T S s)) + 1) v) = bi_fr h := Eq.trans rfl rfl
    (refine bw_step rfl ?_; simp +decide only [bw_gi_s, bw_ga_s, bw_go_s, bw_w_i, bw_w_a, bw_w_l, bw_sum_n, bw_sum_c, bw_xs_n, bw_iconst, bw_bipush, bw_sipush, bw_ldc, bw_ldc_w, bw_anull, bw_iload0, bw_aload0, bw_istore0, bw_astore0, bw_iload1, bw_aload1, bw_istore1, bw_astore1, bw_iload2, bw_aload2, bw_istore2, bw_astore2, bw_iload3, bw_aload3, bw_istore3, bw_astore3, bw_iload, bw_aload, bw_istore, bw_astore, bw_iinc, bw_iadd, bw_isub, bw_imul, bw_iand, bw_ixor, bw_idiv, bw_irem, bw_i2l, bw_lcmp, bw_dupi, bw_dupa, bw_dup2ia, bw_dup2ii, bw_getf0, bw_getf2, bw_getf1, bw_putf0, bw_putf2, bw_putf1, bw_iaload, bw_baload, bw_laload, bw_aaload, bw_iastore, bw_bastore, bw_lastore, bw_aastore, bw_alen, bw_newa_int, bw_newa_boolean, bw_newa_long, bw_anewa, bw_multi, bw_new, bw_static, bw_virt, bw_obj, bw_t_nop, bw_t_goto, bw_t_eq_z, bw_t_eq_i, bw_t_ne_z, bw_t_ne_i, bw_t_lt_z, bw_t_lt_i, bw_t_ge_z, bw_t_ge_i, bw_t_gt_z, bw_t_gt_i, bw_t_le_z, bw_t_le_i, bw_t_null, bw_t_nonnull, bw_t_switch, bw_t_ireturn0, bw_t_ireturn1, bw_t_areturn, bw_t_return, bw_t_athrow, bw_t_try, List.lookup_cons, List.lookup_nil, bi_st, List.filter_cons, List.filter_nil, List.take_succ_cons, List.take_zero, List.take_nil, List.drop_succ_cons, List.drop_zero, List.reverse_cons, List.reverse_nil, List.nil_append, List.cons_append, Option.toList_some, Option.toList_none, List.length_cons, List.length_nil, bi_loc, List.zipIdx_cons, List.zipIdx_nil, List.map_cons, List.map_nil, List.getD_cons_zero, List.getD_cons_succ, Nat.zero_add, Bool.not_true, Bool.not_false, Bool.false_eq_true, if_true, if_false, ite_true, ite_false, ↓reduceIte, true_and, and_true, Bool.not_eq_true, beq_self_eq_true, Nat.reduceBEq, Nat.reduceEqDiff, Nat.reduceAdd, Nat.reduceLeDiff, Nat.reduceLT, Nat.reduceSub, Nat.reduceMul, Int32.reduceOfInt, Int32.reduceOfNat, Int32.reduceToNatClampNeg, Int32.reduceLT, Int32.reduceLE, Int32.reduceAdd, Int32.reduceSub, Int32.reduceMul, Int32.reduceDiv, Int32.reduceToInt, Int.reduceLT, Int.reduceSub, Int.reduceToNat, not_false_eq_true, ne_eq, or_true, true_or, or_false, false_or, and_false, false_and, not_true_eq_false, reduceCtorEq, and_self, or_self, eq_self, bh_k_sfi, bh_k_sfr, bh_k_sai, bh_k_sar, bh_k_new, bh_fi_sfi, bh_fi_sfr, bh_fi_sai, bh_fi_sar, bh_fi_new, bh_fr_sfi, bh_fr_sfr, bh_fr_sai, bh_fr_sar, bh_fr_new, bh_ai_sfi, bh_ai_sfr, bh_ai_sai, bh_ai_sar, bh_ai_new, bh_ar_sfi, bh_ar_sfr, bh_ar_sai, bh_ar_sar, bh_ar_new, bh_nx_sfi, bh_nx_sfr, bh_nx_sai, bh_nx_sar, bh_nx_new, bh_nc_sfi, bh_nc_sfr, bh_nc_sai, bh_nc_sar, bh_nc_new, bh_ns_sfi, bh_ns_sfr, bh_ns_sai, bh_ns_sar, bh_ns_new, bh_k_new2, bh_fi_new2, bh_fr_new2, bh_ai_new2, bh_ar_new2, bh_nx_new2, bh_nc_new2, bh_ns_new2, Nat.lt_irrefl, Nat.le_refl, bq_le0, bq_neg, bq_nat, bq_lt, bq_le, bq_eq, bn_one, bn_dec, R.w.k7 hs, R.w.r73 hs, R.w.k54 hs, R.w.r70 hs, R.w.k8, R.f74 hs, q1, hq, hext, e1, e2])
end CU
