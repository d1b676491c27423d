/-! the class's vault: PENDING lost; a line taken over; a way back -/
theorem ba_pl_cut {W : ba_W} {x y z : Nat} (h2 : ba_anc W y z) (h1 : ba_l W x ≤ ba_l W y) (f : Nat) : ba_pl W f (ba_l W z - ba_l W x) z = ba_pl W f (ba_l W z - ba_l W y) z + ba_pl W f (ba_l W y - ba_l W x) y := by
  have e : ba_l W z - ba_l W x = (ba_l W z - ba_l W y) + (ba_l W y - ba_l W x) := by
    have := h2.1
    omega
  rw [e, ba_pl_add, h2.2]
theorem bs_need_lose {W : ba_W} {t : ba_T} (o : bs_ok W t) : bs_need W (bs_sl t (bs_safe t, bs_safe t, bs_kept t)) + (ba_pl W (ba_l W (bs_kept t)) (ba_l W (bs_now t) - ba_l W (bs_kept t)) (bs_now t) - ba_pl W (ba_l W (bs_kept t)) (ba_l W (bs_safe t) - ba_l W (bs_kept t)) (bs_safe t)) = bs_need W t ∧ ba_pl W (ba_l W (bs_kept t)) (ba_l W (bs_safe t) - ba_l W (bs_kept t)) (bs_safe t) ≤ ba_pl W (ba_l W (bs_kept t)) (ba_l W (bs_now t) - ba_l W (bs_kept t)) (bs_now t) := by
  have h1 := ba_pl_cut o.sn o.ks.1 (ba_l W (bs_kept t))
  have e1 := bs_need_eq W t
  have e2 := bs_need_eq W (bs_sl t (bs_safe t, bs_safe t, bs_kept t))
  have e3 : bs_need W (bs_sl t (bs_safe t, bs_safe t, bs_kept t)) = ba_nd W 0 ((bs_sn t).map (fun q => q.2)) + (ba_pl W (ba_l W (bs_line t)) (ba_l W (bs_kept t) - ba_l W (bs_line t)) (bs_kept t) + ba_pl W (ba_l W (bs_kept t)) (ba_l W (bs_safe t) - ba_l W (bs_kept t)) (bs_safe t)) := e2
  constructor <;> omega
theorem bs_ok.lose {W : ba_W} {t : ba_T} (hW : ba_ok W) (o : bs_ok W t) : bs_ok W (bs_sl t (bs_safe t, bs_safe t, bs_kept t)) := by
  refine ⟨o.s_in hW, ?_, o.2.2⟩
  have := o.ch2
  exact ba_ch_app.mpr ⟨this.1, this.2.1, ba_anc_rf W _, trivial⟩
theorem bs_ok.keep {W : ba_W} {t : ba_T} (o : bs_ok W t) : bs_ok W (bs_sl t (bs_now t, bs_now t, bs_now t)) := by
  refine ⟨o.1, ?_, o.2.2⟩
  have := o.ch2
  exact ba_ch_snoc this.1 o.kn ⟨ba_anc_rf W _, ba_anc_rf W _, trivial⟩
section CX
variable {A : Nat → Nat → Nat} {h0 h : bi_H} {x y : Nat} {S : ba_S} {s : Nat}
/-- Vault.losePending -/
theorem c_lose (R : cs_R A h0 x y h S) (hW : ba_ok (bz_W S)) (hs : s < 8) (o : bs_ok (bz_W S) (bz_T S s)) : ∃ h', (∀ K : Option bi_V → bi_H → Prop, bw_C bt_P 139 [.inr (.inl (A 7 s))] h K ↔ K (some (.inl (Int32.ofNat (bs_pend (bz_W S) (bz_T S s))))) h') ∧ cs_R A h0 x y h' (bz_sT S s (bs_sl (bz_T S s) (bs_safe (bz_T S s), bs_safe (bz_T S s), bs_kept (bz_T S s)))) := by
  have n6 := hW.1
  have hki := o.k_in hW
  have hsi := o.s_in hW
  have q1 : bs_kept (bz_T S s) < 60001 := by omega
  obtain ⟨hn1, hn2⟩ := bs_need_lose o
  have hp := c_pend R.w hW hs o.1 hsi o.sn.1 (R.f74 hs) (R.f75 hs)
  have hb1 := c_pb R.w hW o.1 o.kn.1
  have hb2 := c_pb R.w hW hsi o.ks.1
  have e : Int32.ofNat (bs_need (bz_W S) (bz_T S s)) - (Int32.ofNat (ba_pl (bz_W S) (ba_l (bz_W S) (bs_kept (bz_T S s))) (ba_l (bz_W S) (bs_now (bz_T S s)) - ba_l (bz_W S) (bs_kept (bz_T S s))) (bs_now (bz_T S s))) - Int32.ofNat (ba_pl (bz_W S) (ba_l (bz_W S) (bs_kept (bz_T S s))) (ba_l (bz_W S) (bs_safe (bz_T S s)) - ba_l (bz_W S) (bs_kept (bz_T S s))) (bs_safe (bz_T S s)))) = Int32.ofNat (bs_need (bz_W S) (bs_sl (bz_T S s) (bs_safe (bz_T S s), bs_safe (bz_T S s), bs_kept (bz_T S s)))) := by
    rw [bn_sub hn2, bn_sub (by omega)]
    congr 1
    omega
  have D1 : cv_d A s [10, 4] [54] h (bi_sfi h 7 10 (A 7 s) (Int32.ofNat (bs_need (bz_W S) (bs_sl (bz_T S s) (bs_safe (bz_T S s), bs_safe (bz_T S s), bs_kept (bz_T S s)))))) := cv_d.sfi h (by decide) _
  have R1 := D1.w (fun c hc => by simp at hc; omega) (fun c hc => by simp at hc; rw [hc]; exact hs) R.w
  obtain ⟨v1, v2, v3, v4, v5, v6⟩ := R.v hs
  obtain ⟨h', r, D2, e1, e2⟩ := c_rew hW hs R1 o.1 o.sn (by rw [bh_fi_sfi, if_neg (by simp)]; exact v2.1) (fun q hq => by rw [bh_ai_sfi]; exact v6 q hq)
  have D := D1.tr (D2.mono (by simp) (by simp))
  refine ⟨h', fun K => ?_, R.V hs D (fun c hc => by simp at hc; omega) rfl rfl rfl ⟨?_, ⟨e1, ?_, ?_⟩, ?_, ?_, fun i hi => ?_, e2⟩⟩
  · refine bw_C_iff ?_ K
    unfold bs_pend
    (refine bw_step rfl ?_; simp +decide only [bw_gi_s, bw_ga_s, bw_go_s, bw_w_i, bw_w_a, bw_w_l, bw_sum_n, bw_sum_c, bw_xs_n, bw_iconst, bw_bipush, bw_sipush, bw_ldc, bw_ldc_w, bw_anull, bw_iload0, bw_aload0, bw_istore0, bw_astore0, bw_iload1, bw_aload1, bw_istore1, bw_astore1, bw_iload2, bw_aload2, bw_istore2, bw_astore2, bw_iload3, bw_aload3, bw_istore3, bw_astore3, bw_iload, bw_aload, bw_istore, bw_astore, bw_iinc, bw_iadd, bw_isub, bw_imul, bw_iand, bw_ixor, bw_idiv, bw_irem, bw_i2l, bw_lcmp, bw_dupi, bw_dupa, bw_dup2ia, bw_dup2ii, bw_getf0, bw_getf2, bw_getf1, bw_putf0, bw_putf2, bw_putf1, bw_iaload, bw_baload, bw_laload, bw_aaload, bw_iastore, bw_bastore, bw_lastore, bw_aastore, bw_alen, bw_newa_int, bw_newa_boolean, bw_newa_long, bw_anewa, bw_multi, bw_new, bw_static, bw_virt, bw_obj, bw_t_nop, bw_t_goto, bw_t_eq_z, bw_t_eq_i, bw_t_ne_z, bw_t_ne_i, bw_t_lt_z, bw_t_lt_i, bw_t_ge_z, bw_t_ge_i, bw_t_gt_z, bw_t_gt_i, bw_t_le_z, bw_t_le_i, bw_t_null, bw_t_nonnull, bw_t_switch, bw_t_ireturn0, bw_t_ireturn1, bw_t_areturn, bw_t_return, bw_t_athrow, bw_t_try, List.lookup_cons, List.lookup_nil, bi_st, List.filter_cons, List.filter_nil, List.take_succ_cons, List.take_zero, List.take_nil, List.drop_succ_cons, List.drop_zero, List.reverse_cons, List.reverse_nil, List.nil_append, List.cons_append, Option.toList_some, Option.toList_none, List.length_cons, List.length_nil, bi_loc, List.zipIdx_cons, List.zipIdx_nil, List.map_cons, List.map_nil, List.getD_cons_zero, List.getD_cons_succ, Nat.zero_add, Bool.not_true, Bool.not_false, Bool.false_eq_true, if_true, if_false, ite_true, ite_false, ↓reduceIte, true_and, and_true, Bool.not_eq_true, beq_self_eq_true, Nat.reduceBEq, Nat.reduceEqDiff, Nat.reduceAdd, Nat.reduceLeDiff, Nat.reduceLT, Nat.reduceSub, Nat.reduceMul, Int32.reduceOfInt, Int32.reduceOfNat, Int32.reduceToNatClampNeg, Int32.reduceLT, Int32.reduceLE, Int32.reduceAdd, Int32.reduceSub, Int32.reduceMul, Int32.reduceDiv, Int32.reduceToInt, Int.reduceLT, Int.reduceSub, Int.reduceToNat, not_false_eq_true, ne_eq, or_true, true_or, or_false, false_or, and_false, false_and, not_true_eq_false, reduceCtorEq, and_self, or_self, eq_self, bh_k_sfi, bh_k_sfr, bh_k_sai, bh_k_sar, bh_k_new, bh_fi_sfi, bh_fi_sfr, bh_fi_sai, bh_fi_sar, bh_fi_new, bh_fr_sfi, bh_fr_sfr, bh_fr_sai, bh_fr_sar, bh_fr_new, bh_ai_sfi, bh_ai_sfr, bh_ai_sai, bh_ai_sar, bh_ai_new, bh_ar_sfi, bh_ar_sfr, bh_ar_sai, bh_ar_sar, bh_ar_new, bh_nx_sfi, bh_nx_sfr, bh_nx_sai, bh_nx_sar, bh_nx_new, bh_nc_sfi, bh_nc_sfr, bh_nc_sai, bh_nc_sar, bh_nc_new, bh_ns_sfi, bh_ns_sfr, bh_ns_sai, bh_ns_sar, bh_ns_new, bh_k_new2, bh_fi_new2, bh_fr_new2, bh_ai_new2, bh_ar_new2, bh_nx_new2, bh_nc_new2, bh_ns_new2, Nat.lt_irrefl, Nat.le_refl, bq_le0, bq_neg, bq_nat, bq_lt, bq_le, bq_eq, bn_one, bn_dec, R.w.k7 hs, R.w.r70 hs, R.w.k8, R.w.r85, R.w.k61, R.f74 hs, R.f75 hs, R.f76 hs, R.f710 hs, q1, R.w.a61 hki, hp, hb1, hb2, e, r])
  · rw [R.frs hs D (by decide), R.frs hs D (by decide)]
    exact v1
  · rw [R.frs hs D (by decide)]
    exact v2.2.1
  · rw [R.frs hs D (by decide)]
    exact v2.2.2
  · rw [R.frs hs D (by decide)]
    exact v3
  · rw [D2.2.1 7 10 _ (fun z => by simp at z), bh_fi_sfi, if_pos ⟨rfl, rfl, rfl⟩]
  · rw [cv_d.ai R.w hs D (fun c hc => by simp at hc; omega) (c := 55) hs (by decide), cv_d.ai R.w hs D (fun c hc => by simp at hc; omega) (c := 56) hs (by decide)]
    exact v5 i hi
/-- Vault.advance -/
theorem c_adv {p : Nat} {W : ba_W} (hW : ba_ok W) (hs : s < 8) (R : cw_R A p W h) {m k : Nat} (hk : k ≤ ba_n W) (ha : ba_anc W m k) (hn : bi_fi h 7 4 (A 7 s) = Int32.ofNat m) (hq : ∀ q, q < 32768 → bi_ai h (A 54 s) q = Int32.ofNat (ba_last W m q)) : ∃ h', (∀ K : Option bi_V → bi_H → Prop, bw_C bt_P 125 [.inr (.inl (A 7 s)), .inl (Int32.ofNat k)] h K ↔ K none h') ∧ cv_d A s [4] [54] h h' ∧ bi_fi h' 7 4 (A 7 s) = Int32.ofNat k ∧ ∀ q, q < 32768 → bi_ai h' (A 54 s) q = Int32.ofNat (ba_last W k q) := by
  have n6 := hW.1
  have hm := ba_anc_in hW hk ha
  have q1 : k < 60001 := by omega
  have q2 : m < 60001 := by omega
  obtain ⟨h', r, D, e1, e2⟩ := cl_adv hW hs hk ha (ba_l W k - ba_l W m) 0 h R (by omega) (fun q hq' => by
    rw [hq q hq']
    rfl)
  refine ⟨h', fun K => ?_, D, e1, e2⟩
  refine bw_C_iff ?_ K
  (refine bw_step rfl ?_; simp +decide only [bw_gi_s, bw_ga_s, bw_go_s, bw_w_i, bw_w_a, bw_w_l, bw_sum_n, bw_sum_c, bw_xs_n, bw_iconst, bw_bipush, bw_sipush, bw_ldc, bw_ldc_w, bw_anull, bw_iload0, bw_aload0, bw_istore0, bw_astore0, bw_iload1, bw_aload1, bw_istore1, bw_astore1, bw_iload2, bw_aload2, bw_istore2, bw_astore2, bw_iload3, bw_aload3, bw_istore3, bw_astore3, bw_iload, bw_aload, bw_istore, bw_astore, bw_iinc, bw_iadd, bw_isub, bw_imul, bw_iand, bw_ixor, bw_idiv, bw_irem, bw_i2l, bw_lcmp, bw_dupi, bw_dupa, bw_dup2ia, bw_dup2ii, bw_getf0, bw_getf2, bw_getf1, bw_putf0, bw_putf2, bw_putf1, bw_iaload, bw_baload, bw_laload, bw_aaload, bw_iastore, bw_bastore, bw_lastore, bw_aastore, bw_alen, bw_newa_int, bw_newa_boolean, bw_newa_long, bw_anewa, bw_multi, bw_new, bw_static, bw_virt, bw_obj, bw_t_nop, bw_t_goto, bw_t_eq_z, bw_t_eq_i, bw_t_ne_z, bw_t_ne_i, bw_t_lt_z, bw_t_lt_i, bw_t_ge_z, bw_t_ge_i, bw_t_gt_z, bw_t_gt_i, bw_t_le_z, bw_t_le_i, bw_t_null, bw_t_nonnull, bw_t_switch, bw_t_ireturn0, bw_t_ireturn1, bw_t_areturn, bw_t_return, bw_t_athrow, bw_t_try, List.lookup_cons, List.lookup_nil, bi_st, List.filter_cons, List.filter_nil, List.take_succ_cons, List.take_zero, List.take_nil, List.drop_succ_cons, List.drop_zero, List.reverse_cons, List.reverse_nil, List.nil_append, List.cons_append, Option.toList_some, Option.toList_none, List.length_cons, List.length_nil, bi_loc, List.zipIdx_cons, List.zipIdx_nil, List.map_cons, List.map_nil, List.getD_cons_zero, List.getD_cons_succ, Nat.zero_add, Bool.not_true, Bool.not_false, Bool.false_eq_true, if_true, if_false, ite_true, ite_false, ↓reduceIte, true_and, and_true, Bool.not_eq_true, beq_self_eq_true, Nat.reduceBEq, Nat.reduceEqDiff, Nat.reduceAdd, Nat.reduceLeDiff, Nat.reduceLT, Nat.reduceSub, Nat.reduceMul, Int32.reduceOfInt, Int32.reduceOfNat, Int32.reduceToNatClampNeg, Int32.reduceLT, Int32.reduceLE, Int32.reduceAdd, Int32.reduceSub, Int32.reduceMul, Int32.reduceDiv, Int32.reduceToInt, Int.reduceLT, Int.reduceSub, Int.reduceToNat, not_false_eq_true, ne_eq, or_true, true_or, or_false, false_or, and_false, false_and, not_true_eq_false, reduceCtorEq, and_self, or_self, eq_self, bh_k_sfi, bh_k_sfr, bh_k_sai, bh_k_sar, bh_k_new, bh_fi_sfi, bh_fi_sfr, bh_fi_sai, bh_fi_sar, bh_fi_new, bh_fr_sfi, bh_fr_sfr, bh_fr_sai, bh_fr_sar, bh_fr_new, bh_ai_sfi, bh_ai_sfr, bh_ai_sai, bh_ai_sar, bh_ai_new, bh_ar_sfi, bh_ar_sfr, bh_ar_sai, bh_ar_sar, bh_ar_new, bh_nx_sfi, bh_nx_sfr, bh_nx_sai, bh_nx_sar, bh_nx_new, bh_nc_sfi, bh_nc_sfr, bh_nc_sai, bh_nc_sar, bh_nc_new, bh_ns_sfi, bh_ns_sfr, bh_ns_sai, bh_ns_sar, bh_ns_new, bh_k_new2, bh_fi_new2, bh_fr_new2, bh_ai_new2, bh_ar_new2, bh_nx_new2, bh_nc_new2, bh_ns_new2, Nat.lt_irrefl, Nat.le_refl, bq_le0, bq_neg, bq_nat, bq_lt, bq_le, bq_eq, bn_one, bn_dec, R.k7 hs, R.r70 hs, R.k8, R.r85, R.k61, hn, q1, q2, R.a61 hk, R.a61 hm, bn_sub ha.1])
  (refine bw_sub2 _ ?_ (r); exact ⟨rfl, rfl, rfl, rfl, rfl, trivial⟩)
/-- what a line taken over needs -/
theorem bs_need_adopt (W : ba_W) (t : ba_T) (l : List (Nat × Nat)) (i k : Nat) : bs_need W (bs_ss (bs_sl t (k, k, k)) (l ++ [(i, k)])) = ba_nd W 0 (l.map (fun q => q.2)) + ba_pl W (ba_l W (ba_ln l)) (ba_l W k - ba_l W (ba_ln l)) k := by
  rw [bs_need_eq]
  have a1 : bs_sn (bs_ss (bs_sl t (k, k, k)) (l ++ [(i, k)])) = l ++ [(i, k)] := rfl
  have a2 : bs_kept (bs_ss (bs_sl t (k, k, k)) (l ++ [(i, k)])) = k := rfl
  have a3 : bs_now (bs_ss (bs_sl t (k, k, k)) (l ++ [(i, k)])) = k := rfl
  have a4 : bs_line (bs_ss (bs_sl t (k, k, k)) (l ++ [(i, k)])) = k := ba_ln_snoc _ _
  rw [a1, a2, a3, a4, ba_pl_0, List.map_append, ba_nd_split, ba_end_ln]
  have a6 : ba_nd W (ba_ln l) (List.map (fun q => q.2) [(i, k)]) = ba_pl W (ba_l W (ba_ln l)) (ba_l W k - ba_l W (ba_ln l)) k + 0 := rfl
  omega
/-- Vault.adopt; l: the snapshots that stay -/
theorem c_adopt (R : cs_R A h0 x y h S) (hW : ba_ok (bz_W S)) (hs : s < 8) (o : bs_ok (bz_W S) (bz_T S s)) {i k : Nat} (hk : k ≤ ba_n (bz_W S)) (w : Bool) (hc : w = false → bs_kept (bz_T S s) = bs_now (bz_T S s) ∧ bs_line (bz_T S s) = bs_now (bz_T S s) ∧ ba_anc (bz_W S) (bs_line (bz_T S s)) k) : ∃ h', (∀ K : Option bi_V → bi_H → Prop, bw_C bt_P 124 [.inr (.inl (A 7 s)), .inl (Int32.ofNat i), .inl (Int32.ofNat k), .inl (if w = true then 1 else 0)] h K ↔ K none h') ∧ cs_R A h0 x y h' (bz_sT S s (bs_ss (bs_sl (bz_T S s) (k, k, k)) ((if w = true then [] else bs_sn (bz_T S s)) ++ [(i, k)]))) := by
  have n6 := hW.1
  have q1 : k < 60001 := by omega
  have V := R.vs hs hW o
  have hl := o.2.2
  obtain ⟨v1, v2, v3, v4, v5, v6⟩ := R.v hs
  have key : ∀ (h1 : bi_H) (l : List (Nat × Nat)) (b : Nat), cv_d A s [9, 10] [] h h1 → cv_s A s (bz_W S) l h1 → l.length ≤ 15 → bi_fi h1 7 10 (A 7 s) = Int32.ofNat b → ba_anc (bz_W S) (ba_ln l) (bs_now (bz_T S s)) → ba_anc (bz_W S) (ba_ln l) k → b = ba_nd (bz_W S) 0 (l.map (fun q => q.2)) → ∃ h', (∀ L : bi_L, bw_all [(0, .inr (.inl (A 7 s))), (1, .inl (Int32.ofNat i)), (2, .inl (Int32.ofNat k))] L → bw_r bt_P 124 2 L [] h1 (fun o g => o = .inl none ∧ g = h')) ∧ cs_R A h0 x y h' (bz_sT S s (bs_ss (bs_sl (bz_T S s) (k, k, k)) (l ++ [(i, k)]))) := by
    intro h1 l b D1 V1 hl1 hb han hak eb
    have R1 := D1.w (fun c hc => by simp at hc) (fun c hc => by simp at hc) R.w
    have f1 : ∀ j, ¬ j ∈ [9, 10] → bi_fi h1 7 j (A 7 s) = bi_fi h 7 j (A 7 s) := fun j hj => R.frs hs D1 hj
    have a1 : bi_ai h1 = bi_ai h := by
      funext a j
      exact D1.2.2 a j (fun c hc => by simp at hc)
    obtain ⟨h2, r2, D2, n2, m2⟩ := c_rew hW hs R1 o.1 han (by rw [f1 4 (by decide)]; exact v2.1) (fun q hq => by rw [a1]; exact v6 q hq)
    have R2 := D2.w (fun c hc => by simp at hc; omega) (fun c hc => by simp at hc; rw [hc]; exact hs) R1
    have hln : ba_ln l ≤ ba_n (bz_W S) := ba_ln_in V1.2.2.1
    have q2 : ba_ln l < 60001 := by omega
    have hll := c_lline R1 hs V1
    have hpb := c_pb R2 hW hk hak.1
    have D3 : cv_d A s [10] [] h2 (bi_sfi h2 7 10 (A 7 s) (Int32.ofNat (b + ba_pl (bz_W S) (ba_l (bz_W S) (ba_ln l)) (ba_l (bz_W S) k - ba_l (bz_W S) (ba_ln l)) k))) := cv_d.sfi h2 (by decide) _
    have R3 := D3.w (fun c hc => by simp at hc) (fun c hc => by simp at hc) R2
    obtain ⟨h4, r4, D4, n4, m4⟩ := c_adv hW hs R3 hk hak (by rw [bh_fi_sfi, if_neg (by simp)]; exact n2) (fun q hq => by rw [bh_ai_sfi]; exact m2 q hq)
    have R4 := D4.w (fun c hc => by simp at hc; omega) (fun c hc => by simp at hc; rw [hc]; exact hs) R3
    have D14 : cv_d A s [9, 10, 4] [54] h h4 := (D1.mono (by simp) (by simp)).tr ((D2.mono (by simp) (by simp)).tr ((D3.mono (by simp) (by simp)).tr (D4.mono (by simp) (by simp))))
    have D5 : cv_d A s [5, 6] [] h4 (bi_sfi (bi_sfi h4 7 5 (A 7 s) (Int32.ofNat k)) 7 6 (A 7 s) (Int32.ofNat k)) := (cv_d.sfi h4 (by decide) _).tr (cv_d.sfi _ (by decide) _)
    have R5 := D5.w (fun c hc => by simp at hc) (fun c hc => by simp at hc) R4
    have e9 : bi_fi h4 7 9 (A 7 s) = Int32.ofNat l.length := by
      rw [D4.2.1 7 9 _ (fun z => by simp at z), D3.2.1 7 9 _ (fun z => by simp at z), D2.2.1 7 9 _ (fun z => by simp at z)]
      exact V1.1
    have hai : ∀ c, (c = 55 ∨ c = 56) → ∀ j, bi_ai h4 (A c s) j = bi_ai h1 (A c s) j := fun c hc j => by
      have hcb : s < ca_bd c := by rcases hc with rfl | rfl <;> exact hs
      have hc4 : ¬ c ∈ [54] := by simp; omega
      rw [cv_d.ai R3 hs D4 (fun c hc => by simp at hc; omega) hcb hc4, bh_ai_sfi, cv_d.ai R1 hs D2 (fun c hc => by simp at hc; omega) hcb hc4]
    have V5 : cv_s A s (bz_W S) l (bi_sfi (bi_sfi h4 7 5 (A 7 s) (Int32.ofNat k)) 7 6 (A 7 s) (Int32.ofNat k)) := by
      refine ⟨?_, V1.2.1, V1.2.2.1, fun j hj => ?_⟩
      · simp +decide only [bh_fi_sfi, if_false]
        exact e9
      · rw [bh_ai_sfi, bh_ai_sfi, hai 55 (Or.inl rfl), hai 56 (Or.inr rfl)]
        exact V1.2.2.2 j hj
    have V6 := V5.shelve R5 hs (by omega) i k hk
    have hsh := c_shelve0 R5 hs (show l.length < 16 by omega) V5.1 (Int32.ofNat i)
    have e4 : bi_fi (bi_sfi (bi_sfi h4 7 5 (A 7 s) (Int32.ofNat k)) 7 6 (A 7 s) (Int32.ofNat k)) 7 4 (A 7 s) = Int32.ofNat k := by
      simp +decide only [bh_fi_sfi, if_false]
      exact n4
    rw [e4] at hsh
    have D6 : cv_d A s [9, 10, 4, 5, 6] [54, 55, 56] h (bi_sfi (bi_sai (bi_sai (bi_sfi (bi_sfi h4 7 5 (A 7 s) (Int32.ofNat k)) 7 6 (A 7 s) (Int32.ofNat k)) (A 55 s) l.length (Int32.ofNat i)) (A 56 s) l.length (Int32.ofNat k)) 7 9 (A 7 s) (Int32.ofNat (l.length + 1))) := (D14.mono (by simp) (by simp)).tr ((D5.mono (by simp) (by simp)).tr (cv_d.shelve _ (by decide) (by decide) (by decide) _ _ _ _))
    have n5 := R.w.ne (c := 54) (i := s) (c' := 55) (i' := s) hs hs (Or.inl (by decide))
    have n7 := R.w.ne (c := 54) (i := s) (c' := 56) (i' := s) hs hs (Or.inl (by decide))
    refine ⟨_, fun L hL => ?_, R.V hs D6 (fun c hc => by simp at hc; omega) rfl rfl rfl ⟨?_, ⟨?_, ?_, ?_⟩, V6.1.trans (by show _ = Int32.ofNat (l ++ [(i, k)]).length; rw [List.length_append]), ?_, fun j hj => V6.2.2.2 j hj, fun q hq => ?_⟩⟩
    · refine bw_sub2 _ hL ?_
      (refine bw_step rfl ?_; simp +decide only [bw_gi_s, bw_ga_s, bw_go_s, bw_w_i, bw_w_a, bw_w_l, bw_sum_n, bw_sum_c, bw_xs_n, bw_iconst, bw_bipush, bw_sipush, bw_ldc, bw_ldc_w, bw_anull, bw_iload0, bw_aload0, bw_istore0, bw_astore0, bw_iload1, bw_aload1, bw_istore1, bw_astore1, bw_iload2, bw_aload2, bw_istore2, bw_astore2, bw_iload3, bw_aload3, bw_istore3, bw_astore3, bw_iload, bw_aload, bw_istore, bw_astore, bw_iinc, bw_iadd, bw_isub, bw_imul, bw_iand, bw_ixor, bw_idiv, bw_irem, bw_i2l, bw_lcmp, bw_dupi, bw_dupa, bw_dup2ia, bw_dup2ii, bw_getf0, bw_getf2, bw_getf1, bw_putf0, bw_putf2, bw_putf1, bw_iaload, bw_baload, bw_laload, bw_aaload, bw_iastore, bw_bastore, bw_lastore, bw_aastore, bw_alen, bw_newa_int, bw_newa_boolean, bw_newa_long, bw_anewa, bw_multi, bw_new, bw_static, bw_virt, bw_obj, bw_t_nop, bw_t_goto, bw_t_eq_z, bw_t_eq_i, bw_t_ne_z, bw_t_ne_i, bw_t_lt_z, bw_t_lt_i, bw_t_ge_z, bw_t_ge_i, bw_t_gt_z, bw_t_gt_i, bw_t_le_z, bw_t_le_i, bw_t_null, bw_t_nonnull, bw_t_switch, bw_t_ireturn0, bw_t_ireturn1, bw_t_areturn, bw_t_return, bw_t_athrow, bw_t_try, List.lookup_cons, List.lookup_nil, bi_st, List.filter_cons, List.filter_nil, List.take_succ_cons, List.take_zero, List.take_nil, List.drop_succ_cons, List.drop_zero, List.reverse_cons, List.reverse_nil, List.nil_append, List.cons_append, Option.toList_some, Option.toList_none, List.length_cons, List.length_nil, bi_loc, List.zipIdx_cons, List.zipIdx_nil, List.map_cons, List.map_nil, List.getD_cons_zero, List.getD_cons_succ, Nat.zero_add, Bool.not_true, Bool.not_false, Bool.false_eq_true, if_true, if_false, ite_true, ite_false, ↓reduceIte, true_and, and_true, Bool.not_eq_true, beq_self_eq_true, Nat.reduceBEq, Nat.reduceEqDiff, Nat.reduceAdd, Nat.reduceLeDiff, Nat.reduceLT, Nat.reduceSub, Nat.reduceMul, Int32.reduceOfInt, Int32.reduceOfNat, Int32.reduceToNatClampNeg, Int32.reduceLT, Int32.reduceLE, Int32.reduceAdd, Int32.reduceSub, Int32.reduceMul, Int32.reduceDiv, Int32.reduceToInt, Int.reduceLT, Int.reduceSub, Int.reduceToNat, not_false_eq_true, ne_eq, or_true, true_or, or_false, false_or, and_false, false_and, not_true_eq_false, reduceCtorEq, and_self, or_self, eq_self, bh_k_sfi, bh_k_sfr, bh_k_sai, bh_k_sar, bh_k_new, bh_fi_sfi, bh_fi_sfr, bh_fi_sai, bh_fi_sar, bh_fi_new, bh_fr_sfi, bh_fr_sfr, bh_fr_sai, bh_fr_sar, bh_fr_new, bh_ai_sfi, bh_ai_sfr, bh_ai_sai, bh_ai_sar, bh_ai_new, bh_ar_sfi, bh_ar_sfr, bh_ar_sai, bh_ar_sar, bh_ar_new, bh_nx_sfi, bh_nx_sfr, bh_nx_sai, bh_nx_sar, bh_nx_new, bh_nc_sfi, bh_nc_sfr, bh_nc_sai, bh_nc_sar, bh_nc_new, bh_ns_sfi, bh_ns_sfr, bh_ns_sai, bh_ns_sar, bh_ns_new, bh_k_new2, bh_fi_new2, bh_fr_new2, bh_ai_new2, bh_ar_new2, bh_nx_new2, bh_nc_new2, bh_ns_new2, Nat.lt_irrefl, Nat.le_refl, bq_le0, bq_neg, bq_nat, bq_lt, bq_le, bq_eq, bn_one, bn_dec, R1.k7 hs, hll, r2, R2.k7 hs, R2.r70 hs, R2.k8, R2.r85, R2.k61, n2, q2, R2.a61 hln, hpb, D2.2.1 7 10 (A 7 s) (fun z => by simp at z), hb, bn_add, r4, R4.k7 hs, hsh, D4.1.1])
    · rw [R.frs hs D6 (by decide), R.frs hs D6 (by decide)]
      exact v1
    · simp +decide only [bh_fi_sfi, bh_fi_sai, if_false]
      exact n4
    · simp +decide only [bh_fi_sfi, bh_fi_sai]
      rfl
    · simp +decide only [bh_fi_sfi, bh_fi_sai]
      rfl
    · simp +decide only [bh_fi_sfi, bh_fi_sai, if_false]
      rw [D4.2.1 7 10 _ (fun z => by simp at z), bh_fi_sfi, if_pos ⟨rfl, rfl, rfl⟩, bs_need_adopt, eb]
    · rw [bh_ai_sfi, bh_ai_sai, bh_ai_sai]
      simp only [n5, n7, false_and, if_false, bh_ai_sfi]
      exact m4 q hq
  cases w with
  | true =>
    have D1 : cv_d A s [9, 10] [] h (bi_sfi (bi_sfi h 7 9 (A 7 s) 0) 7 10 (A 7 s) 0) := (cv_d.sfi h (by decide) _).tr (cv_d.sfi _ (by decide) _)
    obtain ⟨h', r, R'⟩ := key _ [] 0 D1 ⟨by simp +decide only [bh_fi_sfi]; rfl, by simp, fun j hj => by simp at hj, fun j hj => by simp at hj⟩ (by simp) (by simp +decide only [bh_fi_sfi]; rfl) (ba_anc_0 hW o.1) (ba_anc_0 hW hk) rfl
    refine ⟨h', fun K => ?_, R'⟩
    refine bw_C_iff ?_ K
    (refine bw_step rfl ?_; simp +decide only [bw_gi_s, bw_ga_s, bw_go_s, bw_w_i, bw_w_a, bw_w_l, bw_sum_n, bw_sum_c, bw_xs_n, bw_iconst, bw_bipush, bw_sipush, bw_ldc, bw_ldc_w, bw_anull, bw_iload0, bw_aload0, bw_istore0, bw_astore0, bw_iload1, bw_aload1, bw_istore1, bw_astore1, bw_iload2, bw_aload2, bw_istore2, bw_astore2, bw_iload3, bw_aload3, bw_istore3, bw_astore3, bw_iload, bw_aload, bw_istore, bw_astore, bw_iinc, bw_iadd, bw_isub, bw_imul, bw_iand, bw_ixor, bw_idiv, bw_irem, bw_i2l, bw_lcmp, bw_dupi, bw_dupa, bw_dup2ia, bw_dup2ii, bw_getf0, bw_getf2, bw_getf1, bw_putf0, bw_putf2, bw_putf1, bw_iaload, bw_baload, bw_laload, bw_aaload, bw_iastore, bw_bastore, bw_lastore, bw_aastore, bw_alen, bw_newa_int, bw_newa_boolean, bw_newa_long, bw_anewa, bw_multi, bw_new, bw_static, bw_virt, bw_obj, bw_t_nop, bw_t_goto, bw_t_eq_z, bw_t_eq_i, bw_t_ne_z, bw_t_ne_i, bw_t_lt_z, bw_t_lt_i, bw_t_ge_z, bw_t_ge_i, bw_t_gt_z, bw_t_gt_i, bw_t_le_z, bw_t_le_i, bw_t_null, bw_t_nonnull, bw_t_switch, bw_t_ireturn0, bw_t_ireturn1, bw_t_areturn, bw_t_return, bw_t_athrow, bw_t_try, List.lookup_cons, List.lookup_nil, bi_st, List.filter_cons, List.filter_nil, List.take_succ_cons, List.take_zero, List.take_nil, List.drop_succ_cons, List.drop_zero, List.reverse_cons, List.reverse_nil, List.nil_append, List.cons_append, Option.toList_some, Option.toList_none, List.length_cons, List.length_nil, bi_loc, List.zipIdx_cons, List.zipIdx_nil, List.map_cons, List.map_nil, List.getD_cons_zero, List.getD_cons_succ, Nat.zero_add, Bool.not_true, Bool.not_false, Bool.false_eq_true, if_true, if_false, ite_true, ite_false, ↓reduceIte, true_and, and_true, Bool.not_eq_true, beq_self_eq_true, Nat.reduceBEq, Nat.reduceEqDiff, Nat.reduceAdd, Nat.reduceLeDiff, Nat.reduceLT, Nat.reduceSub, Nat.reduceMul, Int32.reduceOfInt, Int32.reduceOfNat, Int32.reduceToNatClampNeg, Int32.reduceLT, Int32.reduceLE, Int32.reduceAdd, Int32.reduceSub, Int32.reduceMul, Int32.reduceDiv, Int32.reduceToInt, Int.reduceLT, Int.reduceSub, Int.reduceToNat, not_false_eq_true, ne_eq, or_true, true_or, or_false, false_or, and_false, false_and, not_true_eq_false, reduceCtorEq, and_self, or_self, eq_self, bh_k_sfi, bh_k_sfr, bh_k_sai, bh_k_sar, bh_k_new, bh_fi_sfi, bh_fi_sfr, bh_fi_sai, bh_fi_sar, bh_fi_new, bh_fr_sfi, bh_fr_sfr, bh_fr_sai, bh_fr_sar, bh_fr_new, bh_ai_sfi, bh_ai_sfr, bh_ai_sai, bh_ai_sar, bh_ai_new, bh_ar_sfi, bh_ar_sfr, bh_ar_sai, bh_ar_sar, bh_ar_new, bh_nx_sfi, bh_nx_sfr, bh_nx_sai, bh_nx_sar, bh_nx_new, bh_nc_sfi, bh_nc_sfr, bh_nc_sai, bh_nc_sar, bh_nc_new, bh_ns_sfi, bh_ns_sfr, bh_ns_sai, bh_ns_sar, bh_ns_new, bh_k_new2, bh_fi_new2, bh_fr_new2, bh_ai_new2, bh_ar_new2, bh_nx_new2, bh_nc_new2, bh_ns_new2, Nat.lt_irrefl, Nat.le_refl, bq_le0, bq_neg, bq_nat, bq_lt, bq_le, bq_eq, bn_one, bn_dec])
    (refine bw_step rfl ?_; simp +decide only [bw_gi_s, bw_ga_s, bw_go_s, bw_w_i, bw_w_a, bw_w_l, bw_sum_n, bw_sum_c, bw_xs_n, bw_iconst, bw_bipush, bw_sipush, bw_ldc, bw_ldc_w, bw_anull, bw_iload0, bw_aload0, bw_istore0, bw_astore0, bw_iload1, bw_aload1, bw_istore1, bw_astore1, bw_iload2, bw_aload2, bw_istore2, bw_astore2, bw_iload3, bw_aload3, bw_istore3, bw_astore3, bw_iload, bw_aload, bw_istore, bw_astore, bw_iinc, bw_iadd, bw_isub, bw_imul, bw_iand, bw_ixor, bw_idiv, bw_irem, bw_i2l, bw_lcmp, bw_dupi, bw_dupa, bw_dup2ia, bw_dup2ii, bw_getf0, bw_getf2, bw_getf1, bw_putf0, bw_putf2, bw_putf1, bw_iaload, bw_baload, bw_laload, bw_aaload, bw_iastore, bw_bastore, bw_lastore, bw_aastore, bw_alen, bw_newa_int, bw_newa_boolean, bw_newa_long, bw_anewa, bw_multi, bw_new, bw_static, bw_virt, bw_obj, bw_t_nop, bw_t_goto, bw_t_eq_z, bw_t_eq_i, bw_t_ne_z, bw_t_ne_i, bw_t_lt_z, bw_t_lt_i, bw_t_ge_z, bw_t_ge_i, bw_t_gt_z, bw_t_gt_i, bw_t_le_z, bw_t_le_i, bw_t_null, bw_t_nonnull, bw_t_switch, bw_t_ireturn0, bw_t_ireturn1, bw_t_areturn, bw_t_return, bw_t_athrow, bw_t_try, List.lookup_cons, List.lookup_nil, bi_st, List.filter_cons, List.filter_nil, List.take_succ_cons, List.take_zero, List.take_nil, List.drop_succ_cons, List.drop_zero, List.reverse_cons, List.reverse_nil, List.nil_append, List.cons_append, Option.toList_some, Option.toList_none, List.length_cons, List.length_nil, bi_loc, List.zipIdx_cons, List.zipIdx_nil, List.map_cons, List.map_nil, List.getD_cons_zero, List.getD_cons_succ, Nat.zero_add, Bool.not_true, Bool.not_false, Bool.false_eq_true, if_true, if_false, ite_true, ite_false, ↓reduceIte, true_and, and_true, Bool.not_eq_true, beq_self_eq_true, Nat.reduceBEq, Nat.reduceEqDiff, Nat.reduceAdd, Nat.reduceLeDiff, Nat.reduceLT, Nat.reduceSub, Nat.reduceMul, Int32.reduceOfInt, Int32.reduceOfNat, Int32.reduceToNatClampNeg, Int32.reduceLT, Int32.reduceLE, Int32.reduceAdd, Int32.reduceSub, Int32.reduceMul, Int32.reduceDiv, Int32.reduceToInt, Int.reduceLT, Int.reduceSub, Int.reduceToNat, not_false_eq_true, ne_eq, or_true, true_or, or_false, false_or, and_false, false_and, not_true_eq_false, reduceCtorEq, and_self, or_self, eq_self, bh_k_sfi, bh_k_sfr, bh_k_sai, bh_k_sar, bh_k_new, bh_fi_sfi, bh_fi_sfr, bh_fi_sai, bh_fi_sar, bh_fi_new, bh_fr_sfi, bh_fr_sfr, bh_fr_sai, bh_fr_sar, bh_fr_new, bh_ai_sfi, bh_ai_sfr, bh_ai_sai, bh_ai_sar, bh_ai_new, bh_ar_sfi, bh_ar_sfr, bh_ar_sai, bh_ar_sar, bh_ar_new, bh_nx_sfi, bh_nx_sfr, bh_nx_sai, bh_nx_sar, bh_nx_new, bh_nc_sfi, bh_nc_sfr, bh_nc_sai, bh_nc_sar, bh_nc_new, bh_ns_sfi, bh_ns_sfr, bh_ns_sai, bh_ns_sar, bh_ns_new, bh_k_new2, bh_fi_new2, bh_fr_new2, bh_ai_new2, bh_ar_new2, bh_nx_new2, bh_nc_new2, bh_ns_new2, Nat.lt_irrefl, Nat.le_refl, bq_le0, bq_neg, bq_nat, bq_lt, bq_le, bq_eq, bn_one, bn_dec, R.w.k7 hs, bl_i0])
    exact r _ ⟨rfl, rfl, rfl, trivial⟩
  | false =>
    obtain ⟨c1, c2, c3⟩ := hc rfl
    obtain ⟨h', r, R'⟩ := key h (bs_sn (bz_T S s)) (bs_need (bz_W S) (bz_T S s)) (cv_d.rf h) V hl v4 (by show ba_anc _ (bs_line (bz_T S s)) _; rw [c2]; exact ba_anc_rf _ _) c3 (by rw [bs_need_eq, c1, c2, ba_pl_0]; rfl)
    refine ⟨h', fun K => ?_, R'⟩
    refine bw_C_iff ?_ K
    (refine bw_step rfl ?_; simp +decide only [bw_gi_s, bw_ga_s, bw_go_s, bw_w_i, bw_w_a, bw_w_l, bw_sum_n, bw_sum_c, bw_xs_n, bw_iconst, bw_bipush, bw_sipush, bw_ldc, bw_ldc_w, bw_anull, bw_iload0, bw_aload0, bw_istore0, bw_astore0, bw_iload1, bw_aload1, bw_istore1, bw_astore1, bw_iload2, bw_aload2, bw_istore2, bw_astore2, bw_iload3, bw_aload3, bw_istore3, bw_astore3, bw_iload, bw_aload, bw_istore, bw_astore, bw_iinc, bw_iadd, bw_isub, bw_imul, bw_iand, bw_ixor, bw_idiv, bw_irem, bw_i2l, bw_lcmp, bw_dupi, bw_dupa, bw_dup2ia, bw_dup2ii, bw_getf0, bw_getf2, bw_getf1, bw_putf0, bw_putf2, bw_putf1, bw_iaload, bw_baload, bw_laload, bw_aaload, bw_iastore, bw_bastore, bw_lastore, bw_aastore, bw_alen, bw_newa_int, bw_newa_boolean, bw_newa_long, bw_anewa, bw_multi, bw_new, bw_static, bw_virt, bw_obj, bw_t_nop, bw_t_goto, bw_t_eq_z, bw_t_eq_i, bw_t_ne_z, bw_t_ne_i, bw_t_lt_z, bw_t_lt_i, bw_t_ge_z, bw_t_ge_i, bw_t_gt_z, bw_t_gt_i, bw_t_le_z, bw_t_le_i, bw_t_null, bw_t_nonnull, bw_t_switch, bw_t_ireturn0, bw_t_ireturn1, bw_t_areturn, bw_t_return, bw_t_athrow, bw_t_try, List.lookup_cons, List.lookup_nil, bi_st, List.filter_cons, List.filter_nil, List.take_succ_cons, List.take_zero, List.take_nil, List.drop_succ_cons, List.drop_zero, List.reverse_cons, List.reverse_nil, List.nil_append, List.cons_append, Option.toList_some, Option.toList_none, List.length_cons, List.length_nil, bi_loc, List.zipIdx_cons, List.zipIdx_nil, List.map_cons, List.map_nil, List.getD_cons_zero, List.getD_cons_succ, Nat.zero_add, Bool.not_true, Bool.not_false, Bool.false_eq_true, if_true, if_false, ite_true, ite_false, ↓reduceIte, true_and, and_true, Bool.not_eq_true, beq_self_eq_true, Nat.reduceBEq, Nat.reduceEqDiff, Nat.reduceAdd, Nat.reduceLeDiff, Nat.reduceLT, Nat.reduceSub, Nat.reduceMul, Int32.reduceOfInt, Int32.reduceOfNat, Int32.reduceToNatClampNeg, Int32.reduceLT, Int32.reduceLE, Int32.reduceAdd, Int32.reduceSub, Int32.reduceMul, Int32.reduceDiv, Int32.reduceToInt, Int.reduceLT, Int.reduceSub, Int.reduceToNat, not_false_eq_true, ne_eq, or_true, true_or, or_false, false_or, and_false, false_and, not_true_eq_false, reduceCtorEq, and_self, or_self, eq_self, bh_k_sfi, bh_k_sfr, bh_k_sai, bh_k_sar, bh_k_new, bh_fi_sfi, bh_fi_sfr, bh_fi_sai, bh_fi_sar, bh_fi_new, bh_fr_sfi, bh_fr_sfr, bh_fr_sai, bh_fr_sar, bh_fr_new, bh_ai_sfi, bh_ai_sfr, bh_ai_sai, bh_ai_sar, bh_ai_new, bh_ar_sfi, bh_ar_sfr, bh_ar_sai, bh_ar_sar, bh_ar_new, bh_nx_sfi, bh_nx_sfr, bh_nx_sai, bh_nx_sar, bh_nx_new, bh_nc_sfi, bh_nc_sfr, bh_nc_sai, bh_nc_sar, bh_nc_new, bh_ns_sfi, bh_ns_sfr, bh_ns_sai, bh_ns_sar, bh_ns_new, bh_k_new2, bh_fi_new2, bh_fr_new2, bh_ai_new2, bh_ar_new2, bh_nx_new2, bh_nc_new2, bh_ns_new2, Nat.lt_irrefl, Nat.le_refl, bq_le0, bq_neg, bq_nat, bq_lt, bq_le, bq_eq, bn_one, bn_dec])
    exact r _ ⟨rfl, rfl, rfl, trivial⟩
/-- Vault.returnTo: its loop -/
theorem cl_ret {p : Nat} {W : ba_W} (hW : ba_ok W) (hs : s < 8) {l : List (Nat × Nat)} (hch : ∀ i j, i ≤ j → j < l.length → ba_anc W (l.getD i (0, 0)).2 (l.getD j (0, 0)).2) : ∀ (d i : Nat) (h : bi_H), cw_R A p W h → cv_s A s W l h → d + i = l.length → bi_fi h 7 10 (A 7 s) = Int32.ofNat (ba_nd W 0 ((l.take i).map (fun q => q.2))) → ∃ h', bw_r bt_P 146 1 [(0, .inr (.inl (A 7 s))), (2, .inl (Int32.ofNat (ba_l W (ba_ln (l.take i))))), (3, .inl (Int32.ofNat i))] [] h (fun o g => o = .inl none ∧ g = h') ∧ cv_d A s [10] [] h h' ∧ bi_fi h' 7 10 (A 7 s) = Int32.ofNat (ba_nd W 0 (l.map (fun q => q.2)))
  | 0, i, h, R, V, hd, hb => by
    have e : l.length = i := by omega
    have q1 : i < 60001 := by have := V.2.1; omega
    have v1 := V.1
    rw [e] at v1
    rw [List.take_of_length_le (by omega)] at hb ⊢
    refine ⟨h, ?_, cv_d.rf h, hb⟩
    (refine bw_step rfl ?_; simp +decide only [bw_gi_s, bw_ga_s, bw_go_s, bw_w_i, bw_w_a, bw_w_l, bw_sum_n, bw_sum_c, bw_xs_n, bw_iconst, bw_bipush, bw_sipush, bw_ldc, bw_ldc_w, bw_anull, bw_iload0, bw_aload0, bw_istore0, bw_astore0, bw_iload1, bw_aload1, bw_istore1, bw_astore1, bw_iload2, bw_aload2, bw_istore2, bw_astore2, bw_iload3, bw_aload3, bw_istore3, bw_astore3, bw_iload, bw_aload, bw_istore, bw_astore, bw_iinc, bw_iadd, bw_isub, bw_imul, bw_iand, bw_ixor, bw_idiv, bw_irem, bw_i2l, bw_lcmp, bw_dupi, bw_dupa, bw_dup2ia, bw_dup2ii, bw_getf0, bw_getf2, bw_getf1, bw_putf0, bw_putf2, bw_putf1, bw_iaload, bw_baload, bw_laload, bw_aaload, bw_iastore, bw_bastore, bw_lastore, bw_aastore, bw_alen, bw_newa_int, bw_newa_boolean, bw_newa_long, bw_anewa, bw_multi, bw_new, bw_static, bw_virt, bw_obj, bw_t_nop, bw_t_goto, bw_t_eq_z, bw_t_eq_i, bw_t_ne_z, bw_t_ne_i, bw_t_lt_z, bw_t_lt_i, bw_t_ge_z, bw_t_ge_i, bw_t_gt_z, bw_t_gt_i, bw_t_le_z, bw_t_le_i, bw_t_null, bw_t_nonnull, bw_t_switch, bw_t_ireturn0, bw_t_ireturn1, bw_t_areturn, bw_t_return, bw_t_athrow, bw_t_try, List.lookup_cons, List.lookup_nil, bi_st, List.filter_cons, List.filter_nil, List.take_succ_cons, List.take_zero, List.take_nil, List.drop_succ_cons, List.drop_zero, List.reverse_cons, List.reverse_nil, List.nil_append, List.cons_append, Option.toList_some, Option.toList_none, List.length_cons, List.length_nil, bi_loc, List.zipIdx_cons, List.zipIdx_nil, List.map_cons, List.map_nil, List.getD_cons_zero, List.getD_cons_succ, Nat.zero_add, Bool.not_true, Bool.not_false, Bool.false_eq_true, if_true, if_false, ite_true, ite_false, ↓reduceIte, true_and, and_true, Bool.not_eq_true, beq_self_eq_true, Nat.reduceBEq, Nat.reduceEqDiff, Nat.reduceAdd, Nat.reduceLeDiff, Nat.reduceLT, Nat.reduceSub, Nat.reduceMul, Int32.reduceOfInt, Int32.reduceOfNat, Int32.reduceToNatClampNeg, Int32.reduceLT, Int32.reduceLE, Int32.reduceAdd, Int32.reduceSub, Int32.reduceMul, Int32.reduceDiv, Int32.reduceToInt, Int.reduceLT, Int.reduceSub, Int.reduceToNat, not_false_eq_true, ne_eq, or_true, true_or, or_false, false_or, and_false, false_and, not_true_eq_false, reduceCtorEq, and_self, or_self, eq_self, bh_k_sfi, bh_k_sfr, bh_k_sai, bh_k_sar, bh_k_new, bh_fi_sfi, bh_fi_sfr, bh_fi_sai, bh_fi_sar, bh_fi_new, bh_fr_sfi, bh_fr_sfr, bh_fr_sai, bh_fr_sar, bh_fr_new, bh_ai_sfi, bh_ai_sfr, bh_ai_sai, bh_ai_sar, bh_ai_new, bh_ar_sfi, bh_ar_sfr, bh_ar_sai, bh_ar_sar, bh_ar_new, bh_nx_sfi, bh_nx_sfr, bh_nx_sai, bh_nx_sar, bh_nx_new, bh_nc_sfi, bh_nc_sfr, bh_nc_sai, bh_nc_sar, bh_nc_new, bh_ns_sfi, bh_ns_sfr, bh_ns_sai, bh_ns_sar, bh_ns_new, bh_k_new2, bh_fi_new2, bh_fr_new2, bh_ai_new2, bh_ar_new2, bh_nx_new2, bh_nc_new2, bh_ns_new2, Nat.lt_irrefl, Nat.le_refl, bq_le0, bq_neg, bq_nat, bq_lt, bq_le, bq_eq, bn_one, bn_dec, R.k7 hs, v1, q1])
    (refine bw_step rfl ?_; simp +decide only [bw_gi_s, bw_ga_s, bw_go_s, bw_w_i, bw_w_a, bw_w_l, bw_sum_n, bw_sum_c, bw_xs_n, bw_iconst, bw_bipush, bw_sipush, bw_ldc, bw_ldc_w, bw_anull, bw_iload0, bw_aload0, bw_istore0, bw_astore0, bw_iload1, bw_aload1, bw_istore1, bw_astore1, bw_iload2, bw_aload2, bw_istore2, bw_astore2, bw_iload3, bw_aload3, bw_istore3, bw_astore3, bw_iload, bw_aload, bw_istore, bw_astore, bw_iinc, bw_iadd, bw_isub, bw_imul, bw_iand, bw_ixor, bw_idiv, bw_irem, bw_i2l, bw_lcmp, bw_dupi, bw_dupa, bw_dup2ia, bw_dup2ii, bw_getf0, bw_getf2, bw_getf1, bw_putf0, bw_putf2, bw_putf1, bw_iaload, bw_baload, bw_laload, bw_aaload, bw_iastore, bw_bastore, bw_lastore, bw_aastore, bw_alen, bw_newa_int, bw_newa_boolean, bw_newa_long, bw_anewa, bw_multi, bw_new, bw_static, bw_virt, bw_obj, bw_t_nop, bw_t_goto, bw_t_eq_z, bw_t_eq_i, bw_t_ne_z, bw_t_ne_i, bw_t_lt_z, bw_t_lt_i, bw_t_ge_z, bw_t_ge_i, bw_t_gt_z, bw_t_gt_i, bw_t_le_z, bw_t_le_i, bw_t_null, bw_t_nonnull, bw_t_switch, bw_t_ireturn0, bw_t_ireturn1, bw_t_areturn, bw_t_return, bw_t_athrow, bw_t_try, List.lookup_cons, List.lookup_nil, bi_st, List.filter_cons, List.filter_nil, List.take_succ_cons, List.take_zero, List.take_nil, List.drop_succ_cons, List.drop_zero, List.reverse_cons, List.reverse_nil, List.nil_append, List.cons_append, Option.toList_some, Option.toList_none, List.length_cons, List.length_nil, bi_loc, List.zipIdx_cons, List.zipIdx_nil, List.map_cons, List.map_nil, List.getD_cons_zero, List.getD_cons_succ, Nat.zero_add, Bool.not_true, Bool.not_false, Bool.false_eq_true, if_true, if_false, ite_true, ite_false, ↓reduceIte, true_and, and_true, Bool.not_eq_true, beq_self_eq_true, Nat.reduceBEq, Nat.reduceEqDiff, Nat.reduceAdd, Nat.reduceLeDiff, Nat.reduceLT, Nat.reduceSub, Nat.reduceMul, Int32.reduceOfInt, Int32.reduceOfNat, Int32.reduceToNatClampNeg, Int32.reduceLT, Int32.reduceLE, Int32.reduceAdd, Int32.reduceSub, Int32.reduceMul, Int32.reduceDiv, Int32.reduceToInt, Int.reduceLT, Int.reduceSub, Int.reduceToNat, not_false_eq_true, ne_eq, or_true, true_or, or_false, false_or, and_false, false_and, not_true_eq_false, reduceCtorEq, and_self, or_self, eq_self, bh_k_sfi, bh_k_sfr, bh_k_sai, bh_k_sar, bh_k_new, bh_fi_sfi, bh_fi_sfr, bh_fi_sai, bh_fi_sar, bh_fi_new, bh_fr_sfi, bh_fr_sfr, bh_fr_sai, bh_fr_sar, bh_fr_new, bh_ai_sfi, bh_ai_sfr, bh_ai_sai, bh_ai_sar, bh_ai_new, bh_ar_sfi, bh_ar_sfr, bh_ar_sai, bh_ar_sar, bh_ar_new, bh_nx_sfi, bh_nx_sfr, bh_nx_sai, bh_nx_sar, bh_nx_new, bh_nc_sfi, bh_nc_sfr, bh_nc_sai, bh_nc_sar, bh_nc_new, bh_ns_sfi, bh_ns_sfr, bh_ns_sai, bh_ns_sar, bh_ns_new, bh_k_new2, bh_fi_new2, bh_fr_new2, bh_ai_new2, bh_ar_new2, bh_nx_new2, bh_nc_new2, bh_ns_new2, Nat.lt_irrefl, Nat.le_refl, bq_le0, bq_neg, bq_nat, bq_lt, bq_le, bq_eq, bn_one, bn_dec])
  | d + 1, i, h, R, V, hd, hb => by
    have hi : i < l.length := by omega
    have n6 := hW.1
    have h2 := V.2.1
    have q1 : i < 60001 := by omega
    have q2 : l.length < 60001 := by omega
    have q3 : i < 16 := by omega
    have hli := V.2.2.1 i hi
    have hln : ba_anc W (ba_ln (l.take i)) (l.getD i (0, 0)).2 := by
      rw [ba_take_ln (by omega)]
      split
      · exact ba_anc_0 hW hli
      · exact hch _ _ (by omega) hi
    have hpb := c_pb R hW hli hln.1
    have hlo := c_lenOf R hW hs V hi
    have et : l.take (i + 1) = l.take i ++ [l.getD i (0, 0)] := by
      rw [List.take_succ, List.getD_eq_getElem?_getD, List.getElem?_eq_getElem hi]
      rfl
    have en : ba_nd W 0 ((l.take (i + 1)).map (fun q => q.2)) = ba_nd W 0 ((l.take i).map (fun q => q.2)) + ba_pl W (ba_l W (ba_ln (l.take i))) (ba_l W (l.getD i (0, 0)).2 - ba_l W (ba_ln (l.take i))) (l.getD i (0, 0)).2 := by
      rw [et, List.map_append, ba_nd_split, ba_end_ln]
      rfl
    have el : ba_ln (l.take (i + 1)) = (l.getD i (0, 0)).2 := by rw [et, ba_ln_snoc]
    have D1 : cv_d A s [10] [] h (bi_sfi h 7 10 (A 7 s) (Int32.ofNat (ba_nd W 0 ((l.take i).map (fun q => q.2)) + ba_pl W (ba_l W (ba_ln (l.take i))) (ba_l W (l.getD i (0, 0)).2 - ba_l W (ba_ln (l.take i))) (l.getD i (0, 0)).2))) := cv_d.sfi h (by decide) _
    have R1 := D1.w (fun c hc => by simp at hc) (fun c hc => by simp at hc) R
    have V1 : cv_s A s W l (bi_sfi h 7 10 (A 7 s) (Int32.ofNat (ba_nd W 0 ((l.take i).map (fun q => q.2)) + ba_pl W (ba_l W (ba_ln (l.take i))) (ba_l W (l.getD i (0, 0)).2 - ba_l W (ba_ln (l.take i))) (l.getD i (0, 0)).2))) := ⟨by rw [bh_fi_sfi, if_neg (by simp)]; exact V.1, V.2.1, V.2.2.1, V.2.2.2⟩
    obtain ⟨h', r, D2, e2⟩ := cl_ret hW hs hch d (i + 1) _ R1 V1 (by omega) (by rw [bh_fi_sfi, if_pos ⟨rfl, rfl, rfl⟩, en])
    have hlo1 := c_lenOf R1 hW hs V1 hi
    rw [el] at r
    refine ⟨h', ?_, D1.tr D2, e2⟩
    (refine bw_step rfl ?_; simp +decide only [bw_gi_s, bw_ga_s, bw_go_s, bw_w_i, bw_w_a, bw_w_l, bw_sum_n, bw_sum_c, bw_xs_n, bw_iconst, bw_bipush, bw_sipush, bw_ldc, bw_ldc_w, bw_anull, bw_iload0, bw_aload0, bw_istore0, bw_astore0, bw_iload1, bw_aload1, bw_istore1, bw_astore1, bw_iload2, bw_aload2, bw_istore2, bw_astore2, bw_iload3, bw_aload3, bw_istore3, bw_astore3, bw_iload, bw_aload, bw_istore, bw_astore, bw_iinc, bw_iadd, bw_isub, bw_imul, bw_iand, bw_ixor, bw_idiv, bw_irem, bw_i2l, bw_lcmp, bw_dupi, bw_dupa, bw_dup2ia, bw_dup2ii, bw_getf0, bw_getf2, bw_getf1, bw_putf0, bw_putf2, bw_putf1, bw_iaload, bw_baload, bw_laload, bw_aaload, bw_iastore, bw_bastore, bw_lastore, bw_aastore, bw_alen, bw_newa_int, bw_newa_boolean, bw_newa_long, bw_anewa, bw_multi, bw_new, bw_static, bw_virt, bw_obj, bw_t_nop, bw_t_goto, bw_t_eq_z, bw_t_eq_i, bw_t_ne_z, bw_t_ne_i, bw_t_lt_z, bw_t_lt_i, bw_t_ge_z, bw_t_ge_i, bw_t_gt_z, bw_t_gt_i, bw_t_le_z, bw_t_le_i, bw_t_null, bw_t_nonnull, bw_t_switch, bw_t_ireturn0, bw_t_ireturn1, bw_t_areturn, bw_t_return, bw_t_athrow, bw_t_try, List.lookup_cons, List.lookup_nil, bi_st, List.filter_cons, List.filter_nil, List.take_succ_cons, List.take_zero, List.take_nil, List.drop_succ_cons, List.drop_zero, List.reverse_cons, List.reverse_nil, List.nil_append, List.cons_append, Option.toList_some, Option.toList_none, List.length_cons, List.length_nil, bi_loc, List.zipIdx_cons, List.zipIdx_nil, List.map_cons, List.map_nil, List.getD_cons_zero, List.getD_cons_succ, Nat.zero_add, Bool.not_true, Bool.not_false, Bool.false_eq_true, if_true, if_false, ite_true, ite_false, ↓reduceIte, true_and, and_true, Bool.not_eq_true, beq_self_eq_true, Nat.reduceBEq, Nat.reduceEqDiff, Nat.reduceAdd, Nat.reduceLeDiff, Nat.reduceLT, Nat.reduceSub, Nat.reduceMul, Int32.reduceOfInt, Int32.reduceOfNat, Int32.reduceToNatClampNeg, Int32.reduceLT, Int32.reduceLE, Int32.reduceAdd, Int32.reduceSub, Int32.reduceMul, Int32.reduceDiv, Int32.reduceToInt, Int.reduceLT, Int.reduceSub, Int.reduceToNat, not_false_eq_true, ne_eq, or_true, true_or, or_false, false_or, and_false, false_and, not_true_eq_false, reduceCtorEq, and_self, or_self, eq_self, bh_k_sfi, bh_k_sfr, bh_k_sai, bh_k_sar, bh_k_new, bh_fi_sfi, bh_fi_sfr, bh_fi_sai, bh_fi_sar, bh_fi_new, bh_fr_sfi, bh_fr_sfr, bh_fr_sai, bh_fr_sar, bh_fr_new, bh_ai_sfi, bh_ai_sfr, bh_ai_sai, bh_ai_sar, bh_ai_new, bh_ar_sfi, bh_ar_sfr, bh_ar_sai, bh_ar_sar, bh_ar_new, bh_nx_sfi, bh_nx_sfr, bh_nx_sai, bh_nx_sar, bh_nx_new, bh_nc_sfi, bh_nc_sfr, bh_nc_sai, bh_nc_sar, bh_nc_new, bh_ns_sfi, bh_ns_sfr, bh_ns_sai, bh_ns_sar, bh_ns_new, bh_k_new2, bh_fi_new2, bh_fr_new2, bh_ai_new2, bh_ar_new2, bh_nx_new2, bh_nc_new2, bh_ns_new2, Nat.lt_irrefl, Nat.le_refl, bq_le0, bq_neg, bq_nat, bq_lt, bq_le, bq_eq, bn_one, bn_dec, R.k7 hs, V.1, q1, q2, Nat.not_le.mpr hi])
    (refine bw_step rfl ?_; simp +decide only [bw_gi_s, bw_ga_s, bw_go_s, bw_w_i, bw_w_a, bw_w_l, bw_sum_n, bw_sum_c, bw_xs_n, bw_iconst, bw_bipush, bw_sipush, bw_ldc, bw_ldc_w, bw_anull, bw_iload0, bw_aload0, bw_istore0, bw_astore0, bw_iload1, bw_aload1, bw_istore1, bw_astore1, bw_iload2, bw_aload2, bw_istore2, bw_astore2, bw_iload3, bw_aload3, bw_istore3, bw_astore3, bw_iload, bw_aload, bw_istore, bw_astore, bw_iinc, bw_iadd, bw_isub, bw_imul, bw_iand, bw_ixor, bw_idiv, bw_irem, bw_i2l, bw_lcmp, bw_dupi, bw_dupa, bw_dup2ia, bw_dup2ii, bw_getf0, bw_getf2, bw_getf1, bw_putf0, bw_putf2, bw_putf1, bw_iaload, bw_baload, bw_laload, bw_aaload, bw_iastore, bw_bastore, bw_lastore, bw_aastore, bw_alen, bw_newa_int, bw_newa_boolean, bw_newa_long, bw_anewa, bw_multi, bw_new, bw_static, bw_virt, bw_obj, bw_t_nop, bw_t_goto, bw_t_eq_z, bw_t_eq_i, bw_t_ne_z, bw_t_ne_i, bw_t_lt_z, bw_t_lt_i, bw_t_ge_z, bw_t_ge_i, bw_t_gt_z, bw_t_gt_i, bw_t_le_z, bw_t_le_i, bw_t_null, bw_t_nonnull, bw_t_switch, bw_t_ireturn0, bw_t_ireturn1, bw_t_areturn, bw_t_return, bw_t_athrow, bw_t_try, List.lookup_cons, List.lookup_nil, bi_st, List.filter_cons, List.filter_nil, List.take_succ_cons, List.take_zero, List.take_nil, List.drop_succ_cons, List.drop_zero, List.reverse_cons, List.reverse_nil, List.nil_append, List.cons_append, Option.toList_some, Option.toList_none, List.length_cons, List.length_nil, bi_loc, List.zipIdx_cons, List.zipIdx_nil, List.map_cons, List.map_nil, List.getD_cons_zero, List.getD_cons_succ, Nat.zero_add, Bool.not_true, Bool.not_false, Bool.false_eq_true, if_true, if_false, ite_true, ite_false, ↓reduceIte, true_and, and_true, Bool.not_eq_true, beq_self_eq_true, Nat.reduceBEq, Nat.reduceEqDiff, Nat.reduceAdd, Nat.reduceLeDiff, Nat.reduceLT, Nat.reduceSub, Nat.reduceMul, Int32.reduceOfInt, Int32.reduceOfNat, Int32.reduceToNatClampNeg, Int32.reduceLT, Int32.reduceLE, Int32.reduceAdd, Int32.reduceSub, Int32.reduceMul, Int32.reduceDiv, Int32.reduceToInt, Int.reduceLT, Int.reduceSub, Int.reduceToNat, not_false_eq_true, ne_eq, or_true, true_or, or_false, false_or, and_false, false_and, not_true_eq_false, reduceCtorEq, and_self, or_self, eq_self, bh_k_sfi, bh_k_sfr, bh_k_sai, bh_k_sar, bh_k_new, bh_fi_sfi, bh_fi_sfr, bh_fi_sai, bh_fi_sar, bh_fi_new, bh_fr_sfi, bh_fr_sfr, bh_fr_sai, bh_fr_sar, bh_fr_new, bh_ai_sfi, bh_ai_sfr, bh_ai_sai, bh_ai_sar, bh_ai_new, bh_ar_sfi, bh_ar_sfr, bh_ar_sai, bh_ar_sar, bh_ar_new, bh_nx_sfi, bh_nx_sfr, bh_nx_sai, bh_nx_sar, bh_nx_new, bh_nc_sfi, bh_nc_sfr, bh_nc_sai, bh_nc_sar, bh_nc_new, bh_ns_sfi, bh_ns_sfr, bh_ns_sai, bh_ns_sar, bh_ns_new, bh_k_new2, bh_fi_new2, bh_fr_new2, bh_ai_new2, bh_ar_new2, bh_nx_new2, bh_nc_new2, bh_ns_new2, Nat.lt_irrefl, Nat.le_refl, bq_le0, bq_neg, bq_nat, bq_lt, bq_le, bq_eq, bn_one, bn_dec, R.k7 hs, R.r70 hs, R.k8, R.r78 hs, R.k56 hs, q1, q3, (V.2.2.2 i hi).2, hpb, hb, bn_add, hlo1])
    (refine bw_sub2 _ ?_ (r); exact ⟨rfl, rfl, rfl, trivial⟩)
/-- Vault.returnTo; j snapshots stay -/
theorem c_ret (R : cs_R A h0 x y h S) (hW : ba_ok (bz_W S)) (hs : s < 8) (o : bs_ok (bz_W S) (bz_T S s)) {j : Nat} (hj : j ≤ (bs_sn (bz_T S s)).length) {v : Int32} (hv : v + 1 = Int32.ofNat j) : ∃ h', (∀ K : Option bi_V → bi_H → Prop, bw_C bt_P 146 [.inr (.inl (A 7 s)), .inl v] h K ↔ K none h') ∧ cs_R A h0 x y h' (bz_sT S s (bs_ss (bs_sl (bz_T S s) (ba_ln ((bs_sn (bz_T S s)).take j), ba_ln ((bs_sn (bz_T S s)).take j), ba_ln ((bs_sn (bz_T S s)).take j))) ((bs_sn (bz_T S s)).take j))) := by
  have n6 := hW.1
  have V := R.vs hs hW o
  have hl := o.2.2
  obtain ⟨v1, v2, v3, v4, v5, v6⟩ := R.v hs
  have hlen : ((bs_sn (bz_T S s)).take j).length = j := by rw [List.length_take, Nat.min_eq_left hj]
  have hget : ∀ i, i < j → ((bs_sn (bz_T S s)).take j).getD i (0, 0) = (bs_sn (bz_T S s)).getD i (0, 0) := fun i hi => by
    simp only [List.getD_eq_getElem?_getD]
    rw [List.getElem?_take_of_lt hi]
  have V1 : cv_s A s (bz_W S) ((bs_sn (bz_T S s)).take j) (bi_sfi h 7 9 (A 7 s) (Int32.ofNat j)) := by
    refine ⟨by rw [bh_fi_sfi, if_pos ⟨rfl, rfl, rfl⟩, hlen], by omega, fun i hi => ?_, fun i hi => ?_⟩
    · rw [hget i (by omega)]
      exact V.2.2.1 i (by omega)
    · rw [hget i (by omega)]
      exact V.2.2.2 i (by omega)
  have D1 : cv_d A s [9, 4, 5, 6, 10] [54] h (bi_sfi h 7 9 (A 7 s) (Int32.ofNat j)) := cv_d.sfi h (by decide) _
  have R1 := D1.w (fun c hc => by simp at hc; omega) (fun c hc => by simp at hc; rw [hc]; exact hs) R.w
  have hll := c_lline R1 hs V1
  have hln : ba_ln ((bs_sn (bz_T S s)).take j) ≤ ba_n (bz_W S) := ba_ln_in V1.2.2.1
  have q2 : ba_ln ((bs_sn (bz_T S s)).take j) < 60001 := by omega
  have han : ba_anc (bz_W S) (ba_ln ((bs_sn (bz_T S s)).take j)) (bs_now (bz_T S s)) := by
    rw [ba_take_ln hj]
    split
    · exact ba_anc_0 hW o.1
    · exact ba_anc_tr (o.lk (by omega)) o.kn
  obtain ⟨h2, r2, D2, n2, m2⟩ := c_rew hW hs R1 o.1 han (by rw [bh_fi_sfi, if_neg (by simp)]; exact v2.1) (fun q hq => by rw [bh_ai_sfi]; exact v6 q hq)
  have D3 : cv_d A s [5, 6, 10] [] h2 (bi_sfi (bi_sfi (bi_sfi h2 7 5 (A 7 s) (Int32.ofNat (ba_ln ((bs_sn (bz_T S s)).take j)))) 7 6 (A 7 s) (Int32.ofNat (ba_ln ((bs_sn (bz_T S s)).take j)))) 7 10 (A 7 s) 0) := (cv_d.sfi h2 (by decide) _).tr ((cv_d.sfi _ (by decide) _).tr (cv_d.sfi _ (by decide) _))
  have R2 := D2.w (fun c hc => by simp at hc; omega) (fun c hc => by simp at hc; rw [hc]; exact hs) R1
  have R3 := D3.w (fun c hc => by simp at hc) (fun c hc => by simp at hc) R2
  have a2 : ∀ c, (c = 55 ∨ c = 56) → ∀ i, bi_ai h2 (A c s) i = bi_ai h (A c s) i := fun c hc i => by
    have hcb : s < ca_bd c := by rcases hc with rfl | rfl <;> exact hs
    rw [cv_d.ai R1 hs D2 (fun c hc => by simp at hc; omega) hcb (by simp; omega), bh_ai_sfi]
  have V3 : cv_s A s (bz_W S) ((bs_sn (bz_T S s)).take j) (bi_sfi (bi_sfi (bi_sfi h2 7 5 (A 7 s) (Int32.ofNat (ba_ln ((bs_sn (bz_T S s)).take j)))) 7 6 (A 7 s) (Int32.ofNat (ba_ln ((bs_sn (bz_T S s)).take j)))) 7 10 (A 7 s) 0) := by
    refine ⟨?_, V1.2.1, V1.2.2.1, fun i hi => ?_⟩
    · simp +decide only [bh_fi_sfi, if_false]
      rw [D2.2.1 7 9 _ (fun z => by simp at z)]
      exact V1.1
    · simp only [bh_ai_sfi]
      rw [a2 55 (Or.inl rfl), a2 56 (Or.inr rfl)]
      exact V1.2.2.2 i hi
  obtain ⟨h4, r4, D4, e4⟩ := cl_ret hW hs (l := (bs_sn (bz_T S s)).take j) (fun i i' hii hi' => by
    rw [hget i (by omega), hget i' (by omega)]
    exact o.ll hii (by omega)) j 0 _ R3 V3 (by omega) (by
      simp +decide only [bh_fi_sfi]
      rfl)
  have D : cv_d A s [9, 4, 5, 6, 10] [54] h h4 := D1.tr ((D2.mono (by simp) (by simp)).tr ((D3.mono (by simp) (by simp)).tr (D4.mono (by simp) (by simp))))
  have f4 : ∀ k, k ≠ 10 → bi_fi h4 7 k (A 7 s) = bi_fi (bi_sfi (bi_sfi (bi_sfi h2 7 5 (A 7 s) (Int32.ofNat (ba_ln ((bs_sn (bz_T S s)).take j)))) 7 6 (A 7 s) (Int32.ofNat (ba_ln ((bs_sn (bz_T S s)).take j)))) 7 10 (A 7 s) 0) 7 k (A 7 s) := fun k hk => D4.2.1 7 k _ (fun z => hk (by simpa using z.2.1))
  have a4 : ∀ a i, bi_ai h4 a i = bi_ai h2 a i := fun a i => by
    rw [D4.2.2 a i (fun c hc => by simp at hc)]
    rfl
  refine ⟨h4, fun K => ?_, R.V hs D (fun c hc => by simp at hc; omega) rfl rfl rfl ⟨?_, ⟨?_, ?_, ?_⟩, ?_, ?_, fun i hi => ?_, fun q hq => ?_⟩⟩
  · refine bw_C_iff ?_ K
    have e0 : Int32.ofNat (ba_l (bz_W S) (ba_ln (((bs_sn (bz_T S s)).take j).take 0))) = 0 := by
      have : ba_ln (((bs_sn (bz_T S s)).take j).take 0) = 0 := rfl
      rw [this, ba_l0 hW]
      rfl
    rw [e0] at r4
    (refine bw_step rfl ?_; simp +decide only [bw_gi_s, bw_ga_s, bw_go_s, bw_w_i, bw_w_a, bw_w_l, bw_sum_n, bw_sum_c, bw_xs_n, bw_iconst, bw_bipush, bw_sipush, bw_ldc, bw_ldc_w, bw_anull, bw_iload0, bw_aload0, bw_istore0, bw_astore0, bw_iload1, bw_aload1, bw_istore1, bw_astore1, bw_iload2, bw_aload2, bw_istore2, bw_astore2, bw_iload3, bw_aload3, bw_istore3, bw_astore3, bw_iload, bw_aload, bw_istore, bw_astore, bw_iinc, bw_iadd, bw_isub, bw_imul, bw_iand, bw_ixor, bw_idiv, bw_irem, bw_i2l, bw_lcmp, bw_dupi, bw_dupa, bw_dup2ia, bw_dup2ii, bw_getf0, bw_getf2, bw_getf1, bw_putf0, bw_putf2, bw_putf1, bw_iaload, bw_baload, bw_laload, bw_aaload, bw_iastore, bw_bastore, bw_lastore, bw_aastore, bw_alen, bw_newa_int, bw_newa_boolean, bw_newa_long, bw_anewa, bw_multi, bw_new, bw_static, bw_virt, bw_obj, bw_t_nop, bw_t_goto, bw_t_eq_z, bw_t_eq_i, bw_t_ne_z, bw_t_ne_i, bw_t_lt_z, bw_t_lt_i, bw_t_ge_z, bw_t_ge_i, bw_t_gt_z, bw_t_gt_i, bw_t_le_z, bw_t_le_i, bw_t_null, bw_t_nonnull, bw_t_switch, bw_t_ireturn0, bw_t_ireturn1, bw_t_areturn, bw_t_return, bw_t_athrow, bw_t_try, List.lookup_cons, List.lookup_nil, bi_st, List.filter_cons, List.filter_nil, List.take_succ_cons, List.take_zero, List.take_nil, List.drop_succ_cons, List.drop_zero, List.reverse_cons, List.reverse_nil, List.nil_append, List.cons_append, Option.toList_some, Option.toList_none, List.length_cons, List.length_nil, bi_loc, List.zipIdx_cons, List.zipIdx_nil, List.map_cons, List.map_nil, List.getD_cons_zero, List.getD_cons_succ, Nat.zero_add, Bool.not_true, Bool.not_false, Bool.false_eq_true, if_true, if_false, ite_true, ite_false, ↓reduceIte, true_and, and_true, Bool.not_eq_true, beq_self_eq_true, Nat.reduceBEq, Nat.reduceEqDiff, Nat.reduceAdd, Nat.reduceLeDiff, Nat.reduceLT, Nat.reduceSub, Nat.reduceMul, Int32.reduceOfInt, Int32.reduceOfNat, Int32.reduceToNatClampNeg, Int32.reduceLT, Int32.reduceLE, Int32.reduceAdd, Int32.reduceSub, Int32.reduceMul, Int32.reduceDiv, Int32.reduceToInt, Int.reduceLT, Int.reduceSub, Int.reduceToNat, not_false_eq_true, ne_eq, or_true, true_or, or_false, false_or, and_false, false_and, not_true_eq_false, reduceCtorEq, and_self, or_self, eq_self, bh_k_sfi, bh_k_sfr, bh_k_sai, bh_k_sar, bh_k_new, bh_fi_sfi, bh_fi_sfr, bh_fi_sai, bh_fi_sar, bh_fi_new, bh_fr_sfi, bh_fr_sfr, bh_fr_sai, bh_fr_sar, bh_fr_new, bh_ai_sfi, bh_ai_sfr, bh_ai_sai, bh_ai_sar, bh_ai_new, bh_ar_sfi, bh_ar_sfr, bh_ar_sai, bh_ar_sar, bh_ar_new, bh_nx_sfi, bh_nx_sfr, bh_nx_sai, bh_nx_sar, bh_nx_new, bh_nc_sfi, bh_nc_sfr, bh_nc_sai, bh_nc_sar, bh_nc_new, bh_ns_sfi, bh_ns_sfr, bh_ns_sai, bh_ns_sar, bh_ns_new, bh_k_new2, bh_fi_new2, bh_fr_new2, bh_ai_new2, bh_ar_new2, bh_nx_new2, bh_nc_new2, bh_ns_new2, Nat.lt_irrefl, Nat.le_refl, bq_le0, bq_neg, bq_nat, bq_lt, bq_le, bq_eq, bn_one, bn_dec, R.w.k7 hs, hv, R1.k7 hs, hll, r2, R2.k7 hs, n2, bl_i0])
    (refine bw_sub2 _ ?_ (r4); exact ⟨rfl, rfl, rfl, trivial⟩)
  · rw [R.frs hs D (by decide), R.frs hs D (by decide)]
    exact v1
  · rw [f4 4 (by decide)]
    simp +decide only [bh_fi_sfi, if_false]
    exact n2
  · rw [f4 5 (by decide)]
    simp +decide only [bh_fi_sfi]
    rfl
  · rw [f4 6 (by decide)]
    simp +decide only [bh_fi_sfi]
    rfl
  · rw [f4 9 (by decide)]
    exact V3.1
  · rw [e4, bs_need_eq]
    have a4' : bs_line (bs_ss (bs_sl (bz_T S s) (ba_ln ((bs_sn (bz_T S s)).take j), ba_ln ((bs_sn (bz_T S s)).take j), ba_ln ((bs_sn (bz_T S s)).take j))) ((bs_sn (bz_T S s)).take j)) = ba_ln ((bs_sn (bz_T S s)).take j) := rfl
    rw [a4']
    show _ = Int32.ofNat (_ + (ba_pl _ _ (ba_l _ (ba_ln ((bs_sn (bz_T S s)).take j)) - ba_l _ (ba_ln ((bs_sn (bz_T S s)).take j))) (ba_ln ((bs_sn (bz_T S s)).take j)) + ba_pl _ _ (ba_l _ (ba_ln ((bs_sn (bz_T S s)).take j)) - ba_l _ (ba_ln ((bs_sn (bz_T S s)).take j))) (ba_ln ((bs_sn (bz_T S s)).take j))))
    rw [ba_pl_0, ba_pl_0]
    rfl
  · rw [a4, a4, a2 55 (Or.inl rfl), a2 56 (Or.inr rfl)]
    exact V1.2.2.2 i hi
  · rw [a4]
    exact m2 q hq
end CX
