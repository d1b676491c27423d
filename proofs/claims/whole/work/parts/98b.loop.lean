/-! the law's loop -/
theorem bj_and31 (x : Int32) : ∃ n : Nat, n < 32 ∧ (x &&& 31).toInt = (n : Int) := by
  have h1 : (x &&& 31).toBitVec.toNat ≤ 31 := by
    show (x.toBitVec &&& 31#32).toNat ≤ 31
    rw [BitVec.toNat_and]
    exact Nat.and_le_right
  refine ⟨(x &&& 31).toBitVec.toNat, by omega, ?_⟩
  show (x &&& 31).toBitVec.toInt = _
  rw [BitVec.toInt_eq_toNat_of_lt (by omega)]
theorem bj_len8 : ∀ L, L < 9 → Int32.ofNat L - 6 < 3 := by decide
theorem bx_group_N (S : ba_S) (n p : Int32) : bz_N S ≤ bz_N (bx_group S n p).1 := by
  unfold bx_group
  split
  · exact Nat.le_refl _
  · split
    · exact Nat.le_refl _
    · exact Nat.le_succ _
theorem bx_bck_7 (S : ba_S) (j : Int32) : bz_G (bx_on bx_bck S j).1 7 = bz_G S 7 := by
  unfold bx_on
  split
  · unfold bx_bck
    split
    · rfl
    · exact congrFun (bv_q.hello (bx_sc S j.toNatClampNeg 19 1) j.toNatClampNeg).1 7
  · rfl
theorem bx_period_7 (S : ba_S) (n : Int32) : bz_G (bx_period S n).1 7 = bz_G S 7 := by
  unfold bx_period
  split <;> rfl
theorem bx_tick_7 (S : ba_S) : bz_G (bx_tick S).1 7 = bz_G S 7 := congrFun (bv_q.tks 8 (bz_sG S 8 (bz_G S 8 + 1))).1 7
section PK
variable {b l n a9 b12 X0 Y0 Z0 : Nat} {xs : Nat → Int32}
/-- a script of fewer than nine ints: no call -/
theorem w_short {h : bi_H} {Q : bw_Q} (hL : n < 9) (F : bj_F b l n xs h) (hq : Q (.inl (some (.inl 1))) h) : bw_r bt_P 222 1 (bj_L b a9 b12 l 3) [] h Q := by
  have e2 := bj_len8 n hL
  unfold bj_L
  (refine bw_step rfl ?_; simp +decide only [bw_gi_s, bw_ga_s, bw_go_s, bw_w_i, bw_w_a, bw_w_l, bw_sum_n, bw_sum_c, bw_xs_n, bw_iconst, bw_bipush, bw_sipush, bw_ldc, bw_ldc_w, bw_anull, bw_iload0, bw_aload0, bw_istore0, bw_astore0, bw_iload1, bw_aload1, bw_istore1, bw_astore1, bw_iload2, bw_aload2, bw_istore2, bw_astore2, bw_iload3, bw_aload3, bw_istore3, bw_astore3, bw_iload, bw_aload, bw_istore, bw_astore, bw_iinc, bw_iadd, bw_isub, bw_imul, bw_iand, bw_ixor, bw_idiv, bw_irem, bw_i2l, bw_lcmp, bw_dupi, bw_dupa, bw_dup2ia, bw_dup2ii, bw_getf0, bw_getf2, bw_getf1, bw_putf0, bw_putf2, bw_putf1, bw_iaload, bw_baload, bw_laload, bw_aaload, bw_iastore, bw_bastore, bw_lastore, bw_aastore, bw_alen, bw_newa_int, bw_newa_boolean, bw_newa_long, bw_anewa, bw_multi, bw_new, bw_static, bw_virt, bw_obj, bw_t_nop, bw_t_goto, bw_t_eq_z, bw_t_eq_i, bw_t_ne_z, bw_t_ne_i, bw_t_lt_z, bw_t_lt_i, bw_t_ge_z, bw_t_ge_i, bw_t_gt_z, bw_t_gt_i, bw_t_le_z, bw_t_le_i, bw_t_null, bw_t_nonnull, bw_t_switch, bw_t_ireturn0, bw_t_ireturn1, bw_t_areturn, bw_t_return, bw_t_athrow, bw_t_try, List.lookup_cons, List.lookup_nil, bi_st, List.filter_cons, List.filter_nil, List.take_succ_cons, List.take_zero, List.take_nil, List.drop_succ_cons, List.drop_zero, List.reverse_cons, List.reverse_nil, List.nil_append, List.cons_append, Option.toList_some, Option.toList_none, List.length_cons, List.length_nil, bi_loc, List.zipIdx_cons, List.zipIdx_nil, List.map_cons, List.map_nil, List.getD_cons_zero, List.getD_cons_succ, Nat.zero_add, Bool.not_true, Bool.not_false, Bool.false_eq_true, if_true, if_false, ite_true, ite_false, ↓reduceIte, true_and, and_true, Bool.not_eq_true, beq_self_eq_true, Nat.reduceBEq, Nat.reduceEqDiff, Nat.reduceAdd, Nat.reduceLeDiff, Nat.reduceLT, Nat.reduceSub, Nat.reduceMul, Int32.reduceOfInt, Int32.reduceOfNat, Int32.reduceToNatClampNeg, Int32.reduceLT, Int32.reduceLE, Int32.reduceAdd, Int32.reduceSub, Int32.reduceMul, Int32.reduceDiv, Int32.reduceToInt, Int.reduceLT, Int.reduceSub, Int.reduceToNat, not_false_eq_true, ne_eq, or_true, true_or, or_false, false_or, and_false, false_and, not_true_eq_false, reduceCtorEq, and_self, or_self, eq_self, bh_k_sfi, bh_k_sfr, bh_k_sai, bh_k_sar, bh_k_new, bh_fi_sfi, bh_fi_sfr, bh_fi_sai, bh_fi_sar, bh_fi_new, bh_fr_sfi, bh_fr_sfr, bh_fr_sai, bh_fr_sar, bh_fr_new, bh_ai_sfi, bh_ai_sfr, bh_ai_sai, bh_ai_sar, bh_ai_new, bh_ar_sfi, bh_ar_sfr, bh_ar_sai, bh_ar_sar, bh_ar_new, bh_nx_sfi, bh_nx_sfr, bh_nx_sai, bh_nx_sar, bh_nx_new, bh_nc_sfi, bh_nc_sfr, bh_nc_sai, bh_nc_sar, bh_nc_new, bh_ns_sfi, bh_ns_sfr, bh_ns_sai, bh_ns_sar, bh_ns_new, bh_k_new2, bh_fi_new2, bh_fr_new2, bh_ai_new2, bh_ar_new2, bh_nx_new2, bh_nc_new2, bh_ns_new2, Nat.lt_irrefl, Nat.le_refl, bq_le0, bq_neg, bq_nat, bq_lt, bq_le, bq_eq, bn_one, bn_dec, F.1.1, e2])
  (refine bw_step rfl ?_; simp +decide only [bw_gi_s, bw_ga_s, bw_go_s, bw_w_i, bw_w_a, bw_w_l, bw_sum_n, bw_sum_c, bw_xs_n, bw_iconst, bw_bipush, bw_sipush, bw_ldc, bw_ldc_w, bw_anull, bw_iload0, bw_aload0, bw_istore0, bw_astore0, bw_iload1, bw_aload1, bw_istore1, bw_astore1, bw_iload2, bw_aload2, bw_istore2, bw_astore2, bw_iload3, bw_aload3, bw_istore3, bw_astore3, bw_iload, bw_aload, bw_istore, bw_astore, bw_iinc, bw_iadd, bw_isub, bw_imul, bw_iand, bw_ixor, bw_idiv, bw_irem, bw_i2l, bw_lcmp, bw_dupi, bw_dupa, bw_dup2ia, bw_dup2ii, bw_getf0, bw_getf2, bw_getf1, bw_putf0, bw_putf2, bw_putf1, bw_iaload, bw_baload, bw_laload, bw_aaload, bw_iastore, bw_bastore, bw_lastore, bw_aastore, bw_alen, bw_newa_int, bw_newa_boolean, bw_newa_long, bw_anewa, bw_multi, bw_new, bw_static, bw_virt, bw_obj, bw_t_nop, bw_t_goto, bw_t_eq_z, bw_t_eq_i, bw_t_ne_z, bw_t_ne_i, bw_t_lt_z, bw_t_lt_i, bw_t_ge_z, bw_t_ge_i, bw_t_gt_z, bw_t_gt_i, bw_t_le_z, bw_t_le_i, bw_t_null, bw_t_nonnull, bw_t_switch, bw_t_ireturn0, bw_t_ireturn1, bw_t_areturn, bw_t_return, bw_t_athrow, bw_t_try, List.lookup_cons, List.lookup_nil, bi_st, List.filter_cons, List.filter_nil, List.take_succ_cons, List.take_zero, List.take_nil, List.drop_succ_cons, List.drop_zero, List.reverse_cons, List.reverse_nil, List.nil_append, List.cons_append, Option.toList_some, Option.toList_none, List.length_cons, List.length_nil, bi_loc, List.zipIdx_cons, List.zipIdx_nil, List.map_cons, List.map_nil, List.getD_cons_zero, List.getD_cons_succ, Nat.zero_add, Bool.not_true, Bool.not_false, Bool.false_eq_true, if_true, if_false, ite_true, ite_false, ↓reduceIte, true_and, and_true, Bool.not_eq_true, beq_self_eq_true, Nat.reduceBEq, Nat.reduceEqDiff, Nat.reduceAdd, Nat.reduceLeDiff, Nat.reduceLT, Nat.reduceSub, Nat.reduceMul, Int32.reduceOfInt, Int32.reduceOfNat, Int32.reduceToNatClampNeg, Int32.reduceLT, Int32.reduceLE, Int32.reduceAdd, Int32.reduceSub, Int32.reduceMul, Int32.reduceDiv, Int32.reduceToInt, Int.reduceLT, Int.reduceSub, Int.reduceToNat, not_false_eq_true, ne_eq, or_true, true_or, or_false, false_or, and_false, false_and, not_true_eq_false, reduceCtorEq, and_self, or_self, eq_self, bh_k_sfi, bh_k_sfr, bh_k_sai, bh_k_sar, bh_k_new, bh_fi_sfi, bh_fi_sfr, bh_fi_sai, bh_fi_sar, bh_fi_new, bh_fr_sfi, bh_fr_sfr, bh_fr_sai, bh_fr_sar, bh_fr_new, bh_ai_sfi, bh_ai_sfr, bh_ai_sai, bh_ai_sar, bh_ai_new, bh_ar_sfi, bh_ar_sfr, bh_ar_sai, bh_ar_sar, bh_ar_new, bh_nx_sfi, bh_nx_sfr, bh_nx_sai, bh_nx_sar, bh_nx_new, bh_nc_sfi, bh_nc_sfr, bh_nc_sai, bh_nc_sar, bh_nc_new, bh_ns_sfi, bh_ns_sfr, bh_ns_sai, bh_ns_sar, bh_ns_new, bh_k_new2, bh_fi_new2, bh_fr_new2, bh_ai_new2, bh_ar_new2, bh_nx_new2, bh_nc_new2, bh_ns_new2, Nat.lt_irrefl, Nat.le_refl, bq_le0, bq_neg, bq_nat, bq_lt, bq_le, bq_eq, bn_one, bn_dec])
  exact hq
def bj_E (o : bi_O) (g : bi_H) : Prop := o = .inl (some (.inl 1)) ∧ bi_nc g ≤ 100000 ∧ bi_ns g ≤ 7000000
/-- what holds before call k -/
def bj_V (b l n a9 b12 X0 Y0 Z0 : Nat) (xs : Nat → Int32) (k : Nat) (h : bi_H) : Prop := ∃ A B S X Y Z, A 9 0 = a9 ∧ B 12 0 = b12 ∧ bj A B h S X Y Z ∧ bz_V S (1 + 4 * k) (8 * k) ∧ bj_F b l n xs h ∧ X ≤ X0 + 20 * k ∧ Y + 8192 * bv_ph S ≤ Y0 + 65766 * bz_N S + 8800 * k ∧ Z ≤ Z0 + 20480 * k
theorem bj_V.ends {h : bi_H} {k : Nat} (W : bj_V b l n a9 b12 X0 Y0 Z0 xs k h) (hk : k ≤ 512) (hX : X0 ≤ 80000) (hY : Y0 ≤ 2200000) : bj_F b l n xs h ∧ bj_E (.inl (some (.inl 1))) h := by
  obtain ⟨A, B, S, X, Y, Z, rfl, rfl, J, V, F, bX, bY, bZ⟩ := W
  obtain ⟨r, -, Q⟩ := J.1
  obtain ⟨f1, f2, f3, f4, f5, f6⟩ := Q.2.1
  have hN := V.I.gr.2
  exact ⟨F, rfl, by omega, by omega⟩
theorem w_loop (h9 : 9 ≤ n) (hn : n ≤ 3075) (hX : X0 ≤ 80000) (hY : Y0 ≤ 2200000) (hZ : Z0 ≤ 1000000) (d : Nat) : ∀ k, n < 9 + 6 * (k + d) → k + d ≤ 512 → ∀ h, bj_V b l n a9 b12 X0 Y0 Z0 xs k h → bw_r bt_P 222 1 (bj_L b a9 b12 l (Int32.ofNat (3 + 6 * k))) [] h bj_E := by
  induction d with
  | zero =>
    intro k hd hk h W
    obtain ⟨F, E⟩ := W.ends (by omega) hX hY
    exact w_end hn (by omega) (by omega) (by omega) F E
  | succ d ih =>
    intro k hd hk h W
    by_cases he : n < 3 + 6 * k + 6
    · obtain ⟨F, E⟩ := W.ends (by omega) hX hY
      exact w_end hn he (by omega) (by omega) F E
    · obtain ⟨A, B, S, X, Y, Z, rfl, rfl, J, V, F, bX, bY, bZ⟩ := W
      have hi : 3 + 6 * k + 6 ≤ n := by omega
      have mk : ∀ {S' : ba_S} {M' C' X' Y' Z' : Nat}, bz_V S' M' C' → M' ≤ 5 + 4 * k → C' ≤ 8 + 8 * k → X' ≤ X + 20 → Y' + 8192 * bv_ph S' + 65766 * bz_N S ≤ Y + 8192 * bv_ph S + 65766 * bz_N S' + 8800 → Z' ≤ Z + 20480 → bj_N b l n (A 9 0) (B 12 0) xs (Int32.ofNat (3 + 6 * k)) S' X' Y' Z' bj_E := by
        intro S' M' C' X' Y' Z' V' hM hC hX' hY' hZ' A' B' h2 eA eB J' F'
        refine w_on ?_
        have e : 3 + 6 * (k + 1) = 3 + 6 * k + 6 := by omega
        rw [← e]
        have x1 : X' ≤ X0 + 20 * (k + 1) := by omega
        have y1 : Y' + 8192 * bv_ph S' ≤ Y0 + 65766 * bz_N S' + 8800 * (k + 1) := by omega
        have z1 : Z' ≤ Z0 + 20480 * (k + 1) := by
          rw [Nat.mul_succ, ← Nat.add_assoc]
          exact Nat.le_trans hZ' (Nat.add_le_add_right bZ 20480)
        have v1 : bz_V S' (1 + 4 * (k + 1)) (8 * (k + 1)) := V'.up (by omega) (by omega) (by omega) (by omega)
        exact ih (k + 1) (by omega) (by omega) h2 ⟨A', B', S', X', Y', Z', eA, eB, J', v1, F', x1, y1, z1⟩
      have mq : ∀ {S' : ba_S} {M' C' X' Y' Z' : Nat}, bv_q S S' → bz_V S' M' C' → M' ≤ 5 + 4 * k → C' ≤ 8 + 8 * k → X' ≤ X + 20 → Y' ≤ Y + 432 → Z' ≤ Z + 20480 → bj_N b l n (A 9 0) (B 12 0) xs (Int32.ofNat (3 + 6 * k)) S' X' Y' Z' bj_E := by
        intro S' M' C' X' Y' Z' q V' hM hC hX' hY' hZ'
        have h1 := bv_n.le (S := S) (S' := S') q.2
        have h2 := q.seven V V'
        exact mk V' hM hC hX' (by omega) hZ'
      have hM : 1 + 4 * k ≤ 3800 := by omega
      have hC : 8 * k ≤ 8800 := by omega
      have hz : Z + 20480 < 2147483648 := by omega
      refine w_sw hn hi F ?_
      obtain ⟨c, hc, he⟩ := bj_and31 (xs (3 + 6 * k))
      rw [he]
      by_cases hc25 : 25 < c
      · rw [if_pos (by omega)]
        exact mq (bv_q.rf S) V (by omega) (by omega) (Nat.le_add_right _ _) (Nat.le_add_right _ _) (Nat.le_add_right _ _) A B h rfl rfl J F
      · rw [if_neg (by omega)]
        have e0 : ((c : Int) - 0).toNat = c := by omega
        rw [e0]
        clear e0 he hc
        have hcc : c = 0 ∨ c = 1 ∨ c = 2 ∨ c = 3 ∨ c = 4 ∨ c = 5 ∨ c = 6 ∨ c = 7 ∨ c = 8 ∨ c = 9 ∨ c = 10 ∨ c = 11 ∨ c = 12 ∨ c = 13 ∨ c = 14 ∨ c = 15 ∨ c = 16 ∨ c = 17 ∨ c = 18 ∨ c = 19 ∨ c = 20 ∨ c = 21 ∨ c = 22 ∨ c = 23 ∨ c = 24 ∨ c = 25 := by omega
        rcases hcc with rfl | rfl | rfl | rfl | rfl | rfl | rfl | rfl | rfl | rfl | rfl | rfl | rfl | rfl | rfl | rfl | rfl | rfl | rfl | rfl | rfl | rfl | rfl | rfl | rfl | rfl
        · refine w_group hi hn J V F (mk (V.group _ _) (by omega) (by omega) (by omega) ?_ (by omega))
          have h1 := bx_group_N S (xs (3 + 6 * k + 1)) (xs (3 + 6 * k + 2))
          have h2 := bv_n.le (bv_n.group S (xs (3 + 6 * k + 1)) (xs (3 + 6 * k + 2)))
          omega
        · exact w_write hi hn J V F (by omega) (mq (bv_q.write S _ _ _ _) (V.write _ _ _ _) (by omega) (by omega) (by omega) (by omega) (by omega))
        · exact w_fill hi hn J V F (by omega) (mq (bv_q.fill S _ _ _ _ _) (V.fill _ _ _ _ _) (by omega) (by omega) (by omega) (by omega) (by omega))
        · exact w_fls hi hn J V F (by omega) (mq (bv_q.fls S _) (V.fls _) (by omega) (by omega) (by omega) (by omega) (by omega))
        · exact w_cks hi hn J V F (by omega) (mq (bv_q.cks S _) (V.cks _) (by omega) (by omega) (by omega) (by omega) (by omega))
        · exact w_snp hi hn J V F (by omega) (mq (bv_q.on S _ (fun s => bv_q.snp S s)) (V.on (M' := 1 + 4 * k) (C' := 8 * k + 1) _ (by omega) (by omega) (by omega) (by omega) (fun s hs hN => V.snp hs hN (by omega))) (by omega) (by omega) (by omega) (by omega) (by omega))
        · exact w_lv hi hn J V F (by omega) (mq (bv_q.on S _ (fun s => bv_q.lv S s)) (V.on (M' := 1 + 4 * k) (C' := 8 * k + 1) _ (by omega) (by omega) (by omega) (by omega) (fun s hs hN => V.lv hs hN (by omega))) (by omega) (by omega) (by omega) (by omega) (by omega))
        · exact w_sty hi hn J V F (mq (bv_q.on S _ (fun s => bv_q.sty S s)) (V.on (M' := 1 + 4 * k) (C' := 8 * k) _ (by omega) (by omega) (by omega) (by omega) (fun s hs hN => V.sty hs hN)) (by omega) (by omega) (by omega) (by omega) (by omega))
        · exact w_frc hi hn J V F (by omega) (mq (bv_q.on S _ (fun s => bv_q.frc S s)) (V.on (M' := 1 + 4 * k + 4) (C' := 8 * k + 1) _ (by omega) (by omega) (by omega) (by omega) (fun s hs hN => V.frc hs hN (by omega) (by omega))) (by omega) (by omega) (by omega) (by omega) (by omega))
        · have V' := V.on (f := bx_bck) (M' := 1 + 4 * k) (C' := 8 * k) (xs (3 + 6 * k + 1)) (by omega) (by omega) (by omega) (by omega) (fun s hs hN => V.bck hs hN)
          refine w_bck hi hn J V F (mk V' (by omega) (by omega) (by omega) ?_ (by omega))
          have h1 := bv_N7 V V' (bx_bck_7 S _)
          have h2 := bv_ph_bck S (xs (3 + 6 * k + 1))
          omega
        · have V' := V.period (xs (3 + 6 * k + 1))
          refine w_period hi hn J V F (mk V' (by omega) (by omega) (by omega) ?_ (by omega))
          have h1 := bv_N7 V V' (bx_period_7 S _)
          have h2 := bv_n.le (bv_n.period S (xs (3 + 6 * k + 1)))
          omega
        · have V' := V.tick (by omega) (by omega)
          refine w_tick J V F (by omega) (by omega) (by omega) (mk V' (by omega) (by omega) (by omega) ?_ (by omega))
          have h1 := bv_N7 V V' (bx_tick_7 S)
          have h2 := bv_n.le (bv_n.tick S)
          omega
        · exact w_power hi hn J V F (mq (bv_q.power S _ _) (V.power _ _) (by omega) (by omega) (by omega) (by omega) (by omega))
        · exact w_crash hi hn J V F (mq (bv_q.crash S _) (V.crash _) (by omega) (by omega) (by omega) (by omega) (by omega))
        · exact w_upc hi hn J V F (mq (bv_q.upc S _) (V.upc _) (by omega) (by omega) (by omega) (by omega) (by omega))
        · have V' := V.pass (xs (3 + 6 * k + 1)) (xs (3 + 6 * k + 2)) (by omega)
          refine w_pass hi hn J V F (by omega) (mk V' (by omega) (by omega) (by omega) ?_ (by omega))
          have h1 := (bv_q.pass S (xs (3 + 6 * k + 1)) (xs (3 + 6 * k + 2))).seven V V'
          have h2 := bv_n.le (bv_n.pass S (xs (3 + 6 * k + 1)) (xs (3 + 6 * k + 2)))
          split <;> omega
        · exact w_message hi hn J V F (mq (bv_q.rf S) V (by omega) (by omega) (by omega) (by omega) (by omega))
        · exact w_item hi hn J V F (mq (bv_q.rf S) V (by omega) (by omega) (by omega) (by omega) (by omega))
        · exact w_read hi hn J V F (mq (bv_q.rf S) V (by omega) (by omega) (by omega) (by omega) (by omega))
        · exact w_old hi hn J V F (mq (bv_q.rf S) V (by omega) (by omega) (by omega) (by omega) (by omega))
        · exact w_sum hi hn J V F (mq (bv_q.rf S) V (by omega) (by omega) (by omega) (by omega) (by omega))
        · exact w_differ hi hn J V F (by omega) (mq (bv_q.rf S) V (by omega) (by omega) (by omega) (by omega) (by omega))
        · exact w_state hi hn J V F (by omega) (mq (bv_q.rf S) V (by omega) (by omega) (by omega) (by omega) (by omega))
        · exact w_snapv hi hn J V F (mq (bv_q.rf S) V (by omega) (by omega) (by omega) (by omega) (by omega))
        · exact w_lost hi hn J V F (mq (bv_q.rf S) V (by omega) (by omega) (by omega) (by omega) (by omega))
        · exact w_total hi hn J V F (by omega) (mq (bv_q.rf S) V (by omega) (by omega) (by omega) (by omega) (by omega))
end PK
