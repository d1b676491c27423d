/-! the law's calls -/
def bj_L (b a9 b12 l : Nat) (i : Int32) : bi_L := [(0, .inr (.inl b)), (1, .inr (.inl a9)), (2, .inr (.inl b12)), (3, .inr (.inl l)), (4, .inl i)]
/-- the script, and the row for what is thrown -/
def bj_F (b l n : Nat) (xs : Nat → Int32) (h : bi_H) : Prop := (bi_k h b = (4, n) ∧ b < bi_nx h ∧ ∀ j, bi_ai h b j = xs j) ∧ bi_k h l = (3, 1) ∧ l < bi_nx h
section PD
variable {A B B' : Nat → Nat → Nat} {h h1 h2 : bi_H} {X Y Z X1 Y1 Z1 X2 Y2 Z2 M C b l n : Nat} {xs : Nat → Int32} {S S' : ba_S} {s : Nat}
theorem bj_F.ob (F : bj_F b l n xs h) : bj_o h b ∧ bj_o h l := ⟨⟨F.1.2.1, by rw [F.1.1]; exact Or.inr rfl⟩, ⟨F.2.2, by rw [F.2.1]; exact Or.inl rfl⟩⟩
theorem bj.F1 (J : bj A B h S X Y Z) (F : bj_F b l n xs h) (Q : cs_Q A h X1 Y1 Z1 h1 S') : bj_F b l n xs h1 := by
  obtain ⟨b1, b2, b3⟩ := J.keep1 Q F.ob.1
  obtain ⟨l1, -, l3⟩ := J.keep1 Q F.ob.2
  exact ⟨⟨by rw [b1]; exact F.1.1, b3.1, fun j => by rw [b2]; exact F.1.2.2 j⟩, by rw [l1]; exact F.2.1, l3.1⟩
theorem bj.F2 (J : bj A B h S X Y Z) (R1 : ms_Q (mj_O B (bz_N S)) B [] 0 h1 X1 Y1 Z h1 S) (F : bj_F b l n xs h1) (R : ms_Q (mj_O B (bz_N S)) B' [] 0 h1 X2 Y2 Z2 h2 S') : bj_F b l n xs h2 := by
  obtain ⟨b1, b2, b3⟩ := J.keep2 R1 R F.ob.1
  obtain ⟨l1, -, l3⟩ := J.keep2 R1 R F.ob.2
  exact ⟨⟨by rw [b1]; exact F.1.1, b3.1, fun j => by rw [b2]; exact F.1.2.2 j⟩, by rw [l1]; exact F.2.1, l3.1⟩
/-- after a call: on -/
def bj_N (b l n a9 b12 : Nat) (xs : Nat → Int32) (i : Int32) (S' : ba_S) (X Y Z : Nat) (Q : bw_Q) : Prop := ∀ A' B' h2, A' 9 0 = a9 → B' 12 0 = b12 → bj A' B' h2 S' X Y Z → bj_F b l n xs h2 → bw_r bt_P 222 79 (bj_L b a9 b12 l i) [] h2 Q
theorem bj_N.next {i : Int32} {Q : bw_Q} (N : bj_N b l n (A 9 0) (B 12 0) xs i S' X2 Y2 Z2 Q) (J : bj A B h S X Y Z) (F : bj_F b l n xs h) (Q1 : cs_Q A h X1 Y1 Z1 h1 S') (R2 : ms_Q (mj_O B (bz_N S)) B' [] 0 h1 X2 Y2 Z2 h2 S') (hZ : Z1 ≤ Z2) (hB : B' 12 0 = B 12 0) : bw_r bt_P 222 79 (bj_L b (A 9 0) (B 12 0) l i) [] h2 Q := by
  have R1 := J.mid Q1
  obtain ⟨A', eA, J'⟩ := J.fin Q1 R2 hZ
  exact N A' B' h2 (eA 9 0 (by decide)) hB J' (J.F2 R1 (J.F1 F Q1) R2)
/-- tick -/
theorem w_tick {i : Int32} {Q : bw_Q} (J : bj A B h S X Y Z) (V : bz_V S M C) (F : bj_F b l n xs h) (hM : M + 4 ≤ 3900) (hC : C + 8 ≤ 8900) (hz : Z + 16 < 2147483648) (N : bj_N b l n (A 9 0) (B 12 0) xs i (bx_tick S).1 (X + 16) (Y + 432) (Z + 16) Q) : bw_r bt_P 222 25 (bj_L b (A 9 0) (B 12 0) l i) [] h Q := by
  have V1 : bz_V (bz_sG S 8 (bz_G S 8 + 1)) M C := V.of V.I rfl rfl rfl rfl rfl (fun k hk => by
      have : k = 0 ∨ k = 1 ∨ k = 2 := by omega
      rcases this with rfl | rfl | rfl <;> rfl) (fun m hm => Or.inl hm)
  have V2 := V1.up (Nat.le_add_right M 4) (Nat.le_refl _) hM (by omega)
  have Vn := fun n (hn : n ≤ 8) => (bz_V.tks n V2 (fun s hs => by have := (V1.T hs).2.1.2.1.2.1; omega) hn hC).1
  have hN := fun n => bx_tks_N n (bz_sG S 8 (bz_G S 8 + 1))
  have hG : ∀ n, n ≤ 8 → bz_G (bx_tks n (bz_sG S 8 (bz_G S 8 + 1))) 8 = bz_G S 8 + 1 := fun n _ => by
    rw [(bv_q.tks n _).1]
    rfl
  have tk : ∀ n, n < 8 → n % 4 < bz_N S → bx_tok (bx_tks n (bz_sG S 8 (bz_G S 8 + 1))) n ∧ bz_tok (bx_tks n (bz_sG S 8 (bz_G S 8 + 1))) n := fun n hn hn4 => (Vn n (by omega)).tok hn (by rw [hN]; exact hn4) (by omega)
  obtain ⟨h1, e1, Q1⟩ := k_tick J.1 V.I hz (fun n hn hn4 _ => (tk n hn hn4).1) hG
  obtain ⟨h2, e2, R2⟩ := n_tick (J.mid Q1) V.I (by omega) hz (fun n hn hn4 _ => (tk n hn hn4).2) (fun n hn => ⟨(Vn n hn).wd, (Vn n hn).gp⟩) hG
  have w := N.next J F Q1 R2 (Nat.le_refl _) rfl
  have kA := J.1.w.k9
  have kB := (J.mid Q1).L.k12
  unfold bj_L at w ⊢
  (refine bw_step rfl ?_; simp +decide only [bw_gi_s, bw_ga_s, bw_go_s, bw_w_i, bw_w_a, bw_w_l, bw_sum_n, bw_sum_c, bw_xs_n, bw_iconst, bw_bipush, bw_sipush, bw_ldc, bw_ldc_w, bw_anull, bw_iload0, bw_aload0, bw_istore0, bw_astore0, bw_iload1, bw_aload1, bw_istore1, bw_astore1, bw_iload2, bw_aload2, bw_istore2, bw_astore2, bw_iload3, bw_aload3, bw_istore3, bw_astore3, bw_iload, bw_aload, bw_istore, bw_astore, bw_iinc, bw_iadd, bw_isub, bw_imul, bw_iand, bw_ixor, bw_idiv, bw_irem, bw_i2l, bw_lcmp, bw_dupi, bw_dupa, bw_dup2ia, bw_dup2ii, bw_getf0, bw_getf2, bw_getf1, bw_putf0, bw_putf2, bw_putf1, bw_iaload, bw_baload, bw_laload, bw_aaload, bw_iastore, bw_bastore, bw_lastore, bw_aastore, bw_alen, bw_newa_int, bw_newa_boolean, bw_newa_long, bw_anewa, bw_multi, bw_new, bw_static, bw_virt, bw_obj, bw_t_nop, bw_t_goto, bw_t_eq_z, bw_t_eq_i, bw_t_ne_z, bw_t_ne_i, bw_t_lt_z, bw_t_lt_i, bw_t_ge_z, bw_t_ge_i, bw_t_gt_z, bw_t_gt_i, bw_t_le_z, bw_t_le_i, bw_t_null, bw_t_nonnull, bw_t_switch, bw_t_ireturn0, bw_t_ireturn1, bw_t_areturn, bw_t_return, bw_t_athrow, bw_t_try, List.lookup_cons, List.lookup_nil, bi_st, List.filter_cons, List.filter_nil, List.take_succ_cons, List.take_zero, List.take_nil, List.drop_succ_cons, List.drop_zero, List.reverse_cons, List.reverse_nil, List.nil_append, List.cons_append, Option.toList_some, Option.toList_none, List.length_cons, List.length_nil, bi_loc, List.zipIdx_cons, List.zipIdx_nil, List.map_cons, List.map_nil, List.getD_cons_zero, List.getD_cons_succ, Nat.zero_add, Bool.not_true, Bool.not_false, Bool.false_eq_true, if_true, if_false, ite_true, ite_false, ↓reduceIte, true_and, and_true, Bool.not_eq_true, beq_self_eq_true, Nat.reduceBEq, Nat.reduceEqDiff, Nat.reduceAdd, Nat.reduceLeDiff, Nat.reduceLT, Nat.reduceSub, Nat.reduceMul, Int32.reduceOfInt, Int32.reduceOfNat, Int32.reduceToNatClampNeg, Int32.reduceLT, Int32.reduceLE, Int32.reduceAdd, Int32.reduceSub, Int32.reduceMul, Int32.reduceDiv, Int32.reduceToInt, Int.reduceLT, Int.reduceSub, Int.reduceToNat, not_false_eq_true, ne_eq, or_true, true_or, or_false, false_or, and_false, false_and, not_true_eq_false, reduceCtorEq, and_self, or_self, eq_self, bh_k_sfi, bh_k_sfr, bh_k_sai, bh_k_sar, bh_k_new, bh_fi_sfi, bh_fi_sfr, bh_fi_sai, bh_fi_sar, bh_fi_new, bh_fr_sfi, bh_fr_sfr, bh_fr_sai, bh_fr_sar, bh_fr_new, bh_ai_sfi, bh_ai_sfr, bh_ai_sai, bh_ai_sar, bh_ai_new, bh_ar_sfi, bh_ar_sfr, bh_ar_sai, bh_ar_sar, bh_ar_new, bh_nx_sfi, bh_nx_sfr, bh_nx_sai, bh_nx_sar, bh_nx_new, bh_nc_sfi, bh_nc_sfr, bh_nc_sai, bh_nc_sar, bh_nc_new, bh_ns_sfi, bh_ns_sfr, bh_ns_sai, bh_ns_sar, bh_ns_new, bh_k_new2, bh_fi_new2, bh_fr_new2, bh_ai_new2, bh_ar_new2, bh_nx_new2, bh_nc_new2, bh_ns_new2, Nat.lt_irrefl, Nat.le_refl, bq_le0, bq_neg, bq_nat, bq_lt, bq_le, bq_eq, bn_one, bn_dec, kA, kB, e1, e2])
  exact w
end PD
