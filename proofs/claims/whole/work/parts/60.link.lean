/-! more cells; messages; the link -/
theorem bn_of {i : Int32} (h : 0 ≤ i) : Int32.ofNat i.toNatClampNeg = i := by
  have h1 : 0 ≤ i.toInt := by
    have := Int32.le_iff_toInt_le.mp h
    simpa using this
  have h2 : i.toInt < 2147483648 := Int32.toInt_lt i
  have h3 : i.toNatClampNeg = i.toInt.toNat := rfl
  apply Int32.toInt_inj.mp
  rw [bn_int (by rw [h3]; omega), h3]
  omega
theorem bn_lt_of {i : Int32} (h : 0 ≤ i) {n : Nat} (hn : n < 2147483648) : (i < Int32.ofNat n) = (i.toNatClampNeg < n) := by
  have h2 : i.toNatClampNeg < 2147483648 := by
    have h3 : i.toNatClampNeg = i.toInt.toNat := rfl
    have := Int32.toInt_lt i
    omega
  have h4 := bn_lt (a := i.toNatClampNeg) (b := n) h2 hn
  rw [bn_of h] at h4
  exact h4
theorem bn_clamp_lt (i : Int32) : i.toNatClampNeg < 2147483648 := by
  have h3 : i.toNatClampNeg = i.toInt.toNat := rfl
  have := Int32.toInt_lt i
  omega
/-- what was there is as it was; there may be more -/
def bh_ext (h h' : bi_H) : Prop := bi_nx h ≤ bi_nx h' ∧ ∀ a, a < bi_nx h → bi_k h' a = bi_k h a ∧ (∀ c k, bi_fi h' c k a = bi_fi h c k a ∧ bi_fr h' c k a = bi_fr h c k a) ∧ ∀ j, bi_ai h' a j = bi_ai h a j ∧ bi_ar h' a j = bi_ar h a j
section BH
variable {h h1 h2 : bi_H}
theorem bh_ext.rf (h : bi_H) : bh_ext h h := ⟨Nat.le_refl _, fun _ _ => ⟨rfl, fun _ _ => ⟨rfl, rfl⟩, fun _ => ⟨rfl, rfl⟩⟩⟩
theorem bh_ext.tr (e : bh_ext h h1) (e2 : bh_ext h1 h2) : bh_ext h h2 := by
  refine ⟨Nat.le_trans e.1 e2.1, fun a ha => ?_⟩
  obtain ⟨a1, a2, a3⟩ := e.2 a ha
  obtain ⟨b1, b2, b3⟩ := e2.2 a (Nat.lt_of_lt_of_le ha e.1)
  exact ⟨b1.trans a1, fun c k => ⟨(b2 c k).1.trans (a2 c k).1, (b2 c k).2.trans (a2 c k).2⟩, fun j => ⟨(b3 j).1.trans (a3 j).1, (b3 j).2.trans (a3 j).2⟩⟩
theorem bh_ext.nw (e : bh_ext h h1) (kd : Nat × Nat) (n : Nat) : bh_ext h (bi_new h1 kd n) := by
  refine ⟨by rw [bh_nx_new]; exact Nat.le_trans e.1 (Nat.le_succ _), fun a ha => ?_⟩
  have hn : ¬ a = bi_nx h1 := by have := e.1; omega
  obtain ⟨a1, a2, a3⟩ := e.2 a ha
  refine ⟨by rw [bh_k_new, if_neg hn]; exact a1, fun c k => ⟨by rw [bh_fi_new, if_neg hn]; exact (a2 c k).1, by rw [bh_fr_new, if_neg hn]; exact (a2 c k).2⟩, fun j => ⟨by rw [bh_ai_new, if_neg hn]; exact (a3 j).1, by rw [bh_ar_new, if_neg hn]; exact (a3 j).2⟩⟩
theorem bh_ext.sfi (e : bh_ext h h1) {b : Nat} (hb : bi_nx h ≤ b) (c k : Nat) (v : Int32) : bh_ext h (bi_sfi h1 c k b v) := by
  refine ⟨e.1, fun a ha => ?_⟩
  obtain ⟨a1, a2, a3⟩ := e.2 a ha
  refine ⟨a1, fun c' k' => ⟨?_, (a2 c' k').2⟩, a3⟩
  rw [bh_fi_sfi, if_neg (fun z => by have := z.2.2; omega)]
  exact (a2 c' k').1
theorem bh_ext.sfr (e : bh_ext h h1) {b : Nat} (hb : bi_nx h ≤ b) (c k v : Nat) : bh_ext h (bi_sfr h1 c k b v) := by
  refine ⟨e.1, fun a ha => ?_⟩
  obtain ⟨a1, a2, a3⟩ := e.2 a ha
  refine ⟨a1, fun c' k' => ⟨(a2 c' k').1, ?_⟩, a3⟩
  rw [bh_fr_sfr, if_neg (fun z => by have := z.2.2; omega)]
  exact (a2 c' k').2
theorem bh_ext.sai (e : bh_ext h h1) {b : Nat} (hb : bi_nx h ≤ b) (j : Nat) (v : Int32) : bh_ext h (bi_sai h1 b j v) := by
  refine ⟨e.1, fun a ha => ?_⟩
  obtain ⟨a1, a2, a3⟩ := e.2 a ha
  refine ⟨a1, a2, fun j' => ⟨?_, (a3 j').2⟩⟩
  rw [bh_ai_sai, if_neg (fun z => by have := z.1; omega)]
  exact (a3 j').1
theorem bh_ext.sar (e : bh_ext h h1) {b : Nat} (hb : bi_nx h ≤ b) (j v : Nat) : bh_ext h (bi_sar h1 b j v) := by
  refine ⟨e.1, fun a ha => ?_⟩
  obtain ⟨a1, a2, a3⟩ := e.2 a ha
  refine ⟨a1, a2, fun j' => ⟨(a3 j').1, ?_⟩⟩
  rw [bh_ar_sar, if_neg (fun z => by have := z.1; omega)]
  exact (a3 j').2
end BH
section CM
variable {A : Nat → Nat → Nat} {h0 h h' : bi_H} {x y z : Nat} {S : ba_S} {s : Nat}
theorem ca_g.ext {a : Nat} {g : ba_G} (G : ca_g A h a g) (e : bh_ext h h') : ca_g A h' a g := by
  obtain ⟨g1, g2, g3, g4⟩ := G
  obtain ⟨a1, a2, a3⟩ := e.2 a g2.1
  refine ⟨by rw [a1]; exact g1, ⟨Nat.lt_of_lt_of_le g2.1 e.1, g2.2⟩, fun k => by rw [(a2 2 k).1]; exact g3 k, ?_⟩
  rw [(a2 2 8).2]
  rcases g4 with g4 | ⟨g4, g5, g6, g7⟩
  · exact Or.inl g4
  · obtain ⟨b1, b2, b3⟩ := e.2 _ g4.1
    exact Or.inr ⟨⟨Nat.lt_of_lt_of_le g4.1 e.1, g4.2⟩, by rw [b1]; exact g5, g6, fun j hj => by rw [(b3 j).1]; exact g7 j hj⟩
/-- a message that is held -/
theorem cs_R.held (R : cs_R A h0 x y h S) {a : Nat} {g : ba_G} (G : ca_g A h0 a g) : ca_g A h a g := by
  obtain ⟨f1, f2, f3, f4, -⟩ := R.2.1
  have f1 : bi_nx h0 ≤ bi_nx h := Nat.le_trans (Nat.le_max_right _ _) f1
  obtain ⟨g1, g2, g3, g4⟩ := G
  refine ⟨by rw [f2 a g2.1]; exact g1, ⟨Nat.lt_of_lt_of_le g2.1 f1, g2.2⟩, fun k => by rw [(f3 2 k a (Or.inr rfl) g2.1).1]; exact g3 k, ?_⟩
  rw [(f3 2 8 a (Or.inr rfl) g2.1).2]
  rcases g4 with g4 | ⟨g4, g5, g6, g7⟩
  · exact Or.inl g4
  · exact Or.inr ⟨⟨Nat.lt_of_lt_of_le g4.1 f1, g4.2⟩, by rw [f2 _ g4.1]; exact g5, g6, fun j hj => by rw [(f4 _ j g4.1 g6).1]; exact g7 j hj⟩
theorem cs_Q.held (Q : cs_Q A h0 x y z h S) {a : Nat} {g : ba_G} (G : ca_g A h0 a g) : ca_g A h a g := by
  obtain ⟨r, -, R⟩ := Q
  exact R.held G
theorem cs_R.ext (R : cs_R A h0 x y h S) (e : bh_ext h h') {x' y' : Nat} (hx : bi_nc h' ≤ x') (hy : bi_ns h' ≤ y') : cs_R A h0 x' y' h' S := by
  have lt : ∀ c i, i < ca_bd c → A c i < bi_nx h := fun c i hi => (R.1.1 c i hi).2.1
  have fi : ∀ c i k c', i < ca_bd c → bi_fi h' c' k (A c i) = bi_fi h c' k (A c i) := fun c i k c' hi => ((e.2 _ (lt c i hi)).2.1 c' k).1
  have fr : ∀ c i k c', i < ca_bd c → bi_fr h' c' k (A c i) = bi_fr h c' k (A c i) := fun c i k c' hi => ((e.2 _ (lt c i hi)).2.1 c' k).2
  have ai : ∀ c i j, i < ca_bd c → bi_ai h' (A c i) j = bi_ai h (A c i) j := fun c i j hi => ((e.2 _ (lt c i hi)).2.2 j).1
  have ar : ∀ c i j, i < ca_bd c → bi_ar h' (A c i) j = bi_ar h (A c i) j := fun c i j hi => ((e.2 _ (lt c i hi)).2.2 j).2
  obtain ⟨⟨l1, l2, l3, l4, l5, l6, l7⟩, ⟨f1, f2, f3, f4, f5, f6⟩, r3, r4, r5, r6, r7, r8, r9, r10⟩ := R
  have f1' : bi_nx h0 ≤ bi_nx h := Nat.le_trans (Nat.le_max_right _ _) f1
  refine ⟨⟨fun c i hi => ?_, l2, ?_, ?_, fun i hi => ?_, fun s hs => ?_, fun s hs => ?_⟩, ⟨Nat.le_trans f1 e.1, fun a ha => ?_, fun c k a hc ha => ?_, fun a j ha hn => ?_, hx, hy⟩, ⟨?_, fun k hk => ?_⟩, fun s hs => ?_, fun i hi k => ?_, fun k => ?_, fun k => ?_, fun i hi => ?_, ?_, fun j hj => ?_⟩
  · obtain ⟨a1, a2, a3⟩ := l1 c i hi
    exact ⟨by rw [(e.2 _ a2).1]; exact a1, Nat.lt_of_lt_of_le a2 e.1, a3⟩
  · rw [fr 9 0 _ _ (by decide), fr 9 0 _ _ (by decide), fr 9 0 _ _ (by decide), fr 9 0 _ _ (by decide), fr 0 0 _ _ (by decide), fr 1 0 _ _ (by decide)]
    exact l3
  · rw [fr 8 0 _ _ (by decide), fr 8 0 _ _ (by decide), fr 8 0 _ _ (by decide), fr 8 0 _ _ (by decide), fr 8 0 _ _ (by decide), fr 8 0 _ _ (by decide)]
    exact l4
  · rw [ar 62 0 _ (by decide)]
    exact l5 i hi
  · rw [ar 63 0 _ (by decide)]
    exact l6 s hs
  · rw [fr 6 s _ _ hs, fr 6 s _ _ hs, fr 6 s _ _ hs, fr 6 s _ _ hs, fr 6 s _ _ hs, fr 7 s _ _ hs, fr 7 s _ _ hs, fr 7 s _ _ hs, fr 7 s _ _ hs, fr 30 s _ _ hs, fr 31 s _ _ hs]
    exact l7 s hs
  · rw [(e.2 a (Nat.lt_of_lt_of_le ha f1')).1]
    exact f2 a ha
  · have := (e.2 a (Nat.lt_of_lt_of_le ha f1')).2.1 c k
    rw [this.1, this.2]
    exact f3 c k a hc ha
  · have := (e.2 a (Nat.lt_of_lt_of_le ha f1')).2.2 j
    rw [this.1, this.2]
    exact f4 a j ha hn
  · rw [fi 8 0 _ _ (by decide)]
    exact r3.1
  · rw [ai 57 0 _ (by decide), ai 58 0 _ (by decide), ai 59 0 _ (by decide), ai 60 0 _ (by decide), ai 61 0 _ (by decide)]
    exact r3.2 k hk
  · obtain ⟨t1, t2, ⟨v1, v2, v3, v4, v5, v6⟩, t4, t5⟩ := r4 s hs
    refine ⟨fun k => ?_, fun k => ?_, ⟨?_, ?_, ?_, ?_, fun i hi => ?_, fun q hq => ?_⟩, ?_, ?_⟩
    · rw [fi 6 s _ _ hs]
      exact t1 k
    · rw [fi 5 s _ _ hs]
      exact t2 k
    · rw [fi 7 s _ _ hs, fi 7 s _ _ hs]
      exact v1
    · rw [fi 7 s _ _ hs, fi 7 s _ _ hs, fi 7 s _ _ hs]
      exact v2
    · rw [fi 7 s _ _ hs]
      exact v3
    · rw [fi 7 s _ _ hs]
      exact v4
    · rw [ai 55 s _ hs, ai 56 s _ hs]
      exact v5 i hi
    · rw [ai 54 s _ hs]
      exact v6 q hq
    · simp only [ai 52 s _ hs, fi 30 s _ _ hs]
      exact t4
    · simp only [ai 53 s _ hs, fi 31 s _ _ hs]
      exact t5
  · rw [fi 4 i _ _ hi]
    exact r5 i hi k
  · rw [fi 9 0 _ _ (by decide)]
    exact r6 k
  · rw [fi 0 0 _ _ (by decide)]
    exact r7 k
  · rw [ar 50 0 _ (by decide)]
    exact (r8 i hi).ext e
  · rw [fi 1 0 _ _ (by decide)]
    exact r9
  · rw [ai 51 0 _ (by decide)]
    exact r10 j hj
theorem cs_Q.ext (Q : cs_Q A h0 x y z h S) (e : bh_ext h h') {x' y' : Nat} (hx : bi_nc h' ≤ x') (hy : bi_ns h' ≤ y') : cs_Q A h0 x' y' z h' S := by
  obtain ⟨r, hr, R⟩ := Q
  exact ⟨r, hr, R.ext e hx hy⟩
/-- cells and slots made so far -/
theorem cs_Q.nc (Q : cs_Q A h0 x y z h S) : bi_nc h ≤ x := by
  obtain ⟨r, hr, R⟩ := Q
  exact R.2.1.2.2.2.2.1
theorem cs_Q.ns (Q : cs_Q A h0 x y z h S) : bi_ns h ≤ y := by
  obtain ⟨r, hr, R⟩ := Q
  exact R.2.1.2.2.2.2.2
/-- the row of messages changed -/
theorem cs_R.flight (R : cs_R A h0 x y h S) {j : Nat} {v : Nat} {F : List ba_G} (hF : ∀ i, i < F.length → ca_g A h (if i = j then v else bi_ar h (A 50 0) i) (F.getD i (fun _ => 0, []))) : cs_R A h0 x y (bi_sar h (A 50 0) j v) (bz_sF S F) := by
  have n2 : ∀ c, c = 62 ∨ c = 63 → ∀ i, bi_ar (bi_sar h (A 50 0) j v) (A c 0) i = bi_ar h (A c 0) i := fun c hc i => by
    rw [bh_ar_sar, if_neg]
    intro z
    have := R.ne (c := c) (i := 0) (c' := 50) (i' := 0) (by rcases hc with rfl | rfl <;> decide) (by decide) (Or.inl (by omega))
    rw [this] at z
    exact z.1
  obtain ⟨⟨l1, l2, l3, l4, l5, l6, l7⟩, ⟨f1, f2, f3, f4, f5, f6⟩, r3, r4, r5, r6, r7, r8, r9, r10⟩ := R
  refine ⟨⟨l1, l2, l3, l4, fun i hi => ?_, fun s hs => ?_, l7⟩, ⟨f1, f2, f3, fun a j' ha hn => ?_, f5, f6⟩, r3, r4, r5, r6, r7, fun i hi => ?_, r9, r10⟩
  · rw [n2 62 (Or.inl rfl)]
    exact l5 i hi
  · rw [n2 63 (Or.inr rfl)]
    exact l6 s hs
  · rw [bh_ar_sar, if_neg (fun z => hn 50 0 (by decide) z.1)]
    exact f4 a j' ha hn
  · have := hF i hi
    rw [bh_ar_sar]
    simp only [true_and]
    exact this
theorem cs_Q.flight (Q : cs_Q A h0 x y z h S) {j : Nat} {v : Nat} {F : List ba_G} (hF : ∀ i, i < F.length → ca_g A h (if i = j then v else bi_ar h (A 50 0) i) (F.getD i (fun _ => 0, []))) : cs_Q A h0 x y z (bi_sar h (A 50 0) j v) (bz_sF S F) := by
  obtain ⟨r, hr, R⟩ := Q
  exact ⟨r, hr, R.flight hF⟩
/-- Link.at -/
theorem q_at (Q : cs_Q A h0 x y z h S) (I : bz_ok S) (i : Int32) (K : Option bi_V → bi_H → Prop) : bw_C bt_P 4 [.inr (.inl (A 0 0)), .inl i] h K ↔ K (some (.inr (.inl (if bx_at S i = true then bi_ar h (A 50 0) i.toNatClampNeg else 0)))) h := by
  have hf := I.fl
  unfold bx_at
  refine bw_C_iff ?_ K
  by_cases e1 : 0 ≤ i
  · have e1' : (i < 0) = False := eq_false (Int32.not_lt.mpr e1)
    have e3 := bn_lt_of e1 (n := (bz_F S).length) (by omega)
    by_cases e2 : i.toNatClampNeg < (bz_F S).length
    · have q1 : i.toNatClampNeg < 60 := by omega
      (repeat (refine bw_step rfl ?_; simp +decide only [bw_gi_s, bw_ga_s, bw_go_s, bw_w_i, bw_w_a, bw_w_l, bw_sum_n, bw_sum_c, bw_xs_n, bw_iconst, bw_bipush, bw_sipush, bw_ldc, bw_ldc_w, bw_anull, bw_iload0, bw_aload0, bw_istore0, bw_astore0, bw_iload1, bw_aload1, bw_istore1, bw_astore1, bw_iload2, bw_aload2, bw_istore2, bw_astore2, bw_iload3, bw_aload3, bw_istore3, bw_astore3, bw_iload, bw_aload, bw_istore, bw_astore, bw_iinc, bw_iadd, bw_isub, bw_imul, bw_iand, bw_ixor, bw_idiv, bw_irem, bw_i2l, bw_lcmp, bw_dupi, bw_dupa, bw_dup2ia, bw_dup2ii, bw_getf0, bw_getf2, bw_getf1, bw_putf0, bw_putf2, bw_putf1, bw_iaload, bw_baload, bw_laload, bw_aaload, bw_iastore, bw_bastore, bw_lastore, bw_aastore, bw_alen, bw_newa_int, bw_newa_boolean, bw_newa_long, bw_anewa, bw_multi, bw_new, bw_static, bw_virt, bw_obj, bw_t_nop, bw_t_goto, bw_t_eq_z, bw_t_eq_i, bw_t_ne_z, bw_t_ne_i, bw_t_lt_z, bw_t_lt_i, bw_t_ge_z, bw_t_ge_i, bw_t_gt_z, bw_t_gt_i, bw_t_le_z, bw_t_le_i, bw_t_null, bw_t_nonnull, bw_t_switch, bw_t_ireturn0, bw_t_ireturn1, bw_t_areturn, bw_t_return, bw_t_athrow, bw_t_try, List.lookup_cons, List.lookup_nil, bi_st, List.filter_cons, List.filter_nil, List.take_succ_cons, List.take_zero, List.take_nil, List.drop_succ_cons, List.drop_zero, List.reverse_cons, List.reverse_nil, List.nil_append, List.cons_append, Option.toList_some, Option.toList_none, List.length_cons, List.length_nil, bi_loc, List.zipIdx_cons, List.zipIdx_nil, List.map_cons, List.map_nil, List.getD_cons_zero, List.getD_cons_succ, Nat.zero_add, Bool.not_true, Bool.not_false, Bool.false_eq_true, if_true, if_false, ite_true, ite_false, ↓reduceIte, true_and, and_true, Bool.not_eq_true, beq_self_eq_true, Nat.reduceBEq, Nat.reduceEqDiff, Nat.reduceAdd, Nat.reduceLeDiff, Nat.reduceLT, Nat.reduceSub, Nat.reduceMul, Int32.reduceOfInt, Int32.reduceOfNat, Int32.reduceToNatClampNeg, Int32.reduceLT, Int32.reduceLE, Int32.reduceAdd, Int32.reduceSub, Int32.reduceMul, Int32.reduceDiv, Int32.reduceToInt, Int.reduceLT, Int.reduceSub, Int.reduceToNat, not_false_eq_true, ne_eq, or_true, true_or, or_false, false_or, and_false, false_and, not_true_eq_false, reduceCtorEq, and_self, or_self, eq_self, bh_k_sfi, bh_k_sfr, bh_k_sai, bh_k_sar, bh_k_new, bh_fi_sfi, bh_fi_sfr, bh_fi_sai, bh_fi_sar, bh_fi_new, bh_fr_sfi, bh_fr_sfr, bh_fr_sai, bh_fr_sar, bh_fr_new, bh_ai_sfi, bh_ai_sfr, bh_ai_sai, bh_ai_sar, bh_ai_new, bh_ar_sfi, bh_ar_sfr, bh_ar_sai, bh_ar_sar, bh_ar_new, bh_nx_sfi, bh_nx_sfr, bh_nx_sai, bh_nx_sar, bh_nx_new, bh_nc_sfi, bh_nc_sfr, bh_nc_sai, bh_nc_sar, bh_nc_new, bh_ns_sfi, bh_ns_sfr, bh_ns_sai, bh_ns_sar, bh_ns_new, bh_k_new2, bh_fi_new2, bh_fr_new2, bh_ai_new2, bh_ar_new2, bh_nx_new2, bh_nc_new2, bh_ns_new2, Nat.lt_irrefl, Nat.le_refl, bq_le0, bq_neg, bq_nat, bq_lt, bq_le, bq_eq, bn_one, bn_dec, Q.w.k0, Q.w.r00, Q.w.k50, Q.f0, hf.1, e1, e1', e3, e2, q1, decide_true, Bool.and_self]))
    · (repeat (refine bw_step rfl ?_; simp +decide only [bw_gi_s, bw_ga_s, bw_go_s, bw_w_i, bw_w_a, bw_w_l, bw_sum_n, bw_sum_c, bw_xs_n, bw_iconst, bw_bipush, bw_sipush, bw_ldc, bw_ldc_w, bw_anull, bw_iload0, bw_aload0, bw_istore0, bw_astore0, bw_iload1, bw_aload1, bw_istore1, bw_astore1, bw_iload2, bw_aload2, bw_istore2, bw_astore2, bw_iload3, bw_aload3, bw_istore3, bw_astore3, bw_iload, bw_aload, bw_istore, bw_astore, bw_iinc, bw_iadd, bw_isub, bw_imul, bw_iand, bw_ixor, bw_idiv, bw_irem, bw_i2l, bw_lcmp, bw_dupi, bw_dupa, bw_dup2ia, bw_dup2ii, bw_getf0, bw_getf2, bw_getf1, bw_putf0, bw_putf2, bw_putf1, bw_iaload, bw_baload, bw_laload, bw_aaload, bw_iastore, bw_bastore, bw_lastore, bw_aastore, bw_alen, bw_newa_int, bw_newa_boolean, bw_newa_long, bw_anewa, bw_multi, bw_new, bw_static, bw_virt, bw_obj, bw_t_nop, bw_t_goto, bw_t_eq_z, bw_t_eq_i, bw_t_ne_z, bw_t_ne_i, bw_t_lt_z, bw_t_lt_i, bw_t_ge_z, bw_t_ge_i, bw_t_gt_z, bw_t_gt_i, bw_t_le_z, bw_t_le_i, bw_t_null, bw_t_nonnull, bw_t_switch, bw_t_ireturn0, bw_t_ireturn1, bw_t_areturn, bw_t_return, bw_t_athrow, bw_t_try, List.lookup_cons, List.lookup_nil, bi_st, List.filter_cons, List.filter_nil, List.take_succ_cons, List.take_zero, List.take_nil, List.drop_succ_cons, List.drop_zero, List.reverse_cons, List.reverse_nil, List.nil_append, List.cons_append, Option.toList_some, Option.toList_none, List.length_cons, List.length_nil, bi_loc, List.zipIdx_cons, List.zipIdx_nil, List.map_cons, List.map_nil, List.getD_cons_zero, List.getD_cons_succ, Nat.zero_add, Bool.not_true, Bool.not_false, Bool.false_eq_true, if_true, if_false, ite_true, ite_false, ↓reduceIte, true_and, and_true, Bool.not_eq_true, beq_self_eq_true, Nat.reduceBEq, Nat.reduceEqDiff, Nat.reduceAdd, Nat.reduceLeDiff, Nat.reduceLT, Nat.reduceSub, Nat.reduceMul, Int32.reduceOfInt, Int32.reduceOfNat, Int32.reduceToNatClampNeg, Int32.reduceLT, Int32.reduceLE, Int32.reduceAdd, Int32.reduceSub, Int32.reduceMul, Int32.reduceDiv, Int32.reduceToInt, Int.reduceLT, Int.reduceSub, Int.reduceToNat, not_false_eq_true, ne_eq, or_true, true_or, or_false, false_or, and_false, false_and, not_true_eq_false, reduceCtorEq, and_self, or_self, eq_self, bh_k_sfi, bh_k_sfr, bh_k_sai, bh_k_sar, bh_k_new, bh_fi_sfi, bh_fi_sfr, bh_fi_sai, bh_fi_sar, bh_fi_new, bh_fr_sfi, bh_fr_sfr, bh_fr_sai, bh_fr_sar, bh_fr_new, bh_ai_sfi, bh_ai_sfr, bh_ai_sai, bh_ai_sar, bh_ai_new, bh_ar_sfi, bh_ar_sfr, bh_ar_sai, bh_ar_sar, bh_ar_new, bh_nx_sfi, bh_nx_sfr, bh_nx_sai, bh_nx_sar, bh_nx_new, bh_nc_sfi, bh_nc_sfr, bh_nc_sai, bh_nc_sar, bh_nc_new, bh_ns_sfi, bh_ns_sfr, bh_ns_sai, bh_ns_sar, bh_ns_new, bh_k_new2, bh_fi_new2, bh_fr_new2, bh_ai_new2, bh_ar_new2, bh_nx_new2, bh_nc_new2, bh_ns_new2, Nat.lt_irrefl, Nat.le_refl, bq_le0, bq_neg, bq_nat, bq_lt, bq_le, bq_eq, bn_one, bn_dec, Q.w.k0, Q.w.r00, Q.w.k50, Q.f0, hf.1, e1, e1', e3, e2, decide_true, decide_false, Bool.and_false]))
  · have e1' : (i < 0) = True := eq_true (Int32.not_le.mp e1)
    (repeat (refine bw_step rfl ?_; simp +decide only [bw_gi_s, bw_ga_s, bw_go_s, bw_w_i, bw_w_a, bw_w_l, bw_sum_n, bw_sum_c, bw_xs_n, bw_iconst, bw_bipush, bw_sipush, bw_ldc, bw_ldc_w, bw_anull, bw_iload0, bw_aload0, bw_istore0, bw_astore0, bw_iload1, bw_aload1, bw_istore1, bw_astore1, bw_iload2, bw_aload2, bw_istore2, bw_astore2, bw_iload3, bw_aload3, bw_istore3, bw_astore3, bw_iload, bw_aload, bw_istore, bw_astore, bw_iinc, bw_iadd, bw_isub, bw_imul, bw_iand, bw_ixor, bw_idiv, bw_irem, bw_i2l, bw_lcmp, bw_dupi, bw_dupa, bw_dup2ia, bw_dup2ii, bw_getf0, bw_getf2, bw_getf1, bw_putf0, bw_putf2, bw_putf1, bw_iaload, bw_baload, bw_laload, bw_aaload, bw_iastore, bw_bastore, bw_lastore, bw_aastore, bw_alen, bw_newa_int, bw_newa_boolean, bw_newa_long, bw_anewa, bw_multi, bw_new, bw_static, bw_virt, bw_obj, bw_t_nop, bw_t_goto, bw_t_eq_z, bw_t_eq_i, bw_t_ne_z, bw_t_ne_i, bw_t_lt_z, bw_t_lt_i, bw_t_ge_z, bw_t_ge_i, bw_t_gt_z, bw_t_gt_i, bw_t_le_z, bw_t_le_i, bw_t_null, bw_t_nonnull, bw_t_switch, bw_t_ireturn0, bw_t_ireturn1, bw_t_areturn, bw_t_return, bw_t_athrow, bw_t_try, List.lookup_cons, List.lookup_nil, bi_st, List.filter_cons, List.filter_nil, List.take_succ_cons, List.take_zero, List.take_nil, List.drop_succ_cons, List.drop_zero, List.reverse_cons, List.reverse_nil, List.nil_append, List.cons_append, Option.toList_some, Option.toList_none, List.length_cons, List.length_nil, bi_loc, List.zipIdx_cons, List.zipIdx_nil, List.map_cons, List.map_nil, List.getD_cons_zero, List.getD_cons_succ, Nat.zero_add, Bool.not_true, Bool.not_false, Bool.false_eq_true, if_true, if_false, ite_true, ite_false, ↓reduceIte, true_and, and_true, Bool.not_eq_true, beq_self_eq_true, Nat.reduceBEq, Nat.reduceEqDiff, Nat.reduceAdd, Nat.reduceLeDiff, Nat.reduceLT, Nat.reduceSub, Nat.reduceMul, Int32.reduceOfInt, Int32.reduceOfNat, Int32.reduceToNatClampNeg, Int32.reduceLT, Int32.reduceLE, Int32.reduceAdd, Int32.reduceSub, Int32.reduceMul, Int32.reduceDiv, Int32.reduceToInt, Int.reduceLT, Int.reduceSub, Int.reduceToNat, not_false_eq_true, ne_eq, or_true, true_or, or_false, false_or, and_false, false_and, not_true_eq_false, reduceCtorEq, and_self, or_self, eq_self, bh_k_sfi, bh_k_sfr, bh_k_sai, bh_k_sar, bh_k_new, bh_fi_sfi, bh_fi_sfr, bh_fi_sai, bh_fi_sar, bh_fi_new, bh_fr_sfi, bh_fr_sfr, bh_fr_sai, bh_fr_sar, bh_fr_new, bh_ai_sfi, bh_ai_sfr, bh_ai_sai, bh_ai_sar, bh_ai_new, bh_ar_sfi, bh_ar_sfr, bh_ar_sai, bh_ar_sar, bh_ar_new, bh_nx_sfi, bh_nx_sfr, bh_nx_sai, bh_nx_sar, bh_nx_new, bh_nc_sfi, bh_nc_sfr, bh_nc_sai, bh_nc_sar, bh_nc_new, bh_ns_sfi, bh_ns_sfr, bh_ns_sai, bh_ns_sar, bh_ns_new, bh_k_new2, bh_fi_new2, bh_fr_new2, bh_ai_new2, bh_ar_new2, bh_nx_new2, bh_nc_new2, bh_ns_new2, Nat.lt_irrefl, Nat.le_refl, bq_le0, bq_neg, bq_nat, bq_lt, bq_le, bq_eq, bn_one, bn_dec, Q.w.k0, e1, e1', decide_false, Bool.false_and]))
theorem ba_getD_snoc (F : List ba_G) (g d : ba_G) (i : Nat) (hi : i < (F ++ [g]).length) : (F ++ [g]).getD i d = if i = F.length then g else F.getD i d := by
  rw [ba_snoc_getD]
  rw [List.length_append, List.length_cons, List.length_nil] at hi
  by_cases e : i = F.length
  · rw [if_neg (by omega), if_pos e, if_pos e]
  · rw [if_pos (by omega), if_neg e]
/-- Link.add -/
theorem q_ladd (Q : cs_Q A h0 x y z h S) (I : bz_ok S) {a : Nat} {g : ba_G} (G : ca_g A h a g) : ∃ h', (∀ K : Option bi_V → bi_H → Prop, bw_C bt_P 3 [.inr (.inl (A 0 0)), .inr (.inl a)] h K ↔ K none h') ∧ cs_Q A h0 x y z h' (bx_send S g) := by
  have hf := I.fl
  by_cases e : (bz_F S).length < 60
  · have q1 : (bz_F S).length < 60001 := by omega
    have q2 : (Int32.ofNat (bz_F S).length < 60) = True := bn_ltT (b := 60) (by omega) (by decide) e
    refine ⟨bi_sfi (bi_sar (bi_sfi h 0 2 (A 0 0) (bz_L S 2 + 1)) (A 50 0) (bz_F S).length a) 0 1 (A 0 0) (Int32.ofNat ((bz_F S).length + 1)), fun K => ?_, ?_⟩
    · refine bw_C_iff ?_ K
      (refine bw_step rfl ?_; simp +decide only [bw_gi_s, bw_ga_s, bw_go_s, bw_w_i, bw_w_a, bw_w_l, bw_sum_n, bw_sum_c, bw_xs_n, bw_iconst, bw_bipush, bw_sipush, bw_ldc, bw_ldc_w, bw_anull, bw_iload0, bw_aload0, bw_istore0, bw_astore0, bw_iload1, bw_aload1, bw_istore1, bw_astore1, bw_iload2, bw_aload2, bw_istore2, bw_astore2, bw_iload3, bw_aload3, bw_istore3, bw_astore3, bw_iload, bw_aload, bw_istore, bw_astore, bw_iinc, bw_iadd, bw_isub, bw_imul, bw_iand, bw_ixor, bw_idiv, bw_irem, bw_i2l, bw_lcmp, bw_dupi, bw_dupa, bw_dup2ia, bw_dup2ii, bw_getf0, bw_getf2, bw_getf1, bw_putf0, bw_putf2, bw_putf1, bw_iaload, bw_baload, bw_laload, bw_aaload, bw_iastore, bw_bastore, bw_lastore, bw_aastore, bw_alen, bw_newa_int, bw_newa_boolean, bw_newa_long, bw_anewa, bw_multi, bw_new, bw_static, bw_virt, bw_obj, bw_t_nop, bw_t_goto, bw_t_eq_z, bw_t_eq_i, bw_t_ne_z, bw_t_ne_i, bw_t_lt_z, bw_t_lt_i, bw_t_ge_z, bw_t_ge_i, bw_t_gt_z, bw_t_gt_i, bw_t_le_z, bw_t_le_i, bw_t_null, bw_t_nonnull, bw_t_switch, bw_t_ireturn0, bw_t_ireturn1, bw_t_areturn, bw_t_return, bw_t_athrow, bw_t_try, List.lookup_cons, List.lookup_nil, bi_st, List.filter_cons, List.filter_nil, List.take_succ_cons, List.take_zero, List.take_nil, List.drop_succ_cons, List.drop_zero, List.reverse_cons, List.reverse_nil, List.nil_append, List.cons_append, Option.toList_some, Option.toList_none, List.length_cons, List.length_nil, bi_loc, List.zipIdx_cons, List.zipIdx_nil, List.map_cons, List.map_nil, List.getD_cons_zero, List.getD_cons_succ, Nat.zero_add, Bool.not_true, Bool.not_false, Bool.false_eq_true, if_true, if_false, ite_true, ite_false, ↓reduceIte, true_and, and_true, Bool.not_eq_true, beq_self_eq_true, Nat.reduceBEq, Nat.reduceEqDiff, Nat.reduceAdd, Nat.reduceLeDiff, Nat.reduceLT, Nat.reduceSub, Nat.reduceMul, Int32.reduceOfInt, Int32.reduceOfNat, Int32.reduceToNatClampNeg, Int32.reduceLT, Int32.reduceLE, Int32.reduceAdd, Int32.reduceSub, Int32.reduceMul, Int32.reduceDiv, Int32.reduceToInt, Int.reduceLT, Int.reduceSub, Int.reduceToNat, not_false_eq_true, ne_eq, or_true, true_or, or_false, false_or, and_false, false_and, not_true_eq_false, reduceCtorEq, and_self, or_self, eq_self, bh_k_sfi, bh_k_sfr, bh_k_sai, bh_k_sar, bh_k_new, bh_fi_sfi, bh_fi_sfr, bh_fi_sai, bh_fi_sar, bh_fi_new, bh_fr_sfi, bh_fr_sfr, bh_fr_sai, bh_fr_sar, bh_fr_new, bh_ai_sfi, bh_ai_sfr, bh_ai_sai, bh_ai_sar, bh_ai_new, bh_ar_sfi, bh_ar_sfr, bh_ar_sai, bh_ar_sar, bh_ar_new, bh_nx_sfi, bh_nx_sfr, bh_nx_sai, bh_nx_sar, bh_nx_new, bh_nc_sfi, bh_nc_sfr, bh_nc_sai, bh_nc_sar, bh_nc_new, bh_ns_sfi, bh_ns_sfr, bh_ns_sai, bh_ns_sar, bh_ns_new, bh_k_new2, bh_fi_new2, bh_fr_new2, bh_ai_new2, bh_ar_new2, bh_nx_new2, bh_nc_new2, bh_ns_new2, Nat.lt_irrefl, Nat.le_refl, bq_le0, bq_neg, bq_nat, bq_lt, bq_le, bq_eq, bn_one, bn_dec, Q.w.k0, Q.f0, hf.1, q2, bl_i60, bl_i1])
      (refine bw_step rfl ?_; simp +decide only [bw_gi_s, bw_ga_s, bw_go_s, bw_w_i, bw_w_a, bw_w_l, bw_sum_n, bw_sum_c, bw_xs_n, bw_iconst, bw_bipush, bw_sipush, bw_ldc, bw_ldc_w, bw_anull, bw_iload0, bw_aload0, bw_istore0, bw_astore0, bw_iload1, bw_aload1, bw_istore1, bw_astore1, bw_iload2, bw_aload2, bw_istore2, bw_astore2, bw_iload3, bw_aload3, bw_istore3, bw_astore3, bw_iload, bw_aload, bw_istore, bw_astore, bw_iinc, bw_iadd, bw_isub, bw_imul, bw_iand, bw_ixor, bw_idiv, bw_irem, bw_i2l, bw_lcmp, bw_dupi, bw_dupa, bw_dup2ia, bw_dup2ii, bw_getf0, bw_getf2, bw_getf1, bw_putf0, bw_putf2, bw_putf1, bw_iaload, bw_baload, bw_laload, bw_aaload, bw_iastore, bw_bastore, bw_lastore, bw_aastore, bw_alen, bw_newa_int, bw_newa_boolean, bw_newa_long, bw_anewa, bw_multi, bw_new, bw_static, bw_virt, bw_obj, bw_t_nop, bw_t_goto, bw_t_eq_z, bw_t_eq_i, bw_t_ne_z, bw_t_ne_i, bw_t_lt_z, bw_t_lt_i, bw_t_ge_z, bw_t_ge_i, bw_t_gt_z, bw_t_gt_i, bw_t_le_z, bw_t_le_i, bw_t_null, bw_t_nonnull, bw_t_switch, bw_t_ireturn0, bw_t_ireturn1, bw_t_areturn, bw_t_return, bw_t_athrow, bw_t_try, List.lookup_cons, List.lookup_nil, bi_st, List.filter_cons, List.filter_nil, List.take_succ_cons, List.take_zero, List.take_nil, List.drop_succ_cons, List.drop_zero, List.reverse_cons, List.reverse_nil, List.nil_append, List.cons_append, Option.toList_some, Option.toList_none, List.length_cons, List.length_nil, bi_loc, List.zipIdx_cons, List.zipIdx_nil, List.map_cons, List.map_nil, List.getD_cons_zero, List.getD_cons_succ, Nat.zero_add, Bool.not_true, Bool.not_false, Bool.false_eq_true, if_true, if_false, ite_true, ite_false, ↓reduceIte, true_and, and_true, Bool.not_eq_true, beq_self_eq_true, Nat.reduceBEq, Nat.reduceEqDiff, Nat.reduceAdd, Nat.reduceLeDiff, Nat.reduceLT, Nat.reduceSub, Nat.reduceMul, Int32.reduceOfInt, Int32.reduceOfNat, Int32.reduceToNatClampNeg, Int32.reduceLT, Int32.reduceLE, Int32.reduceAdd, Int32.reduceSub, Int32.reduceMul, Int32.reduceDiv, Int32.reduceToInt, Int.reduceLT, Int.reduceSub, Int.reduceToNat, not_false_eq_true, ne_eq, or_true, true_or, or_false, false_or, and_false, false_and, not_true_eq_false, reduceCtorEq, and_self, or_self, eq_self, bh_k_sfi, bh_k_sfr, bh_k_sai, bh_k_sar, bh_k_new, bh_fi_sfi, bh_fi_sfr, bh_fi_sai, bh_fi_sar, bh_fi_new, bh_fr_sfi, bh_fr_sfr, bh_fr_sai, bh_fr_sar, bh_fr_new, bh_ai_sfi, bh_ai_sfr, bh_ai_sai, bh_ai_sar, bh_ai_new, bh_ar_sfi, bh_ar_sfr, bh_ar_sai, bh_ar_sar, bh_ar_new, bh_nx_sfi, bh_nx_sfr, bh_nx_sai, bh_nx_sar, bh_nx_new, bh_nc_sfi, bh_nc_sfr, bh_nc_sai, bh_nc_sar, bh_nc_new, bh_ns_sfi, bh_ns_sfr, bh_ns_sai, bh_ns_sar, bh_ns_new, bh_k_new2, bh_fi_new2, bh_fr_new2, bh_ai_new2, bh_ar_new2, bh_nx_new2, bh_nc_new2, bh_ns_new2, Nat.lt_irrefl, Nat.le_refl, bq_le0, bq_neg, bq_nat, bq_lt, bq_le, bq_eq, bn_one, bn_dec, Q.w.k0, Q.w.r00, Q.w.k50, Q.f0, hf.1, q1, e, G.1, bl_i1])
    · unfold bx_send
      rw [if_pos e]
      have Q1 := Q.sL 2 (bz_L S 2 + 1)
      have Q2 := Q1.flight (j := (bz_F S).length) (v := a) (F := bz_F S ++ [g]) (fun i hi => by
        rw [ba_getD_snoc _ _ _ _ hi]
        by_cases e2 : i = (bz_F S).length
        · rw [if_pos e2, if_pos e2]
          exact G
        · rw [if_neg e2, if_neg e2]
          rw [List.length_append, List.length_cons, List.length_nil] at hi
          exact Q.m (by omega))
      exact Q2.sL 1 (Int32.ofNat ((bz_F S).length + 1))
  · have q2 : (Int32.ofNat (bz_F S).length < 60) = False := bn_ltF (b := 60) (by omega) (by decide) (by omega)
    refine ⟨bi_sfi (bi_sfi h 0 2 (A 0 0) (bz_L S 2 + 1)) 0 3 (A 0 0) (bz_L S 3 + 1), fun K => ?_, ?_⟩
    · refine bw_C_iff ?_ K
      (refine bw_step rfl ?_; simp +decide only [bw_gi_s, bw_ga_s, bw_go_s, bw_w_i, bw_w_a, bw_w_l, bw_sum_n, bw_sum_c, bw_xs_n, bw_iconst, bw_bipush, bw_sipush, bw_ldc, bw_ldc_w, bw_anull, bw_iload0, bw_aload0, bw_istore0, bw_astore0, bw_iload1, bw_aload1, bw_istore1, bw_astore1, bw_iload2, bw_aload2, bw_istore2, bw_astore2, bw_iload3, bw_aload3, bw_istore3, bw_astore3, bw_iload, bw_aload, bw_istore, bw_astore, bw_iinc, bw_iadd, bw_isub, bw_imul, bw_iand, bw_ixor, bw_idiv, bw_irem, bw_i2l, bw_lcmp, bw_dupi, bw_dupa, bw_dup2ia, bw_dup2ii, bw_getf0, bw_getf2, bw_getf1, bw_putf0, bw_putf2, bw_putf1, bw_iaload, bw_baload, bw_laload, bw_aaload, bw_iastore, bw_bastore, bw_lastore, bw_aastore, bw_alen, bw_newa_int, bw_newa_boolean, bw_newa_long, bw_anewa, bw_multi, bw_new, bw_static, bw_virt, bw_obj, bw_t_nop, bw_t_goto, bw_t_eq_z, bw_t_eq_i, bw_t_ne_z, bw_t_ne_i, bw_t_lt_z, bw_t_lt_i, bw_t_ge_z, bw_t_ge_i, bw_t_gt_z, bw_t_gt_i, bw_t_le_z, bw_t_le_i, bw_t_null, bw_t_nonnull, bw_t_switch, bw_t_ireturn0, bw_t_ireturn1, bw_t_areturn, bw_t_return, bw_t_athrow, bw_t_try, List.lookup_cons, List.lookup_nil, bi_st, List.filter_cons, List.filter_nil, List.take_succ_cons, List.take_zero, List.take_nil, List.drop_succ_cons, List.drop_zero, List.reverse_cons, List.reverse_nil, List.nil_append, List.cons_append, Option.toList_some, Option.toList_none, List.length_cons, List.length_nil, bi_loc, List.zipIdx_cons, List.zipIdx_nil, List.map_cons, List.map_nil, List.getD_cons_zero, List.getD_cons_succ, Nat.zero_add, Bool.not_true, Bool.not_false, Bool.false_eq_true, if_true, if_false, ite_true, ite_false, ↓reduceIte, true_and, and_true, Bool.not_eq_true, beq_self_eq_true, Nat.reduceBEq, Nat.reduceEqDiff, Nat.reduceAdd, Nat.reduceLeDiff, Nat.reduceLT, Nat.reduceSub, Nat.reduceMul, Int32.reduceOfInt, Int32.reduceOfNat, Int32.reduceToNatClampNeg, Int32.reduceLT, Int32.reduceLE, Int32.reduceAdd, Int32.reduceSub, Int32.reduceMul, Int32.reduceDiv, Int32.reduceToInt, Int.reduceLT, Int.reduceSub, Int.reduceToNat, not_false_eq_true, ne_eq, or_true, true_or, or_false, false_or, and_false, false_and, not_true_eq_false, reduceCtorEq, and_self, or_self, eq_self, bh_k_sfi, bh_k_sfr, bh_k_sai, bh_k_sar, bh_k_new, bh_fi_sfi, bh_fi_sfr, bh_fi_sai, bh_fi_sar, bh_fi_new, bh_fr_sfi, bh_fr_sfr, bh_fr_sai, bh_fr_sar, bh_fr_new, bh_ai_sfi, bh_ai_sfr, bh_ai_sai, bh_ai_sar, bh_ai_new, bh_ar_sfi, bh_ar_sfr, bh_ar_sai, bh_ar_sar, bh_ar_new, bh_nx_sfi, bh_nx_sfr, bh_nx_sai, bh_nx_sar, bh_nx_new, bh_nc_sfi, bh_nc_sfr, bh_nc_sai, bh_nc_sar, bh_nc_new, bh_ns_sfi, bh_ns_sfr, bh_ns_sai, bh_ns_sar, bh_ns_new, bh_k_new2, bh_fi_new2, bh_fr_new2, bh_ai_new2, bh_ar_new2, bh_nx_new2, bh_nc_new2, bh_ns_new2, Nat.lt_irrefl, Nat.le_refl, bq_le0, bq_neg, bq_nat, bq_lt, bq_le, bq_eq, bn_one, bn_dec, Q.w.k0, Q.f0, hf.1, q2, bl_i60, bl_i1])
      (refine bw_step rfl ?_; simp +decide only [bw_gi_s, bw_ga_s, bw_go_s, bw_w_i, bw_w_a, bw_w_l, bw_sum_n, bw_sum_c, bw_xs_n, bw_iconst, bw_bipush, bw_sipush, bw_ldc, bw_ldc_w, bw_anull, bw_iload0, bw_aload0, bw_istore0, bw_astore0, bw_iload1, bw_aload1, bw_istore1, bw_astore1, bw_iload2, bw_aload2, bw_istore2, bw_astore2, bw_iload3, bw_aload3, bw_istore3, bw_astore3, bw_iload, bw_aload, bw_istore, bw_astore, bw_iinc, bw_iadd, bw_isub, bw_imul, bw_iand, bw_ixor, bw_idiv, bw_irem, bw_i2l, bw_lcmp, bw_dupi, bw_dupa, bw_dup2ia, bw_dup2ii, bw_getf0, bw_getf2, bw_getf1, bw_putf0, bw_putf2, bw_putf1, bw_iaload, bw_baload, bw_laload, bw_aaload, bw_iastore, bw_bastore, bw_lastore, bw_aastore, bw_alen, bw_newa_int, bw_newa_boolean, bw_newa_long, bw_anewa, bw_multi, bw_new, bw_static, bw_virt, bw_obj, bw_t_nop, bw_t_goto, bw_t_eq_z, bw_t_eq_i, bw_t_ne_z, bw_t_ne_i, bw_t_lt_z, bw_t_lt_i, bw_t_ge_z, bw_t_ge_i, bw_t_gt_z, bw_t_gt_i, bw_t_le_z, bw_t_le_i, bw_t_null, bw_t_nonnull, bw_t_switch, bw_t_ireturn0, bw_t_ireturn1, bw_t_areturn, bw_t_return, bw_t_athrow, bw_t_try, List.lookup_cons, List.lookup_nil, bi_st, List.filter_cons, List.filter_nil, List.take_succ_cons, List.take_zero, List.take_nil, List.drop_succ_cons, List.drop_zero, List.reverse_cons, List.reverse_nil, List.nil_append, List.cons_append, Option.toList_some, Option.toList_none, List.length_cons, List.length_nil, bi_loc, List.zipIdx_cons, List.zipIdx_nil, List.map_cons, List.map_nil, List.getD_cons_zero, List.getD_cons_succ, Nat.zero_add, Bool.not_true, Bool.not_false, Bool.false_eq_true, if_true, if_false, ite_true, ite_false, ↓reduceIte, true_and, and_true, Bool.not_eq_true, beq_self_eq_true, Nat.reduceBEq, Nat.reduceEqDiff, Nat.reduceAdd, Nat.reduceLeDiff, Nat.reduceLT, Nat.reduceSub, Nat.reduceMul, Int32.reduceOfInt, Int32.reduceOfNat, Int32.reduceToNatClampNeg, Int32.reduceLT, Int32.reduceLE, Int32.reduceAdd, Int32.reduceSub, Int32.reduceMul, Int32.reduceDiv, Int32.reduceToInt, Int.reduceLT, Int.reduceSub, Int.reduceToNat, not_false_eq_true, ne_eq, or_true, true_or, or_false, false_or, and_false, false_and, not_true_eq_false, reduceCtorEq, and_self, or_self, eq_self, bh_k_sfi, bh_k_sfr, bh_k_sai, bh_k_sar, bh_k_new, bh_fi_sfi, bh_fi_sfr, bh_fi_sai, bh_fi_sar, bh_fi_new, bh_fr_sfi, bh_fr_sfr, bh_fr_sai, bh_fr_sar, bh_fr_new, bh_ai_sfi, bh_ai_sfr, bh_ai_sai, bh_ai_sar, bh_ai_new, bh_ar_sfi, bh_ar_sfr, bh_ar_sai, bh_ar_sar, bh_ar_new, bh_nx_sfi, bh_nx_sfr, bh_nx_sai, bh_nx_sar, bh_nx_new, bh_nc_sfi, bh_nc_sfr, bh_nc_sai, bh_nc_sar, bh_nc_new, bh_ns_sfi, bh_ns_sfr, bh_ns_sai, bh_ns_sar, bh_ns_new, bh_k_new2, bh_fi_new2, bh_fr_new2, bh_ai_new2, bh_ar_new2, bh_nx_new2, bh_nc_new2, bh_ns_new2, Nat.lt_irrefl, Nat.le_refl, bq_le0, bq_neg, bq_nat, bq_lt, bq_le, bq_eq, bn_one, bn_dec, Q.w.k0, Q.f0, bl_i1])
    · unfold bx_send
      rw [if_neg e]
      exact (Q.sL 2 (bz_L S 2 + 1)).sL 3 (bz_L S 3 + 1)
/-- of the link only its numbers and its row of messages have changed -/
def cl_d (A : Nat → Nat → Nat) (h h' : bi_H) : Prop := (bi_k h' = bi_k h ∧ bi_nx h' = bi_nx h ∧ bi_nc h' = bi_nc h ∧ bi_ns h' = bi_ns h ∧ bi_fr h' = bi_fr h ∧ bi_ai h' = bi_ai h) ∧ (∀ c k a, ¬ (c = 0 ∧ k = 1 ∧ a = A 0 0) → bi_fi h' c k a = bi_fi h c k a) ∧ ∀ a j, a ≠ A 50 0 → bi_ar h' a j = bi_ar h a j
theorem cl_d.tr {h1 h2 h3 : bi_H} (d1 : cl_d A h1 h2) (d2 : cl_d A h2 h3) : cl_d A h1 h3 := by
  obtain ⟨⟨a1, a2, a3, a4, a5, a6⟩, a7, a8⟩ := d1
  obtain ⟨⟨b1, b2, b3, b4, b5, b6⟩, b7, b8⟩ := d2
  exact ⟨⟨b1.trans a1, b2.trans a2, b3.trans a3, b4.trans a4, b5.trans a5, b6.trans a6⟩, fun c k a hn => (b7 c k a hn).trans (a7 c k a hn), fun a j hn => (b8 a j hn).trans (a8 a j hn)⟩
theorem cl_d.sar (h : bi_H) (j v : Nat) : cl_d A h (bi_sar h (A 50 0) j v) := by
  refine ⟨⟨rfl, rfl, rfl, rfl, rfl, rfl⟩, fun _ _ _ _ => rfl, fun a j' hn => ?_⟩
  rw [bh_ar_sar, if_neg (fun z => hn z.1)]
theorem cl_d.sfi (h : bi_H) (v : Int32) : cl_d A h (bi_sfi h 0 1 (A 0 0) v) := by
  refine ⟨⟨rfl, rfl, rfl, rfl, rfl, rfl⟩, fun c k a hn => ?_, fun _ _ _ => rfl⟩
  rw [bh_fi_sfi, if_neg hn]
theorem cl_d.w {p : Nat} {W : ba_W} (d : cl_d A h h') (R : cw_R A p W h) : cw_R A p W h' := by
  obtain ⟨⟨a1, a2, a3, a4, a5, a6⟩, a7, a8⟩ := d
  have n2 : ∀ c, c = 62 ∨ c = 63 → ∀ i, bi_ar h' (A c 0) i = bi_ar h (A c 0) i := fun c hc i => a8 _ _ (fun z => by
    have := R.ne (c := c) (i := 0) (c' := 50) (i' := 0) (by rcases hc with rfl | rfl <;> decide) (by decide) (Or.inl (by omega))
    rw [this] at z
    exact z)
  obtain ⟨⟨l1, l2, l3, l4, l5, l6, l7⟩, w⟩ := R
  refine ⟨⟨fun c i hi => by rw [a1, a2]; exact l1 c i hi, l2, by rw [a5]; exact l3, by rw [a5]; exact l4, fun i hi => by rw [n2 62 (Or.inl rfl)]; exact l5 i hi, fun s hs => by rw [n2 63 (Or.inr rfl)]; exact l6 s hs, by rw [a5]; exact l7⟩, by rw [a7 8 0 _ (by simp)]; exact w.1, by rw [a6]; exact w.2⟩
theorem cs_R.fl (R : cs_R A h0 x y h S) (d : cl_d A h h') {v : Int32} (hv : bi_fi h' 0 1 (A 0 0) = v) {F : List ba_G} (hF : ∀ i, i < F.length → ca_g A h (bi_ar h' (A 50 0) i) (F.getD i (fun _ => 0, []))) : cs_R A h0 x y h' (bz_sF (bz_sL S 1 v) F) := by
  have Rw := d.w R.w
  obtain ⟨⟨a1, a2, a3, a4, a5, a6⟩, a7, a8⟩ := d
  have hfi : ∀ c k a, c ≠ 0 → bi_fi h' c k a = bi_fi h c k a := fun c k a hc => a7 c k a (fun z => hc z.1)
  obtain ⟨r1, ⟨f1, f2, f3, f4, f5, f6⟩, r3, r4, r5, r6, r7, r8, r9, r10⟩ := R
  refine ⟨Rw.1, ⟨by rw [a2]; exact f1, by rw [a1]; exact f2, fun c k a hc ha => ?_, fun a j' ha hn => ?_, by rw [a3]; exact f5, by rw [a4]; exact f6⟩, Rw.2, fun s hs => ?_, fun i hi k => ?_, fun k => ?_, fun k => ?_, fun i hi => ?_, ?_, ?_⟩
  · rw [hfi c k a (by omega), a5]
    exact f3 c k a hc ha
  · rw [a6, a8 a j' (hn 50 0 (by decide))]
    exact f4 a j' ha hn
  · obtain ⟨t1, t2, ⟨v1, v2, v3, v4, v5, v6⟩, t4, t5⟩ := r4 s hs
    refine ⟨fun k => ?_, fun k => ?_, ⟨?_, ?_, ?_, ?_, fun i hi => ?_, fun q hq => ?_⟩, ?_, ?_⟩
    · rw [hfi 6 _ _ (by decide)]
      exact t1 k
    · rw [hfi 5 _ _ (by decide)]
      exact t2 k
    · rw [hfi 7 _ _ (by decide), hfi 7 _ _ (by decide)]
      exact v1
    · rw [hfi 7 _ _ (by decide), hfi 7 _ _ (by decide), hfi 7 _ _ (by decide)]
      exact v2
    · rw [hfi 7 _ _ (by decide)]
      exact v3
    · rw [hfi 7 _ _ (by decide)]
      exact v4
    · rw [a6]
      exact v5 i hi
    · rw [a6]
      exact v6 q hq
    · simp only [a6, hfi 3 _ _ (show (3 : Nat) ≠ 0 by decide)]
      exact t4
    · simp only [a6, hfi 3 _ _ (show (3 : Nat) ≠ 0 by decide)]
      exact t5
  · rw [hfi 4 _ _ (by decide)]
    exact r5 i hi k
  · rw [hfi 9 _ _ (by decide)]
    exact r6 k
  · show _ = ba_u (bz_L S) 1 v k
    unfold ba_u
    by_cases e : k = 1
    · rw [if_pos e, e]
      exact hv
    · rw [if_neg e, a7 0 k _ (fun z => e z.2.1)]
      exact r7 k
  · obtain ⟨g1, g2, g3, g4⟩ := hF i hi
    refine ⟨by rw [a1]; exact g1, by rw [a2]; exact g2, fun k => by rw [hfi 2 _ _ (by decide)]; exact g3 k, ?_⟩
    rw [a5, a6, a1, a2]
    exact g4
  · rw [hfi 1 _ _ (by decide)]
    exact r9
  · rw [a6]
    exact r10
/-- Link.drop: its loop; w: what the row held -/
theorem cl_ldrop {p : Nat} {W : ba_W} {i n : Nat} (hn : n ≤ 60) (hi : i < n) (w : Nat → Nat) : ∀ (d j : Nat) (h : bi_H), d + j = n → i < j → cw_R A p W h → bi_fi h 0 1 (A 0 0) = Int32.ofNat n → (∀ k, k < n → w k = 0 ∨ (bi_k h (w k)).1 = 12) → (∀ k, k < n → bi_ar h (A 50 0) k = if i ≤ k ∧ k + 1 < j then w (k + 1) else w k) → ∃ h', bw_r bt_P 5 4 [(0, .inr (.inl (A 0 0))), (2, .inl (Int32.ofNat j))] [] h (fun o g => o = .inl none ∧ g = h') ∧ cl_d A h h' ∧ bi_fi h' 0 1 (A 0 0) = Int32.ofNat (n - 1) ∧ ∀ k, k < n - 1 → bi_ar h' (A 50 0) k = if i ≤ k then w (k + 1) else w k
  | 0, j, h, hd, hij, R, f01, hk, hw => by
    have q1 : n < 60001 := by omega
    have q2 : n - 1 < 60001 := by omega
    have q3 : n - 1 < 60 := by omega
    have e : j = n := by omega
    subst e
    refine ⟨bi_sar (bi_sfi h 0 1 (A 0 0) (Int32.ofNat (j - 1))) (A 50 0) (j - 1) 0, ?_, (cl_d.sfi h _).tr (cl_d.sar _ _ _), by rw [show bi_fi (bi_sar (bi_sfi h 0 1 (A 0 0) (Int32.ofNat (j - 1))) (A 50 0) (j - 1) 0) = bi_fi (bi_sfi h 0 1 (A 0 0) (Int32.ofNat (j - 1))) from rfl, bh_fi_sfi, if_pos ⟨rfl, rfl, rfl⟩], fun k hk' => ?_⟩
    · (refine bw_step rfl ?_; simp +decide only [bw_gi_s, bw_ga_s, bw_go_s, bw_w_i, bw_w_a, bw_w_l, bw_sum_n, bw_sum_c, bw_xs_n, bw_iconst, bw_bipush, bw_sipush, bw_ldc, bw_ldc_w, bw_anull, bw_iload0, bw_aload0, bw_istore0, bw_astore0, bw_iload1, bw_aload1, bw_istore1, bw_astore1, bw_iload2, bw_aload2, bw_istore2, bw_astore2, bw_iload3, bw_aload3, bw_istore3, bw_astore3, bw_iload, bw_aload, bw_istore, bw_astore, bw_iinc, bw_iadd, bw_isub, bw_imul, bw_iand, bw_ixor, bw_idiv, bw_irem, bw_i2l, bw_lcmp, bw_dupi, bw_dupa, bw_dup2ia, bw_dup2ii, bw_getf0, bw_getf2, bw_getf1, bw_putf0, bw_putf2, bw_putf1, bw_iaload, bw_baload, bw_laload, bw_aaload, bw_iastore, bw_bastore, bw_lastore, bw_aastore, bw_alen, bw_newa_int, bw_newa_boolean, bw_newa_long, bw_anewa, bw_multi, bw_new, bw_static, bw_virt, bw_obj, bw_t_nop, bw_t_goto, bw_t_eq_z, bw_t_eq_i, bw_t_ne_z, bw_t_ne_i, bw_t_lt_z, bw_t_lt_i, bw_t_ge_z, bw_t_ge_i, bw_t_gt_z, bw_t_gt_i, bw_t_le_z, bw_t_le_i, bw_t_null, bw_t_nonnull, bw_t_switch, bw_t_ireturn0, bw_t_ireturn1, bw_t_areturn, bw_t_return, bw_t_athrow, bw_t_try, List.lookup_cons, List.lookup_nil, bi_st, List.filter_cons, List.filter_nil, List.take_succ_cons, List.take_zero, List.take_nil, List.drop_succ_cons, List.drop_zero, List.reverse_cons, List.reverse_nil, List.nil_append, List.cons_append, Option.toList_some, Option.toList_none, List.length_cons, List.length_nil, bi_loc, List.zipIdx_cons, List.zipIdx_nil, List.map_cons, List.map_nil, List.getD_cons_zero, List.getD_cons_succ, Nat.zero_add, Bool.not_true, Bool.not_false, Bool.false_eq_true, if_true, if_false, ite_true, ite_false, ↓reduceIte, true_and, and_true, Bool.not_eq_true, beq_self_eq_true, Nat.reduceBEq, Nat.reduceEqDiff, Nat.reduceAdd, Nat.reduceLeDiff, Nat.reduceLT, Nat.reduceSub, Nat.reduceMul, Int32.reduceOfInt, Int32.reduceOfNat, Int32.reduceToNatClampNeg, Int32.reduceLT, Int32.reduceLE, Int32.reduceAdd, Int32.reduceSub, Int32.reduceMul, Int32.reduceDiv, Int32.reduceToInt, Int.reduceLT, Int.reduceSub, Int.reduceToNat, not_false_eq_true, ne_eq, or_true, true_or, or_false, false_or, and_false, false_and, not_true_eq_false, reduceCtorEq, and_self, or_self, eq_self, bh_k_sfi, bh_k_sfr, bh_k_sai, bh_k_sar, bh_k_new, bh_fi_sfi, bh_fi_sfr, bh_fi_sai, bh_fi_sar, bh_fi_new, bh_fr_sfi, bh_fr_sfr, bh_fr_sai, bh_fr_sar, bh_fr_new, bh_ai_sfi, bh_ai_sfr, bh_ai_sai, bh_ai_sar, bh_ai_new, bh_ar_sfi, bh_ar_sfr, bh_ar_sai, bh_ar_sar, bh_ar_new, bh_nx_sfi, bh_nx_sfr, bh_nx_sai, bh_nx_sar, bh_nx_new, bh_nc_sfi, bh_nc_sfr, bh_nc_sai, bh_nc_sar, bh_nc_new, bh_ns_sfi, bh_ns_sfr, bh_ns_sai, bh_ns_sar, bh_ns_new, bh_k_new2, bh_fi_new2, bh_fr_new2, bh_ai_new2, bh_ar_new2, bh_nx_new2, bh_nc_new2, bh_ns_new2, Nat.lt_irrefl, Nat.le_refl, bq_le0, bq_neg, bq_nat, bq_lt, bq_le, bq_eq, bn_one, bn_dec, R.k0, f01, q1])
      (refine bw_step rfl ?_; simp +decide only [bw_gi_s, bw_ga_s, bw_go_s, bw_w_i, bw_w_a, bw_w_l, bw_sum_n, bw_sum_c, bw_xs_n, bw_iconst, bw_bipush, bw_sipush, bw_ldc, bw_ldc_w, bw_anull, bw_iload0, bw_aload0, bw_istore0, bw_astore0, bw_iload1, bw_aload1, bw_istore1, bw_astore1, bw_iload2, bw_aload2, bw_istore2, bw_astore2, bw_iload3, bw_aload3, bw_istore3, bw_astore3, bw_iload, bw_aload, bw_istore, bw_astore, bw_iinc, bw_iadd, bw_isub, bw_imul, bw_iand, bw_ixor, bw_idiv, bw_irem, bw_i2l, bw_lcmp, bw_dupi, bw_dupa, bw_dup2ia, bw_dup2ii, bw_getf0, bw_getf2, bw_getf1, bw_putf0, bw_putf2, bw_putf1, bw_iaload, bw_baload, bw_laload, bw_aaload, bw_iastore, bw_bastore, bw_lastore, bw_aastore, bw_alen, bw_newa_int, bw_newa_boolean, bw_newa_long, bw_anewa, bw_multi, bw_new, bw_static, bw_virt, bw_obj, bw_t_nop, bw_t_goto, bw_t_eq_z, bw_t_eq_i, bw_t_ne_z, bw_t_ne_i, bw_t_lt_z, bw_t_lt_i, bw_t_ge_z, bw_t_ge_i, bw_t_gt_z, bw_t_gt_i, bw_t_le_z, bw_t_le_i, bw_t_null, bw_t_nonnull, bw_t_switch, bw_t_ireturn0, bw_t_ireturn1, bw_t_areturn, bw_t_return, bw_t_athrow, bw_t_try, List.lookup_cons, List.lookup_nil, bi_st, List.filter_cons, List.filter_nil, List.take_succ_cons, List.take_zero, List.take_nil, List.drop_succ_cons, List.drop_zero, List.reverse_cons, List.reverse_nil, List.nil_append, List.cons_append, Option.toList_some, Option.toList_none, List.length_cons, List.length_nil, bi_loc, List.zipIdx_cons, List.zipIdx_nil, List.map_cons, List.map_nil, List.getD_cons_zero, List.getD_cons_succ, Nat.zero_add, Bool.not_true, Bool.not_false, Bool.false_eq_true, if_true, if_false, ite_true, ite_false, ↓reduceIte, true_and, and_true, Bool.not_eq_true, beq_self_eq_true, Nat.reduceBEq, Nat.reduceEqDiff, Nat.reduceAdd, Nat.reduceLeDiff, Nat.reduceLT, Nat.reduceSub, Nat.reduceMul, Int32.reduceOfInt, Int32.reduceOfNat, Int32.reduceToNatClampNeg, Int32.reduceLT, Int32.reduceLE, Int32.reduceAdd, Int32.reduceSub, Int32.reduceMul, Int32.reduceDiv, Int32.reduceToInt, Int.reduceLT, Int.reduceSub, Int.reduceToNat, not_false_eq_true, ne_eq, or_true, true_or, or_false, false_or, and_false, false_and, not_true_eq_false, reduceCtorEq, and_self, or_self, eq_self, bh_k_sfi, bh_k_sfr, bh_k_sai, bh_k_sar, bh_k_new, bh_fi_sfi, bh_fi_sfr, bh_fi_sai, bh_fi_sar, bh_fi_new, bh_fr_sfi, bh_fr_sfr, bh_fr_sai, bh_fr_sar, bh_fr_new, bh_ai_sfi, bh_ai_sfr, bh_ai_sai, bh_ai_sar, bh_ai_new, bh_ar_sfi, bh_ar_sfr, bh_ar_sai, bh_ar_sar, bh_ar_new, bh_nx_sfi, bh_nx_sfr, bh_nx_sai, bh_nx_sar, bh_nx_new, bh_nc_sfi, bh_nc_sfr, bh_nc_sai, bh_nc_sar, bh_nc_new, bh_ns_sfi, bh_ns_sfr, bh_ns_sai, bh_ns_sar, bh_ns_new, bh_k_new2, bh_fi_new2, bh_fr_new2, bh_ai_new2, bh_ar_new2, bh_nx_new2, bh_nc_new2, bh_ns_new2, Nat.lt_irrefl, Nat.le_refl, bq_le0, bq_neg, bq_nat, bq_lt, bq_le, bq_eq, bn_one, bn_dec, R.k0, R.r00, R.k50, f01, q2, q3, bq_sub1 (show 0 < j by omega)])
    · rw [bh_ar_sar, if_neg (fun z => by have := z.2; omega), bh_ar_sfi, hw k (by omega)]
      by_cases c : i ≤ k
      · rw [if_pos c, if_pos ⟨c, by omega⟩]
      · rw [if_neg c, if_neg (fun z => c z.1)]
  | d + 1, j, h, hd, hij, R, f01, hk, hw => by
    have hj : j < n := by omega
    have q1 : n < 60001 := by omega
    have q2 : j < 60001 := by omega
    have q3 : j - 1 < 60001 := by omega
    have q4 : j < 60 := by omega
    have q5 : j - 1 < 60 := by omega
    have wj := hw j hj
    rw [if_neg (by omega)] at wj
    have D1 : cl_d A h (bi_sar h (A 50 0) (j - 1) (w j)) := cl_d.sar h _ _
    have R1 := D1.w R
    obtain ⟨h', r, D2, e1, e2⟩ := cl_ldrop hn hi w d (j + 1) _ (by omega) (by omega) R1 f01 hk (fun k hk' => by
      rw [bh_ar_sar]
      by_cases c : k = j - 1
      · rw [if_pos ⟨rfl, c⟩, if_pos (by omega)]
        congr 1
        omega
      · rw [if_neg (fun z => c z.2), hw k hk']
        by_cases c2 : i ≤ k ∧ k + 1 < j
        · rw [if_pos c2, if_pos (by omega)]
        · rw [if_neg c2, if_neg (by omega)])
    refine ⟨h', ?_, D1.tr D2, e1, e2⟩
    have hkd : (w j = 0 ∨ (bi_k h (w j)).1 = 12) = True := eq_true (hk j hj)
    (refine bw_step rfl ?_; simp +decide only [bw_gi_s, bw_ga_s, bw_go_s, bw_w_i, bw_w_a, bw_w_l, bw_sum_n, bw_sum_c, bw_xs_n, bw_iconst, bw_bipush, bw_sipush, bw_ldc, bw_ldc_w, bw_anull, bw_iload0, bw_aload0, bw_istore0, bw_astore0, bw_iload1, bw_aload1, bw_istore1, bw_astore1, bw_iload2, bw_aload2, bw_istore2, bw_astore2, bw_iload3, bw_aload3, bw_istore3, bw_astore3, bw_iload, bw_aload, bw_istore, bw_astore, bw_iinc, bw_iadd, bw_isub, bw_imul, bw_iand, bw_ixor, bw_idiv, bw_irem, bw_i2l, bw_lcmp, bw_dupi, bw_dupa, bw_dup2ia, bw_dup2ii, bw_getf0, bw_getf2, bw_getf1, bw_putf0, bw_putf2, bw_putf1, bw_iaload, bw_baload, bw_laload, bw_aaload, bw_iastore, bw_bastore, bw_lastore, bw_aastore, bw_alen, bw_newa_int, bw_newa_boolean, bw_newa_long, bw_anewa, bw_multi, bw_new, bw_static, bw_virt, bw_obj, bw_t_nop, bw_t_goto, bw_t_eq_z, bw_t_eq_i, bw_t_ne_z, bw_t_ne_i, bw_t_lt_z, bw_t_lt_i, bw_t_ge_z, bw_t_ge_i, bw_t_gt_z, bw_t_gt_i, bw_t_le_z, bw_t_le_i, bw_t_null, bw_t_nonnull, bw_t_switch, bw_t_ireturn0, bw_t_ireturn1, bw_t_areturn, bw_t_return, bw_t_athrow, bw_t_try, List.lookup_cons, List.lookup_nil, bi_st, List.filter_cons, List.filter_nil, List.take_succ_cons, List.take_zero, List.take_nil, List.drop_succ_cons, List.drop_zero, List.reverse_cons, List.reverse_nil, List.nil_append, List.cons_append, Option.toList_some, Option.toList_none, List.length_cons, List.length_nil, bi_loc, List.zipIdx_cons, List.zipIdx_nil, List.map_cons, List.map_nil, List.getD_cons_zero, List.getD_cons_succ, Nat.zero_add, Bool.not_true, Bool.not_false, Bool.false_eq_true, if_true, if_false, ite_true, ite_false, ↓reduceIte, true_and, and_true, Bool.not_eq_true, beq_self_eq_true, Nat.reduceBEq, Nat.reduceEqDiff, Nat.reduceAdd, Nat.reduceLeDiff, Nat.reduceLT, Nat.reduceSub, Nat.reduceMul, Int32.reduceOfInt, Int32.reduceOfNat, Int32.reduceToNatClampNeg, Int32.reduceLT, Int32.reduceLE, Int32.reduceAdd, Int32.reduceSub, Int32.reduceMul, Int32.reduceDiv, Int32.reduceToInt, Int.reduceLT, Int.reduceSub, Int.reduceToNat, not_false_eq_true, ne_eq, or_true, true_or, or_false, false_or, and_false, false_and, not_true_eq_false, reduceCtorEq, and_self, or_self, eq_self, bh_k_sfi, bh_k_sfr, bh_k_sai, bh_k_sar, bh_k_new, bh_fi_sfi, bh_fi_sfr, bh_fi_sai, bh_fi_sar, bh_fi_new, bh_fr_sfi, bh_fr_sfr, bh_fr_sai, bh_fr_sar, bh_fr_new, bh_ai_sfi, bh_ai_sfr, bh_ai_sai, bh_ai_sar, bh_ai_new, bh_ar_sfi, bh_ar_sfr, bh_ar_sai, bh_ar_sar, bh_ar_new, bh_nx_sfi, bh_nx_sfr, bh_nx_sai, bh_nx_sar, bh_nx_new, bh_nc_sfi, bh_nc_sfr, bh_nc_sai, bh_nc_sar, bh_nc_new, bh_ns_sfi, bh_ns_sfr, bh_ns_sai, bh_ns_sar, bh_ns_new, bh_k_new2, bh_fi_new2, bh_fr_new2, bh_ai_new2, bh_ar_new2, bh_nx_new2, bh_nc_new2, bh_ns_new2, Nat.lt_irrefl, Nat.le_refl, bq_le0, bq_neg, bq_nat, bq_lt, bq_le, bq_eq, bn_one, bn_dec, R.k0, f01, q1, q2, Nat.not_le.mpr hj])
    (refine bw_step rfl ?_; simp +decide only [bw_gi_s, bw_ga_s, bw_go_s, bw_w_i, bw_w_a, bw_w_l, bw_sum_n, bw_sum_c, bw_xs_n, bw_iconst, bw_bipush, bw_sipush, bw_ldc, bw_ldc_w, bw_anull, bw_iload0, bw_aload0, bw_istore0, bw_astore0, bw_iload1, bw_aload1, bw_istore1, bw_astore1, bw_iload2, bw_aload2, bw_istore2, bw_astore2, bw_iload3, bw_aload3, bw_istore3, bw_astore3, bw_iload, bw_aload, bw_istore, bw_astore, bw_iinc, bw_iadd, bw_isub, bw_imul, bw_iand, bw_ixor, bw_idiv, bw_irem, bw_i2l, bw_lcmp, bw_dupi, bw_dupa, bw_dup2ia, bw_dup2ii, bw_getf0, bw_getf2, bw_getf1, bw_putf0, bw_putf2, bw_putf1, bw_iaload, bw_baload, bw_laload, bw_aaload, bw_iastore, bw_bastore, bw_lastore, bw_aastore, bw_alen, bw_newa_int, bw_newa_boolean, bw_newa_long, bw_anewa, bw_multi, bw_new, bw_static, bw_virt, bw_obj, bw_t_nop, bw_t_goto, bw_t_eq_z, bw_t_eq_i, bw_t_ne_z, bw_t_ne_i, bw_t_lt_z, bw_t_lt_i, bw_t_ge_z, bw_t_ge_i, bw_t_gt_z, bw_t_gt_i, bw_t_le_z, bw_t_le_i, bw_t_null, bw_t_nonnull, bw_t_switch, bw_t_ireturn0, bw_t_ireturn1, bw_t_areturn, bw_t_return, bw_t_athrow, bw_t_try, List.lookup_cons, List.lookup_nil, bi_st, List.filter_cons, List.filter_nil, List.take_succ_cons, List.take_zero, List.take_nil, List.drop_succ_cons, List.drop_zero, List.reverse_cons, List.reverse_nil, List.nil_append, List.cons_append, Option.toList_some, Option.toList_none, List.length_cons, List.length_nil, bi_loc, List.zipIdx_cons, List.zipIdx_nil, List.map_cons, List.map_nil, List.getD_cons_zero, List.getD_cons_succ, Nat.zero_add, Bool.not_true, Bool.not_false, Bool.false_eq_true, if_true, if_false, ite_true, ite_false, ↓reduceIte, true_and, and_true, Bool.not_eq_true, beq_self_eq_true, Nat.reduceBEq, Nat.reduceEqDiff, Nat.reduceAdd, Nat.reduceLeDiff, Nat.reduceLT, Nat.reduceSub, Nat.reduceMul, Int32.reduceOfInt, Int32.reduceOfNat, Int32.reduceToNatClampNeg, Int32.reduceLT, Int32.reduceLE, Int32.reduceAdd, Int32.reduceSub, Int32.reduceMul, Int32.reduceDiv, Int32.reduceToInt, Int.reduceLT, Int.reduceSub, Int.reduceToNat, not_false_eq_true, ne_eq, or_true, true_or, or_false, false_or, and_false, false_and, not_true_eq_false, reduceCtorEq, and_self, or_self, eq_self, bh_k_sfi, bh_k_sfr, bh_k_sai, bh_k_sar, bh_k_new, bh_fi_sfi, bh_fi_sfr, bh_fi_sai, bh_fi_sar, bh_fi_new, bh_fr_sfi, bh_fr_sfr, bh_fr_sai, bh_fr_sar, bh_fr_new, bh_ai_sfi, bh_ai_sfr, bh_ai_sai, bh_ai_sar, bh_ai_new, bh_ar_sfi, bh_ar_sfr, bh_ar_sai, bh_ar_sar, bh_ar_new, bh_nx_sfi, bh_nx_sfr, bh_nx_sai, bh_nx_sar, bh_nx_new, bh_nc_sfi, bh_nc_sfr, bh_nc_sai, bh_nc_sar, bh_nc_new, bh_ns_sfi, bh_ns_sfr, bh_ns_sai, bh_ns_sar, bh_ns_new, bh_k_new2, bh_fi_new2, bh_fr_new2, bh_ai_new2, bh_ar_new2, bh_nx_new2, bh_nc_new2, bh_ns_new2, Nat.lt_irrefl, Nat.le_refl, bq_le0, bq_neg, bq_nat, bq_lt, bq_le, bq_eq, bn_one, bn_dec, R.k0, R.r00, R.k50, q2, q3, q4, q5, bq_sub1 (show 0 < j by omega), wj, hkd])
    (refine bw_sub2 _ ?_ (r); exact ⟨rfl, rfl, trivial⟩)
/-- Link.drop -/
theorem q_ldrop (Q : cs_Q A h0 x y z h S) (I : bz_ok S) {i : Nat} (hi : i < (bz_F S).length) : ∃ h', (∀ K : Option bi_V → bi_H → Prop, bw_C bt_P 5 [.inr (.inl (A 0 0)), .inl (Int32.ofNat i)] h K ↔ K none h') ∧ cs_Q A h0 x y z h' (bx_drop S i) := by
  have hf := I.fl
  have q1 : i < 60001 := by omega
  have q2 : (bz_F S).length < 60001 := by omega
  obtain ⟨h', r, D, e1, e2⟩ := cl_ldrop (A := A) hf.2 hi (fun k => bi_ar h (A 50 0) k) ((bz_F S).length - (i + 1)) (i + 1) h (by omega) (by omega) Q.w (by rw [Q.f0]; exact hf.1) (fun k hk => Or.inr (by rw [(Q.m hk).1])) (fun k hk => by rw [if_neg (by omega)])
  refine ⟨h', fun K => ?_, ?_⟩
  · refine bw_C_iff ?_ K
    have f01 : bi_fi h 0 1 (A 0 0) = Int32.ofNat (bz_F S).length := by rw [Q.f0]; exact hf.1
    (refine bw_step rfl ?_; simp +decide only [bw_gi_s, bw_ga_s, bw_go_s, bw_w_i, bw_w_a, bw_w_l, bw_sum_n, bw_sum_c, bw_xs_n, bw_iconst, bw_bipush, bw_sipush, bw_ldc, bw_ldc_w, bw_anull, bw_iload0, bw_aload0, bw_istore0, bw_astore0, bw_iload1, bw_aload1, bw_istore1, bw_astore1, bw_iload2, bw_aload2, bw_istore2, bw_astore2, bw_iload3, bw_aload3, bw_istore3, bw_astore3, bw_iload, bw_aload, bw_istore, bw_astore, bw_iinc, bw_iadd, bw_isub, bw_imul, bw_iand, bw_ixor, bw_idiv, bw_irem, bw_i2l, bw_lcmp, bw_dupi, bw_dupa, bw_dup2ia, bw_dup2ii, bw_getf0, bw_getf2, bw_getf1, bw_putf0, bw_putf2, bw_putf1, bw_iaload, bw_baload, bw_laload, bw_aaload, bw_iastore, bw_bastore, bw_lastore, bw_aastore, bw_alen, bw_newa_int, bw_newa_boolean, bw_newa_long, bw_anewa, bw_multi, bw_new, bw_static, bw_virt, bw_obj, bw_t_nop, bw_t_goto, bw_t_eq_z, bw_t_eq_i, bw_t_ne_z, bw_t_ne_i, bw_t_lt_z, bw_t_lt_i, bw_t_ge_z, bw_t_ge_i, bw_t_gt_z, bw_t_gt_i, bw_t_le_z, bw_t_le_i, bw_t_null, bw_t_nonnull, bw_t_switch, bw_t_ireturn0, bw_t_ireturn1, bw_t_areturn, bw_t_return, bw_t_athrow, bw_t_try, List.lookup_cons, List.lookup_nil, bi_st, List.filter_cons, List.filter_nil, List.take_succ_cons, List.take_zero, List.take_nil, List.drop_succ_cons, List.drop_zero, List.reverse_cons, List.reverse_nil, List.nil_append, List.cons_append, Option.toList_some, Option.toList_none, List.length_cons, List.length_nil, bi_loc, List.zipIdx_cons, List.zipIdx_nil, List.map_cons, List.map_nil, List.getD_cons_zero, List.getD_cons_succ, Nat.zero_add, Bool.not_true, Bool.not_false, Bool.false_eq_true, if_true, if_false, ite_true, ite_false, ↓reduceIte, true_and, and_true, Bool.not_eq_true, beq_self_eq_true, Nat.reduceBEq, Nat.reduceEqDiff, Nat.reduceAdd, Nat.reduceLeDiff, Nat.reduceLT, Nat.reduceSub, Nat.reduceMul, Int32.reduceOfInt, Int32.reduceOfNat, Int32.reduceToNatClampNeg, Int32.reduceLT, Int32.reduceLE, Int32.reduceAdd, Int32.reduceSub, Int32.reduceMul, Int32.reduceDiv, Int32.reduceToInt, Int.reduceLT, Int.reduceSub, Int.reduceToNat, not_false_eq_true, ne_eq, or_true, true_or, or_false, false_or, and_false, false_and, not_true_eq_false, reduceCtorEq, and_self, or_self, eq_self, bh_k_sfi, bh_k_sfr, bh_k_sai, bh_k_sar, bh_k_new, bh_fi_sfi, bh_fi_sfr, bh_fi_sai, bh_fi_sar, bh_fi_new, bh_fr_sfi, bh_fr_sfr, bh_fr_sai, bh_fr_sar, bh_fr_new, bh_ai_sfi, bh_ai_sfr, bh_ai_sai, bh_ai_sar, bh_ai_new, bh_ar_sfi, bh_ar_sfr, bh_ar_sai, bh_ar_sar, bh_ar_new, bh_nx_sfi, bh_nx_sfr, bh_nx_sai, bh_nx_sar, bh_nx_new, bh_nc_sfi, bh_nc_sfr, bh_nc_sai, bh_nc_sar, bh_nc_new, bh_ns_sfi, bh_ns_sfr, bh_ns_sai, bh_ns_sar, bh_ns_new, bh_k_new2, bh_fi_new2, bh_fr_new2, bh_ai_new2, bh_ar_new2, bh_nx_new2, bh_nc_new2, bh_ns_new2, Nat.lt_irrefl, Nat.le_refl, bq_le0, bq_neg, bq_nat, bq_lt, bq_le, bq_eq, bn_one, bn_dec, q1])
    (refine bw_step rfl ?_; simp +decide only [bw_gi_s, bw_ga_s, bw_go_s, bw_w_i, bw_w_a, bw_w_l, bw_sum_n, bw_sum_c, bw_xs_n, bw_iconst, bw_bipush, bw_sipush, bw_ldc, bw_ldc_w, bw_anull, bw_iload0, bw_aload0, bw_istore0, bw_astore0, bw_iload1, bw_aload1, bw_istore1, bw_astore1, bw_iload2, bw_aload2, bw_istore2, bw_astore2, bw_iload3, bw_aload3, bw_istore3, bw_astore3, bw_iload, bw_aload, bw_istore, bw_astore, bw_iinc, bw_iadd, bw_isub, bw_imul, bw_iand, bw_ixor, bw_idiv, bw_irem, bw_i2l, bw_lcmp, bw_dupi, bw_dupa, bw_dup2ia, bw_dup2ii, bw_getf0, bw_getf2, bw_getf1, bw_putf0, bw_putf2, bw_putf1, bw_iaload, bw_baload, bw_laload, bw_aaload, bw_iastore, bw_bastore, bw_lastore, bw_aastore, bw_alen, bw_newa_int, bw_newa_boolean, bw_newa_long, bw_anewa, bw_multi, bw_new, bw_static, bw_virt, bw_obj, bw_t_nop, bw_t_goto, bw_t_eq_z, bw_t_eq_i, bw_t_ne_z, bw_t_ne_i, bw_t_lt_z, bw_t_lt_i, bw_t_ge_z, bw_t_ge_i, bw_t_gt_z, bw_t_gt_i, bw_t_le_z, bw_t_le_i, bw_t_null, bw_t_nonnull, bw_t_switch, bw_t_ireturn0, bw_t_ireturn1, bw_t_areturn, bw_t_return, bw_t_athrow, bw_t_try, List.lookup_cons, List.lookup_nil, bi_st, List.filter_cons, List.filter_nil, List.take_succ_cons, List.take_zero, List.take_nil, List.drop_succ_cons, List.drop_zero, List.reverse_cons, List.reverse_nil, List.nil_append, List.cons_append, Option.toList_some, Option.toList_none, List.length_cons, List.length_nil, bi_loc, List.zipIdx_cons, List.zipIdx_nil, List.map_cons, List.map_nil, List.getD_cons_zero, List.getD_cons_succ, Nat.zero_add, Bool.not_true, Bool.not_false, Bool.false_eq_true, if_true, if_false, ite_true, ite_false, ↓reduceIte, true_and, and_true, Bool.not_eq_true, beq_self_eq_true, Nat.reduceBEq, Nat.reduceEqDiff, Nat.reduceAdd, Nat.reduceLeDiff, Nat.reduceLT, Nat.reduceSub, Nat.reduceMul, Int32.reduceOfInt, Int32.reduceOfNat, Int32.reduceToNatClampNeg, Int32.reduceLT, Int32.reduceLE, Int32.reduceAdd, Int32.reduceSub, Int32.reduceMul, Int32.reduceDiv, Int32.reduceToInt, Int.reduceLT, Int.reduceSub, Int.reduceToNat, not_false_eq_true, ne_eq, or_true, true_or, or_false, false_or, and_false, false_and, not_true_eq_false, reduceCtorEq, and_self, or_self, eq_self, bh_k_sfi, bh_k_sfr, bh_k_sai, bh_k_sar, bh_k_new, bh_fi_sfi, bh_fi_sfr, bh_fi_sai, bh_fi_sar, bh_fi_new, bh_fr_sfi, bh_fr_sfr, bh_fr_sai, bh_fr_sar, bh_fr_new, bh_ai_sfi, bh_ai_sfr, bh_ai_sai, bh_ai_sar, bh_ai_new, bh_ar_sfi, bh_ar_sfr, bh_ar_sai, bh_ar_sar, bh_ar_new, bh_nx_sfi, bh_nx_sfr, bh_nx_sai, bh_nx_sar, bh_nx_new, bh_nc_sfi, bh_nc_sfr, bh_nc_sai, bh_nc_sar, bh_nc_new, bh_ns_sfi, bh_ns_sfr, bh_ns_sai, bh_ns_sar, bh_ns_new, bh_k_new2, bh_fi_new2, bh_fr_new2, bh_ai_new2, bh_ar_new2, bh_nx_new2, bh_nc_new2, bh_ns_new2, Nat.lt_irrefl, Nat.le_refl, bq_le0, bq_neg, bq_nat, bq_lt, bq_le, bq_eq, bn_one, bn_dec, Q.w.k0, f01, q1, q2, hi])
    (refine bw_step rfl ?_; simp +decide only [bw_gi_s, bw_ga_s, bw_go_s, bw_w_i, bw_w_a, bw_w_l, bw_sum_n, bw_sum_c, bw_xs_n, bw_iconst, bw_bipush, bw_sipush, bw_ldc, bw_ldc_w, bw_anull, bw_iload0, bw_aload0, bw_istore0, bw_astore0, bw_iload1, bw_aload1, bw_istore1, bw_astore1, bw_iload2, bw_aload2, bw_istore2, bw_astore2, bw_iload3, bw_aload3, bw_istore3, bw_astore3, bw_iload, bw_aload, bw_istore, bw_astore, bw_iinc, bw_iadd, bw_isub, bw_imul, bw_iand, bw_ixor, bw_idiv, bw_irem, bw_i2l, bw_lcmp, bw_dupi, bw_dupa, bw_dup2ia, bw_dup2ii, bw_getf0, bw_getf2, bw_getf1, bw_putf0, bw_putf2, bw_putf1, bw_iaload, bw_baload, bw_laload, bw_aaload, bw_iastore, bw_bastore, bw_lastore, bw_aastore, bw_alen, bw_newa_int, bw_newa_boolean, bw_newa_long, bw_anewa, bw_multi, bw_new, bw_static, bw_virt, bw_obj, bw_t_nop, bw_t_goto, bw_t_eq_z, bw_t_eq_i, bw_t_ne_z, bw_t_ne_i, bw_t_lt_z, bw_t_lt_i, bw_t_ge_z, bw_t_ge_i, bw_t_gt_z, bw_t_gt_i, bw_t_le_z, bw_t_le_i, bw_t_null, bw_t_nonnull, bw_t_switch, bw_t_ireturn0, bw_t_ireturn1, bw_t_areturn, bw_t_return, bw_t_athrow, bw_t_try, List.lookup_cons, List.lookup_nil, bi_st, List.filter_cons, List.filter_nil, List.take_succ_cons, List.take_zero, List.take_nil, List.drop_succ_cons, List.drop_zero, List.reverse_cons, List.reverse_nil, List.nil_append, List.cons_append, Option.toList_some, Option.toList_none, List.length_cons, List.length_nil, bi_loc, List.zipIdx_cons, List.zipIdx_nil, List.map_cons, List.map_nil, List.getD_cons_zero, List.getD_cons_succ, Nat.zero_add, Bool.not_true, Bool.not_false, Bool.false_eq_true, if_true, if_false, ite_true, ite_false, ↓reduceIte, true_and, and_true, Bool.not_eq_true, beq_self_eq_true, Nat.reduceBEq, Nat.reduceEqDiff, Nat.reduceAdd, Nat.reduceLeDiff, Nat.reduceLT, Nat.reduceSub, Nat.reduceMul, Int32.reduceOfInt, Int32.reduceOfNat, Int32.reduceToNatClampNeg, Int32.reduceLT, Int32.reduceLE, Int32.reduceAdd, Int32.reduceSub, Int32.reduceMul, Int32.reduceDiv, Int32.reduceToInt, Int.reduceLT, Int.reduceSub, Int.reduceToNat, not_false_eq_true, ne_eq, or_true, true_or, or_false, false_or, and_false, false_and, not_true_eq_false, reduceCtorEq, and_self, or_self, eq_self, bh_k_sfi, bh_k_sfr, bh_k_sai, bh_k_sar, bh_k_new, bh_fi_sfi, bh_fi_sfr, bh_fi_sai, bh_fi_sar, bh_fi_new, bh_fr_sfi, bh_fr_sfr, bh_fr_sai, bh_fr_sar, bh_fr_new, bh_ai_sfi, bh_ai_sfr, bh_ai_sai, bh_ai_sar, bh_ai_new, bh_ar_sfi, bh_ar_sfr, bh_ar_sai, bh_ar_sar, bh_ar_new, bh_nx_sfi, bh_nx_sfr, bh_nx_sai, bh_nx_sar, bh_nx_new, bh_nc_sfi, bh_nc_sfr, bh_nc_sai, bh_nc_sar, bh_nc_new, bh_ns_sfi, bh_ns_sfr, bh_ns_sai, bh_ns_sar, bh_ns_new, bh_k_new2, bh_fi_new2, bh_fr_new2, bh_ai_new2, bh_ar_new2, bh_nx_new2, bh_nc_new2, bh_ns_new2, Nat.lt_irrefl, Nat.le_refl, bq_le0, bq_neg, bq_nat, bq_lt, bq_le, bq_eq, bn_one, bn_dec])
    (refine bw_sub2 _ ?_ (r); exact ⟨rfl, rfl, trivial⟩)
  · obtain ⟨rr, hr, R⟩ := Q
    refine ⟨rr, hr, R.fl D e1 (F := (bz_F S).eraseIdx i) (fun k hk => ?_)⟩
    rw [List.length_eraseIdx, if_pos hi] at hk
    rw [e2 k hk]
    have eg : ((bz_F S).eraseIdx i).getD k (fun _ => 0, []) = if k < i then (bz_F S).getD k (fun _ => 0, []) else (bz_F S).getD (k + 1) (fun _ => 0, []) := by
      simp only [List.getD_eq_getElem?_getD, List.getElem?_eraseIdx]
      split <;> rfl
    rw [eg]
    by_cases c : i ≤ k
    · rw [if_pos c, if_neg (by omega)]
      exact R.m (i := k + 1) (show k + 1 < (bz_F S).length by omega)
    · rw [if_neg c, if_pos (by omega)]
      exact R.m (i := k) (show k < (bz_F S).length by omega)
end CM
