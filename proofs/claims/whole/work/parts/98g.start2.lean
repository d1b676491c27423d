/-! the reference's heap shows a new object's state (written by wip/tools/gen98g.py) -/
def be_oB (c i : Nat) : Nat := match c with
  | 12 => 0
  | 109 => 1
  | 110 => 2
  | 111 => 3
  | 112 => 4
  | 113 => 5
  | 115 => 6
  | 116 => 7
  | 117 => 8
  | 118 => 9
  | 119 => 10
  | 120 => 11
  | 121 => 12
  | 122 => 13
  | 123 => 14
  | 129 => 15
  | 130 => 16
  | 131 => 17
  | 132 => 22
  | 133 => 27
  | 134 => 28
  | 135 => 29
  | 136 => 30
  | 61 => 18 + i
  | 62 => 23 + i
  | 10 => 31 + 4 * i
  | 70 => 32 + 4 * i
  | 71 => 33 + 4 * i
  | 72 => 34 + 4 * i
  | _ => 0
def be_tB (x : Nat) : Nat × Nat := match x with
  | 0 => (12, 0)
  | 1 => (109, 0)
  | 2 => (110, 0)
  | 3 => (111, 0)
  | 4 => (112, 0)
  | 5 => (113, 0)
  | 6 => (115, 0)
  | 7 => (116, 0)
  | 8 => (117, 0)
  | 9 => (118, 0)
  | 10 => (119, 0)
  | 11 => (120, 0)
  | 12 => (121, 0)
  | 13 => (122, 0)
  | 14 => (123, 0)
  | 15 => (129, 0)
  | 16 => (130, 0)
  | 17 => (131, 0)
  | 22 => (132, 0)
  | 27 => (133, 0)
  | 28 => (134, 0)
  | 29 => (135, 0)
  | 30 => (136, 0)
  | 18 => (61, 0)
  | 19 => (61, 1)
  | 20 => (61, 2)
  | 21 => (61, 3)
  | 23 => (62, 0)
  | 24 => (62, 1)
  | 25 => (62, 2)
  | 26 => (62, 3)
  | _ => (0, 0)
def be_cB (r : Nat) : Nat := match r with
  | 0 => 10
  | 1 => 70
  | 2 => 71
  | 3 => 72
  | _ => 0
def be_dB (x : Nat) : Nat × Nat := if x < 31 then be_tB x else (be_cB ((x - 31) % 4), (x - 31) / 4)
theorem be_b1 : ∀ c, c < 137 → ∀ i, i < mb_bd c → mb_ex c = false → be_dB (be_oB c i) = (c, i) ∧ be_oB c i < 275 := by decide +kernel
theorem mb_in0 {c i : Nat} (h : mb_in 0 c i) : c < 137 ∧ i < mb_bd c ∧ mb_ex c = false := by
  obtain ⟨h1, h2⟩ := h
  refine ⟨?_, h1, ?_⟩
  · unfold mb_bd at h1
    split at h1
    all_goals first
      | exact absurd h1 (Nat.not_lt_zero _)
      | decide
  · cases e : mb_ex c
    · rfl
    · exact absurd (h2 e) (Nat.not_lt_zero _)
/-- the heap behind the reference's constructor, and the row for what is thrown -/
def be_H (g : bi_H) (p k w : Int32) : bi_H := bi_new (bx_X12 (bi_new g (22, 0) 39) (bi_nx g) p k w) (3, 1) 1
theorem bg_o4 (a r i : Nat) : a + (31 + r + 4 * i) = a + 31 + 4 * i + r := by omega
theorem bg_four {i : Nat} (h : i < 4) : i = 0 ∨ i = 1 ∨ i = 2 ∨ i = 3 := by omega
section PR
variable {g h : bi_H} {p k w : Int32}
theorem be_H_n (g : bi_H) (p k w : Int32) : bi_nx (be_H g p k w) = bi_nx g + 276 ∧ bi_nc (be_H g p k w) = bi_nc g + 276 ∧ bi_ns (be_H g p k w) = bi_ns g + 453446 := by
  obtain ⟨s1, s2, s3⟩ := be_s (bi_new g (22, 0) 39) (bi_nx g) p k w
  rw [bh_nx_new] at s1
  rw [bh_nc_new] at s2
  rw [bh_ns_new] at s3
  obtain ⟨f1, f2, f3, f4⟩ := bx_its_fr (bi_nx g) (bi_nx (bi_new g (22, 0) 39) + 29) 61 0 (bx_X12a (bi_new g (22, 0) 39) (bi_nx g) p k w) (by omega) (by rw [bh_nx_new]; omega)
  unfold be_H bx_X12
  rw [bh_nx_new, bh_nc_new, bh_ns_new, f1, f2, f3]
  omega
/-- from before its loop on -/
theorem be_H_m (g : bi_H) (p k w : Int32) : ∀ b, b < bi_nx g + 31 → bi_k (be_H g p k w) b = bi_k (bx_X12a (bi_new g (22, 0) 39) (bi_nx g) p k w) b ∧ (∀ c f, ¬ (c = 12 ∧ f = 38 ∧ b = bi_nx g) → bi_fi (be_H g p k w) c f b = bi_fi (bx_X12a (bi_new g (22, 0) 39) (bi_nx g) p k w) c f b) ∧ (∀ c f, bi_fr (be_H g p k w) c f b = bi_fr (bx_X12a (bi_new g (22, 0) 39) (bi_nx g) p k w) c f b) ∧ (∀ j, bi_ai (be_H g p k w) b j = bi_ai (bx_X12a (bi_new g (22, 0) 39) (bi_nx g) p k w) b j) ∧ (b ≠ bi_nx g + 30 → ∀ j, bi_ar (be_H g p k w) b j = bi_ar (bx_X12a (bi_new g (22, 0) 39) (bi_nx g) p k w) b j) := by
  intro b hb
  obtain ⟨s1, s2, s3⟩ := be_s (bi_new g (22, 0) 39) (bi_nx g) p k w
  rw [bh_nx_new] at s1
  obtain ⟨f1, f2, f3, f4⟩ := bx_its_fr (bi_nx g) (bi_nx (bi_new g (22, 0) 39) + 29) 61 0 (bx_X12a (bi_new g (22, 0) 39) (bi_nx g) p k w) (by omega) (by rw [bh_nx_new]; omega)
  obtain ⟨u1, u2, u3, u4, u5⟩ := f4 b (by omega)
  unfold be_H bx_X12
  generalize bx_its (bi_nx g) (bi_nx (bi_new g (22, 0) 39) + 29) 61 0 (bx_X12a (bi_new g (22, 0) 39) (bi_nx g) p k w) = I at *
  generalize bx_X12a (bi_new g (22, 0) 39) (bi_nx g) p k w = Y at *
  have ne : ¬ b = bi_nx I := by omega
  refine ⟨?_, fun c f hn => ?_, fun c f => ?_, fun j => ?_, fun hn j => ?_⟩
  · rw [bh_k_new, if_neg ne, u1]
  · rw [bh_fi_new, if_neg ne, u2 c f hn]
  · rw [bh_fr_new, if_neg ne, u3 c f]
  · rw [bh_ai_new, if_neg ne, u4 j]
  · rw [bh_ar_new, if_neg ne, u5 (by rw [bh_nx_new]; omega) j]
/-- what stood before -/
theorem be_H_f (g : bi_H) (p k w : Int32) : bd_f g (be_H g p k w) (bi_nx g) ∧ ∀ b j, b < bi_nx g → bi_ar (be_H g p k w) b j = bi_ar g b j := by
  refine ⟨fun b hb => ?_, fun b j hb => ?_⟩
  · obtain ⟨m1, m2, m3, m4, m5⟩ := be_H_m g p k w b (by omega)
    obtain ⟨n1, n2, n3, n4⟩ := be_f (bi_new g (22, 0) 39) (bi_nx g) p k w b (by rw [bh_nx_new]; omega)
    have ne : ¬ b = bi_nx g := by omega
    refine ⟨?_, fun c f => ?_, fun c f => ?_, fun j => ?_⟩
    · rw [m1, n1, bh_k_new, if_neg ne]
    · rw [m2 c f (fun w => ne w.2.2), (n2 ne).1 c f, bh_fi_new, if_neg ne]
    · rw [m3 c f, (n2 ne).2 c f, bh_fr_new, if_neg ne]
    · rw [m4 j, n3 j, bh_ai_new, if_neg ne]
  · obtain ⟨m1, m2, m3, m4, m5⟩ := be_H_m g p k w b (by omega)
    obtain ⟨n1, n2, n3, n4⟩ := be_f (bi_new g (22, 0) 39) (bi_nx g) p k w b (by rw [bh_nx_new]; omega)
    have ne : ¬ b = bi_nx g := by omega
    rw [m5 (by omega) j, n4 j, bh_ar_new, if_neg ne]
theorem be_H_l (g : bi_H) (p k w : Int32) : bi_k (be_H g p k w) (bi_nx g + 275) = (3, 1) := by
  have h := (be_H_n g p k w).1
  unfold be_H at h ⊢
  rw [bh_nx_new] at h
  rw [bh_k_new, if_pos (by omega)]
/-- the spare messages -/
theorem be_H_M (g : bi_H) (p k w : Int32) : bi_fi (be_H g p k w) 12 38 (bi_nx g) = Int32.ofNat 61 ∧ ∀ i, i < 61 → bi_ar (be_H g p k w) (bi_nx g + 30) i = bi_nx g + 31 + 4 * i ∧ be_M (be_H g p k w) (bi_nx g + 31 + 4 * i) := by
  obtain ⟨s1, s2, s3⟩ := be_s (bi_new g (22, 0) 39) (bi_nx g) p k w
  rw [bh_nx_new] at s1
  have z := (be_i (bi_new g (22, 0) 39) (bi_nx g) p k w (by rw [bh_nx_new]; omega) (fun f => by rw [bh_fi_new, if_pos rfl])).2.2.2.2.2.2.2.2.2.2.2.2
  obtain ⟨f1, f2, f3, f4⟩ := bx_its_fr (bi_nx g) (bi_nx (bi_new g (22, 0) 39) + 29) 61 0 (bx_X12a (bi_new g (22, 0) 39) (bi_nx g) p k w) (by omega) (by rw [bh_nx_new]; omega)
  obtain ⟨m1, m2, m3⟩ := bx_its_M (bi_nx g) (bi_nx (bi_new g (22, 0) 39) + 29) 61 0 (bx_X12a (bi_new g (22, 0) 39) (bi_nx g) p k w) (by omega) (by rw [bh_nx_new]; omega)
  have m1' := m1 z
  unfold be_H bx_X12
  generalize bx_its (bi_nx g) (bi_nx (bi_new g (22, 0) 39) + 29) 61 0 (bx_X12a (bi_new g (22, 0) 39) (bi_nx g) p k w) = I at *
  generalize bx_X12a (bi_new g (22, 0) 39) (bi_nx g) p k w = Y at *
  rw [bh_nx_new] at m3
  refine ⟨?_, fun i hi => ?_⟩
  · rw [bh_fi_new, if_neg (by omega)]
    exact m1'
  · obtain ⟨q1, q2⟩ := m3 i hi
    rw [Nat.zero_add] at q1
    have e : bi_nx Y + 4 * i = bi_nx g + 31 + 4 * i := by omega
    rw [e] at q1 q2
    obtain ⟨⟨v0, v1, v2, v3⟩, v4, v5, v6⟩ := q2
    refine ⟨?_, ⟨?_, ?_, ?_, ?_⟩, ?_, ?_, ?_⟩
    · rw [bh_ar_new, if_neg (by omega)]
      exact q1
    · rw [bh_k_new, if_neg (by omega)]; exact v0
    · rw [bh_k_new, if_neg (by omega)]; exact v1
    · rw [bh_k_new, if_neg (by omega)]; exact v2
    · rw [bh_k_new, if_neg (by omega)]; exact v3
    · rw [bh_fr_new, if_neg (by omega)]; exact v4
    · rw [bh_fr_new, if_neg (by omega)]; exact v5
    · rw [bh_fr_new, if_neg (by omega)]; exact v6
theorem bg_ms (p k w : Int32) (ha : 0 < bi_nx g) (eh : h = be_H g p k w) (B : Nat → Nat → Nat) (eB : ∀ c i, B c i = bi_nx g + be_oB c i) : ms_R (mj_O B 0) B [] 0 h (bi_nc h) (bi_ns h) h (bg_S p k w) := by
  obtain ⟨n1, n2, n3⟩ := be_H_n g p k w
  obtain ⟨M1, M2⟩ := be_H_M g p k w
  have m := be_H_m g p k w
  rw [← eh] at n1 M1 M2 m
  have nx1 : bi_nx (bi_new g (22, 0) 39) = bi_nx g + 1 := bh_nx_new _ _ _
  have al : bi_nx g < bi_nx (bi_new g (22, 0) 39) := by rw [nx1]; exact Nat.lt_succ_self _
  have z0 : ∀ f, bi_fi (bi_new g (22, 0) 39) 12 f (bi_nx g) = 0 := fun f => by rw [bh_fi_new, if_pos rfl]
  have ka := (be_f (bi_new g (22, 0) 39) (bi_nx g) p k w (bi_nx g) al).1
  rw [bh_k_new, if_pos rfl] at ka
  obtain ⟨k0, k1, k2, k3, k4, k5, k6, k7, k8, k9, k10, k11, k12, k13, k14⟩ := be_k1 (bi_new g (22, 0) 39) (bi_nx g) p k w
  obtain ⟨k15, k16, k17, k18, k19, k20, k21, k22, k23, k24, k25, k26, k27, k28, k29⟩ := be_k2 (bi_new g (22, 0) 39) (bi_nx g) p k w
  obtain ⟨r9, r10, r11, r12, r13, r15, r16, r17, r18, r19, r20, r21, r22, r23, r29, r30, r31, r32, r33, r34, r35, r36⟩ := be_r (bi_new g (22, 0) 39) (bi_nx g) p k w al
  obtain ⟨i1, i2, i3, i4, i5, i6, i7, i8, i14, i24, i27, i37, i38⟩ := be_i (bi_new g (22, 0) 39) (bi_nx g) p k w al z0
  obtain ⟨a0, a2⟩ := be_a (bi_new g (22, 0) 39) (bi_nx g) p k w
  obtain ⟨z1, z5, z6, z7, z8, z9, z11, z12, z13, z26⟩ := be_z (bi_new g (22, 0) 39) (bi_nx g) p k w
  obtain ⟨w16, w21, w27⟩ := be_w (bi_new g (22, 0) 39) (bi_nx g) p k w
  generalize bx_X12a (bi_new g (22, 0) 39) (bi_nx g) p k w = Y at *
  rw [nx1] at k0 k1 k2 k3 k4 k5 k6 k7 k8 k9 k10 k11 k12 k13 k14 k15 k16 k17 k18 k19 k20 k21 k22 k23 k24 k25 k26 k27 k28 k29 r9 r10 r11 r12 r13 r15 r16 r17 r18 r19 r20 r21 r22 r23 r29 r30 r31 r32 r33 r34 r35 r36 a0 a2 z1 z5 z6 z7 z8 z9 z11 z12 z13 z26 w16 w21 w27
  clear nx1 al z0 eh
  generalize bi_nx g = a at *
  have kk : ∀ j, j < 31 → bi_k h (a + j) = bi_k Y (a + j) := fun j hj => (m (a + j) (Nat.add_lt_add_left hj a)).1
  have kfi : ∀ f, f ≠ 38 → bi_fi h 12 f a = bi_fi Y 12 f a := fun f hf => (m a (Nat.lt_add_of_pos_right (by decide))).2.1 12 f (fun w => hf w.2.1)
  have kfr : ∀ f, bi_fr h 12 f a = bi_fr Y 12 f a := fun f => (m a (Nat.lt_add_of_pos_right (by decide))).2.2.1 12 f
  have kai : ∀ j i, j < 31 → bi_ai h (a + j) i = bi_ai Y (a + j) i := fun j i hj => (m (a + j) (Nat.add_lt_add_left hj a)).2.2.2.1 i
  have kar : ∀ j i, j < 30 → bi_ar h (a + j) i = bi_ar Y (a + j) i := fun j i hj => (m (a + j) (Nat.add_lt_add_left (Nat.lt_trans hj (by decide)) a)).2.2.2.2 (fun w => absurd (Nat.add_left_cancel w) (Nat.ne_of_lt hj)) i
  have B12 : B 12 0 = a := eB 12 0
  have B109 : B 109 0 = a + 1 := eB 109 0
  have B110 : B 110 0 = a + 2 := eB 110 0
  have B111 : B 111 0 = a + 3 := eB 111 0
  have B112 : B 112 0 = a + 4 := eB 112 0
  have B113 : B 113 0 = a + 5 := eB 113 0
  have B115 : B 115 0 = a + 6 := eB 115 0
  have B116 : B 116 0 = a + 7 := eB 116 0
  have B117 : B 117 0 = a + 8 := eB 117 0
  have B118 : B 118 0 = a + 9 := eB 118 0
  have B119 : B 119 0 = a + 10 := eB 119 0
  have B120 : B 120 0 = a + 11 := eB 120 0
  have B121 : B 121 0 = a + 12 := eB 121 0
  have B122 : B 122 0 = a + 13 := eB 122 0
  have B123 : B 123 0 = a + 14 := eB 123 0
  have B129 : B 129 0 = a + 15 := eB 129 0
  have B130 : B 130 0 = a + 16 := eB 130 0
  have B131 : B 131 0 = a + 17 := eB 131 0
  have B132 : B 132 0 = a + 22 := eB 132 0
  have B133 : B 133 0 = a + 27 := eB 133 0
  have B134 : B 134 0 = a + 28 := eB 134 0
  have B135 : B 135 0 = a + 29 := eB 135 0
  have B136 : B 136 0 = a + 30 := eB 136 0
  have B61 : ∀ i, B 61 i = a + 18 + i := fun i => by
    rw [eB 61 i]
    exact (Nat.add_assoc a 18 i).symm
  have B62 : ∀ i, B 62 i = a + 23 + i := fun i => by
    rw [eB 62 i]
    exact (Nat.add_assoc a 23 i).symm
  have B10 : ∀ i, B 10 i = a + 31 + 4 * i := fun i => by
    rw [eB 10 i]
    exact bg_o4 a 0 i
  have B70 : ∀ i, B 70 i = a + 31 + 4 * i + 1 := fun i => by
    rw [eB 70 i]
    exact bg_o4 a 1 i
  have B71 : ∀ i, B 71 i = a + 31 + 4 * i + 2 := fun i => by
    rw [eB 71 i]
    exact bg_o4 a 2 i
  have B72 : ∀ i, B 72 i = a + 31 + 4 * i + 3 := fun i => by
    rw [eB 72 i]
    exact bg_o4 a 3 i
  have L : mb_lay B (bg_S p k w) h := by
    refine ⟨fun c i hi => ⟨?_, ?_, ?_⟩, fun c i c' i' hi hi' e => ?_, fun f hf hb => ?_, fun g hg => ?_, fun s hs => ?_, fun s hs hN => absurd hN (Nat.not_lt_zero _), fun i hi => ?_⟩
    · obtain ⟨h1, h2⟩ := hi
      unfold mb_bd at h1
      split at h1
      · rw [B10]; exact (M2 i h1).2.1.1
      · exact absurd (h2 rfl) (Nat.not_lt_zero _)
      · obtain rfl : i = 0 := Nat.lt_one_iff.mp h1
        rw [B12]; exact (kk 0 (by decide)).trans ka
      · have := bg_four h1
        rcases this with rfl | rfl | rfl | rfl
        · rw [B61]; exact (kk 18 (by decide)).trans k17
        · rw [B61]; exact (kk 19 (by decide)).trans k18
        · rw [B61]; exact (kk 20 (by decide)).trans k19
        · rw [B61]; exact (kk 21 (by decide)).trans k20
      · have := bg_four h1
        rcases this with rfl | rfl | rfl | rfl
        · rw [B62]; exact (kk 23 (by decide)).trans k22
        · rw [B62]; exact (kk 24 (by decide)).trans k23
        · rw [B62]; exact (kk 25 (by decide)).trans k24
        · rw [B62]; exact (kk 26 (by decide)).trans k25
      · exact absurd (h2 rfl) (Nat.not_lt_zero _)
      · exact absurd (h2 rfl) (Nat.not_lt_zero _)
      · exact absurd (h2 rfl) (Nat.not_lt_zero _)
      · exact absurd (h2 rfl) (Nat.not_lt_zero _)
      · exact absurd (h2 rfl) (Nat.not_lt_zero _)
      · rw [B70]; exact (M2 i h1).2.1.2.1
      · rw [B71]; exact (M2 i h1).2.1.2.2.1
      · rw [B72]; exact (M2 i h1).2.1.2.2.2
      · obtain rfl : i = 0 := Nat.lt_one_iff.mp h1
        rw [B109]; exact (kk 1 (by decide)).trans k0
      · obtain rfl : i = 0 := Nat.lt_one_iff.mp h1
        rw [B110]; exact (kk 2 (by decide)).trans k1
      · obtain rfl : i = 0 := Nat.lt_one_iff.mp h1
        rw [B111]; exact (kk 3 (by decide)).trans k2
      · obtain rfl : i = 0 := Nat.lt_one_iff.mp h1
        rw [B112]; exact (kk 4 (by decide)).trans k3
      · obtain rfl : i = 0 := Nat.lt_one_iff.mp h1
        rw [B113]; exact (kk 5 (by decide)).trans k4
      · obtain rfl : i = 0 := Nat.lt_one_iff.mp h1
        rw [B115]; exact (kk 6 (by decide)).trans k5
      · obtain rfl : i = 0 := Nat.lt_one_iff.mp h1
        rw [B116]; exact (kk 7 (by decide)).trans k6
      · obtain rfl : i = 0 := Nat.lt_one_iff.mp h1
        rw [B117]; exact (kk 8 (by decide)).trans k7
      · obtain rfl : i = 0 := Nat.lt_one_iff.mp h1
        rw [B118]; exact (kk 9 (by decide)).trans k8
      · obtain rfl : i = 0 := Nat.lt_one_iff.mp h1
        rw [B119]; exact (kk 10 (by decide)).trans k9
      · obtain rfl : i = 0 := Nat.lt_one_iff.mp h1
        rw [B120]; exact (kk 11 (by decide)).trans k10
      · obtain rfl : i = 0 := Nat.lt_one_iff.mp h1
        rw [B121]; exact (kk 12 (by decide)).trans k11
      · obtain rfl : i = 0 := Nat.lt_one_iff.mp h1
        rw [B122]; exact (kk 13 (by decide)).trans k12
      · obtain rfl : i = 0 := Nat.lt_one_iff.mp h1
        rw [B123]; exact (kk 14 (by decide)).trans k13
      · obtain rfl : i = 0 := Nat.lt_one_iff.mp h1
        rw [B129]; exact (kk 15 (by decide)).trans k14
      · obtain rfl : i = 0 := Nat.lt_one_iff.mp h1
        rw [B130]; exact (kk 16 (by decide)).trans k15
      · obtain rfl : i = 0 := Nat.lt_one_iff.mp h1
        rw [B131]; exact (kk 17 (by decide)).trans k16
      · obtain rfl : i = 0 := Nat.lt_one_iff.mp h1
        rw [B132]; exact (kk 22 (by decide)).trans k21
      · obtain rfl : i = 0 := Nat.lt_one_iff.mp h1
        rw [B133]; exact (kk 27 (by decide)).trans k26
      · obtain rfl : i = 0 := Nat.lt_one_iff.mp h1
        rw [B134]; exact (kk 28 (by decide)).trans k27
      · obtain rfl : i = 0 := Nat.lt_one_iff.mp h1
        rw [B135]; exact (kk 29 (by decide)).trans k28
      · obtain rfl : i = 0 := Nat.lt_one_iff.mp h1
        rw [B136]; exact (kk 30 (by decide)).trans k29
      · exact absurd h1 (Nat.not_lt_zero _)
    · obtain ⟨u1, u2, u3⟩ := mb_in0 hi
      have := (be_b1 c u1 i u2 u3).2
      rw [eB, n1]
      exact Nat.add_lt_add_left (Nat.lt_trans this (by decide)) a
    · rw [eB]
      exact Nat.ne_of_gt (Nat.lt_of_lt_of_le ha (Nat.le_add_right _ _))
    · obtain ⟨u1, u2, u3⟩ := mb_in0 hi
      obtain ⟨v1, v2, v3⟩ := mb_in0 hi'
      rw [eB, eB] at e
      have e1 : be_oB c i = be_oB c' i' := Nat.add_left_cancel e
      have e2 := (be_b1 c u1 i u2 u3).1
      rw [e1, (be_b1 c' v1 i' v2 v3).1] at e2
      exact ⟨(congrArg Prod.fst e2).symm, (congrArg Prod.snd e2).symm⟩
    · have key : ∀ f, f < 37 → 0 < mb_bd (100 + f) → f ∈ [9, 10, 11, 12, 13, 15, 16, 17, 18, 19, 20, 21, 22, 23, 29, 30, 31, 32, 33, 34, 35, 36] := by decide +kernel
      have hh := key f hf hb
      simp only [List.mem_cons, List.not_mem_nil, or_false] at hh
      rw [B12, kfr]
      rcases hh with rfl | rfl | rfl | rfl | rfl | rfl | rfl | rfl | rfl | rfl | rfl | rfl | rfl | rfl | rfl | rfl | rfl | rfl | rfl | rfl | rfl | rfl
      · show _ = B 109 0
        rw [B109]; exact r9
      · show _ = B 110 0
        rw [B110]; exact r10
      · show _ = B 111 0
        rw [B111]; exact r11
      · show _ = B 112 0
        rw [B112]; exact r12
      · show _ = B 113 0
        rw [B113]; exact r13
      · show _ = B 115 0
        rw [B115]; exact r15
      · show _ = B 116 0
        rw [B116]; exact r16
      · show _ = B 117 0
        rw [B117]; exact r17
      · show _ = B 118 0
        rw [B118]; exact r18
      · show _ = B 119 0
        rw [B119]; exact r19
      · show _ = B 120 0
        rw [B120]; exact r20
      · show _ = B 121 0
        rw [B121]; exact r21
      · show _ = B 122 0
        rw [B122]; exact r22
      · show _ = B 123 0
        rw [B123]; exact r23
      · show _ = B 129 0
        rw [B129]; exact r29
      · show _ = B 130 0
        rw [B130]; exact r30
      · show _ = B 131 0
        rw [B131]; exact r31
      · show _ = B 132 0
        rw [B132]; exact r32
      · show _ = B 133 0
        rw [B133]; exact r33
      · show _ = B 134 0
        rw [B134]; exact r34
      · show _ = B 135 0
        rw [B135]; exact r35
      · show _ = B 136 0
        rw [B136]; exact r36
    · rw [B131, B132, B61, B62]
      exact ⟨((kar 17 g (by decide)).trans (w16 g hg)), ((kar 22 g (by decide)).trans (w21 g hg))⟩
    · rw [B134]
      refine ((kar 28 s (by decide)).trans (w27 s)).trans ?_
      exact (if_neg (Nat.not_lt_zero _)).symm
    · obtain ⟨-, v4, v5, v6⟩ := (M2 i hi).2
      rw [B10, B70, B71, B72]
      exact ⟨v4, v5, v6⟩
  refine ⟨L, ⟨Nat.le_refl _, fun _ _ => rfl, fun _ _ _ _ _ => ⟨rfl, rfl⟩, fun _ _ _ _ => ⟨rfl, rfl⟩, Nat.le_refl _, Nat.le_refl _, fun c i hi => Or.inl ⟨c, i, hi, rfl⟩⟩, ?_, fun i hi => ?_, fun g hg => absurd hg (Nat.not_lt_zero g), fun j hj => ?_, ⟨fun j hj => ⟨0, Nat.le_refl _, ?_⟩, fun j hj => ⟨0, Nat.le_refl _, ?_⟩, fun j hj => ⟨0, Nat.le_refl _, ?_⟩, fun j hj => ⟨0, Nat.le_refl _, ?_⟩⟩, fun g hg => ⟨?_, fun j hj => absurd hj (Nat.not_lt_zero j)⟩, Or.inl ?_, fun s hs hN => absurd hN (Nat.not_lt_zero _), ?_⟩
  · rw [B12, kfi 1 (by decide), kfi 2 (by decide), kfi 3 (by decide), kfi 4 (by decide), kfi 5 (by decide), kfi 6 (by decide), kfi 7 (by decide), kfi 8 (by decide), kfi 14 (by decide), kfi 24 (by decide)]
    exact ⟨i1, i2, i3, i4, i5, i6, i7, i8, i14, i24⟩
  · rw [B109, B110, B111]
    have e1 : bz_I (bg_S p k w) i 1 = 1 := rfl
    have e2 : bz_I (bg_S p k w) i 2 = 0 := rfl
    have e3 : bz_I (bg_S p k w) i 3 = -1 := rfl
    rw [e1, e2, e3]
    exact ⟨(kai 1 i (by decide)).trans (a0 i hi), (kai 2 i (by decide)).trans (z1 i), (kai 3 i (by decide)).trans (a2 i hi)⟩
  · obtain rfl : j = 0 := Nat.le_zero.mp hj
    rw [B115, B116, B117, B118]
    exact ⟨(kai 6 0 (by decide)).trans (z5 0), (kai 7 0 (by decide)).trans (z6 0), (kai 8 0 (by decide)).trans (z7 0), (kai 9 0 (by decide)).trans (z8 0)⟩
  · rw [B119]; exact (kai 10 j (by decide)).trans (z9 j)
  · rw [B121]; exact (kai 12 j (by decide)).trans (z11 j)
  · rw [B122]; exact (kai 13 j (by decide)).trans (z12 j)
  · rw [B123]; exact (kai 14 j (by decide)).trans (z13 j)
  · rw [B133]; exact (kai 27 g (by decide)).trans (z26 g)
  · rw [B12, kfi 27 (by decide)]; exact i27
  · refine ⟨[], List.range 61, List.nodup_range, fun i hi => List.mem_range.mp hi, rfl, by rw [List.length_range]; rfl, ?_, ?_, fun i hi => absurd hi (Nat.not_lt_zero i), fun j hj => ?_, fun q hq => absurd hq List.not_mem_nil⟩
    · rw [B12, kfi 37 (by decide)]; exact i37
    · rw [B12, List.length_range]; exact M1
    · have hj' : j < 61 := by rw [List.length_range] at hj; exact hj
      have e : (List.range 61).getD j 0 = j := by
        rw [List.getD_eq_getElem?_getD, List.getElem?_range hj']
        rfl
      rw [B136, e, B10]
      exact (M2 j hj').1
end PR
