/-! a new object: its state, and how the class's heap shows it (written by wip/tools/gen98f.py) -/
def be_oA (c i : Nat) : Nat := match c with
  | 9 => 0
  | 62 => 1
  | 4 => 2 + i
  | 8 => 4
  | 57 => 5
  | 58 => 6
  | 59 => 7
  | 60 => 8
  | 61 => 9
  | 1 => 10
  | 51 => 11
  | 0 => 12
  | 50 => 13
  | 63 => 14
  | 6 => 15 + 10 * i
  | 7 => 16 + 10 * i
  | 54 => 17 + 10 * i
  | 55 => 18 + 10 * i
  | 56 => 19 + 10 * i
  | 5 => 20 + 10 * i
  | 30 => 21 + 10 * i
  | 52 => 22 + 10 * i
  | 31 => 23 + 10 * i
  | 53 => 24 + 10 * i
  | _ => 0
def be_tA (x : Nat) : Nat × Nat := match x with
  | 0 => (9, 0)
  | 1 => (62, 0)
  | 2 => (4, 0)
  | 3 => (4, 1)
  | 4 => (8, 0)
  | 5 => (57, 0)
  | 6 => (58, 0)
  | 7 => (59, 0)
  | 8 => (60, 0)
  | 9 => (61, 0)
  | 10 => (1, 0)
  | 11 => (51, 0)
  | 12 => (0, 0)
  | 13 => (50, 0)
  | 14 => (63, 0)
  | _ => (0, 0)
def be_cA (r : Nat) : Nat := match r with
  | 0 => 6
  | 1 => 7
  | 2 => 54
  | 3 => 55
  | 4 => 56
  | 5 => 5
  | 6 => 30
  | 7 => 52
  | 8 => 31
  | 9 => 53
  | _ => 0
def be_dA (x : Nat) : Nat × Nat := if x < 15 then be_tA x else (be_cA ((x - 15) % 10), (x - 15) / 10)
theorem be_a1 : ∀ c, c < 64 → ∀ i, i < 8 → i < ca_bd c → be_dA (be_oA c i) = (c, i) ∧ be_oA c i < 95 := by decide +kernel
theorem ca_bd_lt {c i : Nat} (h : i < ca_bd c) : c < 64 ∧ i < 8 := by
  unfold ca_bd at h
  split at h
  all_goals first
    | exact absurd h (Nat.not_lt_zero _)
    | exact ⟨by decide, by omega⟩
def bg_W : ba_W := (0, fun _ => 0, fun _ => 0, fun _ => 0, fun _ => 0, fun _ => 0, fun _ => 0)
def bg_T (s : Nat) : ba_T := (fun k => if k = 7 then 1 else if k = 6 then (if s < 4 then 1 else 0) else if k = 0 then Int32.ofNat s else 0, fun _ => 0, (0, 0, 0), [], [])
/-- a new object's state -/
def bg_S (p k w : Int32) : ba_S := (bg_W, bg_T, [], fun i f => if f = 3 then -1 else if f = 1 then 1 else if f = 0 then Int32.ofNat i else 0, fun f => if f = 2 then bx_cl 1 8 w else if f = 1 then bx_cl 2 8 k else if f = 0 then bx_cl 16 8192 p else 0, fun _ => 0, fun _ => (0, 0), fun _ => [], 0, 0, 0)
theorem bg_W_ok : ba_ok bg_W := ⟨by decide, ⟨rfl, rfl, rfl, rfl, rfl⟩, fun k h1 h2 => absurd h1 (by have h3 : k ≤ 0 := h2; omega)⟩
theorem bg_sp : ba_sp bg_W 0 0 = [] := by
  apply List.eq_nil_of_length_eq_zero
  rw [ba_sp_len (d := 0) (k := 0) bg_W_ok (Nat.le_refl _) (Nat.le_refl _)]
  rfl
theorem bg_row (p : Nat) {f a : Nat → Int32} (h : ∀ k, f k = 0) : ca_row bg_W p f a [] := ⟨0, 0, Nat.le_refl _, Nat.le_refl _, h 0, h 1, h 3, bg_sp.symm, Nat.zero_le _, fun i hi => absurd hi (Nat.not_lt_zero i)⟩
theorem bg_need (s : Nat) : bs_need bg_W (bg_T s) = 0 := rfl
section PQ
variable {g1 h : bi_H} {a : Nat} {p k w : Int32}
theorem bg_o (a r i : Nat) : a + (15 + r + 10 * i) = a + 15 + 10 * i + r := by omega
theorem bg_two {i : Nat} (h : i < 2) : i = 0 ∨ i = 1 := by omega
theorem bg_c1 (hn : bi_nx g1 = a + 1) (f : bd_f (bd_X9 g1 a p k w) h (a + 95)) (fr : ∀ b j, b < a + 95 → bi_ar h b j = bi_ar (bd_X9 g1 a p k w) b j) : bd_f (bd_X9a g1 a p k w) h (a + 15) ∧ (∀ b j, b < a + 15 → b ≠ a + 14 → bi_ar h b j = bi_ar (bd_X9a g1 a p k w) b j) ∧ ∀ s, s < 8 → bi_ar h (a + 14) s = a + 15 + 10 * s ∧ bd_S h (a + 15 + 10 * s) (a + 2 + s / 4) (a + 4) (bx_cl 16 8192 p).toNatClampNeg s (if s < 4 then 1 else 0) := by
  obtain ⟨s1, -, -⟩ := bd_X9_s g1 a p k w
  obtain ⟨-, -, -, t4, t5, t6⟩ := bd_its_ok (fun i => bi_nx g1 + 1 + i) (bi_nx g1 + 3) (bi_nx g1 + 13) (bx_cl 16 8192 p).toNatClampNeg 8 0 (bd_X9a g1 a p k w) (by omega)
  have eX : bd_its (fun i => bi_nx g1 + 1 + i) (bi_nx g1 + 3) (bi_nx g1 + 13) (bx_cl 16 8192 p).toNatClampNeg 8 0 (bd_X9a g1 a p k w) = bd_X9 g1 a p k w := rfl
  rw [eX] at t4 t5 t6
  clear eX
  generalize bd_X9 g1 a p k w = X at *
  generalize bd_X9a g1 a p k w = Y at *
  generalize (bx_cl 16 8192 p).toNatClampNeg = P at *
  rw [s1, hn] at t4 t6
  rw [hn] at s1 t5
  refine ⟨t4.tr f (by omega), fun b j hb hne => ?_, fun s hs => ?_⟩
  · rw [fr b j (by omega), t5 b j (by omega) (fun w => absurd w hne)]
  · obtain ⟨u1, u2⟩ := t6 s hs
    rw [Nat.zero_add] at u1 u2
    have hl : a + 14 < a + 95 := by omega
    have hl2 : a + 1 + 14 + 10 * s + 10 ≤ a + 95 := by omega
    refine ⟨?_, ?_⟩
    · rw [fr (a + 14) s hl]
      exact u1
    · exact f.S hl2 u2
theorem bg_cs (hn : bi_nx g1 = a + 1) (hk : bi_k g1 a = (19, 0)) (h0 : ∀ f, bi_fi g1 9 f a = 0) (f : bd_f (bd_X9 g1 a p k w) h (a + 95)) (fr : ∀ b j, b < a + 95 → bi_ar h b j = bi_ar (bd_X9 g1 a p k w) b j) (hx : a + 95 ≤ bi_nx h) (ha : 0 < a) (A : Nat → Nat → Nat) (eA : ∀ c i, c < 98 → A c i = a + be_oA c i) (h98 : A 98 0 = bi_nx h) : cs_R A h (bi_nc h) (bi_ns h) h (bg_S p k w) := by
  obtain ⟨F, FR, D⟩ := bg_c1 hn f fr
  clear f fr
  have al : a < bi_nx g1 := by rw [hn]; exact Nat.lt_succ_self a
  obtain ⟨r3, r4, r5, r6⟩ := bd_X9_r g1 a p k w al
  obtain ⟨k0, k1, k2, k3, k4, k5, k6, k7, k8, k9, k10, k11, k12, k13⟩ := bd_X9_k g1 a p k w
  obtain ⟨q0, q1, q2, q3, q4, q5, q6, q7, q8, q9⟩ := bd_X9_q g1 a p k w
  obtain ⟨i1, i2, i3, i4, i5, j4, j5, j6, j7, j8, j10⟩ := bd_X9_i g1 a p k w
  have i9 := bd_X9_9 g1 a p k w al h0
  have kf := (bd_X9_f g1 a p k w a al).1
  rw [hk] at kf
  clear hk h0 al
  generalize bd_X9a g1 a p k w = Y at *
  generalize bi_nx g1 = N at *
  subst hn
  have A9 : A 9 0 = a := eA 9 0 (by decide)
  have A62 : A 62 0 = a + 1 := eA 62 0 (by decide)
  have A4 : ∀ i, A 4 i = a + 2 + i := fun i => by
    rw [eA 4 i (by decide)]
    exact (Nat.add_assoc a 2 i).symm
  have A8 : A 8 0 = a + 4 := eA 8 0 (by decide)
  have A57 : A 57 0 = a + 5 := eA 57 0 (by decide)
  have A58 : A 58 0 = a + 6 := eA 58 0 (by decide)
  have A59 : A 59 0 = a + 7 := eA 59 0 (by decide)
  have A60 : A 60 0 = a + 8 := eA 60 0 (by decide)
  have A61 : A 61 0 = a + 9 := eA 61 0 (by decide)
  have A1 : A 1 0 = a + 10 := eA 1 0 (by decide)
  have A51 : A 51 0 = a + 11 := eA 51 0 (by decide)
  have A0 : A 0 0 = a + 12 := eA 0 0 (by decide)
  have A50 : A 50 0 = a + 13 := eA 50 0 (by decide)
  have A63 : A 63 0 = a + 14 := eA 63 0 (by decide)
  have A6 : ∀ i, A 6 i = a + 15 + 10 * i := fun i => by
    rw [eA 6 i (by decide)]
    exact bg_o a 0 i
  have A7 : ∀ i, A 7 i = a + 15 + 10 * i + 1 := fun i => by
    rw [eA 7 i (by decide)]
    exact bg_o a 1 i
  have A54 : ∀ i, A 54 i = a + 15 + 10 * i + 2 := fun i => by
    rw [eA 54 i (by decide)]
    exact bg_o a 2 i
  have A55 : ∀ i, A 55 i = a + 15 + 10 * i + 3 := fun i => by
    rw [eA 55 i (by decide)]
    exact bg_o a 3 i
  have A56 : ∀ i, A 56 i = a + 15 + 10 * i + 4 := fun i => by
    rw [eA 56 i (by decide)]
    exact bg_o a 4 i
  have A5 : ∀ i, A 5 i = a + 15 + 10 * i + 5 := fun i => by
    rw [eA 5 i (by decide)]
    exact bg_o a 5 i
  have A30 : ∀ i, A 30 i = a + 15 + 10 * i + 6 := fun i => by
    rw [eA 30 i (by decide)]
    exact bg_o a 6 i
  have A52 : ∀ i, A 52 i = a + 15 + 10 * i + 7 := fun i => by
    rw [eA 52 i (by decide)]
    exact bg_o a 7 i
  have A31 : ∀ i, A 31 i = a + 15 + 10 * i + 8 := fun i => by
    rw [eA 31 i (by decide)]
    exact bg_o a 8 i
  have A53 : ∀ i, A 53 i = a + 15 + 10 * i + 9 := fun i => by
    rw [eA 53 i (by decide)]
    exact bg_o a 9 i
  have kk : ∀ j, j < 15 → bi_k h (a + j) = bi_k Y (a + j) := fun j hj => (F (a + j) (Nat.add_lt_add_left hj a)).1
  have kfi : ∀ c f j, j < 15 → bi_fi h c f (a + j) = bi_fi Y c f (a + j) := fun c f j hj => (F (a + j) (Nat.add_lt_add_left hj a)).2.1 c f
  have kfr : ∀ c f j, j < 15 → bi_fr h c f (a + j) = bi_fr Y c f (a + j) := fun c f j hj => (F (a + j) (Nat.add_lt_add_left hj a)).2.2.1 c f
  have kai : ∀ j i, j < 15 → bi_ai h (a + j) i = bi_ai Y (a + j) i := fun j i hj => (F (a + j) (Nat.add_lt_add_left hj a)).2.2.2 i
  have k0a : bi_k h a = bi_k Y a := kk 0 (by decide)
  have k0i : ∀ f, bi_fi h 9 f a = bi_fi Y 9 f a := fun f => kfi 9 f 0 (by decide)
  have k0r : ∀ f, bi_fr h 9 f a = bi_fr Y 9 f a := fun f => kfr 9 f 0 (by decide)
  have L : ca_lay A (bx_cl 16 8192 p).toNatClampNeg h := by
    refine ⟨fun c i hi => ⟨?_, ?_, ?_⟩, fun c i c' i' hi hi' e => ?_, ⟨?_, ?_, ?_, ?_, ?_, ?_⟩, ⟨?_, ?_, ?_, ?_, ?_, ?_⟩, fun i hi => ?_, fun s hs => ?_, fun s hs => ?_⟩
    · unfold ca_bd at hi
      split at hi
      · obtain rfl : i = 0 := Nat.lt_one_iff.mp hi
        rw [A0]; exact (kk 12 (by decide)).trans k11
      · obtain rfl : i = 0 := Nat.lt_one_iff.mp hi
        rw [A1]; exact (kk 10 (by decide)).trans k9
      · have := bg_two hi
        rcases this with rfl | rfl
        · rw [A4]; exact (kk 2 (by decide)).trans k1
        · rw [A4]; exact (kk 3 (by decide)).trans k2
      · rw [A5]; exact (D i hi).2.1.2.2.2.2.2.1
      · rw [A6]; exact (D i hi).2.1.1
      · rw [A7]; exact (D i hi).2.1.2.1
      · obtain rfl : i = 0 := Nat.lt_one_iff.mp hi
        rw [A8]; exact (kk 4 (by decide)).trans k3
      · obtain rfl : i = 0 := Nat.lt_one_iff.mp hi
        rw [A9, k0a]; exact kf
      · rw [A30]; exact (D i hi).2.1.2.2.2.2.2.2.1
      · rw [A31]; exact (D i hi).2.1.2.2.2.2.2.2.2.2.1
      · obtain rfl : i = 0 := Nat.lt_one_iff.mp hi
        rw [A50]; exact (kk 13 (by decide)).trans k12
      · obtain rfl : i = 0 := Nat.lt_one_iff.mp hi
        rw [A51]; exact (kk 11 (by decide)).trans k10
      · rw [A52]; exact (D i hi).2.1.2.2.2.2.2.2.2.1
      · rw [A53]; exact (D i hi).2.1.2.2.2.2.2.2.2.2.2
      · rw [A54]; exact (D i hi).2.1.2.2.1
      · rw [A55]; exact (D i hi).2.1.2.2.2.1
      · rw [A56]; exact (D i hi).2.1.2.2.2.2.1
      · obtain rfl : i = 0 := Nat.lt_one_iff.mp hi
        rw [A57]; exact (kk 5 (by decide)).trans k4
      · obtain rfl : i = 0 := Nat.lt_one_iff.mp hi
        rw [A58]; exact (kk 6 (by decide)).trans k5
      · obtain rfl : i = 0 := Nat.lt_one_iff.mp hi
        rw [A59]; exact (kk 7 (by decide)).trans k6
      · obtain rfl : i = 0 := Nat.lt_one_iff.mp hi
        rw [A60]; exact (kk 8 (by decide)).trans k7
      · obtain rfl : i = 0 := Nat.lt_one_iff.mp hi
        rw [A61]; exact (kk 9 (by decide)).trans k8
      · obtain rfl : i = 0 := Nat.lt_one_iff.mp hi
        rw [A62]; exact (kk 1 (by decide)).trans k0
      · obtain rfl : i = 0 := Nat.lt_one_iff.mp hi
        rw [A63]; exact (kk 14 (by decide)).trans k13
      · exact absurd hi (Nat.not_lt_zero _)
    · obtain ⟨u1, u2⟩ := ca_bd_lt hi
      have := (be_a1 c u1 i u2 hi).2
      rw [eA c i (Nat.lt_trans u1 (by decide))]
      exact Nat.lt_of_lt_of_le (Nat.add_lt_add_left this a) hx
    · obtain ⟨u1, u2⟩ := ca_bd_lt hi
      rw [eA c i (Nat.lt_trans u1 (by decide))]
      exact Nat.ne_of_gt (Nat.lt_of_lt_of_le ha (Nat.le_add_right _ _))
    · obtain ⟨u1, u2⟩ := ca_bd_lt hi
      obtain ⟨v1, v2⟩ := ca_bd_lt hi'
      rw [eA c i (Nat.lt_trans u1 (by decide)), eA c' i' (Nat.lt_trans v1 (by decide))] at e
      have e1 : be_oA c i = be_oA c' i' := Nat.add_left_cancel e
      have e2 := (be_a1 c u1 i u2 hi).1
      rw [e1, (be_a1 c' v1 i' v2 hi').1] at e2
      exact ⟨(congrArg Prod.fst e2).symm, (congrArg Prod.snd e2).symm⟩
    · rw [A9, A62, k0r]; exact r3
    · rw [A9, A63, k0r]; exact r4
    · rw [A9, A8, k0r]; exact r5
    · rw [A9, A0, k0r]; exact r6
    · rw [A0, A50]; exact (kfr 0 0 12 (by decide)).trans q0
    · rw [A1, A51]; exact (kfr 1 0 10 (by decide)).trans q1
    · rw [A8, A57]; exact (kfr 8 1 4 (by decide)).trans q2
    · rw [A8, A58]; exact (kfr 8 2 4 (by decide)).trans q3
    · rw [A8, A59]; exact (kfr 8 3 4 (by decide)).trans q4
    · rw [A8, A60]; exact (kfr 8 4 4 (by decide)).trans q5
    · rw [A8, A61]; exact (kfr 8 5 4 (by decide)).trans q6
    · rw [A8, A1]; exact (kfr 8 6 4 (by decide)).trans q7
    · have := bg_two hi
      rcases this with rfl | rfl
      · rw [A62, A4, FR (a + 1) 0 (Nat.add_lt_add_left (by decide) a) (fun w => absurd (Nat.add_left_cancel w) (by decide))]; exact q8
      · rw [A62, A4, FR (a + 1) 1 (Nat.add_lt_add_left (by decide) a) (fun w => absurd (Nat.add_left_cancel w) (by decide))]; exact q9
    · rw [A63, A6]; exact (D s hs).1
    · obtain ⟨b0, b1, b2, b3, b4, b5, b6, b7, b8, b9, b10⟩ := (D s hs).2.2.1
      rw [A4, A5, A6, A7, A8, A30, A31, A52, A53, A54, A55, A56]
      exact ⟨b0, b1, b2, b3, b4, b5, b6, b7, b8, b9, b10⟩
  refine ⟨L, ⟨by rw [h98, Nat.max_self]; exact Nat.le_refl _, fun _ _ => rfl, fun _ _ _ _ _ => ⟨rfl, rfl⟩, fun _ _ _ _ => ⟨rfl, rfl⟩, Nat.le_refl _, Nat.le_refl _⟩, ⟨?_, fun j hj => ?_⟩, fun s hs => ?_, fun i hi f => ?_, fun f => ?_, fun f => ?_, fun i hi => absurd hi (Nat.not_lt_zero i), ?_, fun j hj => ⟨0, Nat.le_refl _, ?_⟩⟩
  · rw [A8]; exact (kfi 8 0 4 (by decide)).trans (i3 0)
  · obtain rfl : j = 0 := Nat.le_zero.mp hj
    rw [A57, A58, A59, A60, A61]
    exact ⟨(kai 5 0 (by decide)).trans (j4 0), (kai 6 0 (by decide)).trans (j5 0), (kai 7 0 (by decide)).trans (j6 0), (kai 8 0 (by decide)).trans (j7 0), (kai 9 0 (by decide)).trans (j8 0)⟩
  · obtain ⟨c0, c1, c2, c3, c4, c5, c6, c7, c8, c9⟩ := (D s hs).2.2.2
    refine ⟨fun f => ?_, fun f => ?_, ⟨⟨?_, ?_⟩, ⟨?_, ?_, ?_⟩, ?_, ?_, fun i hi => absurd hi (Nat.not_lt_zero i), fun q hq => ?_⟩, ⟨[], ?_⟩, ?_⟩
    · rw [A6]; exact c0 f
    · rw [A5]; exact c1 f
    · rw [A7]; exact c2 1
    · rw [A7]; exact c2 2
    · rw [A7]; exact c2 4
    · rw [A7]; exact c2 5
    · rw [A7]; exact c2 6
    · rw [A7]; exact c2 9
    · rw [A7]
      show _ = Int32.ofNat (bs_need bg_W (bg_T s))
      rw [bg_need]
      exact c2 10
    · rw [A54]
      show _ = Int32.ofNat (ba_last bg_W 0 q)
      rw [ba_last_0 bg_W_ok]
      exact c5 q
    · rw [A30]; exact bg_row _ c3
    · rw [A31]; exact bg_row _ c4
  · have := bg_two hi
    rcases this with rfl | rfl
    · rw [A4]
      refine ((kfi 4 f 2 (by decide)).trans (i1 f)).trans ?_
      show _ = if f = 3 then -1 else if f = 1 then 1 else if f = 0 then Int32.ofNat 0 else 0
      split
      · rfl
      · split
        · rfl
        · split <;> rfl
    · rw [A4]
      exact (kfi 4 f 3 (by decide)).trans (i2 f)
  · rw [A9, k0i]; exact i9 f
  · rw [A0]; exact (kfi 0 f 12 (by decide)).trans (i4 f)
  · rw [A1]; exact (kfi 1 1 10 (by decide)).trans (i5 1)
  · rw [A51]; exact (kai 11 j (by decide)).trans (j10 j)
end PQ
