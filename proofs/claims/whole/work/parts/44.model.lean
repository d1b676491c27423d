/-! how the reference's heap shows a state -/
/-! its objects: codes 12 the model, 11 Store, 10 Message; arrays: 100 + k the model's of field k, 61 rows of takenIds, 62 of takenLines, 64 ids, 65 lines, 66 last, 67 lostWhere, 68 lostWhat, 70 first, 71 second, 72 third -/
def mb_bd (c : Nat) : Nat := match c with
  | 10 => 61
  | 11 => 8
  | 12 => 1
  | 61 => 4
  | 62 => 4
  | 64 => 8
  | 65 => 8
  | 66 => 8
  | 67 => 8
  | 68 => 8
  | 70 => 61
  | 71 => 61
  | 72 => 61
  | 109 => 1
  | 110 => 1
  | 111 => 1
  | 112 => 1
  | 113 => 1
  | 115 => 1
  | 116 => 1
  | 117 => 1
  | 118 => 1
  | 119 => 1
  | 120 => 1
  | 121 => 1
  | 122 => 1
  | 123 => 1
  | 129 => 1
  | 130 => 1
  | 131 => 1
  | 132 => 1
  | 133 => 1
  | 134 => 1
  | 135 => 1
  | 136 => 1
  | _ => 0
/-- of a group that is there -/
def mb_ex (c : Nat) : Bool := match c with
  | 11 => true
  | 64 => true
  | 65 => true
  | 66 => true
  | 67 => true
  | 68 => true
  | _ => false
def mb_in (n c i : Nat) : Prop := i < mb_bd c ∧ (mb_ex c = true → i % 4 < n)
def mb_kd (S : ba_S) (c i : Nat) : Nat × Nat := match c with
  | 10 => (20, 0)
  | 11 => (21, 0)
  | 12 => (22, 0)
  | 61 => (1, 9000)
  | 62 => (1, 9000)
  | 64 => (1, 40)
  | 65 => (1, 40)
  | 66 => (1, (bz_D S (i % 4)).1 * (bz_D S (i % 4)).2)
  | 67 => (1, (bs_lo (bz_T S i)).length)
  | 68 => (1, (bs_lo (bz_T S i)).length)
  | 70 => (1, 40)
  | 71 => (1, 40)
  | 72 => (1, 40)
  | 109 => (2, 2)
  | 110 => (1, 2)
  | 111 => (1, 2)
  | 112 => (1, 4)
  | 113 => (1, 4)
  | 115 => (1, 60001)
  | 116 => (1, 60001)
  | 117 => (1, 60001)
  | 118 => (1, 60001)
  | 119 => (1, 32768)
  | 120 => (1, 32768)
  | 121 => (1, 2048)
  | 122 => (1, 128)
  | 123 => (1, 8)
  | 129 => (1, 32768)
  | 130 => (1, 32768)
  | 131 => (5, 4)
  | 132 => (5, 4)
  | 133 => (1, 4)
  | 134 => (51, 8)
  | 135 => (50, 60)
  | 136 => (50, 61)
  | _ => (0, 0)
def mb_lay (B : Nat → Nat → Nat) (S : ba_S) (h : bi_H) : Prop :=
  (∀ c i, mb_in (bz_N S) c i → bi_k h (B c i) = mb_kd S c i ∧ B c i < bi_nx h ∧ B c i ≠ 0) ∧
  (∀ c i c' i', mb_in (bz_N S) c i → mb_in (bz_N S) c' i' → B c i = B c' i' → c = c' ∧ i = i') ∧
  (∀ k, k < 37 → 0 < mb_bd (100 + k) → bi_fr h 12 k (B 12 0) = B (100 + k) 0) ∧
  (∀ g, g < 4 → bi_ar h (B 131 0) g = B 61 g ∧ bi_ar h (B 132 0) g = B 62 g) ∧
  (∀ s, s < 8 → bi_ar h (B 134 0) s = if s % 4 < bz_N S then B 11 s else 0) ∧
  (∀ s, s < 8 → s % 4 < bz_N S → bi_fr h 11 14 (B 11 s) = B 64 s ∧ bi_fr h 11 15 (B 11 s) = B 65 s ∧ bi_fr h 11 29 (B 11 s) = B 67 s ∧ bi_fr h 11 30 (B 11 s) = B 68 s ∧ bi_fr h 11 31 (B 11 s) = B 66 s) ∧
  ∀ i, i < 61 → bi_fr h 10 8 (B 10 i) = B 70 i ∧ bi_fr h 10 9 (B 10 i) = B 71 i ∧ bi_fr h 10 10 (B 10 i) = B 72 i
/-- what is not the reference's is as it was; O: what was its own -/
def mb_fr (O : Nat → Prop) (B : Nat → Nat → Nat) (n : Nat) (g0 : bi_H) (x y : Nat) (h : bi_H) : Prop :=
  bi_nx g0 ≤ bi_nx h ∧ (∀ a, a < bi_nx g0 → bi_k h a = bi_k g0 a) ∧ (∀ c k a, c < 10 → a < bi_nx g0 → bi_fi h c k a = bi_fi g0 c k a ∧ bi_fr h c k a = bi_fr g0 c k a) ∧ (∀ a j, a < bi_nx g0 → ¬ O a → bi_ai h a j = bi_ai g0 a j ∧ bi_ar h a j = bi_ar g0 a j) ∧ bi_nc h ≤ x ∧ bi_ns h ≤ y ∧ ∀ c i, mb_in n c i → O (B c i) ∨ bi_nx g0 ≤ B c i
/-- a spot as the reference counts it: volume by volume of so many places -/
def mb_cv (d : Nat × Nat) (p : Nat) : Nat := p / 4096 * d.2 + p % 4096
/-- and back -/
def mb_vc (d : Nat × Nat) (q : Nat) : Nat := q / d.2 * 4096 + q % d.2
def mb_w (S : ba_S) (k : Nat) : Nat := mb_cv (bz_D S (ba_g (bz_W S) k)) (ba_s (bz_W S) k)
/-- a message -/
def mb_g (B : Nat → Nat → Nat) (S : ba_S) (h : bi_H) (i : Nat) (g : ba_G) : Prop :=
  (bi_fi h 10 1 (B 10 i) = g.1 2 ∧ bi_fi h 10 2 (B 10 i) = g.1 0 ∧ bi_fi h 10 3 (B 10 i) = g.1 3 ∧ bi_fi h 10 4 (B 10 i) = g.1 4 ∧ bi_fi h 10 5 (B 10 i) = g.1 5 ∧ bi_fi h 10 6 (B 10 i) = g.1 6) ∧ (∃ s, s < 8 ∧ s % 4 < bz_N S ∧ g.1 1 = Int32.ofNat s ∧ bi_fr h 10 0 (B 10 i) = B 11 s) ∧ ∃ n, n ≤ 40 ∧ g.2.length = 3 * n ∧ bi_fi h 10 7 (B 10 i) = Int32.ofNat n ∧ ∀ j, j < n → bi_ai h (B 70 i) j = g.2.getD (3 * j) 0 ∧ bi_ai h (B 71 i) j = g.2.getD (3 * j + 1) 0 ∧ bi_ai h (B 72 i) j = g.2.getD (3 * j + 2) 0
/-- the messages: in flight, spare; held while they are passed -/
def mb_f (B : Nat → Nat → Nat) (H : List (Nat × ba_G)) (e : Nat) (S : ba_S) (h : bi_H) : Prop :=
  ∃ fx sx : List Nat, (fx ++ sx).Nodup ∧ (∀ i ∈ fx ++ sx, i < 61) ∧ fx.length = (bz_F S).length ∧ fx.length + sx.length + e = 61 ∧ bi_fi h 12 37 (B 12 0) = Int32.ofNat fx.length ∧ bi_fi h 12 38 (B 12 0) = Int32.ofNat sx.length ∧ (∀ i, i < fx.length → bi_ar h (B 135 0) i = B 10 (fx.getD i 0) ∧ mb_g B S h (fx.getD i 0) ((bz_F S).getD i (fun _ => 0, []))) ∧ (∀ j, j < sx.length → bi_ar h (B 136 0) j = B 10 (sx.getD j 0)) ∧ ∀ q ∈ H, q.1 < 61 ∧ ¬ q.1 ∈ sx ∧ (e = 1 → ¬ q.1 ∈ fx) ∧ mb_g B S h q.1 q.2
/-- the reference's fields of a store by the class's; of a staging -/
def mb_cf (k : Nat) : Nat := match k with
  | 6 => 2
  | 7 => 3
  | 8 => 13
  | 9 => 8
  | 10 => 9
  | 11 => 10
  | 12 => 11
  | 13 => 12
  | 14 => 16
  | 15 => 17
  | 16 => 18
  | 17 => 19
  | 18 => 20
  | _ => 21
def mb_gf (k : Nat) : Nat := match k with
  | 0 => 23
  | 1 => 24
  | 3 => 25
  | 4 => 26
  | 5 => 27
  | _ => 28
/-- a store -/
def mb_t (B : Nat → Nat → Nat) (S : ba_S) (h : bi_H) (s : Nat) (t : ba_T) : Prop :=
  (bi_fi h 11 0 (B 11 s) = Int32.ofNat (s % 4) ∧ bi_fi h 11 1 (B 11 s) = Int32.ofNat (s / 4)) ∧ (∀ k, 6 ≤ k → k ≤ 19 → bi_fi h 11 (mb_cf k) (B 11 s) = bs_c t k) ∧
  (∀ k, k ≤ 6 → k ≠ 2 → bi_fi h 11 (mb_gf k) (B 11 s) = bs_g t k) ∧ bi_fi h 11 22 (B 11 s) = (if bs_g t 1 = 0 then 0 else 1) ∧
  (bi_fi h 11 4 (B 11 s) = Int32.ofNat (bs_now t) ∧ bi_fi h 11 5 (B 11 s) = Int32.ofNat (bs_safe t) ∧ bi_fi h 11 6 (B 11 s) = Int32.ofNat (bs_kept t) ∧ bi_fi h 11 7 (B 11 s) = Int32.ofNat (bs_sn t).length) ∧
  (∀ i, i < (bs_sn t).length → bi_ai h (B 64 s) i = Int32.ofNat ((bs_sn t).getD i (0, 0)).1 ∧ bi_ai h (B 65 s) i = Int32.ofNat ((bs_sn t).getD i (0, 0)).2) ∧
  (∀ i, i < (bs_lo t).length → bi_ai h (B 67 s) i = Int32.ofNat (mb_w S ((bs_lo t).getD i 0)) ∧ bi_ai h (B 68 s) i = ba_v (bz_W S) ((bs_lo t).getD i 0)) ∧
  (bi_fi h 11 32 (B 11 s) = 0 ∨ bi_fi h 11 32 (B 11 s) = 1 ∧ ∀ q, q < (bz_D S (s % 4)).1 * (bz_D S (s % 4)).2 → bi_ai h (B 66 s) q = Int32.ofNat (ba_last (bz_W S) (bs_now t) (mb_vc (bz_D S (s % 4)) q))) ∧
  (bi_fi h 11 33 (B 11 s) = 0 ∨ bi_fi h 11 33 (B 11 s) = 1 ∧ bi_fi h 11 34 (B 11 s) = Int32.ofNat (bs_need (bz_W S) t))
/-- the span that was told last -/
def mb_s (B : Nat → Nat → Nat) (S : ba_S) (h : bi_H) : Prop :=
  bi_fi h 12 27 (B 12 0) = -1 ∨ ∃ g k d, g < bz_N S ∧ k ≤ ba_n (bz_W S) ∧ d ≤ ba_l (bz_W S) k ∧ bi_fi h 12 27 (B 12 0) = Int32.ofNat g ∧ bi_fi h 12 25 (B 12 0) = Int32.ofNat (ba_up (bz_W S) d k) ∧ bi_fi h 12 26 (B 12 0) = Int32.ofNat k ∧ bi_fi h 12 28 (B 12 0) = Int32.ofNat (ba_sp (bz_W S) d k).length ∧ ∀ i, i < (ba_sp (bz_W S) d k).length → bi_ai h (B 129 0) i = Int32.ofNat (mb_w S ((ba_sp (bz_W S) d k).getD i 0)) ∧ bi_ai h (B 130 0) i = ba_v (bz_W S) ((ba_sp (bz_W S) d k).getD i 0)
def ms_R (O : Nat → Prop) (B : Nat → Nat → Nat) (H : List (Nat × ba_G)) (e : Nat) (g0 : bi_H) (x y : Nat) (h : bi_H) (S : ba_S) : Prop :=
  mb_lay B S h ∧ mb_fr O B (bz_N S) g0 x y h ∧
  (bi_fi h 12 1 (B 12 0) = bz_G S 0 ∧ bi_fi h 12 2 (B 12 0) = bz_G S 1 ∧ bi_fi h 12 3 (B 12 0) = bz_G S 2 ∧ bi_fi h 12 4 (B 12 0) = bz_G S 9 ∧ bi_fi h 12 5 (B 12 0) = bz_G S 8 ∧ bi_fi h 12 6 (B 12 0) = Int32.ofNat (bz_N S) ∧ bi_fi h 12 7 (B 12 0) = bz_L S 2 ∧ bi_fi h 12 8 (B 12 0) = bz_L S 3 ∧ bi_fi h 12 14 (B 12 0) = Int32.ofNat (ba_n (bz_W S)) ∧ bi_fi h 12 24 (B 12 0) = Int32.ofNat (bz_m S)) ∧
  (∀ i, i < 2 → bi_ai h (B 109 0) i = bz_I S i 1 ∧ bi_ai h (B 110 0) i = bz_I S i 2 ∧ bi_ai h (B 111 0) i = bz_I S i 3) ∧
  (∀ g, g < bz_N S → bi_ai h (B 112 0) g = Int32.ofNat (bz_D S g).1 ∧ bi_ai h (B 113 0) g = Int32.ofNat (bz_D S g).2) ∧
  (∀ k, k ≤ ba_n (bz_W S) → bi_ai h (B 115 0) k = Int32.ofNat (ba_b (bz_W S) k) ∧ bi_ai h (B 116 0) k = Int32.ofNat (mb_w S k) ∧ bi_ai h (B 117 0) k = ba_v (bz_W S) k ∧ bi_ai h (B 118 0) k = Int32.ofNat (ba_l (bz_W S) k)) ∧
  ((∀ j, j < 32768 → ∃ x, x ≤ bz_m S ∧ bi_ai h (B 119 0) j = Int32.ofNat x) ∧ (∀ j, j < 2048 → ∃ x, x ≤ bz_m S ∧ bi_ai h (B 121 0) j = Int32.ofNat x) ∧ (∀ j, j < 128 → ∃ x, x ≤ bz_m S ∧ bi_ai h (B 122 0) j = Int32.ofNat x) ∧ ∀ j, j < 8 → ∃ x, x ≤ bz_m S ∧ bi_ai h (B 123 0) j = Int32.ofNat x) ∧
  (∀ g, g < 4 → bi_ai h (B 133 0) g = Int32.ofNat (bz_R S g).length ∧ ∀ j, j < (bz_R S g).length → bi_ai h (B 61 g) j = Int32.ofNat ((bz_R S g).getD j (0, 0)).1 ∧ bi_ai h (B 62 g) j = Int32.ofNat ((bz_R S g).getD j (0, 0)).2) ∧
  mb_s B S h ∧ (∀ s, s < 8 → s % 4 < bz_N S → mb_t B S h s (bz_T S s)) ∧ mb_f B H e S h
