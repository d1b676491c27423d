/-! single facts of the reference's heap -/
section MF
variable {O : Nat → Prop} {B : Nat → Nat → Nat} {H : List (Nat × ba_G)} {e : Nat} {g0 h h' : bi_H} {x y : Nat} {S : ba_S} {s : Nat}
theorem mb_lay.ne (L : mb_lay B S h) {c i c' i' : Nat} (hi : mb_in (bz_N S) c i) (hi' : mb_in (bz_N S) c' i') (hn : c ≠ c' ∨ i ≠ i') : (B c i = B c' i') = False := eq_false (fun z => by
  have := L.2.1 c i c' i' hi hi' z
  omega)
theorem mb_lay.nz (L : mb_lay B S h) {c i : Nat} (hi : mb_in (bz_N S) c i) : (B c i = 0) = False := eq_false (L.1 c i hi).2.2
theorem mi0 {n c : Nat} (h : 0 < mb_bd c) (hx : mb_ex c = false) : mb_in n c 0 := ⟨h, fun z => by rw [hx] at z; cases z⟩
theorem mi1 {n c i : Nat} (h : i < mb_bd c) (hx : mb_ex c = false) : mb_in n c i := ⟨h, fun z => by rw [hx] at z; cases z⟩
theorem mi2 {n c i : Nat} (h : i < mb_bd c) (hx : i % 4 < n) : mb_in n c i := ⟨h, fun _ => hx⟩
theorem mb_lay.k12 (L : mb_lay B S h) : bi_k h (B 12 0) = (22, 0) := (L.1 12 0 (mi0 (by decide) rfl)).1
theorem mb_lay.k109 (L : mb_lay B S h) : bi_k h (B 109 0) = (2, 2) := (L.1 109 0 (mi0 (by decide) rfl)).1
theorem mb_lay.k110 (L : mb_lay B S h) : bi_k h (B 110 0) = (1, 2) := (L.1 110 0 (mi0 (by decide) rfl)).1
theorem mb_lay.k111 (L : mb_lay B S h) : bi_k h (B 111 0) = (1, 2) := (L.1 111 0 (mi0 (by decide) rfl)).1
theorem mb_lay.k112 (L : mb_lay B S h) : bi_k h (B 112 0) = (1, 4) := (L.1 112 0 (mi0 (by decide) rfl)).1
theorem mb_lay.k113 (L : mb_lay B S h) : bi_k h (B 113 0) = (1, 4) := (L.1 113 0 (mi0 (by decide) rfl)).1
theorem mb_lay.k115 (L : mb_lay B S h) : bi_k h (B 115 0) = (1, 60001) := (L.1 115 0 (mi0 (by decide) rfl)).1
theorem mb_lay.k116 (L : mb_lay B S h) : bi_k h (B 116 0) = (1, 60001) := (L.1 116 0 (mi0 (by decide) rfl)).1
theorem mb_lay.k117 (L : mb_lay B S h) : bi_k h (B 117 0) = (1, 60001) := (L.1 117 0 (mi0 (by decide) rfl)).1
theorem mb_lay.k118 (L : mb_lay B S h) : bi_k h (B 118 0) = (1, 60001) := (L.1 118 0 (mi0 (by decide) rfl)).1
theorem mb_lay.k119 (L : mb_lay B S h) : bi_k h (B 119 0) = (1, 32768) := (L.1 119 0 (mi0 (by decide) rfl)).1
theorem mb_lay.k120 (L : mb_lay B S h) : bi_k h (B 120 0) = (1, 32768) := (L.1 120 0 (mi0 (by decide) rfl)).1
theorem mb_lay.k121 (L : mb_lay B S h) : bi_k h (B 121 0) = (1, 2048) := (L.1 121 0 (mi0 (by decide) rfl)).1
theorem mb_lay.k122 (L : mb_lay B S h) : bi_k h (B 122 0) = (1, 128) := (L.1 122 0 (mi0 (by decide) rfl)).1
theorem mb_lay.k123 (L : mb_lay B S h) : bi_k h (B 123 0) = (1, 8) := (L.1 123 0 (mi0 (by decide) rfl)).1
theorem mb_lay.k129 (L : mb_lay B S h) : bi_k h (B 129 0) = (1, 32768) := (L.1 129 0 (mi0 (by decide) rfl)).1
theorem mb_lay.k130 (L : mb_lay B S h) : bi_k h (B 130 0) = (1, 32768) := (L.1 130 0 (mi0 (by decide) rfl)).1
theorem mb_lay.k131 (L : mb_lay B S h) : bi_k h (B 131 0) = (5, 4) := (L.1 131 0 (mi0 (by decide) rfl)).1
theorem mb_lay.k132 (L : mb_lay B S h) : bi_k h (B 132 0) = (5, 4) := (L.1 132 0 (mi0 (by decide) rfl)).1
theorem mb_lay.k133 (L : mb_lay B S h) : bi_k h (B 133 0) = (1, 4) := (L.1 133 0 (mi0 (by decide) rfl)).1
theorem mb_lay.k134 (L : mb_lay B S h) : bi_k h (B 134 0) = (51, 8) := (L.1 134 0 (mi0 (by decide) rfl)).1
theorem mb_lay.k135 (L : mb_lay B S h) : bi_k h (B 135 0) = (50, 60) := (L.1 135 0 (mi0 (by decide) rfl)).1
theorem mb_lay.k136 (L : mb_lay B S h) : bi_k h (B 136 0) = (50, 61) := (L.1 136 0 (mi0 (by decide) rfl)).1
theorem mb_lay.k61 (L : mb_lay B S h) {g : Nat} (hg : g < 4) : bi_k h (B 61 g) = (1, 9000) := (L.1 61 g (mi1 hg rfl)).1
theorem mb_lay.k62 (L : mb_lay B S h) {g : Nat} (hg : g < 4) : bi_k h (B 62 g) = (1, 9000) := (L.1 62 g (mi1 hg rfl)).1
theorem mb_lay.k11 (L : mb_lay B S h) (hs : s < 8) (hN : s % 4 < bz_N S) : bi_k h (B 11 s) = (21, 0) := (L.1 11 s (mi2 hs hN)).1
theorem mb_lay.k64 (L : mb_lay B S h) (hs : s < 8) (hN : s % 4 < bz_N S) : bi_k h (B 64 s) = (1, 40) := (L.1 64 s (mi2 hs hN)).1
theorem mb_lay.k65 (L : mb_lay B S h) (hs : s < 8) (hN : s % 4 < bz_N S) : bi_k h (B 65 s) = (1, 40) := (L.1 65 s (mi2 hs hN)).1
theorem mb_lay.k66 (L : mb_lay B S h) (hs : s < 8) (hN : s % 4 < bz_N S) : bi_k h (B 66 s) = (1, (bz_D S (s % 4)).1 * (bz_D S (s % 4)).2) := (L.1 66 s (mi2 hs hN)).1
theorem mb_lay.k67 (L : mb_lay B S h) (hs : s < 8) (hN : s % 4 < bz_N S) : bi_k h (B 67 s) = (1, (bs_lo (bz_T S s)).length) := (L.1 67 s (mi2 hs hN)).1
theorem mb_lay.k68 (L : mb_lay B S h) (hs : s < 8) (hN : s % 4 < bz_N S) : bi_k h (B 68 s) = (1, (bs_lo (bz_T S s)).length) := (L.1 68 s (mi2 hs hN)).1
theorem mb_lay.k10 (L : mb_lay B S h) {i : Nat} (hi : i < 61) : bi_k h (B 10 i) = (20, 0) := (L.1 10 i (mi1 hi rfl)).1
theorem mb_lay.k70 (L : mb_lay B S h) {i : Nat} (hi : i < 61) : bi_k h (B 70 i) = (1, 40) := (L.1 70 i (mi1 hi rfl)).1
theorem mb_lay.k71 (L : mb_lay B S h) {i : Nat} (hi : i < 61) : bi_k h (B 71 i) = (1, 40) := (L.1 71 i (mi1 hi rfl)).1
theorem mb_lay.k72 (L : mb_lay B S h) {i : Nat} (hi : i < 61) : bi_k h (B 72 i) = (1, 40) := (L.1 72 i (mi1 hi rfl)).1
theorem mb_lay.r9 (L : mb_lay B S h) : bi_fr h 12 9 (B 12 0) = B 109 0 := L.2.2.1 9 (by decide) (by decide)
theorem mb_lay.r10 (L : mb_lay B S h) : bi_fr h 12 10 (B 12 0) = B 110 0 := L.2.2.1 10 (by decide) (by decide)
theorem mb_lay.r11 (L : mb_lay B S h) : bi_fr h 12 11 (B 12 0) = B 111 0 := L.2.2.1 11 (by decide) (by decide)
theorem mb_lay.r12 (L : mb_lay B S h) : bi_fr h 12 12 (B 12 0) = B 112 0 := L.2.2.1 12 (by decide) (by decide)
theorem mb_lay.r13 (L : mb_lay B S h) : bi_fr h 12 13 (B 12 0) = B 113 0 := L.2.2.1 13 (by decide) (by decide)
theorem mb_lay.r15 (L : mb_lay B S h) : bi_fr h 12 15 (B 12 0) = B 115 0 := L.2.2.1 15 (by decide) (by decide)
theorem mb_lay.r16 (L : mb_lay B S h) : bi_fr h 12 16 (B 12 0) = B 116 0 := L.2.2.1 16 (by decide) (by decide)
theorem mb_lay.r17 (L : mb_lay B S h) : bi_fr h 12 17 (B 12 0) = B 117 0 := L.2.2.1 17 (by decide) (by decide)
theorem mb_lay.r18 (L : mb_lay B S h) : bi_fr h 12 18 (B 12 0) = B 118 0 := L.2.2.1 18 (by decide) (by decide)
theorem mb_lay.r19 (L : mb_lay B S h) : bi_fr h 12 19 (B 12 0) = B 119 0 := L.2.2.1 19 (by decide) (by decide)
theorem mb_lay.r20 (L : mb_lay B S h) : bi_fr h 12 20 (B 12 0) = B 120 0 := L.2.2.1 20 (by decide) (by decide)
theorem mb_lay.r21 (L : mb_lay B S h) : bi_fr h 12 21 (B 12 0) = B 121 0 := L.2.2.1 21 (by decide) (by decide)
theorem mb_lay.r22 (L : mb_lay B S h) : bi_fr h 12 22 (B 12 0) = B 122 0 := L.2.2.1 22 (by decide) (by decide)
theorem mb_lay.r23 (L : mb_lay B S h) : bi_fr h 12 23 (B 12 0) = B 123 0 := L.2.2.1 23 (by decide) (by decide)
theorem mb_lay.r29 (L : mb_lay B S h) : bi_fr h 12 29 (B 12 0) = B 129 0 := L.2.2.1 29 (by decide) (by decide)
theorem mb_lay.r30 (L : mb_lay B S h) : bi_fr h 12 30 (B 12 0) = B 130 0 := L.2.2.1 30 (by decide) (by decide)
theorem mb_lay.r31 (L : mb_lay B S h) : bi_fr h 12 31 (B 12 0) = B 131 0 := L.2.2.1 31 (by decide) (by decide)
theorem mb_lay.r32 (L : mb_lay B S h) : bi_fr h 12 32 (B 12 0) = B 132 0 := L.2.2.1 32 (by decide) (by decide)
theorem mb_lay.r33 (L : mb_lay B S h) : bi_fr h 12 33 (B 12 0) = B 133 0 := L.2.2.1 33 (by decide) (by decide)
theorem mb_lay.r34 (L : mb_lay B S h) : bi_fr h 12 34 (B 12 0) = B 134 0 := L.2.2.1 34 (by decide) (by decide)
theorem mb_lay.r35 (L : mb_lay B S h) : bi_fr h 12 35 (B 12 0) = B 135 0 := L.2.2.1 35 (by decide) (by decide)
theorem mb_lay.r36 (L : mb_lay B S h) : bi_fr h 12 36 (B 12 0) = B 136 0 := L.2.2.1 36 (by decide) (by decide)
theorem mb_lay.t1 (L : mb_lay B S h) {g : Nat} (hg : g < 4) : bi_ar h (B 131 0) g = B 61 g := (L.2.2.2.1 g hg).1
theorem mb_lay.t2 (L : mb_lay B S h) {g : Nat} (hg : g < 4) : bi_ar h (B 132 0) g = B 62 g := (L.2.2.2.1 g hg).2
theorem mb_lay.st (L : mb_lay B S h) (hs : s < 8) : bi_ar h (B 134 0) s = if s % 4 < bz_N S then B 11 s else 0 := L.2.2.2.2.1 s hs
theorem mb_lay.s14 (L : mb_lay B S h) (hs : s < 8) (hN : s % 4 < bz_N S) : bi_fr h 11 14 (B 11 s) = B 64 s := (L.2.2.2.2.2.1 s hs hN).1
theorem mb_lay.s15 (L : mb_lay B S h) (hs : s < 8) (hN : s % 4 < bz_N S) : bi_fr h 11 15 (B 11 s) = B 65 s := (L.2.2.2.2.2.1 s hs hN).2.1
theorem mb_lay.s29 (L : mb_lay B S h) (hs : s < 8) (hN : s % 4 < bz_N S) : bi_fr h 11 29 (B 11 s) = B 67 s := (L.2.2.2.2.2.1 s hs hN).2.2.1
theorem mb_lay.s30 (L : mb_lay B S h) (hs : s < 8) (hN : s % 4 < bz_N S) : bi_fr h 11 30 (B 11 s) = B 68 s := (L.2.2.2.2.2.1 s hs hN).2.2.2.1
theorem mb_lay.s31 (L : mb_lay B S h) (hs : s < 8) (hN : s % 4 < bz_N S) : bi_fr h 11 31 (B 11 s) = B 66 s := (L.2.2.2.2.2.1 s hs hN).2.2.2.2
theorem mb_lay.m8 (L : mb_lay B S h) {i : Nat} (hi : i < 61) : bi_fr h 10 8 (B 10 i) = B 70 i := (L.2.2.2.2.2.2 i hi).1
theorem mb_lay.m9 (L : mb_lay B S h) {i : Nat} (hi : i < 61) : bi_fr h 10 9 (B 10 i) = B 71 i := (L.2.2.2.2.2.2 i hi).2.1
theorem mb_lay.m10 (L : mb_lay B S h) {i : Nat} (hi : i < 61) : bi_fr h 10 10 (B 10 i) = B 72 i := (L.2.2.2.2.2.2 i hi).2.2
theorem ms_R.L (R : ms_R O B H e g0 x y h S) : mb_lay B S h := R.1
theorem ms_R.fr (R : ms_R O B H e g0 x y h S) : mb_fr O B (bz_N S) g0 x y h := R.2.1
theorem ms_R.f1 (R : ms_R O B H e g0 x y h S) : bi_fi h 12 1 (B 12 0) = bz_G S 0 := R.2.2.1.1
theorem ms_R.f2 (R : ms_R O B H e g0 x y h S) : bi_fi h 12 2 (B 12 0) = bz_G S 1 := R.2.2.1.2.1
theorem ms_R.f3 (R : ms_R O B H e g0 x y h S) : bi_fi h 12 3 (B 12 0) = bz_G S 2 := R.2.2.1.2.2.1
theorem ms_R.f4 (R : ms_R O B H e g0 x y h S) : bi_fi h 12 4 (B 12 0) = bz_G S 9 := R.2.2.1.2.2.2.1
theorem ms_R.f5 (R : ms_R O B H e g0 x y h S) : bi_fi h 12 5 (B 12 0) = bz_G S 8 := R.2.2.1.2.2.2.2.1
theorem ms_R.f6 (R : ms_R O B H e g0 x y h S) : bi_fi h 12 6 (B 12 0) = Int32.ofNat (bz_N S) := R.2.2.1.2.2.2.2.2.1
theorem ms_R.f7 (R : ms_R O B H e g0 x y h S) : bi_fi h 12 7 (B 12 0) = bz_L S 2 := R.2.2.1.2.2.2.2.2.2.1
theorem ms_R.f8 (R : ms_R O B H e g0 x y h S) : bi_fi h 12 8 (B 12 0) = bz_L S 3 := R.2.2.1.2.2.2.2.2.2.2.1
theorem ms_R.f14 (R : ms_R O B H e g0 x y h S) : bi_fi h 12 14 (B 12 0) = Int32.ofNat (ba_n (bz_W S)) := R.2.2.1.2.2.2.2.2.2.2.2.1
theorem ms_R.f24 (R : ms_R O B H e g0 x y h S) : bi_fi h 12 24 (B 12 0) = Int32.ofNat (bz_m S) := R.2.2.1.2.2.2.2.2.2.2.2.2
theorem ms_R.a109 (R : ms_R O B H e g0 x y h S) {i : Nat} (hi : i < 2) : bi_ai h (B 109 0) i = bz_I S i 1 := (R.2.2.2.1 i hi).1
theorem ms_R.a110 (R : ms_R O B H e g0 x y h S) {i : Nat} (hi : i < 2) : bi_ai h (B 110 0) i = bz_I S i 2 := (R.2.2.2.1 i hi).2.1
theorem ms_R.a111 (R : ms_R O B H e g0 x y h S) {i : Nat} (hi : i < 2) : bi_ai h (B 111 0) i = bz_I S i 3 := (R.2.2.2.1 i hi).2.2
theorem ms_R.a112 (R : ms_R O B H e g0 x y h S) {g : Nat} (hg : g < bz_N S) : bi_ai h (B 112 0) g = Int32.ofNat (bz_D S g).1 := (R.2.2.2.2.1 g hg).1
theorem ms_R.a113 (R : ms_R O B H e g0 x y h S) {g : Nat} (hg : g < bz_N S) : bi_ai h (B 113 0) g = Int32.ofNat (bz_D S g).2 := (R.2.2.2.2.1 g hg).2
theorem ms_R.a115 (R : ms_R O B H e g0 x y h S) {k : Nat} (hk : k ≤ ba_n (bz_W S)) : bi_ai h (B 115 0) k = Int32.ofNat (ba_b (bz_W S) k) := (R.2.2.2.2.2.1 k hk).1
theorem ms_R.a116 (R : ms_R O B H e g0 x y h S) {k : Nat} (hk : k ≤ ba_n (bz_W S)) : bi_ai h (B 116 0) k = Int32.ofNat (mb_w S k) := (R.2.2.2.2.2.1 k hk).2.1
theorem ms_R.a117 (R : ms_R O B H e g0 x y h S) {k : Nat} (hk : k ≤ ba_n (bz_W S)) : bi_ai h (B 117 0) k = ba_v (bz_W S) k := (R.2.2.2.2.2.1 k hk).2.2.1
theorem ms_R.a118 (R : ms_R O B H e g0 x y h S) {k : Nat} (hk : k ≤ ba_n (bz_W S)) : bi_ai h (B 118 0) k = Int32.ofNat (ba_l (bz_W S) k) := (R.2.2.2.2.2.1 k hk).2.2.2
theorem ms_R.a133 (R : ms_R O B H e g0 x y h S) {g : Nat} (hg : g < 4) : bi_ai h (B 133 0) g = Int32.ofNat (bz_R S g).length := (R.2.2.2.2.2.2.2.1 g hg).1
theorem ms_R.a61 (R : ms_R O B H e g0 x y h S) {g j : Nat} (hg : g < 4) (hj : j < (bz_R S g).length) : bi_ai h (B 61 g) j = Int32.ofNat ((bz_R S g).getD j (0, 0)).1 := ((R.2.2.2.2.2.2.2.1 g hg).2 j hj).1
theorem ms_R.a62 (R : ms_R O B H e g0 x y h S) {g j : Nat} (hg : g < 4) (hj : j < (bz_R S g).length) : bi_ai h (B 62 g) j = Int32.ofNat ((bz_R S g).getD j (0, 0)).2 := ((R.2.2.2.2.2.2.2.1 g hg).2 j hj).2
theorem ms_R.sp (R : ms_R O B H e g0 x y h S) : mb_s B S h := R.2.2.2.2.2.2.2.2.1
theorem ms_R.t (R : ms_R O B H e g0 x y h S) (hs : s < 8) (hN : s % 4 < bz_N S) : mb_t B S h s (bz_T S s) := R.2.2.2.2.2.2.2.2.2.1 s hs hN
theorem ms_R.fl (R : ms_R O B H e g0 x y h S) : mb_f B H e S h := R.2.2.2.2.2.2.2.2.2.2
theorem ms_R.mk (R : ms_R O B H e g0 x y h S) : (∀ j, j < 32768 → ∃ x, x ≤ bz_m S ∧ bi_ai h (B 119 0) j = Int32.ofNat x) ∧ (∀ j, j < 2048 → ∃ x, x ≤ bz_m S ∧ bi_ai h (B 121 0) j = Int32.ofNat x) ∧ (∀ j, j < 128 → ∃ x, x ≤ bz_m S ∧ bi_ai h (B 122 0) j = Int32.ofNat x) ∧ ∀ j, j < 8 → ∃ x, x ≤ bz_m S ∧ bi_ai h (B 123 0) j = Int32.ofNat x := R.2.2.2.2.2.2.1
theorem ms_R.c6 (R : ms_R O B H e g0 x y h S) (hs : s < 8) (hN : s % 4 < bz_N S) : bi_fi h 11 2 (B 11 s) = bs_c (bz_T S s) 6 := (R.t hs hN).2.1 6 (by decide) (by decide)
theorem ms_R.c7 (R : ms_R O B H e g0 x y h S) (hs : s < 8) (hN : s % 4 < bz_N S) : bi_fi h 11 3 (B 11 s) = bs_c (bz_T S s) 7 := (R.t hs hN).2.1 7 (by decide) (by decide)
theorem ms_R.c8 (R : ms_R O B H e g0 x y h S) (hs : s < 8) (hN : s % 4 < bz_N S) : bi_fi h 11 13 (B 11 s) = bs_c (bz_T S s) 8 := (R.t hs hN).2.1 8 (by decide) (by decide)
theorem ms_R.c9 (R : ms_R O B H e g0 x y h S) (hs : s < 8) (hN : s % 4 < bz_N S) : bi_fi h 11 8 (B 11 s) = bs_c (bz_T S s) 9 := (R.t hs hN).2.1 9 (by decide) (by decide)
theorem ms_R.c10 (R : ms_R O B H e g0 x y h S) (hs : s < 8) (hN : s % 4 < bz_N S) : bi_fi h 11 9 (B 11 s) = bs_c (bz_T S s) 10 := (R.t hs hN).2.1 10 (by decide) (by decide)
theorem ms_R.c11 (R : ms_R O B H e g0 x y h S) (hs : s < 8) (hN : s % 4 < bz_N S) : bi_fi h 11 10 (B 11 s) = bs_c (bz_T S s) 11 := (R.t hs hN).2.1 11 (by decide) (by decide)
theorem ms_R.c12 (R : ms_R O B H e g0 x y h S) (hs : s < 8) (hN : s % 4 < bz_N S) : bi_fi h 11 11 (B 11 s) = bs_c (bz_T S s) 12 := (R.t hs hN).2.1 12 (by decide) (by decide)
theorem ms_R.c13 (R : ms_R O B H e g0 x y h S) (hs : s < 8) (hN : s % 4 < bz_N S) : bi_fi h 11 12 (B 11 s) = bs_c (bz_T S s) 13 := (R.t hs hN).2.1 13 (by decide) (by decide)
theorem ms_R.c14 (R : ms_R O B H e g0 x y h S) (hs : s < 8) (hN : s % 4 < bz_N S) : bi_fi h 11 16 (B 11 s) = bs_c (bz_T S s) 14 := (R.t hs hN).2.1 14 (by decide) (by decide)
theorem ms_R.c15 (R : ms_R O B H e g0 x y h S) (hs : s < 8) (hN : s % 4 < bz_N S) : bi_fi h 11 17 (B 11 s) = bs_c (bz_T S s) 15 := (R.t hs hN).2.1 15 (by decide) (by decide)
theorem ms_R.c16 (R : ms_R O B H e g0 x y h S) (hs : s < 8) (hN : s % 4 < bz_N S) : bi_fi h 11 18 (B 11 s) = bs_c (bz_T S s) 16 := (R.t hs hN).2.1 16 (by decide) (by decide)
theorem ms_R.c17 (R : ms_R O B H e g0 x y h S) (hs : s < 8) (hN : s % 4 < bz_N S) : bi_fi h 11 19 (B 11 s) = bs_c (bz_T S s) 17 := (R.t hs hN).2.1 17 (by decide) (by decide)
theorem ms_R.c18 (R : ms_R O B H e g0 x y h S) (hs : s < 8) (hN : s % 4 < bz_N S) : bi_fi h 11 20 (B 11 s) = bs_c (bz_T S s) 18 := (R.t hs hN).2.1 18 (by decide) (by decide)
theorem ms_R.c19 (R : ms_R O B H e g0 x y h S) (hs : s < 8) (hN : s % 4 < bz_N S) : bi_fi h 11 21 (B 11 s) = bs_c (bz_T S s) 19 := (R.t hs hN).2.1 19 (by decide) (by decide)
theorem ms_R.w0 (R : ms_R O B H e g0 x y h S) (hs : s < 8) (hN : s % 4 < bz_N S) : bi_fi h 11 23 (B 11 s) = bs_g (bz_T S s) 0 := (R.t hs hN).2.2.1 0 (by decide) (by decide)
theorem ms_R.w1 (R : ms_R O B H e g0 x y h S) (hs : s < 8) (hN : s % 4 < bz_N S) : bi_fi h 11 24 (B 11 s) = bs_g (bz_T S s) 1 := (R.t hs hN).2.2.1 1 (by decide) (by decide)
theorem ms_R.w3 (R : ms_R O B H e g0 x y h S) (hs : s < 8) (hN : s % 4 < bz_N S) : bi_fi h 11 25 (B 11 s) = bs_g (bz_T S s) 3 := (R.t hs hN).2.2.1 3 (by decide) (by decide)
theorem ms_R.w4 (R : ms_R O B H e g0 x y h S) (hs : s < 8) (hN : s % 4 < bz_N S) : bi_fi h 11 26 (B 11 s) = bs_g (bz_T S s) 4 := (R.t hs hN).2.2.1 4 (by decide) (by decide)
theorem ms_R.w5 (R : ms_R O B H e g0 x y h S) (hs : s < 8) (hN : s % 4 < bz_N S) : bi_fi h 11 27 (B 11 s) = bs_g (bz_T S s) 5 := (R.t hs hN).2.2.1 5 (by decide) (by decide)
theorem ms_R.w6 (R : ms_R O B H e g0 x y h S) (hs : s < 8) (hN : s % 4 < bz_N S) : bi_fi h 11 28 (B 11 s) = bs_g (bz_T S s) 6 := (R.t hs hN).2.2.1 6 (by decide) (by decide)
theorem ms_R.s0 (R : ms_R O B H e g0 x y h S) (hs : s < 8) (hN : s % 4 < bz_N S) : bi_fi h 11 0 (B 11 s) = Int32.ofNat (s % 4) := (R.t hs hN).1.1
theorem ms_R.s1 (R : ms_R O B H e g0 x y h S) (hs : s < 8) (hN : s % 4 < bz_N S) : bi_fi h 11 1 (B 11 s) = Int32.ofNat (s / 4) := (R.t hs hN).1.2
theorem ms_R.s22 (R : ms_R O B H e g0 x y h S) (hs : s < 8) (hN : s % 4 < bz_N S) : bi_fi h 11 22 (B 11 s) = (if bs_g (bz_T S s) 1 = 0 then 0 else 1) := (R.t hs hN).2.2.2.1
theorem ms_R.s4 (R : ms_R O B H e g0 x y h S) (hs : s < 8) (hN : s % 4 < bz_N S) : bi_fi h 11 4 (B 11 s) = Int32.ofNat (bs_now (bz_T S s)) := (R.t hs hN).2.2.2.2.1.1
theorem ms_R.s5 (R : ms_R O B H e g0 x y h S) (hs : s < 8) (hN : s % 4 < bz_N S) : bi_fi h 11 5 (B 11 s) = Int32.ofNat (bs_safe (bz_T S s)) := (R.t hs hN).2.2.2.2.1.2.1
theorem ms_R.s6 (R : ms_R O B H e g0 x y h S) (hs : s < 8) (hN : s % 4 < bz_N S) : bi_fi h 11 6 (B 11 s) = Int32.ofNat (bs_kept (bz_T S s)) := (R.t hs hN).2.2.2.2.1.2.2.1
theorem ms_R.s7 (R : ms_R O B H e g0 x y h S) (hs : s < 8) (hN : s % 4 < bz_N S) : bi_fi h 11 7 (B 11 s) = Int32.ofNat ((bs_sn (bz_T S s)).length) := (R.t hs hN).2.2.2.2.1.2.2.2
theorem ms_R.a64 (R : ms_R O B H e g0 x y h S) (hs : s < 8) (hN : s % 4 < bz_N S) {i : Nat} (hi : i < (bs_sn (bz_T S s)).length) : bi_ai h (B 64 s) i = Int32.ofNat ((bs_sn (bz_T S s)).getD i (0, 0)).1 := ((R.t hs hN).2.2.2.2.2.1 i hi).1
theorem ms_R.a65 (R : ms_R O B H e g0 x y h S) (hs : s < 8) (hN : s % 4 < bz_N S) {i : Nat} (hi : i < (bs_sn (bz_T S s)).length) : bi_ai h (B 65 s) i = Int32.ofNat ((bs_sn (bz_T S s)).getD i (0, 0)).2 := ((R.t hs hN).2.2.2.2.2.1 i hi).2
theorem ms_R.a67 (R : ms_R O B H e g0 x y h S) (hs : s < 8) (hN : s % 4 < bz_N S) {i : Nat} (hi : i < (bs_lo (bz_T S s)).length) : bi_ai h (B 67 s) i = Int32.ofNat (mb_w S ((bs_lo (bz_T S s)).getD i 0)) := ((R.t hs hN).2.2.2.2.2.2.1 i hi).1
theorem ms_R.a68 (R : ms_R O B H e g0 x y h S) (hs : s < 8) (hN : s % 4 < bz_N S) {i : Nat} (hi : i < (bs_lo (bz_T S s)).length) : bi_ai h (B 68 s) i = ba_v (bz_W S) ((bs_lo (bz_T S s)).getD i 0) := ((R.t hs hN).2.2.2.2.2.2.1 i hi).2
end MF
/-! the reference's heap, some numbers of it changed -/
/-- only these fields (class code, object, field) and these arrays have changed -/
def md (B : Nat → Nat → Nat) (P : List (Nat × Nat × Nat)) (Z : List (Nat × Nat)) (h h' : bi_H) : Prop :=
  (bi_k h' = bi_k h ∧ bi_nx h' = bi_nx h ∧ bi_nc h' = bi_nc h ∧ bi_ns h' = bi_ns h ∧ bi_fr h' = bi_fr h ∧ bi_ar h' = bi_ar h) ∧ (∀ c k a, (∀ q, q ∈ P → ¬ (c = q.1 ∧ k = q.2.2 ∧ a = B q.1 q.2.1)) → bi_fi h' c k a = bi_fi h c k a) ∧ ∀ a j, (∀ q, q ∈ Z → a ≠ B q.1 q.2) → bi_ai h' a j = bi_ai h a j
section MD
variable {B : Nat → Nat → Nat} {P : List (Nat × Nat × Nat)} {Z : List (Nat × Nat)} {h h' : bi_H}
theorem md.rf (h : bi_H) : md B P Z h h := ⟨⟨rfl, rfl, rfl, rfl, rfl, rfl⟩, fun _ _ _ _ => rfl, fun _ _ _ => rfl⟩
theorem md.tr {h1 h2 h3 : bi_H} (d1 : md B P Z h1 h2) (d2 : md B P Z h2 h3) : md B P Z h1 h3 := by
  obtain ⟨⟨a1, a2, a3, a4, a5, a6⟩, a7, a8⟩ := d1
  obtain ⟨⟨b1, b2, b3, b4, b5, b6⟩, b7, b8⟩ := d2
  exact ⟨⟨b1.trans a1, b2.trans a2, b3.trans a3, b4.trans a4, b5.trans a5, b6.trans a6⟩, fun c k a hn => (b7 c k a hn).trans (a7 c k a hn), fun a j hn => (b8 a j hn).trans (a8 a j hn)⟩
theorem md.mono {P' : List (Nat × Nat × Nat)} {Z' : List (Nat × Nat)} (d : md B P Z h h') (hP : ∀ q, q ∈ P → q ∈ P') (hZ : ∀ q, q ∈ Z → q ∈ Z') : md B P' Z' h h' := ⟨d.1, fun c k a hn => d.2.1 c k a (fun q hq => hn q (hP q hq)), fun a j hn => d.2.2 a j (fun q hq => hn q (hZ q hq))⟩
theorem md.sfi (h : bi_H) {c i k : Nat} (hq : (c, i, k) ∈ P) (v : Int32) : md B P Z h (bi_sfi h c k (B c i) v) := by
  refine ⟨⟨rfl, rfl, rfl, rfl, rfl, rfl⟩, fun c' k' a hn => ?_, fun _ _ _ => rfl⟩
  rw [bh_fi_sfi, if_neg (hn _ hq)]
theorem md.sai (h : bi_H) {c i : Nat} (hq : (c, i) ∈ Z) (j : Nat) (v : Int32) : md B P Z h (bi_sai h (B c i) j v) := by
  refine ⟨⟨rfl, rfl, rfl, rfl, rfl, rfl⟩, fun _ _ _ _ => rfl, fun a j' hn => ?_⟩
  rw [bh_ai_sai, if_neg (fun z => hn _ hq z.1)]
end MD
section MU
variable {O : Nat → Prop} {B : Nat → Nat → Nat} {H : List (Nat × ba_G)} {e : Nat} {g0 h h' : bi_H} {x y : Nat} {S S' : ba_S} {s : Nat} {P : List (Nat × Nat × Nat)} {Z : List (Nat × Nat)}
theorem md.ai (d : md B P Z h h') (L : mb_lay B S h) (hZ : ∀ q, q ∈ Z → mb_in (bz_N S) q.1 q.2) {c i : Nat} (hi : mb_in (bz_N S) c i) (hn : ¬ (c, i) ∈ Z) (j : Nat) : bi_ai h' (B c i) j = bi_ai h (B c i) j := d.2.2 _ _ (fun q hq z => by
  have := L.2.1 c i q.1 q.2 hi (hZ q hq) z
  apply hn
  rw [this.1, this.2]
  exact hq)
theorem md.fi (d : md B P Z h h') (L : mb_lay B S h) (hP : ∀ q, q ∈ P → mb_in (bz_N S) q.1 q.2.1) {c i k : Nat} (hi : mb_in (bz_N S) c i) (hn : ¬ (c, i, k) ∈ P) : bi_fi h' c k (B c i) = bi_fi h c k (B c i) := d.2.1 _ _ _ (fun q hq z => by
  have := L.2.1 c i q.1 q.2.1 hi (hP q hq) z.2.2
  apply hn
  rw [this.1, this.2, z.2.1]
  exact hq)
theorem md.lay (d : md B P Z h h') (L : mb_lay B S h) (hk : ∀ c i, mb_kd S' c i = mb_kd S c i) (hN : bz_N S' = bz_N S) : mb_lay B S' h' := by
  obtain ⟨l1, l2, l3, l4, l5, l6, l7⟩ := L
  obtain ⟨⟨a1, a2, a3, a4, a5, a6⟩, -⟩ := d
  unfold mb_lay
  rw [hN, a1, a2, a5, a6]
  exact ⟨fun c i hi => by rw [hk]; exact l1 c i hi, l2, l3, l4, l5, l6, l7⟩
theorem md.frm (d : md B P Z h h') (F : mb_fr O B (bz_N S) g0 x y h) (hP : ∀ q, q ∈ P → 10 ≤ q.1) (hZ : ∀ q, q ∈ Z → mb_in (bz_N S) q.1 q.2) : mb_fr O B (bz_N S) g0 x y h' := by
  obtain ⟨f1, f2, f3, f4, f5, f6, f7⟩ := F
  obtain ⟨⟨a1, a2, a3, a4, a5, a6⟩, a7, a8⟩ := d
  refine ⟨by rw [a2]; exact f1, by rw [a1]; exact f2, fun c k a hc ha => ?_, fun a j ha hO => ?_, by rw [a3]; exact f5, by rw [a4]; exact f6, f7⟩
  · rw [a5, a7 c k a (fun q hq z => by have := hP q hq; omega)]
    exact f3 c k a hc ha
  · rw [a6, a8 a j (fun q hq z => by
      rcases f7 q.1 q.2 (hZ q hq) with w | w
      · rw [← z] at w
        exact hO w
      · omega)]
    exact f4 a j ha hO
/-- a message is as it was -/
theorem md.g (d : md B P Z h h') (L : mb_lay B S h) (hP : ∀ q, q ∈ P → mb_in (bz_N S) q.1 q.2.1) (hZ : ∀ q, q ∈ Z → mb_in (bz_N S) q.1 q.2) (h10 : ∀ q, q ∈ P → q.1 ≠ 10) (h70 : ∀ q, q ∈ Z → q.1 ≠ 70 ∧ q.1 ≠ 71 ∧ q.1 ≠ 72) {i : Nat} (hi : i < 61) {g : ba_G} (G : mb_g B S h i g) : mb_g B S h' i g := by
  have f : ∀ k, bi_fi h' 10 k (B 10 i) = bi_fi h 10 k (B 10 i) := fun k => d.fi L hP (mi1 hi rfl) (fun z => h10 _ z rfl)
  have a : ∀ c j, c = 70 ∨ c = 71 ∨ c = 72 → bi_ai h' (B c i) j = bi_ai h (B c i) j := fun c j hc => d.ai L hZ (by rcases hc with rfl | rfl | rfl <;> exact mi1 hi rfl) (fun z => by
    have := h70 _ z
    omega) j
  obtain ⟨g1, ⟨s, hs, hN, e1, e2⟩, n, hn, hl, ec, hc⟩ := G
  refine ⟨by rw [f, f, f, f, f, f]; exact g1, ⟨s, hs, hN, e1, by rw [d.1.2.2.2.2.1]; exact e2⟩, n, hn, hl, by rw [f]; exact ec, fun j hj => ?_⟩
  rw [a 70 j (by omega), a 71 j (by omega), a 72 j (by omega)]
  exact hc j hj
theorem md.fl (d : md B P Z h h') (L : mb_lay B S h) (hP : ∀ q, q ∈ P → mb_in (bz_N S) q.1 q.2.1) (hZ : ∀ q, q ∈ Z → mb_in (bz_N S) q.1 q.2) (h10 : ∀ q, q ∈ P → q.1 ≠ 10 ∧ ¬ (q.1 = 12 ∧ (q.2.2 = 37 ∨ q.2.2 = 38))) (h70 : ∀ q, q ∈ Z → q.1 ≠ 70 ∧ q.1 ≠ 71 ∧ q.1 ≠ 72) (F : mb_f B H e S h) : mb_f B H e S h' := by
  obtain ⟨fx, sx, n1, n2, n3, n4, n5, n6, n7, n8, n9⟩ := F
  have gg := fun {i : Nat} (hi : i < 61) {g : ba_G} (G : mb_g B S h i g) => d.g L hP hZ (fun q hq => (h10 q hq).1) h70 hi G
  refine ⟨fx, sx, n1, n2, n3, n4, ?_, ?_, fun i hi => ?_, fun j hj => ?_, fun q hq => ?_⟩
  · rw [d.fi L hP (mi0 (by decide) rfl) (fun z => (h10 _ z).2 ⟨rfl, Or.inl rfl⟩)]
    exact n5
  · rw [d.fi L hP (mi0 (by decide) rfl) (fun z => (h10 _ z).2 ⟨rfl, Or.inr rfl⟩)]
    exact n6
  · obtain ⟨m1, m2⟩ := n7 i hi
    rw [d.1.2.2.2.2.2]
    refine ⟨m1, gg (n2 _ ?_) m2⟩
    rw [List.getD_eq_getElem?_getD, List.getElem?_eq_getElem hi]
    exact List.mem_append_left _ (List.getElem_mem hi)
  · rw [d.1.2.2.2.2.2]
    exact n8 j hj
  · obtain ⟨m1, m2, m3, m4⟩ := n9 q hq
    exact ⟨m1, m2, m3, gg m1 m4⟩
/-- what a store shows -/
theorem md.t (d : md B P Z h h') (L : mb_lay B S h) (hP : ∀ q, q ∈ P → mb_in (bz_N S) q.1 q.2.1) (hZ : ∀ q, q ∈ Z → mb_in (bz_N S) q.1 q.2) (hs : s < 8) (hN : s % 4 < bz_N S) (h11 : ∀ q, q ∈ P → ¬ (q.1 = 11 ∧ q.2.1 = s)) (h64 : ∀ q, q ∈ Z → ¬ (64 ≤ q.1 ∧ q.1 ≤ 68 ∧ q.2 = s)) {t : ba_T} (T : mb_t B S h s t) : mb_t B S h' s t := by
  have f : ∀ k, bi_fi h' 11 k (B 11 s) = bi_fi h 11 k (B 11 s) := fun k => d.fi L hP (mi2 hs hN) (fun z => h11 _ z ⟨rfl, rfl⟩)
  have a : ∀ c j, c = 64 ∨ c = 65 ∨ c = 66 ∨ c = 67 ∨ c = 68 → bi_ai h' (B c s) j = bi_ai h (B c s) j := fun c j hc => d.ai L hZ (by rcases hc with rfl | rfl | rfl | rfl | rfl <;> exact mi2 hs hN) (fun z => h64 _ z ⟨by show 64 ≤ c; omega, by show c ≤ 68; omega, rfl⟩) j
  obtain ⟨t1, t2, t3, t4, t5, t6, t7, t8, t9⟩ := T
  refine ⟨by rw [f, f]; exact t1, fun k h1 h2 => by rw [f]; exact t2 k h1 h2, fun k h1 h2 => by rw [f]; exact t3 k h1 h2, by rw [f]; exact t4, by rw [f, f, f, f]; exact t5, fun i hi => by rw [a 64 i (by omega), a 65 i (by omega)]; exact t6 i hi, fun i hi => by rw [a 67 i (by omega), a 68 i (by omega)]; exact t7 i hi, ?_, by rw [f, f]; exact t9⟩
  rw [f]
  rcases t8 with t8 | ⟨t8, t9⟩
  · exact Or.inl t8
  · exact Or.inr ⟨t8, fun q hq => by rw [a 66 q (by omega)]; exact t9 q hq⟩
theorem md.sp (d : md B P Z h h') (L : mb_lay B S h) (hP : ∀ q, q ∈ P → mb_in (bz_N S) q.1 q.2.1) (hZ : ∀ q, q ∈ Z → mb_in (bz_N S) q.1 q.2) (h12 : ∀ q, q ∈ P → ¬ (q.1 = 12 ∧ 25 ≤ q.2.2 ∧ q.2.2 ≤ 28)) (h129 : ∀ q, q ∈ Z → q.1 ≠ 129 ∧ q.1 ≠ 130) (T : mb_s B S h) : mb_s B S h' := by
  have f : ∀ k, 25 ≤ k → k ≤ 28 → bi_fi h' 12 k (B 12 0) = bi_fi h 12 k (B 12 0) := fun k h1 h2 => d.fi L hP (mi0 (by decide) rfl) (fun z => h12 _ z ⟨rfl, h1, h2⟩)
  have a : ∀ c j, c = 129 ∨ c = 130 → bi_ai h' (B c 0) j = bi_ai h (B c 0) j := fun c j hc => d.ai L hZ (by rcases hc with rfl | rfl <;> exact mi0 (by decide) rfl) (fun z => by
    have := h129 _ z
    omega) j
  unfold mb_s
  rw [f 27 (by decide) (by decide), f 25 (by decide) (by decide), f 26 (by decide) (by decide), f 28 (by decide) (by decide)]
  simp only [a 129 _ (Or.inl rfl), a 130 _ (Or.inr rfl)]
  exact T
/-- a site's numbers -/
theorem ms_R.sI (R : ms_R O B H e g0 x y h S) {i : Nat} (hi : i < 2) {k : Nat} (hk : 1 ≤ k ∧ k ≤ 3) (v : Int32) : ms_R O B H e g0 x y (bi_sai h (B (108 + k) 0) i v) (bz_sI S i k v) := by
  have L := R.L
  have hin : ∀ q, q ∈ [(108 + k, 0)] → mb_in (bz_N S) q.1 q.2 := fun q hq => by
    rw [List.mem_singleton] at hq
    subst hq
    have : k = 1 ∨ k = 2 ∨ k = 3 := by omega
    rcases this with rfl | rfl | rfl <;> exact mi0 (by decide) rfl
  have hno : ∀ c, (∀ q, q ∈ [((108 : Nat) + k, 0)] → q.1 ≠ c) ↔ 108 + k ≠ c := fun c => by simp
  have d : md B [] [(108 + k, 0)] h (bi_sai h (B (108 + k) 0) i v) := md.sai h (by simp) _ _
  have hP : ∀ q, q ∈ ([] : List (Nat × Nat × Nat)) → mb_in (bz_N S) q.1 q.2.1 := fun q hq => by cases hq
  have ai := fun {c i} (hi : mb_in (bz_N S) c i) (hc : c < 109 ∨ 111 < c) j => d.ai L hin hi (by simp; omega) j
  obtain ⟨r1, r2, r3, r4, r5, r6, r7, r8, r9, r10, r11⟩ := R
  refine ⟨d.lay r1 (fun _ _ => rfl) rfl, d.frm r2 (fun q hq => by cases hq) hin, r3, fun i' hi' => ?_, fun g hg => ?_, fun k' hk' => ?_, ?_, fun g hg => ?_, d.sp L hP hin (fun q hq => by cases hq) (fun q hq => by simp at hq; subst hq; constructor <;> omega) r9, fun s hs hN => d.t L hP hin hs hN (fun q hq => by cases hq) (fun q hq => by simp at hq; subst hq; omega) (r10 s hs hN), d.fl L hP hin (fun q hq => by cases hq) (fun q hq => by simp at hq; subst hq; refine ⟨?_, ?_, ?_⟩ <;> omega) r11⟩
  · obtain ⟨b1, b2, b3⟩ := r4 i' hi'
    have key : ∀ k', 1 ≤ k' → k' ≤ 3 → bi_ai h (B (108 + k') 0) i' = bz_I S i' k' → bi_ai (bi_sai h (B (108 + k) 0) i v) (B (108 + k') 0) i' = bz_I (bz_sI S i k v) i' k' := by
      intro k' h1 h2 e
      show _ = ba_u (bz_I S) i (ba_u (bz_I S i) k v) i' k'
      rw [bh_ai_sai]
      by_cases ek : k' = k
      · subst ek
        by_cases ei : i' = i
        · rw [if_pos ⟨rfl, ei⟩, ei, ba_u_same, ba_u_same]
        · rw [if_neg (fun z => ei z.2), ba_u_ne _ _ ei]
          exact e
      · have n1 : mb_in (bz_N S) (108 + k') 0 := by
          have : k' = 1 ∨ k' = 2 ∨ k' = 3 := by omega
          rcases this with rfl | rfl | rfl <;> exact mi0 (by decide) rfl
        rw [if_neg (fun z => by rw [L.ne n1 (hin _ (List.mem_singleton.mpr rfl)) (Or.inl (by show 108 + k' ≠ 108 + k; omega))] at z; exact z.1), e]
        by_cases ei : i' = i
        · rw [ei, ba_u_same, ba_u_ne _ _ ek]
        · rw [ba_u_ne _ _ ei]
    exact ⟨key 1 (by decide) (by decide) b1, key 2 (by decide) (by decide) b2, key 3 (by decide) (by decide) b3⟩
  · rw [ai (mi0 (by decide) rfl) (by decide), ai (mi0 (by decide) rfl) (by decide)]
    exact r5 g hg
  · rw [ai (mi0 (by decide) rfl) (by decide), ai (mi0 (by decide) rfl) (by decide), ai (mi0 (by decide) rfl) (by decide), ai (mi0 (by decide) rfl) (by decide)]
    exact r6 k' hk'
  · simp only [ai (c := 119) (i := 0) (mi0 (by decide) rfl) (by decide), ai (c := 121) (i := 0) (mi0 (by decide) rfl) (by decide), ai (c := 122) (i := 0) (mi0 (by decide) rfl) (by decide), ai (c := 123) (i := 0) (mi0 (by decide) rfl) (by decide)]
    exact r7
  · rw [ai (mi0 (by decide) rfl) (by decide)]
    simp only [ai (c := 61) (i := g) (mi1 hg rfl) (by decide), ai (c := 62) (i := g) (mi1 hg rfl) (by decide)]
    exact r8 g hg
end MU
