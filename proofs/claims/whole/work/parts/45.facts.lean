/-! single facts of the class's heap -/
/-- its objects, and the writes -/
def cw_R (A : Nat → Nat → Nat) (p : Nat) (W : ba_W) (h : bi_H) : Prop := ca_lay A p h ∧ ca_w A W h
section CF
variable {A : Nat → Nat → Nat} {h0 h : bi_H} {x y p : Nat} {S : ba_S} {W : ba_W}
theorem cs_R.w (R : cs_R A h0 x y h S) : cw_R A (bz_pool S) (bz_W S) h := ⟨R.1, R.2.2.1⟩
theorem cw_R.k0 (R : cw_R A p W h) : bi_k h (A 0 0) = (10, 0) := (R.1.1 0 0 (by decide)).1
theorem cw_R.k1 (R : cw_R A p W h) : bi_k h (A 1 0) = (11, 0) := (R.1.1 1 0 (by decide)).1
theorem cw_R.k4 (R : cw_R A p W h) {s : Nat} (hs : s < 2) : bi_k h (A 4 s) = (14, 0) := (R.1.1 4 s hs).1
theorem cw_R.k5 (R : cw_R A p W h) {s : Nat} (hs : s < 8) : bi_k h (A 5 s) = (15, 0) := (R.1.1 5 s hs).1
theorem cw_R.k6 (R : cw_R A p W h) {s : Nat} (hs : s < 8) : bi_k h (A 6 s) = (16, 0) := (R.1.1 6 s hs).1
theorem cw_R.z6 (R : cw_R A p W h) {s : Nat} (hs : s < 8) : (A 6 s = 0) = False := eq_false (R.1.1 6 s hs).2.2
theorem cw_R.k7 (R : cw_R A p W h) {s : Nat} (hs : s < 8) : bi_k h (A 7 s) = (17, 0) := (R.1.1 7 s hs).1
theorem cw_R.k8 (R : cw_R A p W h) : bi_k h (A 8 0) = (18, 0) := (R.1.1 8 0 (by decide)).1
theorem cw_R.k9 (R : cw_R A p W h) : bi_k h (A 9 0) = (19, 0) := (R.1.1 9 0 (by decide)).1
theorem cw_R.k30 (R : cw_R A p W h) {s : Nat} (hs : s < 8) : bi_k h (A 30 s) = (13, 0) := (R.1.1 30 s hs).1
theorem cw_R.k31 (R : cw_R A p W h) {s : Nat} (hs : s < 8) : bi_k h (A 31 s) = (13, 0) := (R.1.1 31 s hs).1
theorem cw_R.k50 (R : cw_R A p W h) : bi_k h (A 50 0) = (42, 60) := (R.1.1 50 0 (by decide)).1
theorem cw_R.k51 (R : cw_R A p W h) : bi_k h (A 51 0) = (1, 32768) := (R.1.1 51 0 (by decide)).1
theorem cw_R.k52 (R : cw_R A p W h) {s : Nat} (hs : s < 8) : bi_k h (A 52 s) = (1, p) := (R.1.1 52 s hs).1
theorem cw_R.k53 (R : cw_R A p W h) {s : Nat} (hs : s < 8) : bi_k h (A 53 s) = (1, p) := (R.1.1 53 s hs).1
theorem cw_R.k54 (R : cw_R A p W h) {s : Nat} (hs : s < 8) : bi_k h (A 54 s) = (1, 32768) := (R.1.1 54 s hs).1
theorem cw_R.k55 (R : cw_R A p W h) {s : Nat} (hs : s < 8) : bi_k h (A 55 s) = (1, 16) := (R.1.1 55 s hs).1
theorem cw_R.k56 (R : cw_R A p W h) {s : Nat} (hs : s < 8) : bi_k h (A 56 s) = (1, 16) := (R.1.1 56 s hs).1
theorem cw_R.k57 (R : cw_R A p W h) : bi_k h (A 57 0) = (1, 60001) := (R.1.1 57 0 (by decide)).1
theorem cw_R.k58 (R : cw_R A p W h) : bi_k h (A 58 0) = (1, 60001) := (R.1.1 58 0 (by decide)).1
theorem cw_R.k59 (R : cw_R A p W h) : bi_k h (A 59 0) = (1, 60001) := (R.1.1 59 0 (by decide)).1
theorem cw_R.k60 (R : cw_R A p W h) : bi_k h (A 60 0) = (1, 60001) := (R.1.1 60 0 (by decide)).1
theorem cw_R.k61 (R : cw_R A p W h) : bi_k h (A 61 0) = (1, 60001) := (R.1.1 61 0 (by decide)).1
theorem cw_R.k62 (R : cw_R A p W h) : bi_k h (A 62 0) = (44, 2) := (R.1.1 62 0 (by decide)).1
theorem cw_R.k63 (R : cw_R A p W h) : bi_k h (A 63 0) = (46, 8) := (R.1.1 63 0 (by decide)).1
theorem cw_R.r93 (R : cw_R A p W h) : bi_fr h 9 3 (A 9 0) = A 62 0 := R.1.2.2.1.1
theorem cw_R.r94 (R : cw_R A p W h) : bi_fr h 9 4 (A 9 0) = A 63 0 := R.1.2.2.1.2.1
theorem cw_R.r95 (R : cw_R A p W h) : bi_fr h 9 5 (A 9 0) = A 8 0 := R.1.2.2.1.2.2.1
theorem cw_R.r96 (R : cw_R A p W h) : bi_fr h 9 6 (A 9 0) = A 0 0 := R.1.2.2.1.2.2.2.1
theorem cw_R.r00 (R : cw_R A p W h) : bi_fr h 0 0 (A 0 0) = A 50 0 := R.1.2.2.1.2.2.2.2.1
theorem cw_R.r10 (R : cw_R A p W h) : bi_fr h 1 0 (A 1 0) = A 51 0 := R.1.2.2.1.2.2.2.2.2
theorem cw_R.r81 (R : cw_R A p W h) : bi_fr h 8 1 (A 8 0) = A 57 0 := R.1.2.2.2.1.1
theorem cw_R.r82 (R : cw_R A p W h) : bi_fr h 8 2 (A 8 0) = A 58 0 := R.1.2.2.2.1.2.1
theorem cw_R.r83 (R : cw_R A p W h) : bi_fr h 8 3 (A 8 0) = A 59 0 := R.1.2.2.2.1.2.2.1
theorem cw_R.r84 (R : cw_R A p W h) : bi_fr h 8 4 (A 8 0) = A 60 0 := R.1.2.2.2.1.2.2.2.1
theorem cw_R.r85 (R : cw_R A p W h) : bi_fr h 8 5 (A 8 0) = A 61 0 := R.1.2.2.2.1.2.2.2.2.1
theorem cw_R.r86 (R : cw_R A p W h) : bi_fr h 8 6 (A 8 0) = A 1 0 := R.1.2.2.2.1.2.2.2.2.2
theorem cw_R.ri (R : cw_R A p W h) {i : Nat} (hi : i < 2) : bi_ar h (A 62 0) i = A 4 i := R.1.2.2.2.2.1 i hi
theorem cw_R.rs (R : cw_R A p W h) {s : Nat} (hs : s < 8) : bi_ar h (A 63 0) s = A 6 s := R.1.2.2.2.2.2.1 s hs
theorem cw_R.r61 (R : cw_R A p W h) {s : Nat} (hs : s < 8) : bi_fr h 6 1 (A 6 s) = A 4 (s / 4) := (R.1.2.2.2.2.2.2 s hs).1
theorem cw_R.r62 (R : cw_R A p W h) {s : Nat} (hs : s < 8) : bi_fr h 6 2 (A 6 s) = A 7 s := (R.1.2.2.2.2.2.2 s hs).2.1
theorem cw_R.r63 (R : cw_R A p W h) {s : Nat} (hs : s < 8) : bi_fr h 6 3 (A 6 s) = A 5 s := (R.1.2.2.2.2.2.2 s hs).2.2.1
theorem cw_R.r64 (R : cw_R A p W h) {s : Nat} (hs : s < 8) : bi_fr h 6 4 (A 6 s) = A 30 s := (R.1.2.2.2.2.2.2 s hs).2.2.2.1
theorem cw_R.r65 (R : cw_R A p W h) {s : Nat} (hs : s < 8) : bi_fr h 6 5 (A 6 s) = A 31 s := (R.1.2.2.2.2.2.2 s hs).2.2.2.2.1
theorem cw_R.r70 (R : cw_R A p W h) {s : Nat} (hs : s < 8) : bi_fr h 7 0 (A 7 s) = A 8 0 := (R.1.2.2.2.2.2.2 s hs).2.2.2.2.2.1
theorem cw_R.r73 (R : cw_R A p W h) {s : Nat} (hs : s < 8) : bi_fr h 7 3 (A 7 s) = A 54 s := (R.1.2.2.2.2.2.2 s hs).2.2.2.2.2.2.1
theorem cw_R.r77 (R : cw_R A p W h) {s : Nat} (hs : s < 8) : bi_fr h 7 7 (A 7 s) = A 55 s := (R.1.2.2.2.2.2.2 s hs).2.2.2.2.2.2.2.1
theorem cw_R.r78 (R : cw_R A p W h) {s : Nat} (hs : s < 8) : bi_fr h 7 8 (A 7 s) = A 56 s := (R.1.2.2.2.2.2.2 s hs).2.2.2.2.2.2.2.2.1
theorem cw_R.r320 (R : cw_R A p W h) {s : Nat} (hs : s < 8) : bi_fr h 3 2 (A 30 s) = A 52 s := (R.1.2.2.2.2.2.2 s hs).2.2.2.2.2.2.2.2.2.1
theorem cw_R.r321 (R : cw_R A p W h) {s : Nat} (hs : s < 8) : bi_fr h 3 2 (A 31 s) = A 53 s := (R.1.2.2.2.2.2.2 s hs).2.2.2.2.2.2.2.2.2.2
theorem cw_R.f80 (R : cw_R A p W h) : bi_fi h 8 0 (A 8 0) = Int32.ofNat (ba_n (W)) := R.2.1
theorem cw_R.a57 (R : cw_R A p W h) {k : Nat} (hk : k ≤ ba_n (W)) : bi_ai h (A 57 0) k = Int32.ofNat (ba_s (W) k) := (R.2.2 k hk).1
theorem cw_R.a58 (R : cw_R A p W h) {k : Nat} (hk : k ≤ ba_n (W)) : bi_ai h (A 58 0) k = ba_v (W) k := (R.2.2 k hk).2.1
theorem cw_R.a59 (R : cw_R A p W h) {k : Nat} (hk : k ≤ ba_n (W)) : bi_ai h (A 59 0) k = Int32.ofNat (ba_b (W) k) := (R.2.2 k hk).2.2.1
theorem cw_R.a60 (R : cw_R A p W h) {k : Nat} (hk : k ≤ ba_n (W)) : bi_ai h (A 60 0) k = Int32.ofNat (ba_e (W) k) := (R.2.2 k hk).2.2.2.1
theorem cw_R.a61 (R : cw_R A p W h) {k : Nat} (hk : k ≤ ba_n (W)) : bi_ai h (A 61 0) k = Int32.ofNat (ba_l (W) k) := (R.2.2 k hk).2.2.2.2
theorem cs_R.t (R : cs_R A h0 x y h S) {s : Nat} (hs : s < 8) : ca_t A (bz_W S) (bz_D S (s % 4)) (bz_pool S) (bz_T S s) s h := R.2.2.2.1 s hs
theorem cs_R.f6 (R : cs_R A h0 x y h S) {s : Nat} (hs : s < 8) (k : Nat) : bi_fi h 6 k (A 6 s) = bs_c (bz_T S s) k := (R.t hs).1 k
theorem cs_R.f5 (R : cs_R A h0 x y h S) {s : Nat} (hs : s < 8) (k : Nat) : bi_fi h 5 k (A 5 s) = bs_g (bz_T S s) k := (R.t hs).2.1 k
theorem cs_R.v (R : cs_R A h0 x y h S) {s : Nat} (hs : s < 8) : ca_v A (bz_W S) (bz_D S (s % 4)) (bz_T S s) s h := (R.t hs).2.2.1
theorem cs_R.f71 (R : cs_R A h0 x y h S) {s : Nat} (hs : s < 8) : bi_fi h 7 1 (A 7 s) = Int32.ofNat (bz_D S (s % 4)).1 := (R.v hs).1.1
theorem cs_R.f72 (R : cs_R A h0 x y h S) {s : Nat} (hs : s < 8) : bi_fi h 7 2 (A 7 s) = Int32.ofNat (bz_D S (s % 4)).2 := (R.v hs).1.2
theorem cs_R.f74 (R : cs_R A h0 x y h S) {s : Nat} (hs : s < 8) : bi_fi h 7 4 (A 7 s) = Int32.ofNat (bs_now (bz_T S s)) := (R.v hs).2.1.1
theorem cs_R.f75 (R : cs_R A h0 x y h S) {s : Nat} (hs : s < 8) : bi_fi h 7 5 (A 7 s) = Int32.ofNat (bs_safe (bz_T S s)) := (R.v hs).2.1.2.1
theorem cs_R.f76 (R : cs_R A h0 x y h S) {s : Nat} (hs : s < 8) : bi_fi h 7 6 (A 7 s) = Int32.ofNat (bs_kept (bz_T S s)) := (R.v hs).2.1.2.2
theorem cs_R.f79 (R : cs_R A h0 x y h S) {s : Nat} (hs : s < 8) : bi_fi h 7 9 (A 7 s) = Int32.ofNat (bs_sn (bz_T S s)).length := (R.v hs).2.2.1
theorem cs_R.f710 (R : cs_R A h0 x y h S) {s : Nat} (hs : s < 8) : bi_fi h 7 10 (A 7 s) = Int32.ofNat (bs_need (bz_W S) (bz_T S s)) := (R.v hs).2.2.2.1
theorem cs_R.a55 (R : cs_R A h0 x y h S) {s : Nat} (hs : s < 8) {i : Nat} (hi : i < (bs_sn (bz_T S s)).length) : bi_ai h (A 55 s) i = Int32.ofNat ((bs_sn (bz_T S s)).getD i (0, 0)).1 := ((R.v hs).2.2.2.2.1 i hi).1
theorem cs_R.a56 (R : cs_R A h0 x y h S) {s : Nat} (hs : s < 8) {i : Nat} (hi : i < (bs_sn (bz_T S s)).length) : bi_ai h (A 56 s) i = Int32.ofNat ((bs_sn (bz_T S s)).getD i (0, 0)).2 := ((R.v hs).2.2.2.2.1 i hi).2
theorem cs_R.a54 (R : cs_R A h0 x y h S) {s : Nat} (hs : s < 8) {p : Nat} (hp : p < 32768) : bi_ai h (A 54 s) p = Int32.ofNat (ba_last (bz_W S) (bs_now (bz_T S s)) p) := (R.v hs).2.2.2.2.2 p hp
theorem cs_R.f4 (R : cs_R A h0 x y h S) {i : Nat} (hi : i < 2) (k : Nat) : bi_fi h 4 k (A 4 i) = bz_I S i k := R.2.2.2.2.1 i hi k
theorem cs_R.f9 (R : cs_R A h0 x y h S) (k : Nat) : bi_fi h 9 k (A 9 0) = bz_G S k := R.2.2.2.2.2.1 k
theorem cs_R.f0 (R : cs_R A h0 x y h S) (k : Nat) : bi_fi h 0 k (A 0 0) = bz_L S k := R.2.2.2.2.2.2.1 k
theorem cs_R.f11 (R : cs_R A h0 x y h S) : bi_fi h 1 1 (A 1 0) = Int32.ofNat (bz_r S) := R.2.2.2.2.2.2.2.2.1
theorem cs_R.m (R : cs_R A h0 x y h S) {i : Nat} (hi : i < (bz_F S).length) : ca_g A h (bi_ar h (A 50 0) i) ((bz_F S).getD i (fun _ => 0, [])) := R.2.2.2.2.2.2.2.1 i hi
theorem cw_R.ne (R : cw_R A p W h) {c i c' i' : Nat} (hi : i < ca_bd c) (hi' : i' < ca_bd c') (hn : c ≠ c' ∨ i ≠ i') : (A c i = A c' i') = False := by
  apply eq_false
  intro z
  have := R.1.2.1 c i c' i' hi hi' z
  omega
theorem cw_R.sai (R : cw_R A p W h) {c i j : Nat} {v : Int32} (hi : i < ca_bd c) (hc : c < 57) : cw_R A p W (bi_sai h (A c i) j v) := by
  refine ⟨R.1, R.2.1, fun k hk => ?_⟩
  have hne : ∀ d, 57 ≤ d → d ≤ 61 → bi_ai (bi_sai h (A c i) j v) (A d 0) k = bi_ai h (A d 0) k := fun d h1 h2 => by
    rw [bh_ai_sai, if_neg]
    intro z
    have hd : 0 < ca_bd d := by
      have : d = 57 ∨ d = 58 ∨ d = 59 ∨ d = 60 ∨ d = 61 := by omega
      rcases this with rfl | rfl | rfl | rfl | rfl <;> decide
    rw [R.ne hd hi (Or.inl (by omega))] at z
    exact z.1
  rw [hne 57 (by decide) (by decide), hne 58 (by decide) (by decide), hne 59 (by decide) (by decide), hne 60 (by decide) (by decide), hne 61 (by decide) (by decide)]
  exact R.2.2 k hk
end CF
