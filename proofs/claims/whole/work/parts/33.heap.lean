/-! the heap, read behind what was written -/
theorem bw_run_det {P : bi_P} {n n' mi b : Nat} {L : bi_L} {st : List bi_V} {h : bi_H} {r r' : bi_O × bi_H} (h1 : bi_run P n mi b L st h = some r) (h2 : bi_run P n' mi b L st h = some r') : r = r' := by
  have e1 := bw_run_mono (Nat.le_add_right n n') h1
  have e2 := bw_run_mono (Nat.le_add_left n' n) h2
  rw [e1] at e2
  exact Option.some.inj e2
/-- a call whose end is known -/
theorem bw_C_iff {P : bi_P} {mi : Nat} {as : List bi_V} {h h' : bi_H} {v : Option bi_V} (he : bw_r P mi 0 (bi_loc as) [] h (fun o g => o = .inl v ∧ g = h')) (K : Option bi_V → bi_H → Prop) : bw_C P mi as h K ↔ K v h' := by
  obtain ⟨n, o, g, hr, rfl, rfl⟩ := he
  constructor
  · rintro ⟨n', o', g', hr', v', rfl, hK⟩
    cases bw_run_det hr hr'
    exact hK
  · intro hK
    exact ⟨n, _, _, hr, v, rfl, hK⟩
section BH
variable (h : bi_H) (c f a j s : Nat) (x : Int32) (y : Nat) (kd : Nat × Nat) (a' c' f' j' : Nat)
theorem bh_k_sfi : bi_k (bi_sfi h c f a x) = bi_k h := Eq.trans rfl rfl
theorem bh_k_sfr : bi_k (bi_sfr h c f a y) = bi_k h := Eq.trans rfl rfl
theorem bh_k_sai : bi_k (bi_sai h a j x) = bi_k h := Eq.trans rfl rfl
theorem bh_k_sar : bi_k (bi_sar h a j y) = bi_k h := Eq.trans rfl rfl
theorem bh_k_new : bi_k (bi_new h kd s) a' = if a' = bi_nx h then kd else bi_k h a' := Eq.trans rfl rfl
theorem bh_fi_sfi : bi_fi (bi_sfi h c f a x) c' f' a' = if c' = c ∧ f' = f ∧ a' = a then x else bi_fi h c' f' a' := Eq.trans rfl rfl
theorem bh_fi_sfr : bi_fi (bi_sfr h c f a y) = bi_fi h := Eq.trans rfl rfl
theorem bh_fi_sai : bi_fi (bi_sai h a j x) = bi_fi h := Eq.trans rfl rfl
theorem bh_fi_sar : bi_fi (bi_sar h a j y) = bi_fi h := Eq.trans rfl rfl
theorem bh_fi_new : bi_fi (bi_new h kd s) c' f' a' = if a' = bi_nx h then 0 else bi_fi h c' f' a' := Eq.trans rfl rfl
theorem bh_fr_sfi : bi_fr (bi_sfi h c f a x) = bi_fr h := Eq.trans rfl rfl
theorem bh_fr_sfr : bi_fr (bi_sfr h c f a y) c' f' a' = if c' = c ∧ f' = f ∧ a' = a then y else bi_fr h c' f' a' := Eq.trans rfl rfl
theorem bh_fr_sai : bi_fr (bi_sai h a j x) = bi_fr h := Eq.trans rfl rfl
theorem bh_fr_sar : bi_fr (bi_sar h a j y) = bi_fr h := Eq.trans rfl rfl
theorem bh_fr_new : bi_fr (bi_new h kd s) c' f' a' = if a' = bi_nx h then 0 else bi_fr h c' f' a' := Eq.trans rfl rfl
theorem bh_ai_sfi : bi_ai (bi_sfi h c f a x) = bi_ai h := Eq.trans rfl rfl
theorem bh_ai_sfr : bi_ai (bi_sfr h c f a y) = bi_ai h := Eq.trans rfl rfl
theorem bh_ai_sai : bi_ai (bi_sai h a j x) a' j' = if a' = a ∧ j' = j then x else bi_ai h a' j' := Eq.trans rfl rfl
theorem bh_ai_sar : bi_ai (bi_sar h a j y) = bi_ai h := Eq.trans rfl rfl
theorem bh_ai_new : bi_ai (bi_new h kd s) a' j' = if a' = bi_nx h then 0 else bi_ai h a' j' := Eq.trans rfl rfl
theorem bh_ar_sfi : bi_ar (bi_sfi h c f a x) = bi_ar h := Eq.trans rfl rfl
theorem bh_ar_sfr : bi_ar (bi_sfr h c f a y) = bi_ar h := Eq.trans rfl rfl
theorem bh_ar_sai : bi_ar (bi_sai h a j x) = bi_ar h := Eq.trans rfl rfl
theorem bh_ar_sar : bi_ar (bi_sar h a j y) a' j' = if a' = a ∧ j' = j then y else bi_ar h a' j' := Eq.trans rfl rfl
theorem bh_ar_new : bi_ar (bi_new h kd s) a' j' = if a' = bi_nx h then 0 else bi_ar h a' j' := Eq.trans rfl rfl
theorem bh_nx_sfi : bi_nx (bi_sfi h c f a x) = bi_nx h := Eq.trans rfl rfl
theorem bh_nx_sfr : bi_nx (bi_sfr h c f a y) = bi_nx h := Eq.trans rfl rfl
theorem bh_nx_sai : bi_nx (bi_sai h a j x) = bi_nx h := Eq.trans rfl rfl
theorem bh_nx_sar : bi_nx (bi_sar h a j y) = bi_nx h := Eq.trans rfl rfl
theorem bh_nx_new : bi_nx (bi_new h kd s) = bi_nx h + 1 := Eq.trans rfl rfl
theorem bh_nc_sfi : bi_nc (bi_sfi h c f a x) = bi_nc h := Eq.trans rfl rfl
theorem bh_nc_sfr : bi_nc (bi_sfr h c f a y) = bi_nc h := Eq.trans rfl rfl
theorem bh_nc_sai : bi_nc (bi_sai h a j x) = bi_nc h := Eq.trans rfl rfl
theorem bh_nc_sar : bi_nc (bi_sar h a j y) = bi_nc h := Eq.trans rfl rfl
theorem bh_nc_new : bi_nc (bi_new h kd s) = bi_nc h + 1 := Eq.trans rfl rfl
theorem bh_ns_sfi : bi_ns (bi_sfi h c f a x) = bi_ns h := Eq.trans rfl rfl
theorem bh_ns_sfr : bi_ns (bi_sfr h c f a y) = bi_ns h := Eq.trans rfl rfl
theorem bh_ns_sai : bi_ns (bi_sai h a j x) = bi_ns h := Eq.trans rfl rfl
theorem bh_ns_sar : bi_ns (bi_sar h a j y) = bi_ns h := Eq.trans rfl rfl
theorem bh_ns_new : bi_ns (bi_new h kd s) = bi_ns h + s := Eq.trans rfl rfl
end BH
section BG
variable (h : bi_H) (n m : Nat) (a' c' f' j' : Nat)
theorem bh_k_new2 : bi_k (bi_new2 h n m) a' = if a' = bi_nx h then (5, n) else if bi_nx h < a' ∧ a' ≤ bi_nx h + n then (1, m) else bi_k h a' := Eq.trans rfl rfl
theorem bh_fi_new2 : bi_fi (bi_new2 h n m) c' f' a' = if bi_nx h ≤ a' ∧ a' ≤ bi_nx h + n then 0 else bi_fi h c' f' a' := Eq.trans rfl rfl
theorem bh_fr_new2 : bi_fr (bi_new2 h n m) c' f' a' = if bi_nx h ≤ a' ∧ a' ≤ bi_nx h + n then 0 else bi_fr h c' f' a' := Eq.trans rfl rfl
theorem bh_ai_new2 : bi_ai (bi_new2 h n m) a' j' = if bi_nx h ≤ a' ∧ a' ≤ bi_nx h + n then 0 else bi_ai h a' j' := Eq.trans rfl rfl
theorem bh_ar_new2 : bi_ar (bi_new2 h n m) a' j' = if a' = bi_nx h then (if j' < n then bi_nx h + 1 + j' else 0) else if bi_nx h < a' ∧ a' ≤ bi_nx h + n then 0 else bi_ar h a' j' := Eq.trans rfl rfl
theorem bh_nx_new2 : bi_nx (bi_new2 h n m) = bi_nx h + n + 1 := Eq.trans rfl rfl
theorem bh_nc_new2 : bi_nc (bi_new2 h n m) = bi_nc h + n + 1 := Eq.trans rfl rfl
theorem bh_ns_new2 : bi_ns (bi_new2 h n m) = bi_ns h + n + n * m := Eq.trans rfl rfl
end BG
theorem bh_ltS {a n : Nat} (h : a < n) (k : Nat) : (a < n + k) = True := by simp; omega
theorem bh_neS {a n : Nat} (h : a < n) (k : Nat) : (a = n + k) = False := by simp; omega
theorem bh_ne0 {a n : Nat} (h : a < n) : (a = n) = False := by simp; omega
theorem bh_e1 (n k j : Nat) : (n + k = n + j) = (k = j) := by simp
theorem bh_e2 (n k : Nat) : (n + k = n) = (k = 0) := by simp
theorem bh_e3 (n k : Nat) : (n = n + k) = (k = 0) := by simp
theorem bh_l1 (n k j : Nat) : (n + k < n + j) = (k < j) := by simp
theorem bh_l2 (n k : Nat) : (n + k < n) = False := by simp
theorem bh_l3 (n k : Nat) : (n < n + k) = (0 < k) := by simp
theorem bh_m1 (n k j : Nat) : (n + k ≤ n + j) = (k ≤ j) := by simp
theorem bh_m2 (n k : Nat) : (n + k ≤ n) = (k = 0) := by simp; omega
theorem bh_m3 (n k : Nat) : (n ≤ n + k) = True := by simp
theorem bh_leS {a n : Nat} (h : a < n) (k : Nat) : (n + k ≤ a) = False := by simp; omega
theorem bh_le0 {a n : Nat} (h : a < n) : (n ≤ a) = False := by simp; omega
theorem bh_gtS {a n : Nat} (h : a < n) (k : Nat) : (n + k < a) = False := by simp; omega
theorem bh_gt0 {a n : Nat} (h : a < n) : (n < a) = False := by simp; omega
/-! the literals -/
theorem bl_im8 : Int32.ofInt (-8) = (-8) := rfl
theorem bl_im6 : Int32.ofInt (-6) = (-6) := rfl
theorem bl_im5 : Int32.ofInt (-5) = (-5) := rfl
theorem bl_im4 : Int32.ofInt (-4) = (-4) := rfl
theorem bl_im3 : Int32.ofInt (-3) = (-3) := rfl
theorem bl_im2 : Int32.ofInt (-2) = (-2) := rfl
theorem bl_im1 : Int32.ofInt (-1) = (-1) := rfl
theorem bl_i0 : Int32.ofInt 0 = 0 := rfl
theorem bl_i1 : Int32.ofInt 1 = 1 := rfl
theorem bl_i2 : Int32.ofInt 2 = 2 := rfl
theorem bl_i3 : Int32.ofInt 3 = 3 := rfl
theorem bl_i4 : Int32.ofInt 4 = 4 := rfl
theorem bl_i5 : Int32.ofInt 5 = 5 := rfl
theorem bl_i6 : Int32.ofInt 6 = 6 := rfl
theorem bl_i7 : Int32.ofInt 7 = 7 := rfl
theorem bl_i8 : Int32.ofInt 8 = 8 := rfl
theorem bl_i9 : Int32.ofInt 9 = 9 := rfl
theorem bl_i10 : Int32.ofInt 10 = 10 := rfl
theorem bl_i11 : Int32.ofInt 11 = 11 := rfl
theorem bl_i16 : Int32.ofInt 16 = 16 := rfl
theorem bl_i20 : Int32.ofInt 20 = 20 := rfl
theorem bl_i31 : Int32.ofInt 31 = 31 := rfl
theorem bl_i40 : Int32.ofInt 40 = 40 := rfl
theorem bl_i60 : Int32.ofInt 60 = 60 := rfl
theorem bl_i61 : Int32.ofInt 61 = 61 := rfl
theorem bl_i64 : Int32.ofInt 64 = 64 := rfl
theorem bl_i128 : Int32.ofInt 128 = 128 := rfl
theorem bl_i256 : Int32.ofInt 256 = 256 := rfl
theorem bl_i512 : Int32.ofInt 512 = 512 := rfl
theorem bl_i1000 : Int32.ofInt 1000 = 1000 := rfl
theorem bl_i1024 : Int32.ofInt 1024 = 1024 := rfl
theorem bl_i2048 : Int32.ofInt 2048 = 2048 := rfl
theorem bl_i4095 : Int32.ofInt 4095 = 4095 := rfl
theorem bl_i4096 : Int32.ofInt 4096 = 4096 := rfl
theorem bl_i8192 : Int32.ofInt 8192 = 8192 := rfl
theorem bl_i9000 : Int32.ofInt 9000 = 9000 := rfl
theorem bl_d32768 : Int32.ofNat 32768 = 32768 := rfl
theorem bl_d60000 : Int32.ofNat 60000 = 60000 := rfl
theorem bl_d60001 : Int32.ofNat 60001 = 60001 := rfl
theorem bl_d60002 : Int32.ofNat 60002 = 60002 := rfl
theorem bl_d100000 : Int32.ofNat 100000 = 100000 := rfl
theorem bl_d2147483647 : Int32.ofNat 2147483647 = 2147483647 := rfl
theorem bl_n0 : Int32.toNatClampNeg 0 = 0 := by decide +kernel
theorem bl_n1 : Int32.toNatClampNeg 1 = 1 := by decide +kernel
theorem bl_n2 : Int32.toNatClampNeg 2 = 2 := by decide +kernel
theorem bl_n3 : Int32.toNatClampNeg 3 = 3 := by decide +kernel
theorem bl_n4 : Int32.toNatClampNeg 4 = 4 := by decide +kernel
theorem bl_n5 : Int32.toNatClampNeg 5 = 5 := by decide +kernel
theorem bl_n6 : Int32.toNatClampNeg 6 = 6 := by decide +kernel
theorem bl_n7 : Int32.toNatClampNeg 7 = 7 := by decide +kernel
theorem bl_n8 : Int32.toNatClampNeg 8 = 8 := by decide +kernel
theorem bl_n9 : Int32.toNatClampNeg 9 = 9 := by decide +kernel
theorem bl_n10 : Int32.toNatClampNeg 10 = 10 := by decide +kernel
theorem bl_n11 : Int32.toNatClampNeg 11 = 11 := by decide +kernel
theorem bl_n16 : Int32.toNatClampNeg 16 = 16 := by decide +kernel
theorem bl_n20 : Int32.toNatClampNeg 20 = 20 := by decide +kernel
theorem bl_n31 : Int32.toNatClampNeg 31 = 31 := by decide +kernel
theorem bl_n40 : Int32.toNatClampNeg 40 = 40 := by decide +kernel
theorem bl_n60 : Int32.toNatClampNeg 60 = 60 := by decide +kernel
theorem bl_n61 : Int32.toNatClampNeg 61 = 61 := by decide +kernel
theorem bl_n64 : Int32.toNatClampNeg 64 = 64 := by decide +kernel
theorem bl_n128 : Int32.toNatClampNeg 128 = 128 := by decide +kernel
theorem bl_n256 : Int32.toNatClampNeg 256 = 256 := by decide +kernel
theorem bl_n512 : Int32.toNatClampNeg 512 = 512 := by decide +kernel
theorem bl_n1000 : Int32.toNatClampNeg 1000 = 1000 := by decide +kernel
theorem bl_n1024 : Int32.toNatClampNeg 1024 = 1024 := by decide +kernel
theorem bl_n2048 : Int32.toNatClampNeg 2048 = 2048 := by decide +kernel
theorem bl_n4095 : Int32.toNatClampNeg 4095 = 4095 := by decide +kernel
theorem bl_n4096 : Int32.toNatClampNeg 4096 = 4096 := by decide +kernel
theorem bl_n8192 : Int32.toNatClampNeg 8192 = 8192 := by decide +kernel
theorem bl_n9000 : Int32.toNatClampNeg 9000 = 9000 := by decide +kernel
theorem bl_n32768 : Int32.toNatClampNeg 32768 = 32768 := by decide +kernel
theorem bl_n60000 : Int32.toNatClampNeg 60000 = 60000 := by decide +kernel
theorem bl_n60001 : Int32.toNatClampNeg 60001 = 60001 := by decide +kernel
theorem bl_n60002 : Int32.toNatClampNeg 60002 = 60002 := by decide +kernel
theorem bl_n100000 : Int32.toNatClampNeg 100000 = 100000 := by decide +kernel
theorem bl_n2147483647 : Int32.toNatClampNeg 2147483647 = 2147483647 := by decide +kernel
theorem bl_p0 : ((0 : Int32) < 0) = False := eq_false (by decide +kernel)
theorem bl_p1 : ((1 : Int32) < 0) = False := eq_false (by decide +kernel)
theorem bl_p2 : ((2 : Int32) < 0) = False := eq_false (by decide +kernel)
theorem bl_p3 : ((3 : Int32) < 0) = False := eq_false (by decide +kernel)
theorem bl_p4 : ((4 : Int32) < 0) = False := eq_false (by decide +kernel)
theorem bl_p5 : ((5 : Int32) < 0) = False := eq_false (by decide +kernel)
theorem bl_p6 : ((6 : Int32) < 0) = False := eq_false (by decide +kernel)
theorem bl_p7 : ((7 : Int32) < 0) = False := eq_false (by decide +kernel)
theorem bl_p8 : ((8 : Int32) < 0) = False := eq_false (by decide +kernel)
theorem bl_p9 : ((9 : Int32) < 0) = False := eq_false (by decide +kernel)
theorem bl_p10 : ((10 : Int32) < 0) = False := eq_false (by decide +kernel)
theorem bl_p11 : ((11 : Int32) < 0) = False := eq_false (by decide +kernel)
theorem bl_p16 : ((16 : Int32) < 0) = False := eq_false (by decide +kernel)
theorem bl_p20 : ((20 : Int32) < 0) = False := eq_false (by decide +kernel)
theorem bl_p31 : ((31 : Int32) < 0) = False := eq_false (by decide +kernel)
theorem bl_p40 : ((40 : Int32) < 0) = False := eq_false (by decide +kernel)
theorem bl_p60 : ((60 : Int32) < 0) = False := eq_false (by decide +kernel)
theorem bl_p61 : ((61 : Int32) < 0) = False := eq_false (by decide +kernel)
theorem bl_p64 : ((64 : Int32) < 0) = False := eq_false (by decide +kernel)
theorem bl_p128 : ((128 : Int32) < 0) = False := eq_false (by decide +kernel)
theorem bl_p256 : ((256 : Int32) < 0) = False := eq_false (by decide +kernel)
theorem bl_p512 : ((512 : Int32) < 0) = False := eq_false (by decide +kernel)
theorem bl_p1000 : ((1000 : Int32) < 0) = False := eq_false (by decide +kernel)
theorem bl_p1024 : ((1024 : Int32) < 0) = False := eq_false (by decide +kernel)
theorem bl_p2048 : ((2048 : Int32) < 0) = False := eq_false (by decide +kernel)
theorem bl_p4095 : ((4095 : Int32) < 0) = False := eq_false (by decide +kernel)
theorem bl_p4096 : ((4096 : Int32) < 0) = False := eq_false (by decide +kernel)
theorem bl_p8192 : ((8192 : Int32) < 0) = False := eq_false (by decide +kernel)
theorem bl_p9000 : ((9000 : Int32) < 0) = False := eq_false (by decide +kernel)
theorem bl_p32768 : ((32768 : Int32) < 0) = False := eq_false (by decide +kernel)
theorem bl_p60000 : ((60000 : Int32) < 0) = False := eq_false (by decide +kernel)
theorem bl_p60001 : ((60001 : Int32) < 0) = False := eq_false (by decide +kernel)
theorem bl_p60002 : ((60002 : Int32) < 0) = False := eq_false (by decide +kernel)
theorem bl_p100000 : ((100000 : Int32) < 0) = False := eq_false (by decide +kernel)
theorem bl_p2147483647 : ((2147483647 : Int32) < 0) = False := eq_false (by decide +kernel)
/-! small numbers -/
theorem bn_int {a : Nat} (ha : a < 2147483648) : (Int32.ofNat a).toInt = a := Int32.toInt_ofNat_of_lt ha
theorem bn_le {a b : Nat} (ha : a < 2147483648) (hb : b < 2147483648) : (Int32.ofNat a ≤ Int32.ofNat b) = (a ≤ b) := by
  rw [Int32.le_iff_toInt_le, bn_int ha, bn_int hb]
  simp
theorem bn_lt {a b : Nat} (ha : a < 2147483648) (hb : b < 2147483648) : (Int32.ofNat a < Int32.ofNat b) = (a < b) := by
  rw [Int32.lt_iff_toInt_lt, bn_int ha, bn_int hb]
  simp
theorem bn_neg {a : Nat} (ha : a < 2147483648) : (Int32.ofNat a < 0) = False := by
  have := bn_lt ha (show 0 < 2147483648 by decide)
  simp at this ⊢
  exact this
theorem bn_nat {a : Nat} (ha : a < 2147483648) : (Int32.ofNat a).toNatClampNeg = a := by
  unfold Int32.toNatClampNeg
  rw [bn_int ha]
  simp
theorem bn_add (a b : Nat) : Int32.ofNat a + Int32.ofNat b = Int32.ofNat (a + b) := by
  rw [Int32.ofNat_add]
theorem bn_one (a : Nat) : Int32.ofNat a + 1 = Int32.ofNat (a + 1) := bn_add a 1
theorem bn_eq {a b : Nat} (ha : a < 2147483648) (hb : b < 2147483648) : (Int32.ofNat a = Int32.ofNat b) = (a = b) := by
  apply propext
  constructor
  · intro h
    have := congrArg Int32.toInt h
    rw [bn_int ha, bn_int hb] at this
    omega
  · intro h
    rw [h]
