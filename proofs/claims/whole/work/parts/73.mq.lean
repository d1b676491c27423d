/-! the reference's heap shows a state; the rounds of its marks: at most z -/
def ms_Q (O : Nat → Prop) (B : Nat → Nat → Nat) (H : List (Nat × ba_G)) (e : Nat) (g0 : bi_H) (x y z : Nat) (h : bi_H) (S : ba_S) : Prop := ∃ m, m ≤ z ∧ ms_R O B H e g0 x y h (bz_sm S m)
section MQ
variable {O : Nat → Prop} {B : Nat → Nat → Nat} {H : List (Nat × ba_G)} {e : Nat} {g0 h h' : bi_H} {x y z : Nat} {S : ba_S} {s : Nat}
theorem ms_Q.L (R : ms_Q O B H e g0 x y z h S) : mb_lay B S h := by
  obtain ⟨m, -, R⟩ := R
  exact R.L
theorem ms_Q.up (R : ms_Q O B H e g0 x y z h S) {z' : Nat} (hz : z ≤ z') : ms_Q O B H e g0 x y z' h S := by
  obtain ⟨m, hm, R⟩ := R
  exact ⟨m, Nat.le_trans hm hz, R⟩
theorem ms_Q.fr (R : ms_Q O B H e g0 x y z h S) : mb_fr O B (bz_N S) g0 x y h := by
  obtain ⟨m, -, R⟩ := R
  exact R.fr
theorem ms_Q.f1 (R : ms_Q O B H e g0 x y z h S) : bi_fi h 12 1 (B 12 0) = bz_G S 0 := by
  obtain ⟨m, -, R⟩ := R
  exact R.f1 
theorem ms_Q.f2 (R : ms_Q O B H e g0 x y z h S) : bi_fi h 12 2 (B 12 0) = bz_G S 1 := by
  obtain ⟨m, -, R⟩ := R
  exact R.f2 
theorem ms_Q.f3 (R : ms_Q O B H e g0 x y z h S) : bi_fi h 12 3 (B 12 0) = bz_G S 2 := by
  obtain ⟨m, -, R⟩ := R
  exact R.f3 
theorem ms_Q.f4 (R : ms_Q O B H e g0 x y z h S) : bi_fi h 12 4 (B 12 0) = bz_G S 9 := by
  obtain ⟨m, -, R⟩ := R
  exact R.f4 
theorem ms_Q.f5 (R : ms_Q O B H e g0 x y z h S) : bi_fi h 12 5 (B 12 0) = bz_G S 8 := by
  obtain ⟨m, -, R⟩ := R
  exact R.f5 
theorem ms_Q.f6 (R : ms_Q O B H e g0 x y z h S) : bi_fi h 12 6 (B 12 0) = Int32.ofNat (bz_N S) := by
  obtain ⟨m, -, R⟩ := R
  exact R.f6 
theorem ms_Q.f7 (R : ms_Q O B H e g0 x y z h S) : bi_fi h 12 7 (B 12 0) = bz_L S 2 := by
  obtain ⟨m, -, R⟩ := R
  exact R.f7 
theorem ms_Q.f8 (R : ms_Q O B H e g0 x y z h S) : bi_fi h 12 8 (B 12 0) = bz_L S 3 := by
  obtain ⟨m, -, R⟩ := R
  exact R.f8 
theorem ms_Q.f14 (R : ms_Q O B H e g0 x y z h S) : bi_fi h 12 14 (B 12 0) = Int32.ofNat (ba_n (bz_W S)) := by
  obtain ⟨m, -, R⟩ := R
  exact R.f14 
theorem ms_Q.a109 (R : ms_Q O B H e g0 x y z h S) {i : Nat} (hi : i < 2) : bi_ai h (B 109 0) i = bz_I S i 1 := by
  obtain ⟨m, -, R⟩ := R
  exact R.a109 hi
theorem ms_Q.a110 (R : ms_Q O B H e g0 x y z h S) {i : Nat} (hi : i < 2) : bi_ai h (B 110 0) i = bz_I S i 2 := by
  obtain ⟨m, -, R⟩ := R
  exact R.a110 hi
theorem ms_Q.a111 (R : ms_Q O B H e g0 x y z h S) {i : Nat} (hi : i < 2) : bi_ai h (B 111 0) i = bz_I S i 3 := by
  obtain ⟨m, -, R⟩ := R
  exact R.a111 hi
theorem ms_Q.a112 (R : ms_Q O B H e g0 x y z h S) {g : Nat} (hg : g < bz_N S) : bi_ai h (B 112 0) g = Int32.ofNat (bz_D S g).1 := by
  obtain ⟨m, -, R⟩ := R
  exact R.a112 hg
theorem ms_Q.a113 (R : ms_Q O B H e g0 x y z h S) {g : Nat} (hg : g < bz_N S) : bi_ai h (B 113 0) g = Int32.ofNat (bz_D S g).2 := by
  obtain ⟨m, -, R⟩ := R
  exact R.a113 hg
theorem ms_Q.a115 (R : ms_Q O B H e g0 x y z h S) {k : Nat} (hk : k ≤ ba_n (bz_W S)) : bi_ai h (B 115 0) k = Int32.ofNat (ba_b (bz_W S) k) := by
  obtain ⟨m, -, R⟩ := R
  exact R.a115 hk
theorem ms_Q.a116 (R : ms_Q O B H e g0 x y z h S) {k : Nat} (hk : k ≤ ba_n (bz_W S)) : bi_ai h (B 116 0) k = Int32.ofNat (mb_w S k) := by
  obtain ⟨m, -, R⟩ := R
  exact R.a116 hk
theorem ms_Q.a117 (R : ms_Q O B H e g0 x y z h S) {k : Nat} (hk : k ≤ ba_n (bz_W S)) : bi_ai h (B 117 0) k = ba_v (bz_W S) k := by
  obtain ⟨m, -, R⟩ := R
  exact R.a117 hk
theorem ms_Q.a118 (R : ms_Q O B H e g0 x y z h S) {k : Nat} (hk : k ≤ ba_n (bz_W S)) : bi_ai h (B 118 0) k = Int32.ofNat (ba_l (bz_W S) k) := by
  obtain ⟨m, -, R⟩ := R
  exact R.a118 hk
theorem ms_Q.a133 (R : ms_Q O B H e g0 x y z h S) {g : Nat} (hg : g < 4) : bi_ai h (B 133 0) g = Int32.ofNat (bz_R S g).length := by
  obtain ⟨m, -, R⟩ := R
  exact R.a133 hg
theorem ms_Q.a61 (R : ms_Q O B H e g0 x y z h S) {g j : Nat} (hg : g < 4) (hj : j < (bz_R S g).length) : bi_ai h (B 61 g) j = Int32.ofNat ((bz_R S g).getD j (0, 0)).1 := by
  obtain ⟨m, -, R⟩ := R
  exact R.a61 hg hj
theorem ms_Q.a62 (R : ms_Q O B H e g0 x y z h S) {g j : Nat} (hg : g < 4) (hj : j < (bz_R S g).length) : bi_ai h (B 62 g) j = Int32.ofNat ((bz_R S g).getD j (0, 0)).2 := by
  obtain ⟨m, -, R⟩ := R
  exact R.a62 hg hj
theorem ms_Q.sp (R : ms_Q O B H e g0 x y z h S) : mb_s B S h := by
  obtain ⟨m, -, R⟩ := R
  exact R.sp 
theorem ms_Q.t (R : ms_Q O B H e g0 x y z h S) (hs : s < 8) (hN : s % 4 < bz_N S) : mb_t B S h s (bz_T S s) := by
  obtain ⟨m, -, R⟩ := R
  exact R.t hs hN
theorem ms_Q.fl (R : ms_Q O B H e g0 x y z h S) : mb_f B H e S h := by
  obtain ⟨m, -, R⟩ := R
  exact R.fl 
theorem ms_Q.c6 (R : ms_Q O B H e g0 x y z h S) (hs : s < 8) (hN : s % 4 < bz_N S) : bi_fi h 11 2 (B 11 s) = bs_c (bz_T S s) 6 := by
  obtain ⟨m, -, R⟩ := R
  exact R.c6 hs hN
theorem ms_Q.c7 (R : ms_Q O B H e g0 x y z h S) (hs : s < 8) (hN : s % 4 < bz_N S) : bi_fi h 11 3 (B 11 s) = bs_c (bz_T S s) 7 := by
  obtain ⟨m, -, R⟩ := R
  exact R.c7 hs hN
theorem ms_Q.c8 (R : ms_Q O B H e g0 x y z h S) (hs : s < 8) (hN : s % 4 < bz_N S) : bi_fi h 11 13 (B 11 s) = bs_c (bz_T S s) 8 := by
  obtain ⟨m, -, R⟩ := R
  exact R.c8 hs hN
theorem ms_Q.c9 (R : ms_Q O B H e g0 x y z h S) (hs : s < 8) (hN : s % 4 < bz_N S) : bi_fi h 11 8 (B 11 s) = bs_c (bz_T S s) 9 := by
  obtain ⟨m, -, R⟩ := R
  exact R.c9 hs hN
theorem ms_Q.c10 (R : ms_Q O B H e g0 x y z h S) (hs : s < 8) (hN : s % 4 < bz_N S) : bi_fi h 11 9 (B 11 s) = bs_c (bz_T S s) 10 := by
  obtain ⟨m, -, R⟩ := R
  exact R.c10 hs hN
theorem ms_Q.c11 (R : ms_Q O B H e g0 x y z h S) (hs : s < 8) (hN : s % 4 < bz_N S) : bi_fi h 11 10 (B 11 s) = bs_c (bz_T S s) 11 := by
  obtain ⟨m, -, R⟩ := R
  exact R.c11 hs hN
theorem ms_Q.c12 (R : ms_Q O B H e g0 x y z h S) (hs : s < 8) (hN : s % 4 < bz_N S) : bi_fi h 11 11 (B 11 s) = bs_c (bz_T S s) 12 := by
  obtain ⟨m, -, R⟩ := R
  exact R.c12 hs hN
theorem ms_Q.c13 (R : ms_Q O B H e g0 x y z h S) (hs : s < 8) (hN : s % 4 < bz_N S) : bi_fi h 11 12 (B 11 s) = bs_c (bz_T S s) 13 := by
  obtain ⟨m, -, R⟩ := R
  exact R.c13 hs hN
theorem ms_Q.c14 (R : ms_Q O B H e g0 x y z h S) (hs : s < 8) (hN : s % 4 < bz_N S) : bi_fi h 11 16 (B 11 s) = bs_c (bz_T S s) 14 := by
  obtain ⟨m, -, R⟩ := R
  exact R.c14 hs hN
theorem ms_Q.c15 (R : ms_Q O B H e g0 x y z h S) (hs : s < 8) (hN : s % 4 < bz_N S) : bi_fi h 11 17 (B 11 s) = bs_c (bz_T S s) 15 := by
  obtain ⟨m, -, R⟩ := R
  exact R.c15 hs hN
theorem ms_Q.c16 (R : ms_Q O B H e g0 x y z h S) (hs : s < 8) (hN : s % 4 < bz_N S) : bi_fi h 11 18 (B 11 s) = bs_c (bz_T S s) 16 := by
  obtain ⟨m, -, R⟩ := R
  exact R.c16 hs hN
theorem ms_Q.c17 (R : ms_Q O B H e g0 x y z h S) (hs : s < 8) (hN : s % 4 < bz_N S) : bi_fi h 11 19 (B 11 s) = bs_c (bz_T S s) 17 := by
  obtain ⟨m, -, R⟩ := R
  exact R.c17 hs hN
theorem ms_Q.c18 (R : ms_Q O B H e g0 x y z h S) (hs : s < 8) (hN : s % 4 < bz_N S) : bi_fi h 11 20 (B 11 s) = bs_c (bz_T S s) 18 := by
  obtain ⟨m, -, R⟩ := R
  exact R.c18 hs hN
theorem ms_Q.c19 (R : ms_Q O B H e g0 x y z h S) (hs : s < 8) (hN : s % 4 < bz_N S) : bi_fi h 11 21 (B 11 s) = bs_c (bz_T S s) 19 := by
  obtain ⟨m, -, R⟩ := R
  exact R.c19 hs hN
theorem ms_Q.w0 (R : ms_Q O B H e g0 x y z h S) (hs : s < 8) (hN : s % 4 < bz_N S) : bi_fi h 11 23 (B 11 s) = bs_g (bz_T S s) 0 := by
  obtain ⟨m, -, R⟩ := R
  exact R.w0 hs hN
theorem ms_Q.w1 (R : ms_Q O B H e g0 x y z h S) (hs : s < 8) (hN : s % 4 < bz_N S) : bi_fi h 11 24 (B 11 s) = bs_g (bz_T S s) 1 := by
  obtain ⟨m, -, R⟩ := R
  exact R.w1 hs hN
theorem ms_Q.w3 (R : ms_Q O B H e g0 x y z h S) (hs : s < 8) (hN : s % 4 < bz_N S) : bi_fi h 11 25 (B 11 s) = bs_g (bz_T S s) 3 := by
  obtain ⟨m, -, R⟩ := R
  exact R.w3 hs hN
theorem ms_Q.w4 (R : ms_Q O B H e g0 x y z h S) (hs : s < 8) (hN : s % 4 < bz_N S) : bi_fi h 11 26 (B 11 s) = bs_g (bz_T S s) 4 := by
  obtain ⟨m, -, R⟩ := R
  exact R.w4 hs hN
theorem ms_Q.w5 (R : ms_Q O B H e g0 x y z h S) (hs : s < 8) (hN : s % 4 < bz_N S) : bi_fi h 11 27 (B 11 s) = bs_g (bz_T S s) 5 := by
  obtain ⟨m, -, R⟩ := R
  exact R.w5 hs hN
theorem ms_Q.w6 (R : ms_Q O B H e g0 x y z h S) (hs : s < 8) (hN : s % 4 < bz_N S) : bi_fi h 11 28 (B 11 s) = bs_g (bz_T S s) 6 := by
  obtain ⟨m, -, R⟩ := R
  exact R.w6 hs hN
theorem ms_Q.s0 (R : ms_Q O B H e g0 x y z h S) (hs : s < 8) (hN : s % 4 < bz_N S) : bi_fi h 11 0 (B 11 s) = Int32.ofNat (s % 4) := by
  obtain ⟨m, -, R⟩ := R
  exact R.s0 hs hN
theorem ms_Q.s1 (R : ms_Q O B H e g0 x y z h S) (hs : s < 8) (hN : s % 4 < bz_N S) : bi_fi h 11 1 (B 11 s) = Int32.ofNat (s / 4) := by
  obtain ⟨m, -, R⟩ := R
  exact R.s1 hs hN
theorem ms_Q.s22 (R : ms_Q O B H e g0 x y z h S) (hs : s < 8) (hN : s % 4 < bz_N S) : bi_fi h 11 22 (B 11 s) = (if bs_g (bz_T S s) 1 = 0 then 0 else 1) := by
  obtain ⟨m, -, R⟩ := R
  exact R.s22 hs hN
theorem ms_Q.s4 (R : ms_Q O B H e g0 x y z h S) (hs : s < 8) (hN : s % 4 < bz_N S) : bi_fi h 11 4 (B 11 s) = Int32.ofNat (bs_now (bz_T S s)) := by
  obtain ⟨m, -, R⟩ := R
  exact R.s4 hs hN
theorem ms_Q.s5 (R : ms_Q O B H e g0 x y z h S) (hs : s < 8) (hN : s % 4 < bz_N S) : bi_fi h 11 5 (B 11 s) = Int32.ofNat (bs_safe (bz_T S s)) := by
  obtain ⟨m, -, R⟩ := R
  exact R.s5 hs hN
theorem ms_Q.s6 (R : ms_Q O B H e g0 x y z h S) (hs : s < 8) (hN : s % 4 < bz_N S) : bi_fi h 11 6 (B 11 s) = Int32.ofNat (bs_kept (bz_T S s)) := by
  obtain ⟨m, -, R⟩ := R
  exact R.s6 hs hN
theorem ms_Q.s7 (R : ms_Q O B H e g0 x y z h S) (hs : s < 8) (hN : s % 4 < bz_N S) : bi_fi h 11 7 (B 11 s) = Int32.ofNat ((bs_sn (bz_T S s)).length) := by
  obtain ⟨m, -, R⟩ := R
  exact R.s7 hs hN
theorem ms_Q.a64 (R : ms_Q O B H e g0 x y z h S) (hs : s < 8) (hN : s % 4 < bz_N S) {i : Nat} (hi : i < (bs_sn (bz_T S s)).length) : bi_ai h (B 64 s) i = Int32.ofNat ((bs_sn (bz_T S s)).getD i (0, 0)).1 := by
  obtain ⟨m, -, R⟩ := R
  exact R.a64 hs hN hi
theorem ms_Q.a65 (R : ms_Q O B H e g0 x y z h S) (hs : s < 8) (hN : s % 4 < bz_N S) {i : Nat} (hi : i < (bs_sn (bz_T S s)).length) : bi_ai h (B 65 s) i = Int32.ofNat ((bs_sn (bz_T S s)).getD i (0, 0)).2 := by
  obtain ⟨m, -, R⟩ := R
  exact R.a65 hs hN hi
theorem ms_Q.a67 (R : ms_Q O B H e g0 x y z h S) (hs : s < 8) (hN : s % 4 < bz_N S) {i : Nat} (hi : i < (bs_lo (bz_T S s)).length) : bi_ai h (B 67 s) i = Int32.ofNat (mb_w S ((bs_lo (bz_T S s)).getD i 0)) := by
  obtain ⟨m, -, R⟩ := R
  exact R.a67 hs hN hi
theorem ms_Q.a68 (R : ms_Q O B H e g0 x y z h S) (hs : s < 8) (hN : s % 4 < bz_N S) {i : Nat} (hi : i < (bs_lo (bz_T S s)).length) : bi_ai h (B 68 s) i = ba_v (bz_W S) ((bs_lo (bz_T S s)).getD i 0) := by
  obtain ⟨m, -, R⟩ := R
  exact R.a68 hs hN hi
theorem ms_Q.sc (R : ms_Q O B H e g0 x y z h S) (hs : s < 8) (hN : s % 4 < bz_N S) {k : Nat} (h6 : 6 ≤ k) (h19 : k ≤ 19) (v : Int32) : ms_Q O B H e g0 x y z (bi_sfi h 11 (mb_cf k) (B 11 s) v) (bz_sT S s (bs_sc (bz_T S s) k v)) := by
  obtain ⟨m, hm, R⟩ := R
  exact ⟨m, hm, R.sc hs hN h6 h19 v⟩
theorem ms_Q.sc' {t : ba_T} (R : ms_Q O B H e g0 x y z h (bz_sT S s t)) (hs : s < 8) (hN : s % 4 < bz_N S) {k : Nat} (h6 : 6 ≤ k) (h19 : k ≤ 19) (v : Int32) : ms_Q O B H e g0 x y z (bi_sfi h 11 (mb_cf k) (B 11 s) v) (bz_sT S s (bs_sc t k v)) := by
  have := R.sc hs hN h6 h19 v
  rw [bz_T_same, bz_sT_sT] at this
  exact this
theorem ms_Q.t' (R : ms_Q O B H e g0 x y z h S) (s : Nat) : ms_Q O B H e g0 x y z h (bz_sT S s (bz_T S s)) := by
  rw [bz_sT_id]
  exact R
theorem ms_Q.sI (R : ms_Q O B H e g0 x y z h S) {i : Nat} (hi : i < 2) {k : Nat} (hk : 1 ≤ k ∧ k ≤ 3) (v : Int32) : ms_Q O B H e g0 x y z (bi_sai h (B (108 + k) 0) i v) (bz_sI S i k v) := by
  obtain ⟨m, hm, R⟩ := R
  exact ⟨m, hm, R.sI hi hk v⟩
theorem ms_Q.th (R : ms_Q O B H e g0 x y z h S) (v : Int32) : ms_Q O B H e g0 x y z (bi_sfi h 12 0 (B 12 0) v) S := by
  obtain ⟨m, hm, R⟩ := R
  exact ⟨m, hm, R.th v⟩
end MQ
/-! the reference's lines: lineOf, cut, nodes -/
theorem bx_act_m (S : ba_S) (r i : Nat) : bx_act (bz_sm S r) i = bz_sm (bx_act S i) r := by
  have e : bz_I (bz_sm S r) = bz_I S := rfl
  unfold bx_act
  rw [e]
  split
  · rfl
  · split <;> rfl
theorem bx_acts_m : ∀ (n : Nat) (S : ba_S) (r i : Nat), bx_acts n (bz_sm S r) i = (bz_sm (bx_acts n S i).1 r, (bx_acts n S i).2)
  | 0, _, _, _ => rfl
  | n + 1, S, r, i => by
    have e : bz_I (bz_sm S r) = bz_I S := rfl
    unfold bx_acts
    rw [e, bx_act_m]
    split
    · rfl
    · exact bx_acts_m n _ r i
/-- writes lie within their groups -/
def bz_wd (S : ba_S) : Prop := ∀ k, 0 < k → k ≤ ba_n (bz_W S) → ba_s (bz_W S) k / 4096 < (bz_D S (ba_g (bz_W S) k)).1 ∧ ba_s (bz_W S) k % 4096 < (bz_D S (ba_g (bz_W S) k)).2 ∧ ba_g (bz_W S) k < bz_N S
/-- the line of an ID in the registry: the last one told -/
def ba_rg (v : Int32) : List (Nat × Nat) → Nat
  | [] => 0
  | q :: r => if (r.any (fun p => decide (Int32.ofNat p.1 = v))) = true then ba_rg v r else if Int32.ofNat q.1 = v then q.2 else 0
theorem ba_g_up {W : ba_W} (hW : ba_ok W) {g : Nat} : ∀ (i k : Nat), k ≤ ba_n W → (k ≠ 0 → ba_g W k = g) → ba_up W i k ≠ 0 → ba_g W (ba_up W i k) = g
  | 0, k, _, hg, h0 => hg h0
  | i + 1, k, hk, hg, h0 => by
    refine ba_g_up hW i (ba_b W k) (ba_b_in hW hk) (fun hb => ?_) h0
    by_cases z : k = 0
    · rw [z, hW.2.1.1] at hb
      exact absurd rfl hb
    · rw [(hW.2.2 k (by omega) hk).2.2.2.2.2 hb]
      exact hg z
section ML
variable {O : Nat → Prop} {B : Nat → Nat → Nat} {H : List (Nat × ba_G)} {e : Nat} {g0 h : bi_H} {x y z : Nat} {S : ba_S} {s : Nat}
theorem n_act (R : ms_Q O B H e g0 x y z h S) {i : Nat} (hi : i < 2) : ∃ h', (∀ K : Option bi_V → bi_H → Prop, bw_C bt_P 20 [.inr (.inl (B 12 0)), .inl (Int32.ofNat i)] h K ↔ K (some (.inl (if bz_I S i 3 = 0 then 0 else 1))) h') ∧ ms_Q O B H e g0 x y z h' (bx_act S i) := by
  obtain ⟨m, hm, R⟩ := R
  obtain ⟨h', e', R'⟩ := m_act R hi
  rw [bx_act_m] at R'
  exact ⟨h', e', m, hm, R'⟩
theorem n_acts (R : ms_Q O B H e g0 x y z h S) {i : Nat} (hi : i < 2) {n : Nat} (hn : n < 2147483648) : ∃ h', (∀ K : Option bi_V → bi_H → Prop, bw_C bt_P 21 [.inr (.inl (B 12 0)), .inl (Int32.ofNat i), .inl (Int32.ofNat n)] h K ↔ K (some (.inl (if (bx_acts n S i).2 = true then 1 else 0))) h') ∧ ms_Q O B H e g0 x y z h' (bx_acts n S i).1 := by
  obtain ⟨m, hm, R⟩ := R
  obtain ⟨h', e', R'⟩ := m_acts R hi hn
  rw [bx_acts_m] at R' e'
  exact ⟨h', e', m, hm, R'⟩
theorem n_thins (R : ms_Q O B H e g0 x y z h S) (I : bz_ok S) (hs : s < 8) (hN : s % 4 < bz_N S) {v : Int32} (hv : bz_G S 1 = v) : ∃ h', (∀ K : Option bi_V → bi_H → Prop, bw_C bt_P 17 [.inr (.inl (B 11 s)), .inl v] h K ↔ K none h') ∧ ms_Q O B H e g0 x y z h' (bx_thin S s) := by
  subst hv
  obtain ⟨m, hm, R⟩ := R
  obtain ⟨h', e', R'⟩ := m_thins (S := bz_sm S m) R hs hN (Nat.le_succ_of_le (I.o hs).2.2) I.kp.1 I.kp.2.2
  exact ⟨h', e', m, hm, R'⟩
theorem n_snaps (R : ms_Q O B H e g0 x y z h S) (I : bz_ok S) (hs : s < 8) (hN : s % 4 < bz_N S) (i k : Nat) : ∃ h', (∀ K : Option bi_V → bi_H → Prop, bw_C bt_P 15 [.inr (.inl (B 11 s)), .inl (Int32.ofNat i), .inl (Int32.ofNat k)] h K ↔ K none h') ∧ ms_Q O B H e g0 x y z h' (bz_sT S s (bs_ss (bz_T S s) (bs_sn (bz_T S s) ++ [(i, k)]))) := by
  obtain ⟨m, hm, R⟩ := R
  obtain ⟨h', e', R'⟩ := m_snaps (S := bz_sm S m) R hs hN (I.o hs).2.2 i k
  exact ⟨h', e', m, hm, R'⟩
theorem n_stn (R : ms_Q O B H e g0 x y z h S) (hs : s < 8) (hN : s % 4 < bz_N S) : ∃ h', (∀ K : Option bi_V → bi_H → Prop, bw_C bt_P 16 [.inr (.inl (B 11 s))] h K ↔ K none h') ∧ ms_Q O B H e g0 x y z h' (bz_sT S s (bs_clr (bz_T S s))) := by
  obtain ⟨m, hm, R⟩ := R
  obtain ⟨h', e', R'⟩ := m_stn (S := bz_sm S m) R hs hN trivial
  exact ⟨h', e', m, hm, R'⟩
theorem n_latest (R : ms_Q O B H e g0 x y z h S) (I : bz_ok S) (hs : s < 8) (hN : s % 4 < bz_N S) (K : Option bi_V → bi_H → Prop) : bw_C bt_P 13 [.inr (.inl (B 11 s))] h K ↔ K (some (.inl (Int32.ofNat (bs_latest (bz_T S s))))) h := by
  obtain ⟨m, hm, R⟩ := R
  exact m_latest (S := bz_sm S m) R hs hN (Nat.le_succ_of_le (I.o hs).2.2) K
theorem n_lline (R : ms_Q O B H e g0 x y z h S) (I : bz_ok S) (hs : s < 8) (hN : s % 4 < bz_N S) (K : Option bi_V → bi_H → Prop) : bw_C bt_P 14 [.inr (.inl (B 11 s))] h K ↔ K (some (.inl (Int32.ofNat (bs_line (bz_T S s))))) h := by
  obtain ⟨m, hm, R⟩ := R
  exact m_lline (S := bz_sm S m) R hs hN (Nat.le_succ_of_le (I.o hs).2.2) K
theorem n_find (R : ms_Q O B H e g0 x y z h S) (I : bz_ok S) (hs : s < 8) (hN : s % 4 < bz_N S) (v : Int32) (K : Option bi_V → bi_H → Prop) : bw_C bt_P 9 [.inr (.inl (B 11 s)), .inl v] h K ↔ K (some (.inl (ba_fd v (bs_sn (bz_T S s)) 0))) h := by
  obtain ⟨m, hm, R⟩ := R
  exact m_find (S := bz_sm S m) R hs hN (Nat.le_succ_of_le (I.o hs).2.2) v K
theorem n_hasAll (R : ms_Q O B H e g0 x y z h S) (hs : s < 8) (hN : s % 4 < bz_N S) (K : Option bi_V → bi_H → Prop) : bw_C bt_P 10 [.inr (.inl (B 11 s))] h K ↔ K (some (.inl (if bs_g (bz_T S s) 3 ≤ 4 * bs_g (bz_T S s) 4 then 1 else 0))) h := by
  obtain ⟨m, hm, R⟩ := R
  exact m_hasAll (S := bz_sm S m) R hs hN K
/-- of -/
theorem n_of (R : ms_Q O B H e g0 x y z h S) (j : Int32) (K : Option bi_V → bi_H → Prop) : bw_C bt_P 61 [.inr (.inl (B 12 0)), .inl j] h K ↔ K (some (.inr (.inl (if bx_ok S j = true then B 11 j.toNatClampNeg else 0)))) h := by
  have L := R.L
  unfold bx_ok
  refine bw_C_iff ?_ K
  by_cases e1 : 0 ≤ j
  · have e1' : (j < 0) = False := eq_false (Int32.not_lt.mpr e1)
    by_cases e2 : j < 8
    · have e2' : (8 ≤ j) = False := eq_false (Int32.not_le.mpr e2)
      have h4 : j.toNatClampNeg < 8 := by
        rw [← bn_lt_of e1 (n := 8) (by decide)]
        exact e2
      have st := L.st h4
      by_cases e3 : j.toNatClampNeg % 4 < bz_N S
      · rw [if_pos e3] at st
        (repeat (refine bw_step rfl ?_; simp +decide only [bw_gi_s, bw_ga_s, bw_go_s, bw_w_i, bw_w_a, bw_w_l, bw_sum_n, bw_sum_c, bw_xs_n, bw_iconst, bw_bipush, bw_sipush, bw_ldc, bw_ldc_w, bw_anull, bw_iload0, bw_aload0, bw_istore0, bw_astore0, bw_iload1, bw_aload1, bw_istore1, bw_astore1, bw_iload2, bw_aload2, bw_istore2, bw_astore2, bw_iload3, bw_aload3, bw_istore3, bw_astore3, bw_iload, bw_aload, bw_istore, bw_astore, bw_iinc, bw_iadd, bw_isub, bw_imul, bw_iand, bw_ixor, bw_idiv, bw_irem, bw_i2l, bw_lcmp, bw_dupi, bw_dupa, bw_dup2ia, bw_dup2ii, bw_getf0, bw_getf2, bw_getf1, bw_putf0, bw_putf2, bw_putf1, bw_iaload, bw_baload, bw_laload, bw_aaload, bw_iastore, bw_bastore, bw_lastore, bw_aastore, bw_alen, bw_newa_int, bw_newa_boolean, bw_newa_long, bw_anewa, bw_multi, bw_new, bw_static, bw_virt, bw_obj, bw_t_nop, bw_t_goto, bw_t_eq_z, bw_t_eq_i, bw_t_ne_z, bw_t_ne_i, bw_t_lt_z, bw_t_lt_i, bw_t_ge_z, bw_t_ge_i, bw_t_gt_z, bw_t_gt_i, bw_t_le_z, bw_t_le_i, bw_t_null, bw_t_nonnull, bw_t_switch, bw_t_ireturn0, bw_t_ireturn1, bw_t_areturn, bw_t_return, bw_t_athrow, bw_t_try, List.lookup_cons, List.lookup_nil, bi_st, List.filter_cons, List.filter_nil, List.take_succ_cons, List.take_zero, List.take_nil, List.drop_succ_cons, List.drop_zero, List.reverse_cons, List.reverse_nil, List.nil_append, List.cons_append, Option.toList_some, Option.toList_none, List.length_cons, List.length_nil, bi_loc, List.zipIdx_cons, List.zipIdx_nil, List.map_cons, List.map_nil, List.getD_cons_zero, List.getD_cons_succ, Nat.zero_add, Bool.not_true, Bool.not_false, Bool.false_eq_true, if_true, if_false, ite_true, ite_false, ↓reduceIte, true_and, and_true, Bool.not_eq_true, beq_self_eq_true, Nat.reduceBEq, Nat.reduceEqDiff, Nat.reduceAdd, Nat.reduceLeDiff, Nat.reduceLT, Nat.reduceSub, Nat.reduceMul, Int32.reduceOfInt, Int32.reduceOfNat, Int32.reduceToNatClampNeg, Int32.reduceLT, Int32.reduceLE, Int32.reduceAdd, Int32.reduceSub, Int32.reduceMul, Int32.reduceDiv, Int32.reduceToInt, Int.reduceLT, Int.reduceSub, Int.reduceToNat, not_false_eq_true, ne_eq, or_true, true_or, or_false, false_or, and_false, false_and, not_true_eq_false, reduceCtorEq, and_self, or_self, eq_self, bh_k_sfi, bh_k_sfr, bh_k_sai, bh_k_sar, bh_k_new, bh_fi_sfi, bh_fi_sfr, bh_fi_sai, bh_fi_sar, bh_fi_new, bh_fr_sfi, bh_fr_sfr, bh_fr_sai, bh_fr_sar, bh_fr_new, bh_ai_sfi, bh_ai_sfr, bh_ai_sai, bh_ai_sar, bh_ai_new, bh_ar_sfi, bh_ar_sfr, bh_ar_sai, bh_ar_sar, bh_ar_new, bh_nx_sfi, bh_nx_sfr, bh_nx_sai, bh_nx_sar, bh_nx_new, bh_nc_sfi, bh_nc_sfr, bh_nc_sai, bh_nc_sar, bh_nc_new, bh_ns_sfi, bh_ns_sfr, bh_ns_sai, bh_ns_sar, bh_ns_new, bh_k_new2, bh_fi_new2, bh_fr_new2, bh_ai_new2, bh_ar_new2, bh_nx_new2, bh_nc_new2, bh_ns_new2, Nat.lt_irrefl, Nat.le_refl, bq_le0, bq_neg, bq_nat, bq_lt, bq_le, bq_eq, bn_one, bn_dec, e1, e2, e1', e2', L.k12, L.r34, L.k134, h4, st, e3, bl_i8, decide_true, Bool.and_self]))
      · rw [if_neg e3] at st
        (repeat (refine bw_step rfl ?_; simp +decide only [bw_gi_s, bw_ga_s, bw_go_s, bw_w_i, bw_w_a, bw_w_l, bw_sum_n, bw_sum_c, bw_xs_n, bw_iconst, bw_bipush, bw_sipush, bw_ldc, bw_ldc_w, bw_anull, bw_iload0, bw_aload0, bw_istore0, bw_astore0, bw_iload1, bw_aload1, bw_istore1, bw_astore1, bw_iload2, bw_aload2, bw_istore2, bw_astore2, bw_iload3, bw_aload3, bw_istore3, bw_astore3, bw_iload, bw_aload, bw_istore, bw_astore, bw_iinc, bw_iadd, bw_isub, bw_imul, bw_iand, bw_ixor, bw_idiv, bw_irem, bw_i2l, bw_lcmp, bw_dupi, bw_dupa, bw_dup2ia, bw_dup2ii, bw_getf0, bw_getf2, bw_getf1, bw_putf0, bw_putf2, bw_putf1, bw_iaload, bw_baload, bw_laload, bw_aaload, bw_iastore, bw_bastore, bw_lastore, bw_aastore, bw_alen, bw_newa_int, bw_newa_boolean, bw_newa_long, bw_anewa, bw_multi, bw_new, bw_static, bw_virt, bw_obj, bw_t_nop, bw_t_goto, bw_t_eq_z, bw_t_eq_i, bw_t_ne_z, bw_t_ne_i, bw_t_lt_z, bw_t_lt_i, bw_t_ge_z, bw_t_ge_i, bw_t_gt_z, bw_t_gt_i, bw_t_le_z, bw_t_le_i, bw_t_null, bw_t_nonnull, bw_t_switch, bw_t_ireturn0, bw_t_ireturn1, bw_t_areturn, bw_t_return, bw_t_athrow, bw_t_try, List.lookup_cons, List.lookup_nil, bi_st, List.filter_cons, List.filter_nil, List.take_succ_cons, List.take_zero, List.take_nil, List.drop_succ_cons, List.drop_zero, List.reverse_cons, List.reverse_nil, List.nil_append, List.cons_append, Option.toList_some, Option.toList_none, List.length_cons, List.length_nil, bi_loc, List.zipIdx_cons, List.zipIdx_nil, List.map_cons, List.map_nil, List.getD_cons_zero, List.getD_cons_succ, Nat.zero_add, Bool.not_true, Bool.not_false, Bool.false_eq_true, if_true, if_false, ite_true, ite_false, ↓reduceIte, true_and, and_true, Bool.not_eq_true, beq_self_eq_true, Nat.reduceBEq, Nat.reduceEqDiff, Nat.reduceAdd, Nat.reduceLeDiff, Nat.reduceLT, Nat.reduceSub, Nat.reduceMul, Int32.reduceOfInt, Int32.reduceOfNat, Int32.reduceToNatClampNeg, Int32.reduceLT, Int32.reduceLE, Int32.reduceAdd, Int32.reduceSub, Int32.reduceMul, Int32.reduceDiv, Int32.reduceToInt, Int.reduceLT, Int.reduceSub, Int.reduceToNat, not_false_eq_true, ne_eq, or_true, true_or, or_false, false_or, and_false, false_and, not_true_eq_false, reduceCtorEq, and_self, or_self, eq_self, bh_k_sfi, bh_k_sfr, bh_k_sai, bh_k_sar, bh_k_new, bh_fi_sfi, bh_fi_sfr, bh_fi_sai, bh_fi_sar, bh_fi_new, bh_fr_sfi, bh_fr_sfr, bh_fr_sai, bh_fr_sar, bh_fr_new, bh_ai_sfi, bh_ai_sfr, bh_ai_sai, bh_ai_sar, bh_ai_new, bh_ar_sfi, bh_ar_sfr, bh_ar_sai, bh_ar_sar, bh_ar_new, bh_nx_sfi, bh_nx_sfr, bh_nx_sai, bh_nx_sar, bh_nx_new, bh_nc_sfi, bh_nc_sfr, bh_nc_sai, bh_nc_sar, bh_nc_new, bh_ns_sfi, bh_ns_sfr, bh_ns_sai, bh_ns_sar, bh_ns_new, bh_k_new2, bh_fi_new2, bh_fr_new2, bh_ai_new2, bh_ar_new2, bh_nx_new2, bh_nc_new2, bh_ns_new2, Nat.lt_irrefl, Nat.le_refl, bq_le0, bq_neg, bq_nat, bq_lt, bq_le, bq_eq, bn_one, bn_dec, e1, e2, e1', e2', L.k12, L.r34, L.k134, h4, st, e3, bl_i8, decide_true, decide_false, Bool.and_false]))
    · have e2' : (8 ≤ j) = True := eq_true (Int32.not_lt.mp e2)
      (repeat (refine bw_step rfl ?_; simp +decide only [bw_gi_s, bw_ga_s, bw_go_s, bw_w_i, bw_w_a, bw_w_l, bw_sum_n, bw_sum_c, bw_xs_n, bw_iconst, bw_bipush, bw_sipush, bw_ldc, bw_ldc_w, bw_anull, bw_iload0, bw_aload0, bw_istore0, bw_astore0, bw_iload1, bw_aload1, bw_istore1, bw_astore1, bw_iload2, bw_aload2, bw_istore2, bw_astore2, bw_iload3, bw_aload3, bw_istore3, bw_astore3, bw_iload, bw_aload, bw_istore, bw_astore, bw_iinc, bw_iadd, bw_isub, bw_imul, bw_iand, bw_ixor, bw_idiv, bw_irem, bw_i2l, bw_lcmp, bw_dupi, bw_dupa, bw_dup2ia, bw_dup2ii, bw_getf0, bw_getf2, bw_getf1, bw_putf0, bw_putf2, bw_putf1, bw_iaload, bw_baload, bw_laload, bw_aaload, bw_iastore, bw_bastore, bw_lastore, bw_aastore, bw_alen, bw_newa_int, bw_newa_boolean, bw_newa_long, bw_anewa, bw_multi, bw_new, bw_static, bw_virt, bw_obj, bw_t_nop, bw_t_goto, bw_t_eq_z, bw_t_eq_i, bw_t_ne_z, bw_t_ne_i, bw_t_lt_z, bw_t_lt_i, bw_t_ge_z, bw_t_ge_i, bw_t_gt_z, bw_t_gt_i, bw_t_le_z, bw_t_le_i, bw_t_null, bw_t_nonnull, bw_t_switch, bw_t_ireturn0, bw_t_ireturn1, bw_t_areturn, bw_t_return, bw_t_athrow, bw_t_try, List.lookup_cons, List.lookup_nil, bi_st, List.filter_cons, List.filter_nil, List.take_succ_cons, List.take_zero, List.take_nil, List.drop_succ_cons, List.drop_zero, List.reverse_cons, List.reverse_nil, List.nil_append, List.cons_append, Option.toList_some, Option.toList_none, List.length_cons, List.length_nil, bi_loc, List.zipIdx_cons, List.zipIdx_nil, List.map_cons, List.map_nil, List.getD_cons_zero, List.getD_cons_succ, Nat.zero_add, Bool.not_true, Bool.not_false, Bool.false_eq_true, if_true, if_false, ite_true, ite_false, ↓reduceIte, true_and, and_true, Bool.not_eq_true, beq_self_eq_true, Nat.reduceBEq, Nat.reduceEqDiff, Nat.reduceAdd, Nat.reduceLeDiff, Nat.reduceLT, Nat.reduceSub, Nat.reduceMul, Int32.reduceOfInt, Int32.reduceOfNat, Int32.reduceToNatClampNeg, Int32.reduceLT, Int32.reduceLE, Int32.reduceAdd, Int32.reduceSub, Int32.reduceMul, Int32.reduceDiv, Int32.reduceToInt, Int.reduceLT, Int.reduceSub, Int.reduceToNat, not_false_eq_true, ne_eq, or_true, true_or, or_false, false_or, and_false, false_and, not_true_eq_false, reduceCtorEq, and_self, or_self, eq_self, bh_k_sfi, bh_k_sfr, bh_k_sai, bh_k_sar, bh_k_new, bh_fi_sfi, bh_fi_sfr, bh_fi_sai, bh_fi_sar, bh_fi_new, bh_fr_sfi, bh_fr_sfr, bh_fr_sai, bh_fr_sar, bh_fr_new, bh_ai_sfi, bh_ai_sfr, bh_ai_sai, bh_ai_sar, bh_ai_new, bh_ar_sfi, bh_ar_sfr, bh_ar_sai, bh_ar_sar, bh_ar_new, bh_nx_sfi, bh_nx_sfr, bh_nx_sai, bh_nx_sar, bh_nx_new, bh_nc_sfi, bh_nc_sfr, bh_nc_sai, bh_nc_sar, bh_nc_new, bh_ns_sfi, bh_ns_sfr, bh_ns_sai, bh_ns_sar, bh_ns_new, bh_k_new2, bh_fi_new2, bh_fr_new2, bh_ai_new2, bh_ar_new2, bh_nx_new2, bh_nc_new2, bh_ns_new2, Nat.lt_irrefl, Nat.le_refl, bq_le0, bq_neg, bq_nat, bq_lt, bq_le, bq_eq, bn_one, bn_dec, e1, e2, e1', e2', bl_i8, decide_true, decide_false, Bool.and_false, Bool.false_and]))
  · have e1' : (j < 0) = True := eq_true (Int32.not_le.mp e1)
    (repeat (refine bw_step rfl ?_; simp +decide only [bw_gi_s, bw_ga_s, bw_go_s, bw_w_i, bw_w_a, bw_w_l, bw_sum_n, bw_sum_c, bw_xs_n, bw_iconst, bw_bipush, bw_sipush, bw_ldc, bw_ldc_w, bw_anull, bw_iload0, bw_aload0, bw_istore0, bw_astore0, bw_iload1, bw_aload1, bw_istore1, bw_astore1, bw_iload2, bw_aload2, bw_istore2, bw_astore2, bw_iload3, bw_aload3, bw_istore3, bw_astore3, bw_iload, bw_aload, bw_istore, bw_astore, bw_iinc, bw_iadd, bw_isub, bw_imul, bw_iand, bw_ixor, bw_idiv, bw_irem, bw_i2l, bw_lcmp, bw_dupi, bw_dupa, bw_dup2ia, bw_dup2ii, bw_getf0, bw_getf2, bw_getf1, bw_putf0, bw_putf2, bw_putf1, bw_iaload, bw_baload, bw_laload, bw_aaload, bw_iastore, bw_bastore, bw_lastore, bw_aastore, bw_alen, bw_newa_int, bw_newa_boolean, bw_newa_long, bw_anewa, bw_multi, bw_new, bw_static, bw_virt, bw_obj, bw_t_nop, bw_t_goto, bw_t_eq_z, bw_t_eq_i, bw_t_ne_z, bw_t_ne_i, bw_t_lt_z, bw_t_lt_i, bw_t_ge_z, bw_t_ge_i, bw_t_gt_z, bw_t_gt_i, bw_t_le_z, bw_t_le_i, bw_t_null, bw_t_nonnull, bw_t_switch, bw_t_ireturn0, bw_t_ireturn1, bw_t_areturn, bw_t_return, bw_t_athrow, bw_t_try, List.lookup_cons, List.lookup_nil, bi_st, List.filter_cons, List.filter_nil, List.take_succ_cons, List.take_zero, List.take_nil, List.drop_succ_cons, List.drop_zero, List.reverse_cons, List.reverse_nil, List.nil_append, List.cons_append, Option.toList_some, Option.toList_none, List.length_cons, List.length_nil, bi_loc, List.zipIdx_cons, List.zipIdx_nil, List.map_cons, List.map_nil, List.getD_cons_zero, List.getD_cons_succ, Nat.zero_add, Bool.not_true, Bool.not_false, Bool.false_eq_true, if_true, if_false, ite_true, ite_false, ↓reduceIte, true_and, and_true, Bool.not_eq_true, beq_self_eq_true, Nat.reduceBEq, Nat.reduceEqDiff, Nat.reduceAdd, Nat.reduceLeDiff, Nat.reduceLT, Nat.reduceSub, Nat.reduceMul, Int32.reduceOfInt, Int32.reduceOfNat, Int32.reduceToNatClampNeg, Int32.reduceLT, Int32.reduceLE, Int32.reduceAdd, Int32.reduceSub, Int32.reduceMul, Int32.reduceDiv, Int32.reduceToInt, Int.reduceLT, Int.reduceSub, Int.reduceToNat, not_false_eq_true, ne_eq, or_true, true_or, or_false, false_or, and_false, false_and, not_true_eq_false, reduceCtorEq, and_self, or_self, eq_self, bh_k_sfi, bh_k_sfr, bh_k_sai, bh_k_sar, bh_k_new, bh_fi_sfi, bh_fi_sfr, bh_fi_sai, bh_fi_sar, bh_fi_new, bh_fr_sfi, bh_fr_sfr, bh_fr_sai, bh_fr_sar, bh_fr_new, bh_ai_sfi, bh_ai_sfr, bh_ai_sai, bh_ai_sar, bh_ai_new, bh_ar_sfi, bh_ar_sfr, bh_ar_sai, bh_ar_sar, bh_ar_new, bh_nx_sfi, bh_nx_sfr, bh_nx_sai, bh_nx_sar, bh_nx_new, bh_nc_sfi, bh_nc_sfr, bh_nc_sai, bh_nc_sar, bh_nc_new, bh_ns_sfi, bh_ns_sfr, bh_ns_sai, bh_ns_sar, bh_ns_new, bh_k_new2, bh_fi_new2, bh_fr_new2, bh_ai_new2, bh_ar_new2, bh_nx_new2, bh_nc_new2, bh_ns_new2, Nat.lt_irrefl, Nat.le_refl, bq_le0, bq_neg, bq_nat, bq_lt, bq_le, bq_eq, bn_one, bn_dec, e1, e1', decide_false, Bool.false_and]))
/-- lineOf: its loop, from the end; n are left -/
theorem ba_rg_take (v : Int32) : ∀ (l : List (Nat × Nat)), ba_rg v l = (match l.reverse.find? (fun q => decide (Int32.ofNat q.1 = v)) with | some q => q.2 | none => 0)
  | [] => rfl
  | q :: r => by
    have ih := ba_rg_take v r
    rw [List.reverse_cons, List.find?_append]
    unfold ba_rg
    by_cases c : r.any (fun p => decide (Int32.ofNat p.1 = v)) = true
    · rw [if_pos c, ih]
      have h1 : (r.reverse.find? (fun q => decide (Int32.ofNat q.1 = v))).isSome = true := by
        rw [List.find?_isSome]
        obtain ⟨p, hp, e⟩ := List.any_eq_true.mp c
        exact ⟨p, List.mem_reverse.mpr hp, e⟩
      obtain ⟨w, hw⟩ := Option.isSome_iff_exists.mp h1
      rw [hw]
      rfl
    · rw [if_neg c]
      have h1 : r.reverse.find? (fun q => decide (Int32.ofNat q.1 = v)) = none := by
        rw [List.find?_eq_none]
        intro p hp e
        exact c (List.any_eq_true.mpr ⟨p, List.mem_reverse.mp hp, e⟩)
      rw [h1]
      by_cases c2 : Int32.ofNat q.1 = v
      · rw [if_pos c2]
        simp [c2]
      · rw [if_neg c2]
        simp [c2]
theorem ba_rg_snoc (v : Int32) (l : List (Nat × Nat)) (q : Nat × Nat) : ba_rg v (l ++ [q]) = if Int32.ofNat q.1 = v then q.2 else ba_rg v l := by
  rw [ba_rg_take, ba_rg_take, List.reverse_append]
  show (match (q :: l.reverse).find? _ with | some q => q.2 | none => 0) = _
  rw [List.find?_cons]
  by_cases c : Int32.ofNat q.1 = v
  · simp [c]
  · simp [c]
theorem nl_lineOf (R : ms_Q O B H e g0 x y z h S) {g : Nat} (hg : g < 4) (hl : (bz_R S g).length ≤ 9000) (v : Int32) : ∀ (n : Nat), n ≤ (bz_R S g).length → bw_r bt_P 56 1 [(0, .inr (.inl (B 12 0))), (1, .inl (Int32.ofNat g)), (2, .inl v), (3, .inl (Int32.ofNat n - 1))] [] h (fun o g' => o = .inl (some (.inl (Int32.ofNat (ba_rg v ((bz_R S g).take n))))) ∧ g' = h)
  | 0, hn => by
    have L := R.L
    (refine bw_step rfl ?_; simp +decide only [bw_gi_s, bw_ga_s, bw_go_s, bw_w_i, bw_w_a, bw_w_l, bw_sum_n, bw_sum_c, bw_xs_n, bw_iconst, bw_bipush, bw_sipush, bw_ldc, bw_ldc_w, bw_anull, bw_iload0, bw_aload0, bw_istore0, bw_astore0, bw_iload1, bw_aload1, bw_istore1, bw_astore1, bw_iload2, bw_aload2, bw_istore2, bw_astore2, bw_iload3, bw_aload3, bw_istore3, bw_astore3, bw_iload, bw_aload, bw_istore, bw_astore, bw_iinc, bw_iadd, bw_isub, bw_imul, bw_iand, bw_ixor, bw_idiv, bw_irem, bw_i2l, bw_lcmp, bw_dupi, bw_dupa, bw_dup2ia, bw_dup2ii, bw_getf0, bw_getf2, bw_getf1, bw_putf0, bw_putf2, bw_putf1, bw_iaload, bw_baload, bw_laload, bw_aaload, bw_iastore, bw_bastore, bw_lastore, bw_aastore, bw_alen, bw_newa_int, bw_newa_boolean, bw_newa_long, bw_anewa, bw_multi, bw_new, bw_static, bw_virt, bw_obj, bw_t_nop, bw_t_goto, bw_t_eq_z, bw_t_eq_i, bw_t_ne_z, bw_t_ne_i, bw_t_lt_z, bw_t_lt_i, bw_t_ge_z, bw_t_ge_i, bw_t_gt_z, bw_t_gt_i, bw_t_le_z, bw_t_le_i, bw_t_null, bw_t_nonnull, bw_t_switch, bw_t_ireturn0, bw_t_ireturn1, bw_t_areturn, bw_t_return, bw_t_athrow, bw_t_try, List.lookup_cons, List.lookup_nil, bi_st, List.filter_cons, List.filter_nil, List.take_succ_cons, List.take_zero, List.take_nil, List.drop_succ_cons, List.drop_zero, List.reverse_cons, List.reverse_nil, List.nil_append, List.cons_append, Option.toList_some, Option.toList_none, List.length_cons, List.length_nil, bi_loc, List.zipIdx_cons, List.zipIdx_nil, List.map_cons, List.map_nil, List.getD_cons_zero, List.getD_cons_succ, Nat.zero_add, Bool.not_true, Bool.not_false, Bool.false_eq_true, if_true, if_false, ite_true, ite_false, ↓reduceIte, true_and, and_true, Bool.not_eq_true, beq_self_eq_true, Nat.reduceBEq, Nat.reduceEqDiff, Nat.reduceAdd, Nat.reduceLeDiff, Nat.reduceLT, Nat.reduceSub, Nat.reduceMul, Int32.reduceOfInt, Int32.reduceOfNat, Int32.reduceToNatClampNeg, Int32.reduceLT, Int32.reduceLE, Int32.reduceAdd, Int32.reduceSub, Int32.reduceMul, Int32.reduceDiv, Int32.reduceToInt, Int.reduceLT, Int.reduceSub, Int.reduceToNat, not_false_eq_true, ne_eq, or_true, true_or, or_false, false_or, and_false, false_and, not_true_eq_false, reduceCtorEq, and_self, or_self, eq_self, bh_k_sfi, bh_k_sfr, bh_k_sai, bh_k_sar, bh_k_new, bh_fi_sfi, bh_fi_sfr, bh_fi_sai, bh_fi_sar, bh_fi_new, bh_fr_sfi, bh_fr_sfr, bh_fr_sai, bh_fr_sar, bh_fr_new, bh_ai_sfi, bh_ai_sfr, bh_ai_sai, bh_ai_sar, bh_ai_new, bh_ar_sfi, bh_ar_sfr, bh_ar_sai, bh_ar_sar, bh_ar_new, bh_nx_sfi, bh_nx_sfr, bh_nx_sai, bh_nx_sar, bh_nx_new, bh_nc_sfi, bh_nc_sfr, bh_nc_sai, bh_nc_sar, bh_nc_new, bh_ns_sfi, bh_ns_sfr, bh_ns_sai, bh_ns_sar, bh_ns_new, bh_k_new2, bh_fi_new2, bh_fr_new2, bh_ai_new2, bh_ar_new2, bh_nx_new2, bh_nc_new2, bh_ns_new2, Nat.lt_irrefl, Nat.le_refl, bq_le0, bq_neg, bq_nat, bq_lt, bq_le, bq_eq, bn_one, bn_dec])
    (refine bw_step rfl ?_; simp +decide only [bw_gi_s, bw_ga_s, bw_go_s, bw_w_i, bw_w_a, bw_w_l, bw_sum_n, bw_sum_c, bw_xs_n, bw_iconst, bw_bipush, bw_sipush, bw_ldc, bw_ldc_w, bw_anull, bw_iload0, bw_aload0, bw_istore0, bw_astore0, bw_iload1, bw_aload1, bw_istore1, bw_astore1, bw_iload2, bw_aload2, bw_istore2, bw_astore2, bw_iload3, bw_aload3, bw_istore3, bw_astore3, bw_iload, bw_aload, bw_istore, bw_astore, bw_iinc, bw_iadd, bw_isub, bw_imul, bw_iand, bw_ixor, bw_idiv, bw_irem, bw_i2l, bw_lcmp, bw_dupi, bw_dupa, bw_dup2ia, bw_dup2ii, bw_getf0, bw_getf2, bw_getf1, bw_putf0, bw_putf2, bw_putf1, bw_iaload, bw_baload, bw_laload, bw_aaload, bw_iastore, bw_bastore, bw_lastore, bw_aastore, bw_alen, bw_newa_int, bw_newa_boolean, bw_newa_long, bw_anewa, bw_multi, bw_new, bw_static, bw_virt, bw_obj, bw_t_nop, bw_t_goto, bw_t_eq_z, bw_t_eq_i, bw_t_ne_z, bw_t_ne_i, bw_t_lt_z, bw_t_lt_i, bw_t_ge_z, bw_t_ge_i, bw_t_gt_z, bw_t_gt_i, bw_t_le_z, bw_t_le_i, bw_t_null, bw_t_nonnull, bw_t_switch, bw_t_ireturn0, bw_t_ireturn1, bw_t_areturn, bw_t_return, bw_t_athrow, bw_t_try, List.lookup_cons, List.lookup_nil, bi_st, List.filter_cons, List.filter_nil, List.take_succ_cons, List.take_zero, List.take_nil, List.drop_succ_cons, List.drop_zero, List.reverse_cons, List.reverse_nil, List.nil_append, List.cons_append, Option.toList_some, Option.toList_none, List.length_cons, List.length_nil, bi_loc, List.zipIdx_cons, List.zipIdx_nil, List.map_cons, List.map_nil, List.getD_cons_zero, List.getD_cons_succ, Nat.zero_add, Bool.not_true, Bool.not_false, Bool.false_eq_true, if_true, if_false, ite_true, ite_false, ↓reduceIte, true_and, and_true, Bool.not_eq_true, beq_self_eq_true, Nat.reduceBEq, Nat.reduceEqDiff, Nat.reduceAdd, Nat.reduceLeDiff, Nat.reduceLT, Nat.reduceSub, Nat.reduceMul, Int32.reduceOfInt, Int32.reduceOfNat, Int32.reduceToNatClampNeg, Int32.reduceLT, Int32.reduceLE, Int32.reduceAdd, Int32.reduceSub, Int32.reduceMul, Int32.reduceDiv, Int32.reduceToInt, Int.reduceLT, Int.reduceSub, Int.reduceToNat, not_false_eq_true, ne_eq, or_true, true_or, or_false, false_or, and_false, false_and, not_true_eq_false, reduceCtorEq, and_self, or_self, eq_self, bh_k_sfi, bh_k_sfr, bh_k_sai, bh_k_sar, bh_k_new, bh_fi_sfi, bh_fi_sfr, bh_fi_sai, bh_fi_sar, bh_fi_new, bh_fr_sfi, bh_fr_sfr, bh_fr_sai, bh_fr_sar, bh_fr_new, bh_ai_sfi, bh_ai_sfr, bh_ai_sai, bh_ai_sar, bh_ai_new, bh_ar_sfi, bh_ar_sfr, bh_ar_sai, bh_ar_sar, bh_ar_new, bh_nx_sfi, bh_nx_sfr, bh_nx_sai, bh_nx_sar, bh_nx_new, bh_nc_sfi, bh_nc_sfr, bh_nc_sai, bh_nc_sar, bh_nc_new, bh_ns_sfi, bh_ns_sfr, bh_ns_sai, bh_ns_sar, bh_ns_new, bh_k_new2, bh_fi_new2, bh_fr_new2, bh_ai_new2, bh_ar_new2, bh_nx_new2, bh_nc_new2, bh_ns_new2, Nat.lt_irrefl, Nat.le_refl, bq_le0, bq_neg, bq_nat, bq_lt, bq_le, bq_eq, bn_one, bn_dec])
    (refine bw_step rfl ?_; simp +decide only [bw_gi_s, bw_ga_s, bw_go_s, bw_w_i, bw_w_a, bw_w_l, bw_sum_n, bw_sum_c, bw_xs_n, bw_iconst, bw_bipush, bw_sipush, bw_ldc, bw_ldc_w, bw_anull, bw_iload0, bw_aload0, bw_istore0, bw_astore0, bw_iload1, bw_aload1, bw_istore1, bw_astore1, bw_iload2, bw_aload2, bw_istore2, bw_astore2, bw_iload3, bw_aload3, bw_istore3, bw_astore3, bw_iload, bw_aload, bw_istore, bw_astore, bw_iinc, bw_iadd, bw_isub, bw_imul, bw_iand, bw_ixor, bw_idiv, bw_irem, bw_i2l, bw_lcmp, bw_dupi, bw_dupa, bw_dup2ia, bw_dup2ii, bw_getf0, bw_getf2, bw_getf1, bw_putf0, bw_putf2, bw_putf1, bw_iaload, bw_baload, bw_laload, bw_aaload, bw_iastore, bw_bastore, bw_lastore, bw_aastore, bw_alen, bw_newa_int, bw_newa_boolean, bw_newa_long, bw_anewa, bw_multi, bw_new, bw_static, bw_virt, bw_obj, bw_t_nop, bw_t_goto, bw_t_eq_z, bw_t_eq_i, bw_t_ne_z, bw_t_ne_i, bw_t_lt_z, bw_t_lt_i, bw_t_ge_z, bw_t_ge_i, bw_t_gt_z, bw_t_gt_i, bw_t_le_z, bw_t_le_i, bw_t_null, bw_t_nonnull, bw_t_switch, bw_t_ireturn0, bw_t_ireturn1, bw_t_areturn, bw_t_return, bw_t_athrow, bw_t_try, List.lookup_cons, List.lookup_nil, bi_st, List.filter_cons, List.filter_nil, List.take_succ_cons, List.take_zero, List.take_nil, List.drop_succ_cons, List.drop_zero, List.reverse_cons, List.reverse_nil, List.nil_append, List.cons_append, Option.toList_some, Option.toList_none, List.length_cons, List.length_nil, bi_loc, List.zipIdx_cons, List.zipIdx_nil, List.map_cons, List.map_nil, List.getD_cons_zero, List.getD_cons_succ, Nat.zero_add, Bool.not_true, Bool.not_false, Bool.false_eq_true, if_true, if_false, ite_true, ite_false, ↓reduceIte, true_and, and_true, Bool.not_eq_true, beq_self_eq_true, Nat.reduceBEq, Nat.reduceEqDiff, Nat.reduceAdd, Nat.reduceLeDiff, Nat.reduceLT, Nat.reduceSub, Nat.reduceMul, Int32.reduceOfInt, Int32.reduceOfNat, Int32.reduceToNatClampNeg, Int32.reduceLT, Int32.reduceLE, Int32.reduceAdd, Int32.reduceSub, Int32.reduceMul, Int32.reduceDiv, Int32.reduceToInt, Int.reduceLT, Int.reduceSub, Int.reduceToNat, not_false_eq_true, ne_eq, or_true, true_or, or_false, false_or, and_false, false_and, not_true_eq_false, reduceCtorEq, and_self, or_self, eq_self, bh_k_sfi, bh_k_sfr, bh_k_sai, bh_k_sar, bh_k_new, bh_fi_sfi, bh_fi_sfr, bh_fi_sai, bh_fi_sar, bh_fi_new, bh_fr_sfi, bh_fr_sfr, bh_fr_sai, bh_fr_sar, bh_fr_new, bh_ai_sfi, bh_ai_sfr, bh_ai_sai, bh_ai_sar, bh_ai_new, bh_ar_sfi, bh_ar_sfr, bh_ar_sai, bh_ar_sar, bh_ar_new, bh_nx_sfi, bh_nx_sfr, bh_nx_sai, bh_nx_sar, bh_nx_new, bh_nc_sfi, bh_nc_sfr, bh_nc_sai, bh_nc_sar, bh_nc_new, bh_ns_sfi, bh_ns_sfr, bh_ns_sai, bh_ns_sar, bh_ns_new, bh_k_new2, bh_fi_new2, bh_fr_new2, bh_ai_new2, bh_ar_new2, bh_nx_new2, bh_nc_new2, bh_ns_new2, Nat.lt_irrefl, Nat.le_refl, bq_le0, bq_neg, bq_nat, bq_lt, bq_le, bq_eq, bn_one, bn_dec, bl_i0])
    (refine bw_step rfl ?_; simp +decide only [bw_gi_s, bw_ga_s, bw_go_s, bw_w_i, bw_w_a, bw_w_l, bw_sum_n, bw_sum_c, bw_xs_n, bw_iconst, bw_bipush, bw_sipush, bw_ldc, bw_ldc_w, bw_anull, bw_iload0, bw_aload0, bw_istore0, bw_astore0, bw_iload1, bw_aload1, bw_istore1, bw_astore1, bw_iload2, bw_aload2, bw_istore2, bw_astore2, bw_iload3, bw_aload3, bw_istore3, bw_astore3, bw_iload, bw_aload, bw_istore, bw_astore, bw_iinc, bw_iadd, bw_isub, bw_imul, bw_iand, bw_ixor, bw_idiv, bw_irem, bw_i2l, bw_lcmp, bw_dupi, bw_dupa, bw_dup2ia, bw_dup2ii, bw_getf0, bw_getf2, bw_getf1, bw_putf0, bw_putf2, bw_putf1, bw_iaload, bw_baload, bw_laload, bw_aaload, bw_iastore, bw_bastore, bw_lastore, bw_aastore, bw_alen, bw_newa_int, bw_newa_boolean, bw_newa_long, bw_anewa, bw_multi, bw_new, bw_static, bw_virt, bw_obj, bw_t_nop, bw_t_goto, bw_t_eq_z, bw_t_eq_i, bw_t_ne_z, bw_t_ne_i, bw_t_lt_z, bw_t_lt_i, bw_t_ge_z, bw_t_ge_i, bw_t_gt_z, bw_t_gt_i, bw_t_le_z, bw_t_le_i, bw_t_null, bw_t_nonnull, bw_t_switch, bw_t_ireturn0, bw_t_ireturn1, bw_t_areturn, bw_t_return, bw_t_athrow, bw_t_try, List.lookup_cons, List.lookup_nil, bi_st, List.filter_cons, List.filter_nil, List.take_succ_cons, List.take_zero, List.take_nil, List.drop_succ_cons, List.drop_zero, List.reverse_cons, List.reverse_nil, List.nil_append, List.cons_append, Option.toList_some, Option.toList_none, List.length_cons, List.length_nil, bi_loc, List.zipIdx_cons, List.zipIdx_nil, List.map_cons, List.map_nil, List.getD_cons_zero, List.getD_cons_succ, Nat.zero_add, Bool.not_true, Bool.not_false, Bool.false_eq_true, if_true, if_false, ite_true, ite_false, ↓reduceIte, true_and, and_true, Bool.not_eq_true, beq_self_eq_true, Nat.reduceBEq, Nat.reduceEqDiff, Nat.reduceAdd, Nat.reduceLeDiff, Nat.reduceLT, Nat.reduceSub, Nat.reduceMul, Int32.reduceOfInt, Int32.reduceOfNat, Int32.reduceToNatClampNeg, Int32.reduceLT, Int32.reduceLE, Int32.reduceAdd, Int32.reduceSub, Int32.reduceMul, Int32.reduceDiv, Int32.reduceToInt, Int.reduceLT, Int.reduceSub, Int.reduceToNat, not_false_eq_true, ne_eq, or_true, true_or, or_false, false_or, and_false, false_and, not_true_eq_false, reduceCtorEq, and_self, or_self, eq_self, bh_k_sfi, bh_k_sfr, bh_k_sai, bh_k_sar, bh_k_new, bh_fi_sfi, bh_fi_sfr, bh_fi_sai, bh_fi_sar, bh_fi_new, bh_fr_sfi, bh_fr_sfr, bh_fr_sai, bh_fr_sar, bh_fr_new, bh_ai_sfi, bh_ai_sfr, bh_ai_sai, bh_ai_sar, bh_ai_new, bh_ar_sfi, bh_ar_sfr, bh_ar_sai, bh_ar_sar, bh_ar_new, bh_nx_sfi, bh_nx_sfr, bh_nx_sai, bh_nx_sar, bh_nx_new, bh_nc_sfi, bh_nc_sfr, bh_nc_sai, bh_nc_sar, bh_nc_new, bh_ns_sfi, bh_ns_sfr, bh_ns_sai, bh_ns_sar, bh_ns_new, bh_k_new2, bh_fi_new2, bh_fr_new2, bh_ai_new2, bh_ar_new2, bh_nx_new2, bh_nc_new2, bh_ns_new2, Nat.lt_irrefl, Nat.le_refl, bq_le0, bq_neg, bq_nat, bq_lt, bq_le, bq_eq, bn_one, bn_dec, List.take_zero, ba_rg])
  | n + 1, hn => by
    have L := R.L
    have q1 : n < 60001 := by omega
    have q2 : n < 9000 := by omega
    have q3 : g < 60001 := by omega
    have hn' : n < (bz_R S g).length := by omega
    have e1 : Int32.ofNat (n + 1) - 1 = Int32.ofNat n := bq_sub1 (Nat.succ_pos n)
    have et : (bz_R S g).take (n + 1) = (bz_R S g).take n ++ [(bz_R S g).getD n (0, 0)] := by
      rw [List.take_succ, List.getD_eq_getElem?_getD, List.getElem?_eq_getElem hn']
      rfl
    rw [e1, et, ba_rg_snoc]
    have n0 : (0 ≤ Int32.ofNat n) = True := bq_ge0 q1
    (refine bw_step rfl ?_; simp +decide only [bw_gi_s, bw_ga_s, bw_go_s, bw_w_i, bw_w_a, bw_w_l, bw_sum_n, bw_sum_c, bw_xs_n, bw_iconst, bw_bipush, bw_sipush, bw_ldc, bw_ldc_w, bw_anull, bw_iload0, bw_aload0, bw_istore0, bw_astore0, bw_iload1, bw_aload1, bw_istore1, bw_astore1, bw_iload2, bw_aload2, bw_istore2, bw_astore2, bw_iload3, bw_aload3, bw_istore3, bw_astore3, bw_iload, bw_aload, bw_istore, bw_astore, bw_iinc, bw_iadd, bw_isub, bw_imul, bw_iand, bw_ixor, bw_idiv, bw_irem, bw_i2l, bw_lcmp, bw_dupi, bw_dupa, bw_dup2ia, bw_dup2ii, bw_getf0, bw_getf2, bw_getf1, bw_putf0, bw_putf2, bw_putf1, bw_iaload, bw_baload, bw_laload, bw_aaload, bw_iastore, bw_bastore, bw_lastore, bw_aastore, bw_alen, bw_newa_int, bw_newa_boolean, bw_newa_long, bw_anewa, bw_multi, bw_new, bw_static, bw_virt, bw_obj, bw_t_nop, bw_t_goto, bw_t_eq_z, bw_t_eq_i, bw_t_ne_z, bw_t_ne_i, bw_t_lt_z, bw_t_lt_i, bw_t_ge_z, bw_t_ge_i, bw_t_gt_z, bw_t_gt_i, bw_t_le_z, bw_t_le_i, bw_t_null, bw_t_nonnull, bw_t_switch, bw_t_ireturn0, bw_t_ireturn1, bw_t_areturn, bw_t_return, bw_t_athrow, bw_t_try, List.lookup_cons, List.lookup_nil, bi_st, List.filter_cons, List.filter_nil, List.take_succ_cons, List.take_zero, List.take_nil, List.drop_succ_cons, List.drop_zero, List.reverse_cons, List.reverse_nil, List.nil_append, List.cons_append, Option.toList_some, Option.toList_none, List.length_cons, List.length_nil, bi_loc, List.zipIdx_cons, List.zipIdx_nil, List.map_cons, List.map_nil, List.getD_cons_zero, List.getD_cons_succ, Nat.zero_add, Bool.not_true, Bool.not_false, Bool.false_eq_true, if_true, if_false, ite_true, ite_false, ↓reduceIte, true_and, and_true, Bool.not_eq_true, beq_self_eq_true, Nat.reduceBEq, Nat.reduceEqDiff, Nat.reduceAdd, Nat.reduceLeDiff, Nat.reduceLT, Nat.reduceSub, Nat.reduceMul, Int32.reduceOfInt, Int32.reduceOfNat, Int32.reduceToNatClampNeg, Int32.reduceLT, Int32.reduceLE, Int32.reduceAdd, Int32.reduceSub, Int32.reduceMul, Int32.reduceDiv, Int32.reduceToInt, Int.reduceLT, Int.reduceSub, Int.reduceToNat, not_false_eq_true, ne_eq, or_true, true_or, or_false, false_or, and_false, false_and, not_true_eq_false, reduceCtorEq, and_self, or_self, eq_self, bh_k_sfi, bh_k_sfr, bh_k_sai, bh_k_sar, bh_k_new, bh_fi_sfi, bh_fi_sfr, bh_fi_sai, bh_fi_sar, bh_fi_new, bh_fr_sfi, bh_fr_sfr, bh_fr_sai, bh_fr_sar, bh_fr_new, bh_ai_sfi, bh_ai_sfr, bh_ai_sai, bh_ai_sar, bh_ai_new, bh_ar_sfi, bh_ar_sfr, bh_ar_sai, bh_ar_sar, bh_ar_new, bh_nx_sfi, bh_nx_sfr, bh_nx_sai, bh_nx_sar, bh_nx_new, bh_nc_sfi, bh_nc_sfr, bh_nc_sai, bh_nc_sar, bh_nc_new, bh_ns_sfi, bh_ns_sfr, bh_ns_sai, bh_ns_sar, bh_ns_new, bh_k_new2, bh_fi_new2, bh_fr_new2, bh_ai_new2, bh_ar_new2, bh_nx_new2, bh_nc_new2, bh_ns_new2, Nat.lt_irrefl, Nat.le_refl, bq_le0, bq_neg, bq_nat, bq_lt, bq_le, bq_eq, bn_one, bn_dec, q1])
    by_cases c : Int32.ofNat ((bz_R S g).getD n (0, 0)).1 = v
    · rw [if_pos c]
      (repeat (refine bw_step rfl ?_; simp +decide only [bw_gi_s, bw_ga_s, bw_go_s, bw_w_i, bw_w_a, bw_w_l, bw_sum_n, bw_sum_c, bw_xs_n, bw_iconst, bw_bipush, bw_sipush, bw_ldc, bw_ldc_w, bw_anull, bw_iload0, bw_aload0, bw_istore0, bw_astore0, bw_iload1, bw_aload1, bw_istore1, bw_astore1, bw_iload2, bw_aload2, bw_istore2, bw_astore2, bw_iload3, bw_aload3, bw_istore3, bw_astore3, bw_iload, bw_aload, bw_istore, bw_astore, bw_iinc, bw_iadd, bw_isub, bw_imul, bw_iand, bw_ixor, bw_idiv, bw_irem, bw_i2l, bw_lcmp, bw_dupi, bw_dupa, bw_dup2ia, bw_dup2ii, bw_getf0, bw_getf2, bw_getf1, bw_putf0, bw_putf2, bw_putf1, bw_iaload, bw_baload, bw_laload, bw_aaload, bw_iastore, bw_bastore, bw_lastore, bw_aastore, bw_alen, bw_newa_int, bw_newa_boolean, bw_newa_long, bw_anewa, bw_multi, bw_new, bw_static, bw_virt, bw_obj, bw_t_nop, bw_t_goto, bw_t_eq_z, bw_t_eq_i, bw_t_ne_z, bw_t_ne_i, bw_t_lt_z, bw_t_lt_i, bw_t_ge_z, bw_t_ge_i, bw_t_gt_z, bw_t_gt_i, bw_t_le_z, bw_t_le_i, bw_t_null, bw_t_nonnull, bw_t_switch, bw_t_ireturn0, bw_t_ireturn1, bw_t_areturn, bw_t_return, bw_t_athrow, bw_t_try, List.lookup_cons, List.lookup_nil, bi_st, List.filter_cons, List.filter_nil, List.take_succ_cons, List.take_zero, List.take_nil, List.drop_succ_cons, List.drop_zero, List.reverse_cons, List.reverse_nil, List.nil_append, List.cons_append, Option.toList_some, Option.toList_none, List.length_cons, List.length_nil, bi_loc, List.zipIdx_cons, List.zipIdx_nil, List.map_cons, List.map_nil, List.getD_cons_zero, List.getD_cons_succ, Nat.zero_add, Bool.not_true, Bool.not_false, Bool.false_eq_true, if_true, if_false, ite_true, ite_false, ↓reduceIte, true_and, and_true, Bool.not_eq_true, beq_self_eq_true, Nat.reduceBEq, Nat.reduceEqDiff, Nat.reduceAdd, Nat.reduceLeDiff, Nat.reduceLT, Nat.reduceSub, Nat.reduceMul, Int32.reduceOfInt, Int32.reduceOfNat, Int32.reduceToNatClampNeg, Int32.reduceLT, Int32.reduceLE, Int32.reduceAdd, Int32.reduceSub, Int32.reduceMul, Int32.reduceDiv, Int32.reduceToInt, Int.reduceLT, Int.reduceSub, Int.reduceToNat, not_false_eq_true, ne_eq, or_true, true_or, or_false, false_or, and_false, false_and, not_true_eq_false, reduceCtorEq, and_self, or_self, eq_self, bh_k_sfi, bh_k_sfr, bh_k_sai, bh_k_sar, bh_k_new, bh_fi_sfi, bh_fi_sfr, bh_fi_sai, bh_fi_sar, bh_fi_new, bh_fr_sfi, bh_fr_sfr, bh_fr_sai, bh_fr_sar, bh_fr_new, bh_ai_sfi, bh_ai_sfr, bh_ai_sai, bh_ai_sar, bh_ai_new, bh_ar_sfi, bh_ar_sfr, bh_ar_sai, bh_ar_sar, bh_ar_new, bh_nx_sfi, bh_nx_sfr, bh_nx_sai, bh_nx_sar, bh_nx_new, bh_nc_sfi, bh_nc_sfr, bh_nc_sai, bh_nc_sar, bh_nc_new, bh_ns_sfi, bh_ns_sfr, bh_ns_sai, bh_ns_sar, bh_ns_new, bh_k_new2, bh_fi_new2, bh_fr_new2, bh_ai_new2, bh_ar_new2, bh_nx_new2, bh_nc_new2, bh_ns_new2, Nat.lt_irrefl, Nat.le_refl, bq_le0, bq_neg, bq_nat, bq_lt, bq_le, bq_eq, bn_one, bn_dec, L.k12, L.r31, L.k131, L.r32, L.k132, q1, q2, q3, hg, L.t1 hg, L.t2 hg, L.k61 hg, L.k62 hg, R.a61 hg hn', R.a62 hg hn', c, n0]))
    · rw [if_neg c]
      (refine bw_step rfl ?_; simp +decide only [bw_gi_s, bw_ga_s, bw_go_s, bw_w_i, bw_w_a, bw_w_l, bw_sum_n, bw_sum_c, bw_xs_n, bw_iconst, bw_bipush, bw_sipush, bw_ldc, bw_ldc_w, bw_anull, bw_iload0, bw_aload0, bw_istore0, bw_astore0, bw_iload1, bw_aload1, bw_istore1, bw_astore1, bw_iload2, bw_aload2, bw_istore2, bw_astore2, bw_iload3, bw_aload3, bw_istore3, bw_astore3, bw_iload, bw_aload, bw_istore, bw_astore, bw_iinc, bw_iadd, bw_isub, bw_imul, bw_iand, bw_ixor, bw_idiv, bw_irem, bw_i2l, bw_lcmp, bw_dupi, bw_dupa, bw_dup2ia, bw_dup2ii, bw_getf0, bw_getf2, bw_getf1, bw_putf0, bw_putf2, bw_putf1, bw_iaload, bw_baload, bw_laload, bw_aaload, bw_iastore, bw_bastore, bw_lastore, bw_aastore, bw_alen, bw_newa_int, bw_newa_boolean, bw_newa_long, bw_anewa, bw_multi, bw_new, bw_static, bw_virt, bw_obj, bw_t_nop, bw_t_goto, bw_t_eq_z, bw_t_eq_i, bw_t_ne_z, bw_t_ne_i, bw_t_lt_z, bw_t_lt_i, bw_t_ge_z, bw_t_ge_i, bw_t_gt_z, bw_t_gt_i, bw_t_le_z, bw_t_le_i, bw_t_null, bw_t_nonnull, bw_t_switch, bw_t_ireturn0, bw_t_ireturn1, bw_t_areturn, bw_t_return, bw_t_athrow, bw_t_try, List.lookup_cons, List.lookup_nil, bi_st, List.filter_cons, List.filter_nil, List.take_succ_cons, List.take_zero, List.take_nil, List.drop_succ_cons, List.drop_zero, List.reverse_cons, List.reverse_nil, List.nil_append, List.cons_append, Option.toList_some, Option.toList_none, List.length_cons, List.length_nil, bi_loc, List.zipIdx_cons, List.zipIdx_nil, List.map_cons, List.map_nil, List.getD_cons_zero, List.getD_cons_succ, Nat.zero_add, Bool.not_true, Bool.not_false, Bool.false_eq_true, if_true, if_false, ite_true, ite_false, ↓reduceIte, true_and, and_true, Bool.not_eq_true, beq_self_eq_true, Nat.reduceBEq, Nat.reduceEqDiff, Nat.reduceAdd, Nat.reduceLeDiff, Nat.reduceLT, Nat.reduceSub, Nat.reduceMul, Int32.reduceOfInt, Int32.reduceOfNat, Int32.reduceToNatClampNeg, Int32.reduceLT, Int32.reduceLE, Int32.reduceAdd, Int32.reduceSub, Int32.reduceMul, Int32.reduceDiv, Int32.reduceToInt, Int.reduceLT, Int.reduceSub, Int.reduceToNat, not_false_eq_true, ne_eq, or_true, true_or, or_false, false_or, and_false, false_and, not_true_eq_false, reduceCtorEq, and_self, or_self, eq_self, bh_k_sfi, bh_k_sfr, bh_k_sai, bh_k_sar, bh_k_new, bh_fi_sfi, bh_fi_sfr, bh_fi_sai, bh_fi_sar, bh_fi_new, bh_fr_sfi, bh_fr_sfr, bh_fr_sai, bh_fr_sar, bh_fr_new, bh_ai_sfi, bh_ai_sfr, bh_ai_sai, bh_ai_sar, bh_ai_new, bh_ar_sfi, bh_ar_sfr, bh_ar_sai, bh_ar_sar, bh_ar_new, bh_nx_sfi, bh_nx_sfr, bh_nx_sai, bh_nx_sar, bh_nx_new, bh_nc_sfi, bh_nc_sfr, bh_nc_sai, bh_nc_sar, bh_nc_new, bh_ns_sfi, bh_ns_sfr, bh_ns_sai, bh_ns_sar, bh_ns_new, bh_k_new2, bh_fi_new2, bh_fr_new2, bh_ai_new2, bh_ar_new2, bh_nx_new2, bh_nc_new2, bh_ns_new2, Nat.lt_irrefl, Nat.le_refl, bq_le0, bq_neg, bq_nat, bq_lt, bq_le, bq_eq, bn_one, bn_dec, L.k12, L.r31, L.k131, q1, q2, q3, hg, L.t1 hg, L.k61 hg, R.a61 hg hn', c])
      (refine bw_step rfl ?_; simp +decide only [bw_gi_s, bw_ga_s, bw_go_s, bw_w_i, bw_w_a, bw_w_l, bw_sum_n, bw_sum_c, bw_xs_n, bw_iconst, bw_bipush, bw_sipush, bw_ldc, bw_ldc_w, bw_anull, bw_iload0, bw_aload0, bw_istore0, bw_astore0, bw_iload1, bw_aload1, bw_istore1, bw_astore1, bw_iload2, bw_aload2, bw_istore2, bw_astore2, bw_iload3, bw_aload3, bw_istore3, bw_astore3, bw_iload, bw_aload, bw_istore, bw_astore, bw_iinc, bw_iadd, bw_isub, bw_imul, bw_iand, bw_ixor, bw_idiv, bw_irem, bw_i2l, bw_lcmp, bw_dupi, bw_dupa, bw_dup2ia, bw_dup2ii, bw_getf0, bw_getf2, bw_getf1, bw_putf0, bw_putf2, bw_putf1, bw_iaload, bw_baload, bw_laload, bw_aaload, bw_iastore, bw_bastore, bw_lastore, bw_aastore, bw_alen, bw_newa_int, bw_newa_boolean, bw_newa_long, bw_anewa, bw_multi, bw_new, bw_static, bw_virt, bw_obj, bw_t_nop, bw_t_goto, bw_t_eq_z, bw_t_eq_i, bw_t_ne_z, bw_t_ne_i, bw_t_lt_z, bw_t_lt_i, bw_t_ge_z, bw_t_ge_i, bw_t_gt_z, bw_t_gt_i, bw_t_le_z, bw_t_le_i, bw_t_null, bw_t_nonnull, bw_t_switch, bw_t_ireturn0, bw_t_ireturn1, bw_t_areturn, bw_t_return, bw_t_athrow, bw_t_try, List.lookup_cons, List.lookup_nil, bi_st, List.filter_cons, List.filter_nil, List.take_succ_cons, List.take_zero, List.take_nil, List.drop_succ_cons, List.drop_zero, List.reverse_cons, List.reverse_nil, List.nil_append, List.cons_append, Option.toList_some, Option.toList_none, List.length_cons, List.length_nil, bi_loc, List.zipIdx_cons, List.zipIdx_nil, List.map_cons, List.map_nil, List.getD_cons_zero, List.getD_cons_succ, Nat.zero_add, Bool.not_true, Bool.not_false, Bool.false_eq_true, if_true, if_false, ite_true, ite_false, ↓reduceIte, true_and, and_true, Bool.not_eq_true, beq_self_eq_true, Nat.reduceBEq, Nat.reduceEqDiff, Nat.reduceAdd, Nat.reduceLeDiff, Nat.reduceLT, Nat.reduceSub, Nat.reduceMul, Int32.reduceOfInt, Int32.reduceOfNat, Int32.reduceToNatClampNeg, Int32.reduceLT, Int32.reduceLE, Int32.reduceAdd, Int32.reduceSub, Int32.reduceMul, Int32.reduceDiv, Int32.reduceToInt, Int.reduceLT, Int.reduceSub, Int.reduceToNat, not_false_eq_true, ne_eq, or_true, true_or, or_false, false_or, and_false, false_and, not_true_eq_false, reduceCtorEq, and_self, or_self, eq_self, bh_k_sfi, bh_k_sfr, bh_k_sai, bh_k_sar, bh_k_new, bh_fi_sfi, bh_fi_sfr, bh_fi_sai, bh_fi_sar, bh_fi_new, bh_fr_sfi, bh_fr_sfr, bh_fr_sai, bh_fr_sar, bh_fr_new, bh_ai_sfi, bh_ai_sfr, bh_ai_sai, bh_ai_sar, bh_ai_new, bh_ar_sfi, bh_ar_sfr, bh_ar_sai, bh_ar_sar, bh_ar_new, bh_nx_sfi, bh_nx_sfr, bh_nx_sai, bh_nx_sar, bh_nx_new, bh_nc_sfi, bh_nc_sfr, bh_nc_sai, bh_nc_sar, bh_nc_new, bh_ns_sfi, bh_ns_sfr, bh_ns_sai, bh_ns_sar, bh_ns_new, bh_k_new2, bh_fi_new2, bh_fr_new2, bh_ai_new2, bh_ar_new2, bh_nx_new2, bh_nc_new2, bh_ns_new2, Nat.lt_irrefl, Nat.le_refl, bq_le0, bq_neg, bq_nat, bq_lt, bq_le, bq_eq, bn_one, bn_dec, bq_m1])
      (refine bw_sub2 _ ?_ (nl_lineOf R hg hl v n (by omega)); exact ⟨rfl, rfl, rfl, rfl, trivial⟩)
theorem n_lineOf (R : ms_Q O B H e g0 x y z h S) {g : Nat} (hg : g < 4) (hl : (bz_R S g).length ≤ 9000) (v : Int32) (K : Option bi_V → bi_H → Prop) : bw_C bt_P 56 [.inr (.inl (B 12 0)), .inl (Int32.ofNat g), .inl v] h K ↔ K (some (.inl (Int32.ofNat (ba_rg v (bz_R S g))))) h := by
  have L := R.L
  have q3 : g < 60001 := by omega
  refine bw_C_iff ?_ K
  have := nl_lineOf R hg hl v (bz_R S g).length (Nat.le_refl _)
  rw [List.take_length] at this
  (refine bw_step rfl ?_; simp +decide only [bw_gi_s, bw_ga_s, bw_go_s, bw_w_i, bw_w_a, bw_w_l, bw_sum_n, bw_sum_c, bw_xs_n, bw_iconst, bw_bipush, bw_sipush, bw_ldc, bw_ldc_w, bw_anull, bw_iload0, bw_aload0, bw_istore0, bw_astore0, bw_iload1, bw_aload1, bw_istore1, bw_astore1, bw_iload2, bw_aload2, bw_istore2, bw_astore2, bw_iload3, bw_aload3, bw_istore3, bw_astore3, bw_iload, bw_aload, bw_istore, bw_astore, bw_iinc, bw_iadd, bw_isub, bw_imul, bw_iand, bw_ixor, bw_idiv, bw_irem, bw_i2l, bw_lcmp, bw_dupi, bw_dupa, bw_dup2ia, bw_dup2ii, bw_getf0, bw_getf2, bw_getf1, bw_putf0, bw_putf2, bw_putf1, bw_iaload, bw_baload, bw_laload, bw_aaload, bw_iastore, bw_bastore, bw_lastore, bw_aastore, bw_alen, bw_newa_int, bw_newa_boolean, bw_newa_long, bw_anewa, bw_multi, bw_new, bw_static, bw_virt, bw_obj, bw_t_nop, bw_t_goto, bw_t_eq_z, bw_t_eq_i, bw_t_ne_z, bw_t_ne_i, bw_t_lt_z, bw_t_lt_i, bw_t_ge_z, bw_t_ge_i, bw_t_gt_z, bw_t_gt_i, bw_t_le_z, bw_t_le_i, bw_t_null, bw_t_nonnull, bw_t_switch, bw_t_ireturn0, bw_t_ireturn1, bw_t_areturn, bw_t_return, bw_t_athrow, bw_t_try, List.lookup_cons, List.lookup_nil, bi_st, List.filter_cons, List.filter_nil, List.take_succ_cons, List.take_zero, List.take_nil, List.drop_succ_cons, List.drop_zero, List.reverse_cons, List.reverse_nil, List.nil_append, List.cons_append, Option.toList_some, Option.toList_none, List.length_cons, List.length_nil, bi_loc, List.zipIdx_cons, List.zipIdx_nil, List.map_cons, List.map_nil, List.getD_cons_zero, List.getD_cons_succ, Nat.zero_add, Bool.not_true, Bool.not_false, Bool.false_eq_true, if_true, if_false, ite_true, ite_false, ↓reduceIte, true_and, and_true, Bool.not_eq_true, beq_self_eq_true, Nat.reduceBEq, Nat.reduceEqDiff, Nat.reduceAdd, Nat.reduceLeDiff, Nat.reduceLT, Nat.reduceSub, Nat.reduceMul, Int32.reduceOfInt, Int32.reduceOfNat, Int32.reduceToNatClampNeg, Int32.reduceLT, Int32.reduceLE, Int32.reduceAdd, Int32.reduceSub, Int32.reduceMul, Int32.reduceDiv, Int32.reduceToInt, Int.reduceLT, Int.reduceSub, Int.reduceToNat, not_false_eq_true, ne_eq, or_true, true_or, or_false, false_or, and_false, false_and, not_true_eq_false, reduceCtorEq, and_self, or_self, eq_self, bh_k_sfi, bh_k_sfr, bh_k_sai, bh_k_sar, bh_k_new, bh_fi_sfi, bh_fi_sfr, bh_fi_sai, bh_fi_sar, bh_fi_new, bh_fr_sfi, bh_fr_sfr, bh_fr_sai, bh_fr_sar, bh_fr_new, bh_ai_sfi, bh_ai_sfr, bh_ai_sai, bh_ai_sar, bh_ai_new, bh_ar_sfi, bh_ar_sfr, bh_ar_sai, bh_ar_sar, bh_ar_new, bh_nx_sfi, bh_nx_sfr, bh_nx_sai, bh_nx_sar, bh_nx_new, bh_nc_sfi, bh_nc_sfr, bh_nc_sai, bh_nc_sar, bh_nc_new, bh_ns_sfi, bh_ns_sfr, bh_ns_sai, bh_ns_sar, bh_ns_new, bh_k_new2, bh_fi_new2, bh_fr_new2, bh_ai_new2, bh_ar_new2, bh_nx_new2, bh_nc_new2, bh_ns_new2, Nat.lt_irrefl, Nat.le_refl, bq_le0, bq_neg, bq_nat, bq_lt, bq_le, bq_eq, bn_one, bn_dec, L.k12, L.r33, L.k133, q3, hg, R.a133 hg])
  (refine bw_sub2 _ ?_ (this); exact ⟨rfl, rfl, rfl, rfl, trivial⟩)
/-- cut -/
theorem nl_cut (R : ms_Q O B H e g0 x y z h S) (hW : ba_ok (bz_W S)) {n : Nat} (hn : n < 60001) : ∀ (d k : Nat), k ≤ ba_n (bz_W S) → d = ba_l (bz_W S) k - n → bw_r bt_P 30 1 [(0, .inr (.inl (B 12 0))), (2, .inl (Int32.ofNat n)), (3, .inl (Int32.ofNat k))] [] h (fun o g => o = .inl (some (.inl (Int32.ofNat (ba_up (bz_W S) d k)))) ∧ g = h)
  | 0, k, hk, hd => by
    have L := R.L
    have n6 := hW.1
    have q1 : k < 60001 := by omega
    have q2 : ba_l (bz_W S) k < 60001 := by have := ba_l_le hW k hk; omega
    (repeat (refine bw_step rfl ?_; simp +decide only [bw_gi_s, bw_ga_s, bw_go_s, bw_w_i, bw_w_a, bw_w_l, bw_sum_n, bw_sum_c, bw_xs_n, bw_iconst, bw_bipush, bw_sipush, bw_ldc, bw_ldc_w, bw_anull, bw_iload0, bw_aload0, bw_istore0, bw_astore0, bw_iload1, bw_aload1, bw_istore1, bw_astore1, bw_iload2, bw_aload2, bw_istore2, bw_astore2, bw_iload3, bw_aload3, bw_istore3, bw_astore3, bw_iload, bw_aload, bw_istore, bw_astore, bw_iinc, bw_iadd, bw_isub, bw_imul, bw_iand, bw_ixor, bw_idiv, bw_irem, bw_i2l, bw_lcmp, bw_dupi, bw_dupa, bw_dup2ia, bw_dup2ii, bw_getf0, bw_getf2, bw_getf1, bw_putf0, bw_putf2, bw_putf1, bw_iaload, bw_baload, bw_laload, bw_aaload, bw_iastore, bw_bastore, bw_lastore, bw_aastore, bw_alen, bw_newa_int, bw_newa_boolean, bw_newa_long, bw_anewa, bw_multi, bw_new, bw_static, bw_virt, bw_obj, bw_t_nop, bw_t_goto, bw_t_eq_z, bw_t_eq_i, bw_t_ne_z, bw_t_ne_i, bw_t_lt_z, bw_t_lt_i, bw_t_ge_z, bw_t_ge_i, bw_t_gt_z, bw_t_gt_i, bw_t_le_z, bw_t_le_i, bw_t_null, bw_t_nonnull, bw_t_switch, bw_t_ireturn0, bw_t_ireturn1, bw_t_areturn, bw_t_return, bw_t_athrow, bw_t_try, List.lookup_cons, List.lookup_nil, bi_st, List.filter_cons, List.filter_nil, List.take_succ_cons, List.take_zero, List.take_nil, List.drop_succ_cons, List.drop_zero, List.reverse_cons, List.reverse_nil, List.nil_append, List.cons_append, Option.toList_some, Option.toList_none, List.length_cons, List.length_nil, bi_loc, List.zipIdx_cons, List.zipIdx_nil, List.map_cons, List.map_nil, List.getD_cons_zero, List.getD_cons_succ, Nat.zero_add, Bool.not_true, Bool.not_false, Bool.false_eq_true, if_true, if_false, ite_true, ite_false, ↓reduceIte, true_and, and_true, Bool.not_eq_true, beq_self_eq_true, Nat.reduceBEq, Nat.reduceEqDiff, Nat.reduceAdd, Nat.reduceLeDiff, Nat.reduceLT, Nat.reduceSub, Nat.reduceMul, Int32.reduceOfInt, Int32.reduceOfNat, Int32.reduceToNatClampNeg, Int32.reduceLT, Int32.reduceLE, Int32.reduceAdd, Int32.reduceSub, Int32.reduceMul, Int32.reduceDiv, Int32.reduceToInt, Int.reduceLT, Int.reduceSub, Int.reduceToNat, not_false_eq_true, ne_eq, or_true, true_or, or_false, false_or, and_false, false_and, not_true_eq_false, reduceCtorEq, and_self, or_self, eq_self, bh_k_sfi, bh_k_sfr, bh_k_sai, bh_k_sar, bh_k_new, bh_fi_sfi, bh_fi_sfr, bh_fi_sai, bh_fi_sar, bh_fi_new, bh_fr_sfi, bh_fr_sfr, bh_fr_sai, bh_fr_sar, bh_fr_new, bh_ai_sfi, bh_ai_sfr, bh_ai_sai, bh_ai_sar, bh_ai_new, bh_ar_sfi, bh_ar_sfr, bh_ar_sai, bh_ar_sar, bh_ar_new, bh_nx_sfi, bh_nx_sfr, bh_nx_sai, bh_nx_sar, bh_nx_new, bh_nc_sfi, bh_nc_sfr, bh_nc_sai, bh_nc_sar, bh_nc_new, bh_ns_sfi, bh_ns_sfr, bh_ns_sai, bh_ns_sar, bh_ns_new, bh_k_new2, bh_fi_new2, bh_fr_new2, bh_ai_new2, bh_ar_new2, bh_nx_new2, bh_nc_new2, bh_ns_new2, Nat.lt_irrefl, Nat.le_refl, bq_le0, bq_neg, bq_nat, bq_lt, bq_le, bq_eq, bn_one, bn_dec, L.k12, L.r18, L.k118, q1, q2, hn, R.a118 hk, show ba_l (bz_W S) k ≤ n by omega, ba_up]))
  | d + 1, k, hk, hd => by
    have L := R.L
    have n6 := hW.1
    have q1 : k < 60001 := by omega
    have q2 : ba_l (bz_W S) k < 60001 := by have := ba_l_le hW k hk; omega
    have := nl_cut R hW hn d (ba_b (bz_W S) k) (ba_b_in hW hk) (by rw [ba_l_b hW hk]; omega)
    (refine bw_step rfl ?_; simp +decide only [bw_gi_s, bw_ga_s, bw_go_s, bw_w_i, bw_w_a, bw_w_l, bw_sum_n, bw_sum_c, bw_xs_n, bw_iconst, bw_bipush, bw_sipush, bw_ldc, bw_ldc_w, bw_anull, bw_iload0, bw_aload0, bw_istore0, bw_astore0, bw_iload1, bw_aload1, bw_istore1, bw_astore1, bw_iload2, bw_aload2, bw_istore2, bw_astore2, bw_iload3, bw_aload3, bw_istore3, bw_astore3, bw_iload, bw_aload, bw_istore, bw_astore, bw_iinc, bw_iadd, bw_isub, bw_imul, bw_iand, bw_ixor, bw_idiv, bw_irem, bw_i2l, bw_lcmp, bw_dupi, bw_dupa, bw_dup2ia, bw_dup2ii, bw_getf0, bw_getf2, bw_getf1, bw_putf0, bw_putf2, bw_putf1, bw_iaload, bw_baload, bw_laload, bw_aaload, bw_iastore, bw_bastore, bw_lastore, bw_aastore, bw_alen, bw_newa_int, bw_newa_boolean, bw_newa_long, bw_anewa, bw_multi, bw_new, bw_static, bw_virt, bw_obj, bw_t_nop, bw_t_goto, bw_t_eq_z, bw_t_eq_i, bw_t_ne_z, bw_t_ne_i, bw_t_lt_z, bw_t_lt_i, bw_t_ge_z, bw_t_ge_i, bw_t_gt_z, bw_t_gt_i, bw_t_le_z, bw_t_le_i, bw_t_null, bw_t_nonnull, bw_t_switch, bw_t_ireturn0, bw_t_ireturn1, bw_t_areturn, bw_t_return, bw_t_athrow, bw_t_try, List.lookup_cons, List.lookup_nil, bi_st, List.filter_cons, List.filter_nil, List.take_succ_cons, List.take_zero, List.take_nil, List.drop_succ_cons, List.drop_zero, List.reverse_cons, List.reverse_nil, List.nil_append, List.cons_append, Option.toList_some, Option.toList_none, List.length_cons, List.length_nil, bi_loc, List.zipIdx_cons, List.zipIdx_nil, List.map_cons, List.map_nil, List.getD_cons_zero, List.getD_cons_succ, Nat.zero_add, Bool.not_true, Bool.not_false, Bool.false_eq_true, if_true, if_false, ite_true, ite_false, ↓reduceIte, true_and, and_true, Bool.not_eq_true, beq_self_eq_true, Nat.reduceBEq, Nat.reduceEqDiff, Nat.reduceAdd, Nat.reduceLeDiff, Nat.reduceLT, Nat.reduceSub, Nat.reduceMul, Int32.reduceOfInt, Int32.reduceOfNat, Int32.reduceToNatClampNeg, Int32.reduceLT, Int32.reduceLE, Int32.reduceAdd, Int32.reduceSub, Int32.reduceMul, Int32.reduceDiv, Int32.reduceToInt, Int.reduceLT, Int.reduceSub, Int.reduceToNat, not_false_eq_true, ne_eq, or_true, true_or, or_false, false_or, and_false, false_and, not_true_eq_false, reduceCtorEq, and_self, or_self, eq_self, bh_k_sfi, bh_k_sfr, bh_k_sai, bh_k_sar, bh_k_new, bh_fi_sfi, bh_fi_sfr, bh_fi_sai, bh_fi_sar, bh_fi_new, bh_fr_sfi, bh_fr_sfr, bh_fr_sai, bh_fr_sar, bh_fr_new, bh_ai_sfi, bh_ai_sfr, bh_ai_sai, bh_ai_sar, bh_ai_new, bh_ar_sfi, bh_ar_sfr, bh_ar_sai, bh_ar_sar, bh_ar_new, bh_nx_sfi, bh_nx_sfr, bh_nx_sai, bh_nx_sar, bh_nx_new, bh_nc_sfi, bh_nc_sfr, bh_nc_sai, bh_nc_sar, bh_nc_new, bh_ns_sfi, bh_ns_sfr, bh_ns_sai, bh_ns_sar, bh_ns_new, bh_k_new2, bh_fi_new2, bh_fr_new2, bh_ai_new2, bh_ar_new2, bh_nx_new2, bh_nc_new2, bh_ns_new2, Nat.lt_irrefl, Nat.le_refl, bq_le0, bq_neg, bq_nat, bq_lt, bq_le, bq_eq, bn_one, bn_dec, L.k12, L.r18, L.k118, q1, q2, hn, R.a118 hk, show ¬ ba_l (bz_W S) k ≤ n by omega])
    (refine bw_step rfl ?_; simp +decide only [bw_gi_s, bw_ga_s, bw_go_s, bw_w_i, bw_w_a, bw_w_l, bw_sum_n, bw_sum_c, bw_xs_n, bw_iconst, bw_bipush, bw_sipush, bw_ldc, bw_ldc_w, bw_anull, bw_iload0, bw_aload0, bw_istore0, bw_astore0, bw_iload1, bw_aload1, bw_istore1, bw_astore1, bw_iload2, bw_aload2, bw_istore2, bw_astore2, bw_iload3, bw_aload3, bw_istore3, bw_astore3, bw_iload, bw_aload, bw_istore, bw_astore, bw_iinc, bw_iadd, bw_isub, bw_imul, bw_iand, bw_ixor, bw_idiv, bw_irem, bw_i2l, bw_lcmp, bw_dupi, bw_dupa, bw_dup2ia, bw_dup2ii, bw_getf0, bw_getf2, bw_getf1, bw_putf0, bw_putf2, bw_putf1, bw_iaload, bw_baload, bw_laload, bw_aaload, bw_iastore, bw_bastore, bw_lastore, bw_aastore, bw_alen, bw_newa_int, bw_newa_boolean, bw_newa_long, bw_anewa, bw_multi, bw_new, bw_static, bw_virt, bw_obj, bw_t_nop, bw_t_goto, bw_t_eq_z, bw_t_eq_i, bw_t_ne_z, bw_t_ne_i, bw_t_lt_z, bw_t_lt_i, bw_t_ge_z, bw_t_ge_i, bw_t_gt_z, bw_t_gt_i, bw_t_le_z, bw_t_le_i, bw_t_null, bw_t_nonnull, bw_t_switch, bw_t_ireturn0, bw_t_ireturn1, bw_t_areturn, bw_t_return, bw_t_athrow, bw_t_try, List.lookup_cons, List.lookup_nil, bi_st, List.filter_cons, List.filter_nil, List.take_succ_cons, List.take_zero, List.take_nil, List.drop_succ_cons, List.drop_zero, List.reverse_cons, List.reverse_nil, List.nil_append, List.cons_append, Option.toList_some, Option.toList_none, List.length_cons, List.length_nil, bi_loc, List.zipIdx_cons, List.zipIdx_nil, List.map_cons, List.map_nil, List.getD_cons_zero, List.getD_cons_succ, Nat.zero_add, Bool.not_true, Bool.not_false, Bool.false_eq_true, if_true, if_false, ite_true, ite_false, ↓reduceIte, true_and, and_true, Bool.not_eq_true, beq_self_eq_true, Nat.reduceBEq, Nat.reduceEqDiff, Nat.reduceAdd, Nat.reduceLeDiff, Nat.reduceLT, Nat.reduceSub, Nat.reduceMul, Int32.reduceOfInt, Int32.reduceOfNat, Int32.reduceToNatClampNeg, Int32.reduceLT, Int32.reduceLE, Int32.reduceAdd, Int32.reduceSub, Int32.reduceMul, Int32.reduceDiv, Int32.reduceToInt, Int.reduceLT, Int.reduceSub, Int.reduceToNat, not_false_eq_true, ne_eq, or_true, true_or, or_false, false_or, and_false, false_and, not_true_eq_false, reduceCtorEq, and_self, or_self, eq_self, bh_k_sfi, bh_k_sfr, bh_k_sai, bh_k_sar, bh_k_new, bh_fi_sfi, bh_fi_sfr, bh_fi_sai, bh_fi_sar, bh_fi_new, bh_fr_sfi, bh_fr_sfr, bh_fr_sai, bh_fr_sar, bh_fr_new, bh_ai_sfi, bh_ai_sfr, bh_ai_sai, bh_ai_sar, bh_ai_new, bh_ar_sfi, bh_ar_sfr, bh_ar_sai, bh_ar_sar, bh_ar_new, bh_nx_sfi, bh_nx_sfr, bh_nx_sai, bh_nx_sar, bh_nx_new, bh_nc_sfi, bh_nc_sfr, bh_nc_sai, bh_nc_sar, bh_nc_new, bh_ns_sfi, bh_ns_sfr, bh_ns_sai, bh_ns_sar, bh_ns_new, bh_k_new2, bh_fi_new2, bh_fr_new2, bh_ai_new2, bh_ar_new2, bh_nx_new2, bh_nc_new2, bh_ns_new2, Nat.lt_irrefl, Nat.le_refl, bq_le0, bq_neg, bq_nat, bq_lt, bq_le, bq_eq, bn_one, bn_dec, L.k12, L.r15, L.k115, q1, R.a115 hk])
    (refine bw_sub2 _ ?_ (this); exact ⟨rfl, rfl, rfl, trivial⟩)
theorem n_cut (R : ms_Q O B H e g0 x y z h S) (hW : ba_ok (bz_W S)) {n k : Nat} (hn : n < 60001) (hk : k ≤ ba_n (bz_W S)) (K : Option bi_V → bi_H → Prop) : bw_C bt_P 30 [.inr (.inl (B 12 0)), .inl (Int32.ofNat k), .inl (Int32.ofNat n)] h K ↔ K (some (.inl (Int32.ofNat (ba_up (bz_W S) (ba_l (bz_W S) k - n) k)))) h := by
  refine bw_C_iff ?_ K
  (refine bw_step rfl ?_; simp +decide only [bw_gi_s, bw_ga_s, bw_go_s, bw_w_i, bw_w_a, bw_w_l, bw_sum_n, bw_sum_c, bw_xs_n, bw_iconst, bw_bipush, bw_sipush, bw_ldc, bw_ldc_w, bw_anull, bw_iload0, bw_aload0, bw_istore0, bw_astore0, bw_iload1, bw_aload1, bw_istore1, bw_astore1, bw_iload2, bw_aload2, bw_istore2, bw_astore2, bw_iload3, bw_aload3, bw_istore3, bw_astore3, bw_iload, bw_aload, bw_istore, bw_astore, bw_iinc, bw_iadd, bw_isub, bw_imul, bw_iand, bw_ixor, bw_idiv, bw_irem, bw_i2l, bw_lcmp, bw_dupi, bw_dupa, bw_dup2ia, bw_dup2ii, bw_getf0, bw_getf2, bw_getf1, bw_putf0, bw_putf2, bw_putf1, bw_iaload, bw_baload, bw_laload, bw_aaload, bw_iastore, bw_bastore, bw_lastore, bw_aastore, bw_alen, bw_newa_int, bw_newa_boolean, bw_newa_long, bw_anewa, bw_multi, bw_new, bw_static, bw_virt, bw_obj, bw_t_nop, bw_t_goto, bw_t_eq_z, bw_t_eq_i, bw_t_ne_z, bw_t_ne_i, bw_t_lt_z, bw_t_lt_i, bw_t_ge_z, bw_t_ge_i, bw_t_gt_z, bw_t_gt_i, bw_t_le_z, bw_t_le_i, bw_t_null, bw_t_nonnull, bw_t_switch, bw_t_ireturn0, bw_t_ireturn1, bw_t_areturn, bw_t_return, bw_t_athrow, bw_t_try, List.lookup_cons, List.lookup_nil, bi_st, List.filter_cons, List.filter_nil, List.take_succ_cons, List.take_zero, List.take_nil, List.drop_succ_cons, List.drop_zero, List.reverse_cons, List.reverse_nil, List.nil_append, List.cons_append, Option.toList_some, Option.toList_none, List.length_cons, List.length_nil, bi_loc, List.zipIdx_cons, List.zipIdx_nil, List.map_cons, List.map_nil, List.getD_cons_zero, List.getD_cons_succ, Nat.zero_add, Bool.not_true, Bool.not_false, Bool.false_eq_true, if_true, if_false, ite_true, ite_false, ↓reduceIte, true_and, and_true, Bool.not_eq_true, beq_self_eq_true, Nat.reduceBEq, Nat.reduceEqDiff, Nat.reduceAdd, Nat.reduceLeDiff, Nat.reduceLT, Nat.reduceSub, Nat.reduceMul, Int32.reduceOfInt, Int32.reduceOfNat, Int32.reduceToNatClampNeg, Int32.reduceLT, Int32.reduceLE, Int32.reduceAdd, Int32.reduceSub, Int32.reduceMul, Int32.reduceDiv, Int32.reduceToInt, Int.reduceLT, Int.reduceSub, Int.reduceToNat, not_false_eq_true, ne_eq, or_true, true_or, or_false, false_or, and_false, false_and, not_true_eq_false, reduceCtorEq, and_self, or_self, eq_self, bh_k_sfi, bh_k_sfr, bh_k_sai, bh_k_sar, bh_k_new, bh_fi_sfi, bh_fi_sfr, bh_fi_sai, bh_fi_sar, bh_fi_new, bh_fr_sfi, bh_fr_sfr, bh_fr_sai, bh_fr_sar, bh_fr_new, bh_ai_sfi, bh_ai_sfr, bh_ai_sai, bh_ai_sar, bh_ai_new, bh_ar_sfi, bh_ar_sfr, bh_ar_sai, bh_ar_sar, bh_ar_new, bh_nx_sfi, bh_nx_sfr, bh_nx_sai, bh_nx_sar, bh_nx_new, bh_nc_sfi, bh_nc_sfr, bh_nc_sai, bh_nc_sar, bh_nc_new, bh_ns_sfi, bh_ns_sfr, bh_ns_sai, bh_ns_sar, bh_ns_new, bh_k_new2, bh_fi_new2, bh_fr_new2, bh_ai_new2, bh_ar_new2, bh_nx_new2, bh_nc_new2, bh_ns_new2, Nat.lt_irrefl, Nat.le_refl, bq_le0, bq_neg, bq_nat, bq_lt, bq_le, bq_eq, bn_one, bn_dec])
  (refine bw_sub2 _ ?_ (nl_cut R hW hn (ba_l (bz_W S) k - n) k hk rfl); exact ⟨rfl, rfl, rfl, trivial⟩)
end ML
