/-! the class's heap shows a state; the rounds of its marks: at most z -/
def cs_Q (A : Nat → Nat → Nat) (h0 : bi_H) (x y z : Nat) (h : bi_H) (S : ba_S) : Prop := ∃ r, r ≤ z ∧ cs_R A h0 x y h (bz_sr S r)
section CQ
variable {A : Nat → Nat → Nat} {h0 h : bi_H} {x y z : Nat} {S : ba_S} {s : Nat}
theorem cs_Q.w (Q : cs_Q A h0 x y z h S) : cw_R A (bz_pool S) (bz_W S) h := by
  obtain ⟨r, -, R⟩ := Q
  exact R.w
theorem cs_Q.up (Q : cs_Q A h0 x y z h S) {z' : Nat} (hz : z ≤ z') : cs_Q A h0 x y z' h S := by
  obtain ⟨r, hr, R⟩ := Q
  exact ⟨r, Nat.le_trans hr hz, R⟩
theorem cs_Q.ne (Q : cs_Q A h0 x y z h S) {c i c' i' : Nat} (hi : i < ca_bd c) (hi' : i' < ca_bd c') (hn : c ≠ c' ∨ i ≠ i') : (A c i = A c' i') = False := Q.w.ne hi hi' hn
theorem cs_Q.f6 (Q : cs_Q A h0 x y z h S) (hs : s < 8) (k : Nat) : bi_fi h 6 k (A 6 s) = bs_c (bz_T S s) k := by
  obtain ⟨r, -, R⟩ := Q
  exact R.f6 hs k
theorem cs_Q.f5 (Q : cs_Q A h0 x y z h S) (hs : s < 8) (k : Nat) : bi_fi h 5 k (A 5 s) = bs_g (bz_T S s) k := by
  obtain ⟨r, -, R⟩ := Q
  exact R.f5 hs k
theorem cs_Q.v (Q : cs_Q A h0 x y z h S) (hs : s < 8) : ca_v A (bz_W S) (bz_D S (s % 4)) (bz_T S s) s h := by
  obtain ⟨r, -, R⟩ := Q
  exact R.v hs
theorem cs_Q.f71 (Q : cs_Q A h0 x y z h S) (hs : s < 8) : bi_fi h 7 1 (A 7 s) = Int32.ofNat (bz_D S (s % 4)).1 := by
  obtain ⟨r, -, R⟩ := Q
  exact R.f71 hs
theorem cs_Q.f72 (Q : cs_Q A h0 x y z h S) (hs : s < 8) : bi_fi h 7 2 (A 7 s) = Int32.ofNat (bz_D S (s % 4)).2 := by
  obtain ⟨r, -, R⟩ := Q
  exact R.f72 hs
theorem cs_Q.f74 (Q : cs_Q A h0 x y z h S) (hs : s < 8) : bi_fi h 7 4 (A 7 s) = Int32.ofNat (bs_now (bz_T S s)) := by
  obtain ⟨r, -, R⟩ := Q
  exact R.f74 hs
theorem cs_Q.f75 (Q : cs_Q A h0 x y z h S) (hs : s < 8) : bi_fi h 7 5 (A 7 s) = Int32.ofNat (bs_safe (bz_T S s)) := by
  obtain ⟨r, -, R⟩ := Q
  exact R.f75 hs
theorem cs_Q.f76 (Q : cs_Q A h0 x y z h S) (hs : s < 8) : bi_fi h 7 6 (A 7 s) = Int32.ofNat (bs_kept (bz_T S s)) := by
  obtain ⟨r, -, R⟩ := Q
  exact R.f76 hs
theorem cs_Q.f79 (Q : cs_Q A h0 x y z h S) (hs : s < 8) : bi_fi h 7 9 (A 7 s) = Int32.ofNat (bs_sn (bz_T S s)).length := by
  obtain ⟨r, -, R⟩ := Q
  exact R.f79 hs
theorem cs_Q.f710 (Q : cs_Q A h0 x y z h S) (hs : s < 8) : bi_fi h 7 10 (A 7 s) = Int32.ofNat (bs_need (bz_W S) (bz_T S s)) := by
  obtain ⟨r, -, R⟩ := Q
  exact R.f710 hs
theorem cs_Q.a55 (Q : cs_Q A h0 x y z h S) (hs : s < 8) {i : Nat} (hi : i < (bs_sn (bz_T S s)).length) : bi_ai h (A 55 s) i = Int32.ofNat ((bs_sn (bz_T S s)).getD i (0, 0)).1 := by
  obtain ⟨r, -, R⟩ := Q
  exact R.a55 hs hi
theorem cs_Q.a56 (Q : cs_Q A h0 x y z h S) (hs : s < 8) {i : Nat} (hi : i < (bs_sn (bz_T S s)).length) : bi_ai h (A 56 s) i = Int32.ofNat ((bs_sn (bz_T S s)).getD i (0, 0)).2 := by
  obtain ⟨r, -, R⟩ := Q
  exact R.a56 hs hi
theorem cs_Q.a54 (Q : cs_Q A h0 x y z h S) (hs : s < 8) {p : Nat} (hp : p < 32768) : bi_ai h (A 54 s) p = Int32.ofNat (ba_last (bz_W S) (bs_now (bz_T S s)) p) := by
  obtain ⟨r, -, R⟩ := Q
  exact R.a54 hs hp
theorem cs_Q.f4 (Q : cs_Q A h0 x y z h S) {i : Nat} (hi : i < 2) (k : Nat) : bi_fi h 4 k (A 4 i) = bz_I S i k := by
  obtain ⟨r, -, R⟩ := Q
  exact R.f4 hi k
theorem cs_Q.f9 (Q : cs_Q A h0 x y z h S) (k : Nat) : bi_fi h 9 k (A 9 0) = bz_G S k := by
  obtain ⟨r, -, R⟩ := Q
  exact R.f9 k
theorem cs_Q.f0 (Q : cs_Q A h0 x y z h S) (k : Nat) : bi_fi h 0 k (A 0 0) = bz_L S k := by
  obtain ⟨r, -, R⟩ := Q
  exact R.f0 k
theorem cs_Q.m (Q : cs_Q A h0 x y z h S) {i : Nat} (hi : i < (bz_F S).length) : ca_g A h (bi_ar h (A 50 0) i) ((bz_F S).getD i (fun _ => 0, [])) := by
  obtain ⟨r, -, R⟩ := Q
  exact R.m hi
theorem cs_Q.vs (Q : cs_Q A h0 x y z h S) (hs : s < 8) (hW : ba_ok (bz_W S)) (o : bs_ok (bz_W S) (bz_T S s)) : cv_s A s (bz_W S) (bs_sn (bz_T S s)) h := by
  obtain ⟨r, -, R⟩ := Q
  exact R.vs hs hW o
theorem cs_Q.sc (Q : cs_Q A h0 x y z h S) (hs : s < 8) (k : Nat) (v : Int32) : cs_Q A h0 x y z (bi_sfi h 6 k (A 6 s) v) (bz_sT S s (bs_sc (bz_T S s) k v)) := by
  obtain ⟨r, hr, R⟩ := Q
  exact ⟨r, hr, R.sc hs k v⟩
theorem cs_Q.sg (Q : cs_Q A h0 x y z h S) (hs : s < 8) (k : Nat) (v : Int32) : cs_Q A h0 x y z (bi_sfi h 5 k (A 5 s) v) (bz_sT S s (bs_sg (bz_T S s) k v)) := by
  obtain ⟨r, hr, R⟩ := Q
  exact ⟨r, hr, R.sg hs k v⟩
theorem cs_Q.sI (Q : cs_Q A h0 x y z h S) {i : Nat} (hi : i < 2) (k : Nat) (v : Int32) : cs_Q A h0 x y z (bi_sfi h 4 k (A 4 i) v) (bz_sI S i k v) := by
  obtain ⟨r, hr, R⟩ := Q
  exact ⟨r, hr, R.sI hi k v⟩
theorem cs_Q.sG (Q : cs_Q A h0 x y z h S) {k : Nat} (hk : k ≠ 0) (v : Int32) : cs_Q A h0 x y z (bi_sfi h 9 k (A 9 0) v) (bz_sG S k v) := by
  obtain ⟨r, hr, R⟩ := Q
  exact ⟨r, hr, R.sG hk v⟩
theorem cs_Q.sL (Q : cs_Q A h0 x y z h S) (k : Nat) (v : Int32) : cs_Q A h0 x y z (bi_sfi h 0 k (A 0 0) v) (bz_sL S k v) := by
  obtain ⟨r, hr, R⟩ := Q
  exact ⟨r, hr, R.sL k v⟩
end CQ
/-! what is fixed, or within bounds, in every state -/
def bz_ok (S : ba_S) : Prop :=
  ba_ok (bz_W S) ∧ (∀ s, s < 8 → bs_ok (bz_W S) (bz_T S s) ∧ bs_c (bz_T S s) 0 = Int32.ofNat s) ∧ (bz_G S 1 = Int32.ofNat (bz_keep S) ∧ 2 ≤ bz_keep S ∧ bz_keep S ≤ 8) ∧ (bz_G S 0 = Int32.ofNat (bz_pool S) ∧ bz_pool S ≤ 8192) ∧ (bz_G S 2 = Int32.ofNat (bz_win S) ∧ 1 ≤ bz_win S ∧ bz_win S ≤ 8) ∧ (bz_G S 7 = Int32.ofNat (bz_N S) ∧ bz_N S ≤ 4) ∧ (bz_L S 1 = Int32.ofNat (bz_F S).length ∧ (bz_F S).length ≤ 60) ∧ (∀ i, i < 2 → bz_I S i 0 = Int32.ofNat i ∧ (bz_I S i 1 = 0 ∨ bz_I S i 1 = 1)) ∧ (∀ g, g < 4 → (bz_D S g).1 ≤ 8 ∧ (bz_D S g).2 ≤ 4096) ∧ ∀ g ∈ bz_F S, ∃ s, s < 8 ∧ s % 4 < bz_N S ∧ g.1 1 = Int32.ofNat s
section BZ
variable {S : ba_S}
theorem bz_ok.W (I : bz_ok S) : ba_ok (bz_W S) := I.1
theorem bz_ok.o (I : bz_ok S) {s : Nat} (hs : s < 8) : bs_ok (bz_W S) (bz_T S s) := (I.2.1 s hs).1
theorem bz_ok.no (I : bz_ok S) {s : Nat} (hs : s < 8) : bs_c (bz_T S s) 0 = Int32.ofNat s := (I.2.1 s hs).2
theorem bz_ok.kp (I : bz_ok S) : bz_G S 1 = Int32.ofNat (bz_keep S) ∧ 2 ≤ bz_keep S ∧ bz_keep S ≤ 8 := I.2.2.1
theorem bz_ok.pl (I : bz_ok S) : bz_G S 0 = Int32.ofNat (bz_pool S) ∧ bz_pool S ≤ 8192 := I.2.2.2.1
theorem bz_ok.wi (I : bz_ok S) : bz_G S 2 = Int32.ofNat (bz_win S) ∧ 1 ≤ bz_win S ∧ bz_win S ≤ 8 := I.2.2.2.2.1
theorem bz_ok.gr (I : bz_ok S) : bz_G S 7 = Int32.ofNat (bz_N S) ∧ bz_N S ≤ 4 := I.2.2.2.2.2.1
theorem bz_ok.fl (I : bz_ok S) : bz_L S 1 = Int32.ofNat (bz_F S).length ∧ (bz_F S).length ≤ 60 := I.2.2.2.2.2.2.1
theorem bz_ok.si (I : bz_ok S) {i : Nat} (hi : i < 2) : bz_I S i 0 = Int32.ofNat i ∧ (bz_I S i 1 = 0 ∨ bz_I S i 1 = 1) := I.2.2.2.2.2.2.2.1 i hi
theorem bz_ok.dd (I : bz_ok S) {g : Nat} (hg : g < 4) : (bz_D S g).1 ≤ 8 ∧ (bz_D S g).2 ≤ 4096 := I.2.2.2.2.2.2.2.2.1 g hg
theorem bz_ok.ms (I : bz_ok S) : ∀ g ∈ bz_F S, ∃ s, s < 8 ∧ s % 4 < bz_N S ∧ g.1 1 = Int32.ofNat s := I.2.2.2.2.2.2.2.2.2
theorem bz_ok.sT (I : bz_ok S) {s : Nat} {t : ba_T} (o : bs_ok (bz_W S) t) (h0 : bs_c t 0 = bs_c (bz_T S s) 0) : bz_ok (bz_sT S s t) := by
  refine ⟨I.1, fun s' hs' => ?_, I.2.2⟩
  show bs_ok (bz_W S) (ba_u (bz_T S) s t s') ∧ bs_c (ba_u (bz_T S) s t s') 0 = _
  unfold ba_u
  split
  · rename_i e
    subst e
    exact ⟨o, h0.trans (I.no hs')⟩
  · exact I.2.1 s' hs'
theorem bs_ok.of {W : ba_W} {t t' : ba_T} (o : bs_ok W t) (e1 : t'.2.2.1 = t.2.2.1) (e2 : bs_sn t' = bs_sn t) : bs_ok W t' := by
  have a1 : bs_now t' = bs_now t := congrArg (fun q => q.1) e1
  have a2 : bs_safe t' = bs_safe t := congrArg (fun q => q.2.1) e1
  have a3 : bs_kept t' = bs_kept t := congrArg (fun q => q.2.2) e1
  unfold bs_ok
  rw [a1, a2, a3, e2]
  exact o
theorem bz_ok.sc (I : bz_ok S) {s : Nat} (hs : s < 8) {k : Nat} (hk : k ≠ 0) (v : Int32) : bz_ok (bz_sT S s (bs_sc (bz_T S s) k v)) := I.sT ((I.o hs).of rfl rfl) (ba_u_ne _ _ (by omega))
theorem bz_ok.sc' {s : Nat} {t : ba_T} (I : bz_ok (bz_sT S s t)) (hs : s < 8) {k : Nat} (hk : k ≠ 0) (v : Int32) : bz_ok (bz_sT S s (bs_sc t k v)) := by
  have := I.sc hs hk v
  rw [bz_T_same, bz_sT_sT] at this
  exact this
theorem bz_ok.I' (I : bz_ok S) {f : Nat → Nat → Int32} (h : ∀ i, i < 2 → f i 0 = Int32.ofNat i ∧ (f i 1 = 0 ∨ f i 1 = 1)) : bz_ok (S.1, S.2.1, S.2.2.1, f, S.2.2.2.2) := ⟨I.1, I.2.1, I.2.2.1, I.2.2.2.1, I.2.2.2.2.1, I.2.2.2.2.2.1, I.2.2.2.2.2.2.1, h, I.2.2.2.2.2.2.2.2.1, I.2.2.2.2.2.2.2.2.2⟩
theorem bz_ok.sI (I : bz_ok S) {i k : Nat} {v : Int32} (h : k = 2 ∨ k = 3 ∨ (k = 1 ∧ (v = 0 ∨ v = 1))) : bz_ok (bz_sI S i k v) := by
  refine I.I' (fun j hj => ?_)
  show ba_u (bz_I S) i (ba_u (bz_I S i) k v) j 0 = _ ∧ (ba_u (bz_I S) i (ba_u (bz_I S i) k v) j 1 = 0 ∨ ba_u (bz_I S) i (ba_u (bz_I S i) k v) j 1 = 1)
  have := I.si hj
  by_cases e : j = i
  · subst e
    rw [ba_u_same, ba_u_ne _ _ (show 0 ≠ k by omega)]
    refine ⟨this.1, ?_⟩
    rcases h with h | h | ⟨h, hv⟩
    · rw [ba_u_ne _ _ (by omega)]
      exact this.2
    · rw [ba_u_ne _ _ (by omega)]
      exact this.2
    · subst h
      rw [ba_u_same]
      exact hv
  · rw [ba_u_ne _ _ e]
    exact this
theorem bz_ok.act (I : bz_ok S) (i : Nat) : bz_ok (bx_act S i) := by
  unfold bx_act
  split
  · exact (I.sI (Or.inr (Or.inr ⟨rfl, Or.inl rfl⟩))).sI (Or.inr (Or.inl rfl))
  · split
    · exact (I.sI (Or.inr (Or.inl rfl))).sI (Or.inl rfl)
    · exact I.sI (Or.inl rfl)
theorem bz_ok.acts : ∀ (n : Nat) (S : ba_S) (i : Nat), bz_ok S → bz_ok (bx_acts n S i).1
  | 0, _, _, I => I
  | n + 1, S, i, I => by
    unfold bx_acts
    split
    · exact I.act i
    · exact bz_ok.acts n _ i (I.act i)
end BZ
theorem bx_act_r (S : ba_S) (r i : Nat) : bx_act (bz_sr S r) i = bz_sr (bx_act S i) r := by
  have e : bz_I (bz_sr S r) = bz_I S := rfl
  unfold bx_act
  rw [e]
  split
  · rfl
  · split <;> rfl
theorem bx_acts_r : ∀ (n : Nat) (S : ba_S) (r i : Nat), bx_acts n (bz_sr S r) i = (bz_sr (bx_acts n S i).1 r, (bx_acts n S i).2)
  | 0, _, _, _ => rfl
  | n + 1, S, r, i => by
    have e : bz_I (bz_sr S r) = bz_I S := rfl
    unfold bx_acts
    rw [e, bx_act_r]
    split
    · rfl
    · exact bx_acts_r n _ r i
theorem bx_act_I (S : ba_S) (i : Nat) (h : bz_I S i 3 ≠ 0) : bz_I (bx_act S i) i 1 = bz_I S i 1 := by
  unfold bx_act
  rw [if_neg h]
  have e : ∀ (S : ba_S) (k : Nat) (v : Int32), k ≠ 1 → bz_I (bz_sI S i k v) i 1 = bz_I S i 1 := fun S k v hk => by
    show ba_u (bz_I S) i (ba_u (bz_I S i) k v) i 1 = _
    rw [ba_u_same, ba_u_ne _ _ (fun z => hk z.symm)]
  rw [e _ _ _ (by decide)]
  split
  · exact e _ _ _ (by decide)
  · rfl
section CQ
variable {A : Nat → Nat → Nat} {h0 h : bi_H} {x y z : Nat} {S : ba_S} {s : Nat}
theorem q_act (Q : cs_Q A h0 x y z h S) {i : Nat} (hi : i < 2) : ∃ h', (∀ K : Option bi_V → bi_H → Prop, bw_C bt_P 102 [.inr (.inl (A 4 i))] h K ↔ K (some (.inl (if bz_I S i 3 = 0 then 0 else 1))) h') ∧ cs_Q A h0 x y z h' (bx_act S i) := by
  obtain ⟨r, hr, R⟩ := Q
  obtain ⟨h', e, R'⟩ := c_act R hi
  rw [bx_act_r] at R'
  exact ⟨h', e, r, hr, R'⟩
theorem q_acts (Q : cs_Q A h0 x y z h S) {i : Nat} (hi : i < 2) {n : Nat} (hn : n < 2147483648) : ∃ h', (∀ K : Option bi_V → bi_H → Prop, bw_C bt_P 103 [.inr (.inl (A 4 i)), .inl (Int32.ofNat n)] h K ↔ K (some (.inl (if (bx_acts n S i).2 = true then 1 else 0))) h') ∧ cs_Q A h0 x y z h' (bx_acts n S i).1 := by
  obtain ⟨r, hr, R⟩ := Q
  obtain ⟨h', e, R'⟩ := c_acts R hi hn
  rw [bx_acts_r] at R' e
  exact ⟨h', e, r, hr, R'⟩
theorem q_no (Q : cs_Q A h0 x y z h S) (hW : ba_ok (bz_W S)) (hz : z + 1 < 2147483648) {k f : Nat} (hk : k ≤ ba_n (bz_W S)) (hf : f ≤ ba_l (bz_W S) k) : ∃ h', (∀ K : Option bi_V → bi_H → Prop, bw_C bt_P 153 [.inr (.inl (A 8 0)), .inl (Int32.ofNat k), .inl (Int32.ofNat f)] h K ↔ K (some (.inl (Int32.ofNat (ba_no (bz_W S) [] (ba_l (bz_W S) k - f) k)))) h') ∧ cs_Q A h0 x y (z + 1) h' S := by
  obtain ⟨r, hr, R⟩ := Q
  obtain ⟨h', e, R'⟩ := c_no (S := bz_sr S r) R hW (show r + 1 < 2147483648 by omega) hk hf
  exact ⟨h', e, r + 1, by omega, R'⟩
theorem q_save (Q : cs_Q A h0 x y z h S) (I : bz_ok S) (hs : s < 8) : ∃ h', (∀ K : Option bi_V → bi_H → Prop, bw_C bt_P 148 [.inr (.inl (A 7 s)), .inl 8] h K ↔ K none h') ∧ cs_Q A h0 x y z h' (bx_save S s) := by
  obtain ⟨r, hr, R⟩ := Q
  obtain ⟨h', e, R'⟩ := c_save (S := bz_sr S r) R I.W hs (I.o hs)
  exact ⟨h', e, r, hr, R'⟩
theorem q_keep (Q : cs_Q A h0 x y z h S) (I : bz_ok S) (hs : s < 8) : ∃ h', (∀ K : Option bi_V → bi_H → Prop, bw_C bt_P 132 [.inr (.inl (A 7 s))] h K ↔ K none h') ∧ cs_Q A h0 x y z h' (bz_sT S s (bs_sl (bz_T S s) (bs_now (bz_T S s), bs_now (bz_T S s), bs_now (bz_T S s)))) := by
  obtain ⟨r, hr, R⟩ := Q
  obtain ⟨h', e, R'⟩ := c_keep (S := bz_sr S r) R I.W hs (I.o hs)
  exact ⟨h', e, r, hr, R'⟩
theorem q_shelve (Q : cs_Q A h0 x y z h S) (I : bz_ok S) (hs : s < 8) (hkn : bs_kept (bz_T S s) = bs_now (bz_T S s)) (v : Int32) (hv : Int32.ofNat v.toNatClampNeg = v) : ∃ h', (∀ K : Option bi_V → bi_H → Prop, bw_C bt_P 149 [.inr (.inl (A 7 s)), .inl v] h K ↔ K none h') ∧ cs_Q A h0 x y z h' (bz_sT S s (bs_snap (bz_T S s) v)) := by
  obtain ⟨r, hr, R⟩ := Q
  obtain ⟨h', e, R'⟩ := c_shelve (S := bz_sr S r) R I.W hs (I.o hs) hkn v.toNatClampNeg
  rw [hv] at e
  exact ⟨h', e, r, hr, R'⟩
theorem q_thin (Q : cs_Q A h0 x y z h S) (I : bz_ok S) (hs : s < 8) : ∃ h', (∀ K : Option bi_V → bi_H → Prop, bw_C bt_P 121 [.inr (.inl (A 6 s)), .inl (bz_G S 1)] h K ↔ K none h') ∧ cs_Q A h0 x y z h' (bx_thin S s) := by
  obtain ⟨r, hr, R⟩ := Q
  obtain ⟨h', e, R'⟩ := c_thin (S := bz_sr S r) R I.W hs (I.o hs) I.kp.1 I.kp.2.2
  exact ⟨h', e, r, hr, R'⟩
theorem q_put (Q : cs_Q A h0 x y z h S) (I : bz_ok S) (hs : s < 8) (hn : ba_n (bz_W S) < 60000) {q : Nat} (hq : q < 32768) (v : Int32) (hg : bs_now (bz_T S s) ≠ 0 → ba_g (bz_W S) (bs_now (bz_T S s)) = s % 4) : ∃ h', (∀ K : Option bi_V → bi_H → Prop, bw_C bt_P 145 [.inr (.inl (A 7 s)), .inl (Int32.ofNat q), .inl v] h K ↔ K none h') ∧ cs_Q A h0 x y z h' (bx_put S s q v) := by
  obtain ⟨r, hr, R⟩ := Q
  obtain ⟨h', e, R'⟩ := c_put (S := bz_sr S r) R I.W hs (fun s hs => I.o hs) hn hq v hg
  exact ⟨h', e, r, hr, R'⟩
theorem q_lose (Q : cs_Q A h0 x y z h S) (I : bz_ok S) (hs : s < 8) : ∃ h', (∀ K : Option bi_V → bi_H → Prop, bw_C bt_P 139 [.inr (.inl (A 7 s))] h K ↔ K (some (.inl (Int32.ofNat (bs_pend (bz_W S) (bz_T S s))))) h') ∧ cs_Q A h0 x y z h' (bz_sT S s (bs_sl (bz_T S s) (bs_safe (bz_T S s), bs_safe (bz_T S s), bs_kept (bz_T S s)))) := by
  obtain ⟨r, hr, R⟩ := Q
  obtain ⟨h', e, R'⟩ := c_lose (S := bz_sr S r) R I.W hs (I.o hs)
  exact ⟨h', e, r, hr, R'⟩
theorem q_adopt (Q : cs_Q A h0 x y z h S) (I : bz_ok S) (hs : s < 8) {i k : Nat} (hk : k ≤ ba_n (bz_W S)) (w : Bool) (hc : w = false → bs_kept (bz_T S s) = bs_now (bz_T S s) ∧ bs_line (bz_T S s) = bs_now (bz_T S s) ∧ ba_anc (bz_W S) (bs_line (bz_T S s)) k) : ∃ h', (∀ K : Option bi_V → bi_H → Prop, bw_C bt_P 124 [.inr (.inl (A 7 s)), .inl (Int32.ofNat i), .inl (Int32.ofNat k), .inl (if w = true then 1 else 0)] h K ↔ K none h') ∧ cs_Q A h0 x y z h' (bz_sT S s (bs_ss (bs_sl (bz_T S s) (k, k, k)) ((if w = true then [] else bs_sn (bz_T S s)) ++ [(i, k)]))) := by
  obtain ⟨r, hr, R⟩ := Q
  obtain ⟨h', e, R'⟩ := c_adopt (S := bz_sr S r) R I.W hs (I.o hs) hk w hc
  exact ⟨h', e, r, hr, R'⟩
theorem q_ret (Q : cs_Q A h0 x y z h S) (I : bz_ok S) (hs : s < 8) {j : Nat} (hj : j ≤ (bs_sn (bz_T S s)).length) {v : Int32} (hv : v + 1 = Int32.ofNat j) : ∃ h', (∀ K : Option bi_V → bi_H → Prop, bw_C bt_P 146 [.inr (.inl (A 7 s)), .inl v] h K ↔ K none h') ∧ cs_Q A h0 x y z h' (bz_sT S s (bs_ss (bs_sl (bz_T S s) (ba_ln ((bs_sn (bz_T S s)).take j), ba_ln ((bs_sn (bz_T S s)).take j), ba_ln ((bs_sn (bz_T S s)).take j))) ((bs_sn (bz_T S s)).take j))) := by
  obtain ⟨r, hr, R⟩ := Q
  obtain ⟨h', e, R'⟩ := c_ret (S := bz_sr S r) R I.W hs (I.o hs) hj hv
  exact ⟨h', e, r, hr, R'⟩
theorem q_plan (Q : cs_Q A h0 x y z h S) (I : bz_ok S) (hs : s < 8) (hz : z + 1 < 2147483648) {k f : Nat} (hk : k ≤ ba_n (bz_W S)) (hf : f ≤ ba_l (bz_W S) k) (hl : (ba_sp (bz_W S) (ba_l (bz_W S) k - f) k).length ≤ bz_pool S) : ∃ h', (∀ K : Option bi_V → bi_H → Prop, bw_C bt_P 150 [.inr (.inl (A 8 0)), .inr (.inl (A 30 s)), .inl (Int32.ofNat k), .inl (Int32.ofNat f)] h K ↔ K none h') ∧ cs_Q A h0 x y (z + 1) h' S ∧ bi_fi h' 3 3 (A 30 s) = Int32.ofNat (ba_sp (bz_W S) (ba_l (bz_W S) k - f) k).length ∧ ∀ i, i < (ba_sp (bz_W S) (ba_l (bz_W S) k - f) k).length → bi_ai h' (A 52 s) i = Int32.ofNat ((ba_sp (bz_W S) (ba_l (bz_W S) k - f) k).getD i 0) := by
  obtain ⟨r, hr, R⟩ := Q
  obtain ⟨h', r', e, -, hr', R', e1, e2⟩ := c_col (S := bz_sr S r) (c := 30) R I.W (Or.inl rfl) hs I.pl.2 (show r + 1 < 2147483648 by omega) hk hf hl
  rw [if_pos rfl] at R'
  exact ⟨h', e, ⟨r', Nat.le_trans hr' (Nat.succ_le_succ hr), R'⟩, e1, e2⟩
theorem q_gone (Q : cs_Q A h0 x y z h S) (I : bz_ok S) (hs : s < 8) (hz : z + 1 < 2147483648) {k f : Nat} (hk : k ≤ ba_n (bz_W S)) (hf : f ≤ ba_l (bz_W S) k) (hl : (ba_sp (bz_W S) (ba_l (bz_W S) k - f) k).length ≤ bz_pool S) : ∃ h', (∀ K : Option bi_V → bi_H → Prop, bw_C bt_P 150 [.inr (.inl (A 8 0)), .inr (.inl (A 31 s)), .inl (Int32.ofNat k), .inl (Int32.ofNat f)] h K ↔ K none h') ∧ cs_Q A h0 x y (z + 1) h' (bz_sT S s (bs_sx (bz_T S s) (ba_sp (bz_W S) (ba_l (bz_W S) k - f) k))) := by
  obtain ⟨r, hr, R⟩ := Q
  obtain ⟨h', r', e, -, hr', R', e1, e2⟩ := c_col (S := bz_sr S r) (c := 31) R I.W (Or.inr rfl) hs I.pl.2 (show r + 1 < 2147483648 by omega) hk hf hl
  rw [if_neg (by decide)] at R'
  exact ⟨h', e, ⟨r', Nat.le_trans hr' (Nat.succ_le_succ hr), R'⟩⟩
end CQ
