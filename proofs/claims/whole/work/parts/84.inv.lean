/-! what holds of every state -/
/-- whose an epoch is -/
def bv_site (e : Nat) : Nat := if e % 2 = 1 then 0 else 1
def bs_ep (t : ba_T) : Nat := (bs_c t 7).toNatClampNeg
def bs_tk (t : ba_T) : Nat := (bs_c t 8).toNatClampNeg
def bs_it (t : ba_T) : Nat := (bs_g t 5).toNatClampNeg
/-- an ID that is none, or one of them -/
def bv_id (l : List (Nat × Nat)) (v : Int32) : Prop := v = 0 ∨ ∃ q ∈ l, v = Int32.ofNat q.1
/-- an epoch that a store or a message of a group may have -/
def bv_e (S : ba_S) (M g e : Nat) : Prop := 1 ≤ e ∧ e ≤ M ∧ e ≤ bs_ep (bz_T S (4 * bv_site e + g))
/-- the registry of a group -/
def bv_R (S : ba_S) (M C g : Nat) : Prop := bv_dis (bz_R S g) ∧ (bz_R S g).length ≤ C ∧ ∀ q ∈ bz_R S g, bv_e S M g (q.1 / 4096) ∧ (q.1 / 4096 = bs_ep (bz_T S (4 * bv_site (q.1 / 4096) + g)) → q.1 % 4096 ≤ bs_tk (bz_T S (4 * bv_site (q.1 / 4096) + g))) ∧ q.2 ≤ ba_n (bz_W S) ∧ (q.2 ≠ 0 → ba_g (bz_W S) q.2 = g)
/-- what is staged -/
def bv_g (W : ba_W) (R : List (Nat × Nat)) (t : ba_T) : Prop :=
  (∀ k, k ≤ 5 → bs_g t k = 0) ∨ (bs_c t 6 = 0 ∧ ∃ id ln wn ck, bs_g t 1 = Int32.ofNat id ∧ (id, ln) ∈ R ∧ bs_g t 2 = Int32.ofNat ln ∧ bs_latest t < id ∧ id / 4096 ≤ bs_ep t ∧ (bs_g t 0 = 0 ∧ wn = ba_pl W 0 (ba_l W ln) ln ∨ bs_g t 0 ≠ 0 ∧ bs_g t 0 = Int32.ofNat (bs_latest t) ∧ ba_anc W (bs_line t) ln ∧ wn = ba_pl W (ba_l W (bs_line t)) (ba_l W ln - ba_l W (bs_line t)) ln) ∧ bs_g t 3 = Int32.ofNat wn ∧ wn ≤ 8192 ∧ bs_g t 4 = Int32.ofNat ck ∧ ck ≤ 2100 ∧ bs_g t 5 = Int32.ofNat (min (4 * ck) wn))
/-- what it may send -/
def bv_w (W : ba_W) (win : Nat) (t : ba_T) : Prop := ∃ ch nx, bs_c t 16 = Int32.ofNat ch ∧ bs_c t 17 = Int32.ofNat nx ∧ ch ≤ nx ∧ nx ≤ 2100 ∧ ¬ (nx < ch + win ∧ 4 * nx < (bs_plan W t).length)
/-- a store; eo: the other's epoch -/
def bv_Tn (n : Nat) (W : ba_W) (R : List (Nat × Nat)) (win eo M s : Nat) (t : ba_T) : Prop :=
  ((∀ q ∈ bs_sn t, q ∈ R) ∧ bv_inc (bs_sn t) ∧ (bs_sn t).length ≤ n) ∧
  ((bs_c t 7 = Int32.ofNat (bs_ep t) ∧ bs_c t 8 = Int32.ofNat (bs_tk t) ∧ bs_tk t ≤ 4095) ∧ (1 ≤ bs_ep t ∧ bs_ep t ≤ M ∧ (bv_site (bs_ep t) ≠ s / 4 → bs_ep t ≤ eo)) ∧ ∀ q ∈ bs_sn t, q.1 / 4096 ≤ bs_ep t) ∧
  ((bs_c t 6 = 0 ∨ bs_c t 6 = 1 ∨ bs_c t 6 = 2 ∨ bs_c t 6 = 3) ∧ (bs_c t 6 = 0 ∨ bs_c t 6 = 2 → bs_now t = bs_line t) ∧ (bs_c t 6 = 3 → ∀ q ∈ bs_sn t, q.1 / 4096 < bs_ep t) ∧ (bs_src t = true → bv_site (bs_ep t) = s / 4 ∧ (bs_sn t ≠ [] → bs_latest t / 4096 = bs_ep t))) ∧
  (bs_c t 13 = 0 ∨ bs_c t 6 = 2 ∧ ∃ gf, bs_c t 13 = Int32.ofNat gf ∧ bs_ep t < gf ∧ gf ≤ M ∧ bv_site gf ≠ s / 4) ∧
  (bs_src t = true → bv_id (bs_sn t) (bs_c t 9) ∧ bv_id (bs_sn t) (bs_c t 14) ∧ (bs_c t 10 = 0 ∨ ∃ q ∈ bs_sn t, bs_c t 10 = Int32.ofNat q.1 ∧ q.1 / 4096 = bs_ep t ∧ bs_c t 9 < bs_c t 10 ∧ bs_c t 14 < bs_c t 10)) ∧
  ((bs_c t 15 = 0 ∨ bs_c t 15 = 1 ∨ bs_c t 15 = 2) ∧ (bs_c t 15 ≠ 0 → bs_src t = true ∧ bs_c t 10 ≠ 0) ∧ (bs_c t 15 = 2 → bv_w W win t)) ∧
  bv_g W R t ∧ ((bs_lo t).length ≤ 32768 ∧ ∀ k ∈ bs_lo t, 0 < k ∧ k ≤ ba_n W ∧ ba_g W k = s % 4) ∧ bs_pend W t ≤ 64 ∧ (bs_now t ≠ 0 → ba_g W (bs_now t) = s % 4)
abbrev bv_T (W : ba_W) (R : List (Nat × Nat)) (win eo M s : Nat) (t : ba_T) : Prop := bv_Tn 8 W R win eo M s t
/-- a message -/
def bv_M (S : ba_S) (M : Nat) (m : ba_G) : Prop := ∃ sd e k n, sd < 8 ∧ sd % 4 < bz_N S ∧ m.1 1 = Int32.ofNat sd ∧ m.1 0 = Int32.ofNat k ∧ 1 ≤ k ∧ k ≤ 11 ∧ m.1 2 = Int32.ofNat e ∧ bv_e S M (sd % 4) e ∧ m.2.length = 3 * n ∧ n ≤ 40 ∧
  (k = 1 ∨ k = 3 → ∃ bi ln wn al, m.1 4 = Int32.ofNat bi ∧ (bi, ln) ∈ bz_R S (sd % 4) ∧ bi / 4096 ≤ e ∧ (m.1 3 = 0 ∧ al = 0 ∨ ∃ ai, m.1 3 = Int32.ofNat ai ∧ (ai, al) ∈ bz_R S (sd % 4)) ∧ ba_anc (bz_W S) al ln ∧ wn = ba_pl (bz_W S) (ba_l (bz_W S) al) (ba_l (bz_W S) ln - ba_l (bz_W S) al) ln ∧ wn ≤ 8192 ∧ (k = 1 → m.1 5 = Int32.ofNat wn ∧ m.1 7 = Int32.ofNat ln) ∧ (k = 3 → ∃ ch, m.1 5 = Int32.ofNat ch ∧ 4 * ch < wn ∧ n = min 4 (wn - 4 * ch))) ∧
  (k = 2 ∨ k = 4 → ∃ c, c ≤ 2100 ∧ m.1 5 = Int32.ofNat c) ∧
  (k = 8 → ∃ ce, m.1 5 = Int32.ofNat ce ∧ e < ce ∧ ce ≤ M ∧ bv_site ce ≠ sd / 4) ∧
  (k = 10 → ∀ j, j < n → ∃ id, m.2.getD (3 * j) 0 = Int32.ofNat id ∧ 0 < id ∧ id < 4096 * e)
def bs_use (W : ba_W) (t : ba_T) : Nat := bs_need W t + bs_it t
def bz_use (S : ba_S) (i : Nat) : Nat := bs_use (bz_W S) (bz_T S (4 * i)) + bs_use (bz_W S) (bz_T S (4 * i + 1)) + bs_use (bz_W S) (bz_T S (4 * i + 2)) + bs_use (bz_W S) (bz_T S (4 * i + 3))
/-- M: how great epochs are at most; C: how long a registry is -/
def bz_V (S : ba_S) (M C : Nat) : Prop :=
  bz_ok S ∧ bz_wd S ∧ (∀ g, g < bz_N S → 0 < (bz_D S g).2) ∧ (∀ g, g < 4 → bv_R S M C g) ∧ (∀ s, s < 8 → bv_T (bz_W S) (bz_R S (s % 4)) (bz_win S) (bs_ep (bz_T S ((s + 4) % 8))) M s (bz_T S s)) ∧ (∀ i, i < 2 → bz_use S i ≤ bz_pool S) ∧ (∀ m ∈ bz_F S, bv_M S M m) ∧ (∀ s, s < 8 → bz_N S ≤ s % 4 → bs_ini s (bz_T S s)) ∧ M ≤ 3900 ∧ C ≤ 8900
/-- no less than before -/
def bv_le (S S' : ba_S) : Prop := ba_ext (bz_W S) (bz_W S') ∧ (∀ g, g < 4 → ∀ q ∈ bz_R S g, q ∈ bz_R S' g) ∧ (∀ s, s < 8 → bs_ep (bz_T S s) < bs_ep (bz_T S' s) ∨ bs_ep (bz_T S s) = bs_ep (bz_T S' s) ∧ bs_tk (bz_T S s) ≤ bs_tk (bz_T S' s)) ∧ bz_N S' = bz_N S
section NH
variable {S S' : ba_S} {W W' : ba_W} {M M' C s : Nat} {t : ba_T}
theorem bv_le.rf (S : ba_S) : bv_le S S := ⟨ba_ext_rf _, fun _ _ _ h => h, fun _ _ => Or.inr ⟨rfl, Nat.le_refl _⟩, rfl⟩
theorem bv_site_lt (e : Nat) : bv_site e < 2 := by
  unfold bv_site
  split <;> decide
theorem bv_le.ep (l : bv_le S S') (hs : s < 8) : bs_ep (bz_T S s) ≤ bs_ep (bz_T S' s) := by
  rcases l.2.2.1 s hs with h | h <;> omega
theorem bv_e.le {g e : Nat} (h : bv_e S M g e) (hg : g < 4) (l : bv_le S S') (hM : M ≤ M') : bv_e S' M' g e := by
  have := bv_site_lt e
  have := l.ep (s := 4 * bv_site e + g) (by omega)
  obtain ⟨h1, h2, h3⟩ := h
  exact ⟨h1, by omega, by omega⟩
theorem ba_ext_l (hx : ba_ext W W') {k : Nat} (hk : k ≤ ba_n W) : ba_l W' k = ba_l W k := (hx.2 k hk).2.2.2.1
theorem bv_M.le {m : ba_G} (h : bv_M S M m) (hW : ba_ok (bz_W S)) (hR : ∀ g, g < 4 → ∀ q ∈ bz_R S g, q.2 ≤ ba_n (bz_W S)) (l : bv_le S S') (hM : M ≤ M') : bv_M S' M' m := by
  obtain ⟨sd, e, k, n, h1, h2, h3, h4, h5, h6, h7, h8, h9, h10, h11, h12, h13, h14⟩ := h
  refine ⟨sd, e, k, n, h1, by rw [l.2.2.2]; exact h2, h3, h4, h5, h6, h7, h8.le (by omega) l hM, h9, h10, fun hk => ?_, h12, fun hk => ?_, h14⟩
  · obtain ⟨bi, ln, wn, al, a1, a2, a2', a3, a4, a5, a6, a7, a8⟩ := h11 hk
    have hln := hR _ (by omega) _ a2
    have hal := ba_anc_in hW hln a4
    refine ⟨bi, ln, wn, al, a1, l.2.1 _ (by omega) _ a2, a2', ?_, ba_ext_anc hW l.1 hln a4, ?_, a6, a7, a8⟩
    · rcases a3 with a3 | ⟨ai, b1, b2⟩
      · exact Or.inl a3
      · exact Or.inr ⟨ai, b1, l.2.1 _ (by omega) _ b2⟩
    · rw [a5, ba_ext_l l.1 hln, ba_ext_l l.1 hal, ba_ext_pl hW l.1 _ _ _ hln]
  · obtain ⟨ce, b1, b2, b3, b4⟩ := h13 hk
    exact ⟨ce, b1, b2, by omega, b4⟩
theorem bv_g.le {R R' : List (Nat × Nat)} (h : bv_g W R t) (hW : ba_ok W) (hl : bs_line t ≤ ba_n W) (hR : ∀ q ∈ R, q.2 ≤ ba_n W) (hx : ba_ext W W') (hRR : ∀ q ∈ R, q ∈ R') : bv_g W' R' t := by
  rcases h with h | ⟨h0, id, ln, wn, ck, h1, h2, h3, h4, h4', h5, h6⟩
  · exact Or.inl h
  · have hln := hR _ h2
    refine Or.inr ⟨h0, id, ln, wn, ck, h1, hRR _ h2, h3, h4, h4', ?_, h6⟩
    rcases h5 with ⟨a1, a2⟩ | ⟨a1, a2, a3, a4⟩
    · exact Or.inl ⟨a1, by rw [a2, ba_ext_l hx hln, ba_ext_pl hW hx _ _ _ hln]⟩
    · exact Or.inr ⟨a1, a2, ba_ext_anc hW hx hln a3, by rw [a4, ba_ext_l hx hln, ba_ext_l hx hl, ba_ext_pl hW hx _ _ _ hln]⟩
theorem bs_plan_ext (hW : ba_ok W) (o : bs_ok W t) (hx : ba_ext W W') : bs_plan W' t = bs_plan W t := by
  have key : ∀ v, ba_lo v (bs_sn t) ≤ ba_n W := fun v => by
    rcases ba_fd_spec v (bs_sn t) 0 with ⟨-, -, e⟩ | ⟨j, hj, -, -, -, e⟩
    · rw [e]
      exact Nat.zero_le _
    · rw [e]
      exact o.l_in hW j hj
  unfold bs_plan
  rw [ba_ext_l hx (key _), ba_ext_l hx (key _), ba_ext_sp hW hx _ _ (key _)]
theorem bv_T.le {R R' : List (Nat × Nat)} {win eo eo' : Nat} (h : bv_T W R win eo M s t) (hW : ba_ok W) (o : bs_ok W t) (hR : ∀ q ∈ R, q.2 ≤ ba_n W) (hx : ba_ext W W') (hRR : ∀ q ∈ R, q ∈ R') (he : eo ≤ eo') (hM : M ≤ M') : bv_T W' R' win eo' M' s t := by
  obtain ⟨⟨a1, a2, a3⟩, ⟨b1, ⟨b2, b3, b4⟩, b5⟩, c, d, e, ⟨f1, f2, f3⟩, g, ⟨i1, i2⟩, j1, j2⟩ := h
  have hl := ba_anc_in hW (o.k_in hW) (o.lat hW)
  refine ⟨⟨fun q hq => hRR q (a1 q hq), a2, a3⟩, ⟨b1, ⟨b2, by omega, fun w => Nat.le_trans (b4 w) he⟩, b5⟩, c, ?_, e, ⟨f1, f2, fun w => ?_⟩, g.le hW hl hR hx hRR, ⟨i1, fun k hk => ?_⟩, ?_, fun w => ?_⟩
  · rcases d with d | ⟨d1, gf, d2, d3, d4, d5⟩
    · exact Or.inl d
    · exact Or.inr ⟨d1, gf, d2, d3, by omega, d5⟩
  · obtain ⟨ch, nx, w1, w2, w3, w4, w5⟩ := f3 w
    exact ⟨ch, nx, w1, w2, w3, w4, by rw [bs_plan_ext hW o hx]; exact w5⟩
  · obtain ⟨k1, k2, k3⟩ := i2 k hk
    refine ⟨k1, Nat.le_trans k2 hx.1, ?_⟩
    rw [(hx.2 k k2).2.2.2.2.2]
    exact k3
  · unfold bs_pend
    rw [ba_ext_l hx o.1, ba_ext_l hx (o.s_in hW)]
    exact j1
  · rw [(hx.2 _ o.1).2.2.2.2.2]
    exact j2 w
/-- what V says -/
theorem bz_V.I (V : bz_V S M C) : bz_ok S := V.1
theorem bz_V.wd (V : bz_V S M C) : bz_wd S := V.2.1
theorem bz_V.D (V : bz_V S M C) {g : Nat} (hg : g < bz_N S) : 0 < (bz_D S g).2 := V.2.2.1 g hg
theorem bz_V.R (V : bz_V S M C) {g : Nat} (hg : g < 4) : bv_R S M C g := V.2.2.2.1 g hg
theorem bz_V.T (V : bz_V S M C) (hs : s < 8) : bv_T (bz_W S) (bz_R S (s % 4)) (bz_win S) (bs_ep (bz_T S ((s + 4) % 8))) M s (bz_T S s) := V.2.2.2.2.1 s hs
theorem bz_V.p (V : bz_V S M C) {i : Nat} (hi : i < 2) : bz_use S i ≤ bz_pool S := V.2.2.2.2.2.1 i hi
theorem bz_V.m (V : bz_V S M C) {m : ba_G} (hm : m ∈ bz_F S) : bv_M S M m := V.2.2.2.2.2.2.1 m hm
theorem bz_V.ini (V : bz_V S M C) (hs : s < 8) (hN : bz_N S ≤ s % 4) : bs_ini s (bz_T S s) := V.2.2.2.2.2.2.2.1 s hs hN
theorem bz_V.mx (V : bz_V S M C) : M ≤ 3900 ∧ C ≤ 8900 := V.2.2.2.2.2.2.2.2
theorem bv_R.sm {g : Nat} (h : bv_R S M C g) (hM : M ≤ 3900) : bv_sm (bz_R S g) := fun q hq => by
  obtain ⟨⟨h1, h2, h3⟩, -⟩ := h.2.2 q hq
  omega
theorem bv_R.ln {g : Nat} (h : bv_R S M C g) : ∀ q ∈ bz_R S g, q.2 ≤ ba_n (bz_W S) := fun q hq => (h.2.2 q hq).2.2.1
theorem bz_V.sm (V : bz_V S M C) {g : Nat} (hg : g < 4) : bv_sm (bz_R S g) := (V.R hg).sm V.mx.1
theorem bz_V.snsm (V : bz_V S M C) (hs : s < 8) : bv_sm (bs_sn (bz_T S s)) := fun q hq => V.sm (g := s % 4) (by omega) q ((V.T hs).1.1 q hq)
/-- greater bounds -/
theorem bz_V.up (V : bz_V S M C) {C' : Nat} (hM : M ≤ M') (hC : C ≤ C') (h1 : M' ≤ 3900) (h2 : C' ≤ 8900) : bz_V S M' C' := by
  have hW := V.I.W
  refine ⟨V.I, V.wd, V.2.2.1, fun g hg => ?_, fun s hs => ?_, V.2.2.2.2.2.1, fun m hm => ?_, V.2.2.2.2.2.2.2.1, h1, h2⟩
  · obtain ⟨a1, a2, a3⟩ := V.R hg
    refine ⟨a1, by omega, fun q hq => ?_⟩
    obtain ⟨b1, b2⟩ := a3 q hq
    exact ⟨b1.le hg (bv_le.rf S) hM, b2⟩
  · exact (V.T hs).le hW (V.I.o hs) (V.R (by omega)).ln (ba_ext_rf _) (fun _ h => h) (Nat.le_refl _) hM
  · exact (V.m hm).le hW (fun g hg => (V.R hg).ln) (bv_le.rf S) hM
end NH
