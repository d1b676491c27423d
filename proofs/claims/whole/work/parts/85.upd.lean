/-! what holds of every state is kept: one store, one snapshot, one message -/
section NI
variable {S S' : ba_S} {W W' : ba_W} {M M' C s : Nat} {t : ba_T}
def bv_lex (t t' : ba_T) : Prop := bs_ep t < bs_ep t' ∨ bs_ep t = bs_ep t' ∧ bs_tk t ≤ bs_tk t'
theorem bv_le.sT (hl : bv_lex (bz_T S s) t) : bv_le S (bz_sT S s t) := by
  refine ⟨ba_ext_rf _, fun _ _ _ h => h, fun x hx => ?_, rfl⟩
  by_cases c : x = s
  · rw [c, bz_T_same]
    exact hl
  · rw [bz_T_ne _ _ c]
    exact Or.inr ⟨rfl, Nat.le_refl _⟩
theorem bz_use_sT (hu : bs_use (bz_W S) t ≤ bs_use (bz_W S) (bz_T S s)) (i : Nat) : bz_use (bz_sT S s t) i ≤ bz_use S i := by
  have key : ∀ x, bs_use (bz_W (bz_sT S s t)) (bz_T (bz_sT S s t) x) ≤ bs_use (bz_W S) (bz_T S x) := fun x => by
    by_cases c : x = s
    · rw [c, bz_T_same]
      exact hu
    · rw [bz_T_ne _ _ c]
      exact Nat.le_refl _
  have h0 := key (4 * i)
  have h1 := key (4 * i + 1)
  have h2 := key (4 * i + 2)
  have h3 := key (4 * i + 3)
  unfold bz_use
  omega
/-- the registry under a store's change -/
theorem bv_R.sT {g : Nat} (h : bv_R S M C g) (hg : g < 4) (hl : bv_lex (bz_T S s) t) : bv_R (bz_sT S s t) M C g := by
  refine ⟨h.1, h.2.1, fun q hq => ?_⟩
  obtain ⟨h1, h2, h3⟩ := h.2.2 q hq
  refine ⟨h1.le hg (bv_le.sT hl) (Nat.le_refl _), fun w => ?_, h3⟩
  by_cases c : 4 * bv_site (q.1 / 4096) + g = s
  · rw [c, bz_T_same] at w ⊢
    have h4 := h1.2.2
    rw [c] at h2 h4
    rcases hl with hl | ⟨hl, ht⟩
    · omega
    · exact Nat.le_trans (h2 (by omega)) ht
  · rw [bz_T_ne _ _ c] at w ⊢
    exact h2 w
theorem bz_V.sT (V : bz_V S M C) (hs : s < 8) (hN : s % 4 < bz_N S) (o : bs_ok (bz_W S) t) (h0 : bs_c t 0 = bs_c (bz_T S s) 0) (hl : bv_lex (bz_T S s) t) (hu : bs_use (bz_W S) t ≤ bs_use (bz_W S) (bz_T S s)) (T : bv_T (bz_W S) (bz_R S (s % 4)) (bz_win S) (bs_ep (bz_T S ((s + 4) % 8))) M s t) : bz_V (bz_sT S s t) M C := by
  have hW := V.I.W
  refine ⟨V.I.sT o h0, V.wd, V.2.2.1, fun g hg => (V.R hg).sT hg hl, fun x hx => ?_, fun i hi => Nat.le_trans (bz_use_sT hu i) (V.p hi), fun m hm => (V.m hm).le hW (fun g hg => (V.R hg).ln) (bv_le.sT hl) (Nat.le_refl _), fun x hx hn => ?_, V.mx⟩
  · by_cases c : x = s
    · subst c
      rw [bz_T_same, bz_T_ne _ _ (show (x + 4) % 8 ≠ x by omega)]
      exact T
    · rw [bz_T_ne _ _ c]
      refine (V.T hx).le hW (V.I.o hx) (V.R (by omega)).ln (ba_ext_rf _) (fun _ h => h) ?_ (Nat.le_refl _)
      exact (bv_le.sT hl).ep (by omega)
  · rw [bz_T_ne _ _ (fun e => by
      rw [e] at hn
      have hn : bz_N S ≤ s % 4 := hn
      omega)]
    exact V.ini hx hn
/-- a snapshot is taken -/
theorem bz_V.snap (V : bz_V S M C) (hs : s < 8) (hN : s % 4 < bz_N S) (o : bs_ok (bz_W S) t) (h0 : bs_c t 0 = bs_c (bz_T S s) 0) (hl : bs_ep (bz_T S s) < bs_ep t ∨ bs_ep (bz_T S s) = bs_ep t ∧ bs_tk (bz_T S s) < bs_tk t) (hu : bs_use (bz_W S) t ≤ bs_use (bz_W S) (bz_T S s)) {id k : Nat} (ei : id = 4096 * bs_ep t + bs_tk t) (hsi : bv_site (bs_ep t) = s / 4) (hk : k ≤ ba_n (bz_W S)) (hkg : k ≠ 0 → ba_g (bz_W S) k = s % 4) (hC : C + 1 ≤ 8900) (T : bv_T (bz_W S) (bz_R S (s % 4) ++ [(id, k)]) (bz_win S) (bs_ep (bz_T S ((s + 4) % 8))) M s t) : bz_V (bz_sR (bz_sT S s t) (s % 4) (bz_R S (s % 4) ++ [(id, k)])) M (C + 1) := by
  have hW := V.I.W
  have hlx : bv_lex (bz_T S s) t := by
    rcases hl with hl | hl
    · exact Or.inl hl
    · exact Or.inr ⟨hl.1, Nat.le_of_lt hl.2⟩
  have tk5 := T.2.1.1.2.2
  have eR : ∀ g, bz_R (bz_sR (bz_sT S s t) (s % 4) (bz_R S (s % 4) ++ [(id, k)])) g = if g = s % 4 then bz_R S (s % 4) ++ [(id, k)] else bz_R S g := fun g => rfl
  have lR : ∀ g, ∀ q ∈ bz_R S g, q ∈ bz_R (bz_sR (bz_sT S s t) (s % 4) (bz_R S (s % 4) ++ [(id, k)])) g := fun g q hq => by
    rw [eR]
    split
    · rename_i e
      rw [e] at hq
      exact List.mem_append_left _ hq
    · exact hq
  have l : bv_le S (bz_sR (bz_sT S s t) (s % 4) (bz_R S (s % 4) ++ [(id, k)])) := ⟨ba_ext_rf _, fun g _ => lR g, (bv_le.sT hlx).2.2.1, rfl⟩
  have eS : 4 * bv_site (bs_ep t) + s % 4 = s := by omega
  refine ⟨V.I.sT o h0, V.wd, V.2.2.1, fun g hg => ?_, fun x hx => ?_, fun i hi => Nat.le_trans (bz_use_sT hu i) (V.p hi), fun m hm => (V.m hm).le hW (fun g hg => (V.R hg).ln) l (Nat.le_refl _), fun x hx hn => ?_, V.mx.1, hC⟩
  · have h1 := (V.R hg).sT (t := t) hg hlx
    by_cases c : g = s % 4
    · subst c
      refine ⟨?_, ?_, fun q hq => ?_⟩
      · rw [eR, if_pos rfl]
        refine List.pairwise_append.mpr ⟨h1.1, by simp, fun a ha b hb => ?_⟩
        rw [List.mem_singleton] at hb
        subst hb
        intro e
        have e : a.1 = id := e
        obtain ⟨⟨b1, b2, b3⟩, b4, -⟩ := (V.R hg).2.2 a ha
        have d1 : a.1 / 4096 = bs_ep t := by omega
        have d2 : a.1 % 4096 = bs_tk t := by omega
        rw [d1, eS] at b3 b4
        rcases hl with hl | hl
        · omega
        · have := b4 (by omega)
          omega
      · rw [eR, if_pos rfl, List.length_append, List.length_singleton]
        have := (V.R hg).2.1
        omega
      · rw [eR, if_pos rfl] at hq
        rcases List.mem_append.mp hq with w | w
        · exact h1.2.2 q w
        · rw [List.mem_singleton] at w
          subst w
          have d1 : id / 4096 = bs_ep t := by omega
          have d2 : id % 4096 = bs_tk t := by omega
          have eT : bz_T (bz_sR (bz_sT S s t) (s % 4) (bz_R S (s % 4) ++ [(id, k)])) s = t := bz_T_same S s t
          refine ⟨⟨?_, ?_, ?_⟩, fun _ => ?_, hk, hkg⟩
          · show 1 ≤ id / 4096
            rw [d1]
            exact T.2.1.2.1.1
          · show id / 4096 ≤ M
            rw [d1]
            exact T.2.1.2.1.2.1
          · show id / 4096 ≤ bs_ep (bz_T _ (4 * bv_site (id / 4096) + s % 4))
            rw [d1, eS, eT]
            exact Nat.le_refl _
          · show id % 4096 ≤ bs_tk (bz_T _ (4 * bv_site (id / 4096) + s % 4))
            rw [d1, eS, eT, d2]
            exact Nat.le_refl _
    · obtain ⟨c1, c2, c3⟩ := h1
      refine ⟨?_, ?_, fun q hq => ?_⟩
      · rw [eR, if_neg c]
        exact c1
      · rw [eR, if_neg c]
        exact Nat.le_succ_of_le c2
      · rw [eR, if_neg c] at hq
        exact c3 q hq
  · show bv_T (bz_W S) (bz_R (bz_sR (bz_sT S s t) (s % 4) (bz_R S (s % 4) ++ [(id, k)])) (x % 4)) (bz_win S) (bs_ep (bz_T (bz_sT S s t) ((x + 4) % 8))) M x (bz_T (bz_sT S s t) x)
    by_cases c : x = s
    · subst c
      rw [bz_T_same, bz_T_ne _ _ (show (x + 4) % 8 ≠ x by omega), eR, if_pos rfl]
      exact T
    · rw [bz_T_ne _ _ c]
      refine (V.T hx).le hW (V.I.o hx) (V.R (by omega)).ln (ba_ext_rf _) (lR _) ?_ (Nat.le_refl _)
      exact (bv_le.sT hlx).ep (by omega)
  · show bs_ini x (bz_T (bz_sT S s t) x)
    rw [bz_T_ne _ _ (fun e => by
      rw [e] at hn
      have hn : bz_N S ≤ s % 4 := hn
      omega)]
    exact V.ini hx hn
/-- nothing but sites, messages, numbers of the object or of the link -/
theorem bz_V.of (V : bz_V S M C) (I' : bz_ok S') (eW : bz_W S' = bz_W S) (eT : bz_T S' = bz_T S) (eD : bz_D S' = bz_D S) (eR : bz_R S' = bz_R S) (eN : bz_N S' = bz_N S) (eG : ∀ k, k < 3 → bz_G S' k = bz_G S k) (hm : ∀ m ∈ bz_F S', m ∈ bz_F S ∨ bv_M S' M m) : bz_V S' M C := by
  have hW := V.I.W
  have ewin : bz_win S' = bz_win S := by
    unfold bz_win
    rw [eG 2 (by decide)]
  have epool : bz_pool S' = bz_pool S := by
    unfold bz_pool
    rw [eG 0 (by decide)]
  have l : bv_le S S' := by
    refine ⟨by rw [eW]; exact ba_ext_rf _, fun g _ q hq => by rw [eR]; exact hq, fun s _ => by rw [eT]; exact Or.inr ⟨rfl, Nat.le_refl _⟩, eN⟩
  refine ⟨I', ?_, ?_, fun g hg => ?_, fun s hs => ?_, fun i hi => ?_, fun m hm' => ?_, fun s hs hn => ?_, V.mx⟩
  · unfold bz_wd
    rw [eW, eD, eN]
    exact V.wd
  · rw [eN, eD]
    exact V.2.2.1
  · have h := V.R hg
    unfold bv_R bv_e at h ⊢
    rw [eR, eT, eW]
    exact h
  · rw [eW, eR, eT, ewin]
    exact V.T hs
  · have h := V.p hi
    unfold bz_use at h ⊢
    rw [eW, eT, epool]
    exact h
  · rcases hm m hm' with w | w
    · exact (V.m w).le hW (fun g hg => (V.R hg).ln) l (Nat.le_refl _)
    · exact w
  · rw [eT]
    rw [eN] at hn
    exact V.ini hs hn
theorem bz_V.act (V : bz_V S M C) (i : Nat) : bz_V (bx_act S i) M C := by
  obtain ⟨f, e⟩ := bx_act_in S i
  have I' := V.I.act i
  rw [e] at I' ⊢
  exact V.of I' rfl rfl rfl rfl rfl (fun _ _ => rfl) (fun m hm => Or.inl hm)
theorem bz_V.acts : ∀ (n : Nat) {S : ba_S}, bz_V S M C → ∀ (i : Nat), bz_V (bx_acts n S i).1 M C
  | 0, _, V, _ => V
  | n + 1, S, V, i => by
    unfold bx_acts
    split
    · exact V.act i
    · exact bz_V.acts n (V.act i) i
/-- a message is sent -/
theorem bz_V.send (V : bz_V S M C) {m : ba_G} (hm : bv_M S M m) : bz_V (bx_send S m) M C := by
  obtain ⟨sd, e, k, n, h1, h2, h3, rest⟩ := id hm
  have I' := V.I.send (g := m) ⟨sd, h1, h2, h3⟩
  unfold bx_send at I' ⊢
  split at I'
  · rename_i c
    rw [if_pos c]
    refine V.of I' rfl rfl rfl rfl rfl (fun _ _ => rfl) (fun x hx => ?_)
    rcases List.mem_append.mp hx with w | w
    · exact Or.inl w
    · rw [List.mem_singleton] at w
      subst w
      exact Or.inr hm
  · rename_i c
    rw [if_neg c]
    exact V.of I' rfl rfl rfl rfl rfl (fun _ _ => rfl) (fun m hm => Or.inl hm)
/-- an epoch of a store -/
theorem bz_V.ep (V : bz_V S M C) (hs : s < 8) : bv_e S M (s % 4) (bs_ep (bz_T S s)) := by
  obtain ⟨h1, h2, h3⟩ := (V.T hs).2.1.2.1
  refine ⟨h1, h2, ?_⟩
  have h4 := bv_site_lt (bs_ep (bz_T S s))
  by_cases c : bv_site (bs_ep (bz_T S s)) = s / 4
  · rw [c, show 4 * (s / 4) + s % 4 = s by omega]
    exact Nat.le_refl _
  · have h5 := h3 c
    rw [show 4 * bv_site (bs_ep (bz_T S s)) + s % 4 = (s + 4) % 8 by omega]
    exact h5
/-- a plain message of a store -/
theorem bz_V.tell (V : bz_V S M C) (hs : s < 8) (hN : s % 4 < bz_N S) {k : Nat} (hk : k = 5 ∨ k = 6 ∨ k = 7 ∨ k = 9 ∨ k = 11) (b : Int32) : bz_V (bx_tell S s (Int32.ofNat k) b) M C := by
  have e7 := (V.T hs).2.1.1.1
  refine V.send ⟨s, _, k, 0, hs, hN, rfl, rfl, by omega, by omega, e7, V.ep hs, rfl, by omega, fun h => by omega, fun h => by omega, fun h => by omega, fun h => by omega⟩
end NI
