/-! what the rules of pass want -/
section NX
variable {S S' : ba_S} {M M' C s y y' : Nat}
theorem bv_pass_eq {i how : Int32} (hS : how = 1 ∧ S' = bx_drop S i.toNatClampNeg ∨ how = 2 ∧ S' = S) (c0 : bx_at S i = true) : (bx_pass S i how).1 = bx_receive S' ((bz_F S).getD i.toNatClampNeg bx_g0) := by
  unfold bx_pass
  rcases hS with ⟨h1, h2⟩ | ⟨h1, h2⟩
  · rw [h1, h2, if_neg (by rw [c0]; decide), if_neg (by decide), if_pos rfl]
  · rw [h1, h2, if_neg (by rw [c0]; decide), if_neg (by decide), if_neg (by decide)]
theorem bv_F_mem {i : Nat} (hi : i < (bz_F S).length) : (bz_F S).getD i bx_g0 ∈ bz_F S := by
  rw [List.getD_eq_getElem?_getD, List.getElem?_eq_getElem hi]
  exact List.getElem_mem hi
theorem bz_V.pk (V : bz_V S M C) (i : Int32) : ∀ S', (S' = S ∨ S' = bx_drop S i.toNatClampNeg) → i.toNatClampNeg < (bz_F S).length → ∀ g, g = (bz_F S).getD i.toNatClampNeg bx_g0 → ∀ s, s = ((g.1 1).toNatClampNeg + 4) % 8 → (bs_c (bz_T S' s) 7 = g.1 2 → bx_hk S' s g) ∧ (bs_c (bz_T S' s) 7 < g.1 2 → bx_hk (bz_sT (bx_act S' (s / 4)) s (bs_learn (bz_T S' s) (g.1 2))) s g) := by
  intro S' hS hi g hg s hs
  have hm : bv_M S M g := by
    rw [hg]
    exact V.m (bv_F_mem hi)
  have V' : bz_V S' M C ∧ bv_M S' M g := by
    rcases hS with h | h
    · rw [h]
      exact ⟨V, hm⟩
    · rw [h]
      exact ⟨V.drop hi, hm⟩
  obtain ⟨V', hm'⟩ := V'
  obtain ⟨h1, h2, h3⟩ := hm'.to hs
  refine ⟨fun _ => V'.hk h1 h2 hm' h3, fun w => ?_⟩
  obtain ⟨V2, m2, -, n2⟩ := V'.lm h1 h2 hm' h3 w
  exact V2.hk h1 n2 m2 h3
theorem bz_V.pmk (V : bz_V S M C) (i how : Int32) (hy : y ≤ y') (hyb : bv_ph (bx_pass S i how).1 + 1 ≤ bv_ph S → y + 16384 ≤ y') : ∀ S', (how = 1 ∧ S' = bx_drop S i.toNatClampNeg ∨ how = 2 ∧ S' = S) → bx_at S i = true → ∀ g, g = (bz_F S).getD i.toNatClampNeg bx_g0 → ∀ s, s = ((g.1 1).toNatClampNeg + 4) % 8 → (bs_c (bz_T S' s) 6 ≠ 2 → bs_c (bz_T S' s) 13 = 0) ∧ (bz_I S' (s / 4) 1 ≠ 0 → bs_c (bz_T S' s) 7 = g.1 2 → bx_mk S' s g y y') ∧ (bz_I S' (s / 4) 1 ≠ 0 → bz_I S' (s / 4) 3 ≠ 0 → bs_c (bz_T S' s) 7 < g.1 2 → bx_mk (bz_sT (bx_act S' (s / 4)) s (bs_learn (bz_T S' s) (g.1 2))) s g y y') := by
  intro S' hS c0 g hg s hs
  have hi := (bx_at_in V.I c0).2
  have hm : bv_M S M g := by
    rw [hg]
    exact V.m (bv_F_mem hi)
  have V' : (bz_V S' M C ∧ bv_M S' M g) ∧ bz_T S' = bz_T S := by
    rcases hS with ⟨-, h⟩ | ⟨-, h⟩
    · rw [h]
      exact ⟨⟨V.drop hi, hm⟩, rfl⟩
    · rw [h]
      exact ⟨⟨V, hm⟩, rfl⟩
  obtain ⟨⟨V', hm'⟩, eT⟩ := V'
  obtain ⟨h1, h2, h3⟩ := hm'.to hs
  have eP : (bx_pass S i how).1 = bx_rcv S' s g := by
    rw [bv_pass_eq hS c0, ← hg, hs]
    rfl
  have key : bs_c (bz_T S s) 19 ≠ 0 → bs_c (bz_T (bx_rcv S' s g) s) 19 = 0 → y + 16384 ≤ y' := fun a b => hyb ((bv_n.pass S i how).lt h1 a (by rw [eP]; exact b))
  refine ⟨fun w => V'.gi h1 w, fun u e => V'.mk h1 h2 hm' h3 hy (fun k c6 c19 hf hI => key (by rw [← eT]; exact c19) ?_), fun u u3 w => ?_⟩
  · have er : bx_rcv S' s g = bx_kind S' s g := by
      unfold bx_rcv
      rw [if_neg u, e, if_neg Int32.lt_irrefl, if_neg Int32.lt_irrefl]
    rw [er]
    exact bx_common_19 c6 c19 hf hI k
  · obtain ⟨V2, m2, -, n2⟩ := V'.lm h1 h2 hm' h3 w
    have er : bx_rcv S' s g = bx_kind (bz_sT (bx_act S' (s / 4)) s (bs_learn (bz_T S' s) (g.1 2))) s g := by
      unfold bx_rcv
      rw [if_neg u, if_neg (Int32.lt_asymm w), if_pos w, if_neg u3]
    refine V2.mk h1 n2 m2 h3 hy (fun k c6 c19 hf hI => key ?_ ?_)
    · rw [bz_T_same, bs_learn_19, eT] at c19
      exact c19
    · rw [er]
      exact bx_common_19 c6 c19 hf hI k
end NX
