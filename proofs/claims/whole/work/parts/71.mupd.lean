/-! the reference's heap: stores, marks, numbers changed -/
section MU
variable {O : Nat → Prop} {B : Nat → Nat → Nat} {H : List (Nat × ba_G)} {e : Nat} {g0 h h' : bi_H} {x y : Nat} {S S' : ba_S} {s : Nat} {P : List (Nat × Nat × Nat)} {Z : List (Nat × Nat)}
/-- all but what a state shows of one store, marks and span -/
theorem ms_R.gen (R : ms_R O B H e g0 x y h S) (d : md B P Z h h') (hP : ∀ q, q ∈ P → mb_in (bz_N S) q.1 q.2.1 ∧ (q.1 = 11 ∨ (q.1 = 12 ∧ (q.2.2 = 0 ∨ q.2.2 = 24 ∨ (25 ≤ q.2.2 ∧ q.2.2 ≤ 28))))) (hZ : ∀ q, q ∈ Z → mb_in (bz_N S) q.1 q.2 ∧ ((64 ≤ q.1 ∧ q.1 ≤ 66) ∨ (119 ≤ q.1 ∧ q.1 ≤ 130))) (hk : ∀ c i, mb_kd S' c i = mb_kd S c i) (eN : bz_N S' = bz_N S) (eW : bz_W S' = bz_W S) (eD : bz_D S' = bz_D S) (eG : bz_G S' = bz_G S) (eL : bz_L S' = bz_L S) (eI : bz_I S' = bz_I S) (eR : bz_R S' = bz_R S) (eF : bz_F S' = bz_F S) (h24 : bi_fi h' 12 24 (B 12 0) = Int32.ofNat (bz_m S')) (hm : (∀ j, j < 32768 → ∃ x, x ≤ bz_m S' ∧ bi_ai h' (B 119 0) j = Int32.ofNat x) ∧ (∀ j, j < 2048 → ∃ x, x ≤ bz_m S' ∧ bi_ai h' (B 121 0) j = Int32.ofNat x) ∧ (∀ j, j < 128 → ∃ x, x ≤ bz_m S' ∧ bi_ai h' (B 122 0) j = Int32.ofNat x) ∧ ∀ j, j < 8 → ∃ x, x ≤ bz_m S' ∧ bi_ai h' (B 123 0) j = Int32.ofNat x) (hs : mb_s B S' h') (ht : ∀ s, s < 8 → s % 4 < bz_N S → mb_t B S' h' s (bz_T S' s)) : ms_R O B H e g0 x y h' S' := by
  have L := R.L
  have hP1 : ∀ q, q ∈ P → mb_in (bz_N S) q.1 q.2.1 := fun q hq => (hP q hq).1
  have hZ1 : ∀ q, q ∈ Z → mb_in (bz_N S) q.1 q.2 := fun q hq => (hZ q hq).1
  have fi := fun k (hk : (1 ≤ k ∧ k ≤ 23) ∨ 28 < k) => d.fi L hP1 (c := 12) (i := 0) (k := k) (mi0 (by decide) rfl) (fun z => by
    have h1 := (hP _ z).2
    have h1' : (12 = 11 ∨ (12 = 12 ∧ (k = 0 ∨ k = 24 ∨ (25 ≤ k ∧ k ≤ 28)))) := h1
    omega)
  have ai := fun {c i} (hi : mb_in (bz_N S) c i) (hc : c < 64 ∨ (66 < c ∧ c < 119) ∨ 130 < c) j => d.ai L hZ1 hi (fun z => by
    have h1 := (hZ _ z).2
    have h1' : (64 ≤ c ∧ c ≤ 66) ∨ (119 ≤ c ∧ c ≤ 130) := h1
    omega) j
  have hfl := d.fl L hP1 hZ1 (fun q hq => by
    have h1 := (hP q hq).2
    constructor
    · omega
    · omega) (fun q hq => by
    have h1 := (hZ q hq).2
    refine ⟨?_, ?_, ?_⟩ <;> omega) R.fl
  obtain ⟨r1, r2, r3, r4, r5, r6, r7, r8, r9, r10, r11⟩ := R
  have hmw : ∀ k, mb_w S' k = mb_w S k := fun k => by
    unfold mb_w
    rw [eW, eD]
  refine ⟨d.lay r1 hk eN, ?_, ?_, ?_, ?_, ?_, hm, ?_, hs, ?_, ?_⟩
  · rw [eN]
    exact d.frm r2 (fun q hq => by have := (hP q hq).2; omega) hZ1
  · rw [eN, eW, eG, eL, fi 1 (by omega), fi 2 (by omega), fi 3 (by omega), fi 4 (by omega), fi 5 (by omega), fi 6 (by omega), fi 7 (by omega), fi 8 (by omega), fi 14 (by omega)]
    exact ⟨r3.1, r3.2.1, r3.2.2.1, r3.2.2.2.1, r3.2.2.2.2.1, r3.2.2.2.2.2.1, r3.2.2.2.2.2.2.1, r3.2.2.2.2.2.2.2.1, r3.2.2.2.2.2.2.2.2.1, h24⟩
  · intro i hi
    rw [eI, ai (mi0 (by decide) rfl) (by decide), ai (mi0 (by decide) rfl) (by decide), ai (mi0 (by decide) rfl) (by decide)]
    exact r4 i hi
  · intro g hg
    rw [eN] at hg
    rw [eD, ai (mi0 (by decide) rfl) (by decide), ai (mi0 (by decide) rfl) (by decide)]
    exact r5 g hg
  · intro k hk
    rw [eW] at hk
    rw [eW, hmw, ai (mi0 (by decide) rfl) (by decide), ai (mi0 (by decide) rfl) (by decide), ai (mi0 (by decide) rfl) (by decide), ai (mi0 (by decide) rfl) (by decide)]
    exact r6 k hk
  · intro g hg
    rw [eR, ai (mi0 (by decide) rfl) (by decide)]
    simp only [ai (c := 61) (i := g) (mi1 hg rfl) (by decide), ai (c := 62) (i := g) (mi1 hg rfl) (by decide)]
    exact r8 g hg
  · intro s hs hN
    rw [eN] at hN
    exact ht s hs hN
  · obtain ⟨fx, sx, n1, n2, n3, n4, n5, n6, n7, n8, n9⟩ := hfl
    have gg : ∀ {i : Nat} {g : ba_G}, mb_g B S h' i g → mb_g B S' h' i g := fun {i g} G => by
      obtain ⟨g1, ⟨s, hs, hN, e1, e2⟩, rest⟩ := G
      exact ⟨g1, ⟨s, hs, by rw [eN]; exact hN, e1, e2⟩, rest⟩
    refine ⟨fx, sx, n1, n2, by rw [eF]; exact n3, n4, n5, n6, fun i hi => ?_, n8, fun q hq => ?_⟩
    · rw [eF]
      exact ⟨(n7 i hi).1, gg (n7 i hi).2⟩
    · obtain ⟨m1, m2, m3, m4⟩ := n9 q hq
      exact ⟨m1, m2, m3, gg m4⟩
/-- a store's fields and rows -/
def ms_P (s : Nat) : List (Nat × Nat × Nat) := (List.range 35).map (fun k => (11, s, k))
def ms_Z (s : Nat) : List (Nat × Nat) := [(64, s), (65, s), (66, s)]
theorem ms_P_mem {s k : Nat} (hk : k < 35) : (11, s, k) ∈ ms_P s := List.mem_map.mpr ⟨k, List.mem_range.mpr hk, rfl⟩
theorem ms_R.T (R : ms_R O B H e g0 x y h S) (hs : s < 8) (hN : s % 4 < bz_N S) (d : md B (ms_P s) (ms_Z s) h h') {t : ba_T} (hlo : (bs_lo t).length = (bs_lo (bz_T S s)).length) (T : mb_t B S h' s t) : ms_R O B H e g0 x y h' (bz_sT S s t) := by
  have L := R.L
  have hP : ∀ q, q ∈ ms_P s → q.1 = 11 ∧ q.2.1 = s := fun q hq => by
    obtain ⟨k, -, rfl⟩ := List.mem_map.mp hq
    exact ⟨rfl, rfl⟩
  have hZ : ∀ q, q ∈ ms_Z s → (q.1 = 64 ∨ q.1 = 65 ∨ q.1 = 66) ∧ q.2 = s := fun q hq => by
    simp [ms_Z] at hq
    rcases hq with rfl | rfl | rfl
    · exact ⟨Or.inl rfl, rfl⟩
    · exact ⟨Or.inr (Or.inl rfl), rfl⟩
    · exact ⟨Or.inr (Or.inr rfl), rfl⟩
  have hPi : ∀ q, q ∈ ms_P s → mb_in (bz_N S) q.1 q.2.1 := fun q hq => by
    obtain ⟨e1, e2⟩ := hP q hq
    rw [e1, e2]
    exact mi2 hs hN
  have hZi : ∀ q, q ∈ ms_Z s → mb_in (bz_N S) q.1 q.2 := fun q hq => by
    obtain ⟨e1, e2⟩ := hZ q hq
    rw [e2]
    rcases e1 with e1 | e1 | e1 <;> (rw [e1]; exact mi2 hs hN)
  have hmk : ∀ c j, c = 119 ∨ c = 121 ∨ c = 122 ∨ c = 123 → bi_ai h' (B c 0) j = bi_ai h (B c 0) j := fun c j hc => d.ai L hZi (by rcases hc with rfl | rfl | rfl | rfl <;> exact mi0 (by decide) rfl) (fun z => by have := (hZ _ z).1; omega) j
  refine R.gen (S' := bz_sT S s t) d (fun q hq => ⟨hPi q hq, Or.inl (hP q hq).1⟩) (fun q hq => ⟨hZi q hq, Or.inl (by have := (hZ q hq).1; omega)⟩) (fun c i => ?_) rfl rfl rfl rfl rfl rfl rfl rfl ?_ ?_ ?_ (fun s' hs' hN' => ?_)
  · have key : (bs_lo (bz_T (bz_sT S s t) i)).length = (bs_lo (bz_T S i)).length := by
      show (bs_lo (ba_u (bz_T S) s t i)).length = _
      unfold ba_u
      split
      · rename_i e
        rw [e]
        exact hlo
      · rfl
    unfold mb_kd
    rw [key]
    rfl
  · rw [d.fi L hPi (mi0 (by decide) rfl) (fun z => by have := (hP _ z).1; exact absurd this (by decide))]
    exact R.f24
  · simp only [hmk 119 _ (by omega), hmk 121 _ (by omega), hmk 122 _ (by omega), hmk 123 _ (by omega)]
    exact R.mk
  · have h9 := d.sp (S := S) L hPi hZi (fun q hq => by have := (hP q hq).1; omega) (fun q hq => by have := (hZ q hq).1; constructor <;> omega) R.sp
    exact h9
  · show mb_t B (bz_sT S s t) h' s' (ba_u (bz_T S) s t s')
    by_cases es : s' = s
    · subst es
      rw [ba_u_same]
      exact T
    · rw [ba_u_ne _ _ es]
      exact d.t L hPi hZi hs' hN' (fun q hq z => es (z.2.symm.trans (hP q hq).2)) (fun q hq z => es (z.2.2.symm.trans (hZ q hq).2)) (R.t hs' hN')
/-- a number of a store -/
theorem ms_R.sc (R : ms_R O B H e g0 x y h S) (hs : s < 8) (hN : s % 4 < bz_N S) {k : Nat} (h6 : 6 ≤ k) (h19 : k ≤ 19) (v : Int32) : ms_R O B H e g0 x y (bi_sfi h 11 (mb_cf k) (B 11 s) v) (bz_sT S s (bs_sc (bz_T S s) k v)) := by
  have hck : ∀ j, 6 ≤ j → j ≤ 19 → ((mb_cf j = 2 ∨ mb_cf j = 3 ∨ (8 ≤ mb_cf j ∧ mb_cf j ≤ 13) ∨ (16 ≤ mb_cf j ∧ mb_cf j ≤ 21))) := by
    intro j h1 h2
    have : j = 6 ∨ j = 7 ∨ j = 8 ∨ j = 9 ∨ j = 10 ∨ j = 11 ∨ j = 12 ∨ j = 13 ∨ j = 14 ∨ j = 15 ∨ j = 16 ∨ j = 17 ∨ j = 18 ∨ j = 19 := by omega
    rcases this with rfl | rfl | rfl | rfl | rfl | rfl | rfl | rfl | rfl | rfl | rfl | rfl | rfl | rfl <;> decide
  have hinj : ∀ j, 6 ≤ j → j ≤ 19 → mb_cf j = mb_cf k → j = k := by
    intro j h1 h2
    have h3 : ∀ a, a < 20 → 6 ≤ a → ∀ b, b < 20 → 6 ≤ b → mb_cf a = mb_cf b → a = b := by decide
    exact h3 j (by omega) h1 k (by omega) h6
  have hc := hck k h6 h19
  obtain ⟨t1, t2, t3, t4, t5, t6, t7, t8, t9⟩ := R.t hs hN
  refine R.T hs hN (md.sfi h (ms_P_mem (by omega)) v) rfl ⟨?_, fun j h1 h2 => ?_, fun j h1 h2 => ?_, ?_, ?_, t6, t7, ?_, ?_⟩
  · rw [bh_fi_sfi, bh_fi_sfi, if_neg (fun z => by have := z.2.1; omega), if_neg (fun z => by have := z.2.1; omega)]
    exact t1
  · rw [bh_fi_sfi]
    show _ = ba_u (bs_c (bz_T S s)) k v j
    by_cases ej : j = k
    · rw [if_pos ⟨rfl, by rw [ej], rfl⟩, ej, ba_u_same]
    · rw [if_neg (fun z => ej (hinj j h1 h2 z.2.1)), ba_u_ne _ _ ej]
      exact t2 j h1 h2
  · rw [bh_fi_sfi, if_neg (fun z => by
      have h3 : ∀ a, a < 7 → a ≠ 2 → 23 ≤ mb_gf a := by decide
      have := h3 j (by omega) h2
      have := z.2.1
      omega)]
    exact t3 j h1 h2
  · rw [bh_fi_sfi, if_neg (fun z => by have := z.2.1; omega)]
    exact t4
  · simp only [bh_fi_sfi]
    rw [if_neg (fun z => by have := z.2.1; omega), if_neg (fun z => by have := z.2.1; omega), if_neg (fun z => by have := z.2.1; omega), if_neg (fun z => by have := z.2.1; omega)]
    exact t5
  · rw [bh_fi_sfi, if_neg (fun z => by have := z.2.1; omega)]
    exact t8
  · simp only [bh_fi_sfi]
    rw [if_neg (fun z => by have := z.2.1; omega), if_neg (fun z => by have := z.2.1; omega)]
    exact t9
/-- what is staged: any of its fields, if they fit in the end -/
theorem ms_R.sgs (R : ms_R O B H e g0 x y h S) (hs : s < 8) (hN : s % 4 < bz_N S) (d : md B ((List.range 7).map (fun k => (11, s, 22 + k))) [] h h') {f : Nat → Int32} (h1 : ∀ k, k ≤ 6 → k ≠ 2 → bi_fi h' 11 (mb_gf k) (B 11 s) = f k) (h2 : bi_fi h' 11 22 (B 11 s) = (if f 1 = 0 then 0 else 1)) : ms_R O B H e g0 x y h' (bz_sT S s ((bz_T S s).1, f, (bz_T S s).2.2)) := by
  have L := R.L
  have hPm : ∀ q, q ∈ (List.range 7).map (fun k => (11, s, 22 + k)) → q.1 = 11 ∧ q.2.1 = s ∧ 22 ≤ q.2.2 ∧ q.2.2 ≤ 28 := fun q hq => by
    obtain ⟨k, hk, rfl⟩ := List.mem_map.mp hq
    have := List.mem_range.mp hk
    exact ⟨rfl, rfl, by show 22 ≤ 22 + k; omega, by show 22 + k ≤ 28; omega⟩
  have hPi : ∀ q, q ∈ (List.range 7).map (fun k => (11, s, 22 + k)) → mb_in (bz_N S) q.1 q.2.1 := fun q hq => by
    obtain ⟨e1, e2, -⟩ := hPm q hq
    rw [e1, e2]
    exact mi2 hs hN
  have fi : ∀ k, (k < 22 ∨ 28 < k) → bi_fi h' 11 k (B 11 s) = bi_fi h 11 k (B 11 s) := fun k hk => d.fi L hPi (mi2 hs hN) (fun z => by
    obtain ⟨-, -, a1, a2⟩ := hPm _ z
    have a1 : 22 ≤ k := a1
    have a2 : k ≤ 28 := a2
    omega)
  have ai : ∀ a j, bi_ai h' a j = bi_ai h a j := fun a j => d.2.2 a j (fun q hq => by cases hq)
  obtain ⟨t1, t2, t3, t4, t5, t6, t7, t8, t9⟩ := R.t hs hN
  refine R.T hs hN (d.mono (fun q hq => ?_) (fun q hq => by cases hq)) rfl ⟨?_, fun j a1 a2 => ?_, h1, h2, ?_, fun i hi => ?_, fun i hi => ?_, ?_, ?_⟩
  · obtain ⟨e1, e2, e3, e4⟩ := hPm q hq
    have : q = (11, s, q.2.2) := by rw [← e1, ← e2]
    rw [this]
    exact ms_P_mem (by omega)
  · rw [fi 0 (by omega), fi 1 (by omega)]
    exact t1
  · have h3 : ∀ a, a < 20 → 6 ≤ a → mb_cf a < 22 := by decide
    rw [fi _ (Or.inl (h3 j (by omega) a1))]
    exact t2 j a1 a2
  · rw [fi 4 (by omega), fi 5 (by omega), fi 6 (by omega), fi 7 (by omega)]
    exact t5
  · rw [ai, ai]
    exact t6 i hi
  · rw [ai, ai]
    exact t7 i hi
  · rw [fi 32 (by omega)]
    rcases t8 with t8 | ⟨t8, t8'⟩
    · exact Or.inl t8
    · exact Or.inr ⟨t8, fun q hq => by rw [ai]; exact t8' q hq⟩
  · rw [fi 33 (by omega), fi 34 (by omega)]
    exact t9
/-- thrown is no part of a state -/
theorem ms_R.th (R : ms_R O B H e g0 x y h S) (v : Int32) : ms_R O B H e g0 x y (bi_sfi h 12 0 (B 12 0) v) S := by
  have L := R.L
  have hPi : ∀ q, q ∈ [(12, 0, 0)] → mb_in (bz_N S) q.1 q.2.1 := fun q hq => by
    rw [List.mem_singleton] at hq
    subst hq
    exact mi0 (by decide) rfl
  have d : md B [(12, 0, 0)] [] h (bi_sfi h 12 0 (B 12 0) v) := md.sfi h (by simp) v
  refine R.gen d (fun q hq => ⟨hPi q hq, Or.inr (by rw [List.mem_singleton] at hq; subst hq; exact ⟨rfl, Or.inl rfl⟩)⟩) (fun q hq => by cases hq) (fun _ _ => rfl) rfl rfl rfl rfl rfl rfl rfl rfl ?_ R.mk (d.sp L hPi (fun q hq => by cases hq) (fun q hq => by rw [List.mem_singleton] at hq; subst hq; decide) (fun q hq => by cases hq) R.sp) (fun s hs hN => d.t L hPi (fun q hq => by cases hq) hs hN (fun q hq => by rw [List.mem_singleton] at hq; subst hq; exact fun z => absurd z.1 (by decide)) (fun q hq => by cases hq) (R.t hs hN))
  rw [bh_fi_sfi, if_neg (by simp)]
  exact R.f24
end MU
