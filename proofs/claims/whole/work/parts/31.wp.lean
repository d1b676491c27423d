/-! weakest preconditions over the interpreter: what is run is told from the end -/
abbrev bw_Q : Type := bi_O → bi_H → Prop
abbrev bw_K : Type := bi_L → List bi_V → bi_H → Prop
def bw_r (P : bi_P) (mi b : Nat) (L : bi_L) (st : List bi_V) (h : bi_H) (Q : bw_Q) : Prop := ∃ n o h', bi_run P n mi b L st h = some (o, h') ∧ Q o h'
def bw_cf (P : bi_P) (n : Nat) : Nat → List bi_V → bi_H → Option (bi_O × bi_H) := fun m as h => bi_run P n m 0 (bi_loc as) [] h
theorem bw_run_some {P : bi_P} {n mi b : Nat} {L : bi_L} {st : List bi_V} {h : bi_H} {r : bi_O × bi_H} : bi_run P (n + 1) mi b L st h = some r ↔ ∃ k z, P mi b = some k ∧ bi_xs (bi_cfn P n) k.2.1 L st h = some z ∧ (bi_t (bw_cf P n) k.2.2.1 k.2.2.2 z.1 z.2.1 z.2.2 = some (.inl r) ∨ ∃ w, bi_t (bw_cf P n) k.2.2.1 k.2.2.2 z.1 z.2.1 z.2.2 = some (.inr w) ∧ bi_run P n mi w.1 w.2.1 w.2.2.1 w.2.2.2 = some r) := by
  constructor
  · intro he
    unfold bi_run at he
    split at he
    · cases he
    · rename_i k hk
      split at he
      · cases he
      · rename_i z hz
        split at he
        · cases he
        · rename_i o ht
          cases he
          exact ⟨k, z, hk, hz, Or.inl ht⟩
        · rename_i w ht
          exact ⟨k, z, hk, hz, Or.inr ⟨w, ht, he⟩⟩
  · rintro ⟨k, z, hk, hz, ht⟩
    have e : bi_run P (n + 1) mi b L st h = (match P mi b with
      | none => none
      | some q => match bi_xs (bi_cfn P n) q.2.1 L st h with
        | none => none
        | some z => match bi_t (bw_cf P n) q.2.2.1 q.2.2.2 z.1 z.2.1 z.2.2 with
          | none => none
          | some (.inl o) => some o
          | some (.inr w) => bi_run P n mi w.1 w.2.1 w.2.2.1 w.2.2.2) := rfl
    rw [e, hk]
    dsimp only
    rw [hz]
    dsimp only
    rcases ht with ht | ⟨w, ht, hr⟩
    · rw [ht]
    · rw [ht]
      exact hr
/-! more fuel -/
theorem bw_ret_mono {L : bi_L} {rest : List bi_V} {o o' : Option (Option bi_V × bi_H)} {z : bi_L × List bi_V × bi_H} (ho : ∀ r, o = some r → o' = some r) (hz : bi_ret L rest o = some z) : bi_ret L rest o' = some z := by
  cases o with
  | none => cases hz
  | some r => rw [ho r rfl]; exact hz
theorem bw_callo_mono {cf cf' : Nat → List bi_V → bi_H → Option (Option bi_V × bi_H)} (hc : ∀ mi as h r, cf mi as h = some r → cf' mi as h = some r) {mi n c : Nat} {L : bi_L} {st : List bi_V} {h : bi_H} {z : bi_L × List bi_V × bi_H} (hz : bi_callo cf mi n c L st h = some z) : bi_callo cf' mi n c L st h = some z := by
  unfold bi_callo at hz ⊢
  split at hz
  · split at hz
    · rename_i a rest he hcnd
      rw [if_pos hcnd]
      exact bw_ret_mono (hc _ _ _) hz
    · cases hz
  · cases hz
theorem bw_x_mono {cf cf' : Nat → List bi_V → bi_H → Option (Option bi_V × bi_H)} (hc : ∀ mi as h r, cf mi as h = some r → cf' mi as h = some r) {i : Instr} {r : bi_R} {L : bi_L} {st : List bi_V} {h : bi_H} {z : bi_L × List bi_V × bi_H} (hz : bi_x cf i r L st h = some z) : bi_x cf' i r L st h = some z := by
  cases i with
  | invokestatic k =>
    have hz : bi_calls cf r.1 r.2.1 L st h = some z := hz
    show bi_calls cf' r.1 r.2.1 L st h = some z
    unfold bi_calls at hz ⊢
    split at hz
    · rename_i hcnd
      rw [if_pos hcnd]
      exact bw_ret_mono (hc _ _ _) hz
    · cases hz
  | invokevirtual k => exact bw_callo_mono hc (z := z) hz
  | invokespecial k =>
    unfold bi_x at hz ⊢
    dsimp only at hz ⊢
    split at hz
    · rename_i h9
      rw [if_pos h9]
      exact hz
    · rename_i h9
      rw [if_neg h9]
      exact bw_callo_mono hc hz
  | _ => exact hz
theorem bw_xs_mono {cf cf' : Nat → List bi_V → bi_H → Option (Option bi_V × bi_H)} (hc : ∀ mi as h r, cf mi as h = some r → cf' mi as h = some r) : ∀ {is : List bi_I} {L : bi_L} {st : List bi_V} {h : bi_H} {z : bi_L × List bi_V × bi_H}, bi_xs cf is L st h = some z → bi_xs cf' is L st h = some z
  | [], _, _, _, _, hz => hz
  | i :: is, L, st, h, z, hz => by
    unfold bi_xs at hz ⊢
    split at hz
    · cases hz
    · rename_i q hq
      rw [bw_x_mono hc hq]
      exact bw_xs_mono hc hz
theorem bw_t_mono {cf cf' : Nat → List bi_V → bi_H → Option (bi_O × bi_H)} (hc : ∀ mi as h r, cf mi as h = some r → cf' mi as h = some r) {t : bi_I} {bs : List Nat} {L : bi_L} {st : List bi_V} {h : bi_H} {z : (bi_O × bi_H) ⊕ (Nat × bi_L × List bi_V × bi_H)} (hz : bi_t cf t bs L st h = some z) : bi_t cf' t bs L st h = some z := by
  obtain ⟨i, r⟩ := t
  cases i with
  | invokevirtual k =>
    unfold bi_t at hz ⊢
    dsimp only at hz ⊢
    split at hz
    · split at hz
      · rename_i a rest he hcnd
        rw [if_pos hcnd]
        split at hz
        · rename_i hcf
          rw [hc _ _ _ _ hcf]
          exact hz
        · rename_i hcf
          rw [hc _ _ _ _ hcf]
          exact hz
        · cases hz
      · cases hz
    · cases hz
  | _ => exact hz
theorem bw_run_mono1 {P : bi_P} : ∀ (n : Nat) {mi b : Nat} {L : bi_L} {st : List bi_V} {h : bi_H} {r : bi_O × bi_H}, bi_run P n mi b L st h = some r → bi_run P (n + 1) mi b L st h = some r
  | 0, _, _, _, _, _, _, he => by cases he
  | n + 1, mi, b, L, st, h, r, he => by
    obtain ⟨k, z, h1, h2, h3⟩ := bw_run_some.mp he
    have hc : ∀ mi as h r, bw_cf P n mi as h = some r → bw_cf P (n + 1) mi as h = some r := fun mi as h r h9 => bw_run_mono1 n h9
    have hc2 : ∀ mi as h r, bi_cfn P n mi as h = some r → bi_cfn P (n + 1) mi as h = some r := fun mi as h r h9 => by
      unfold bi_cfn at h9 ⊢
      split at h9
      · rename_i hr
        rw [bw_run_mono1 n hr]
        exact h9
      · cases h9
    refine bw_run_some.mpr ⟨k, z, h1, bw_xs_mono hc2 h2, ?_⟩
    rcases h3 with h3 | ⟨w, h3, h4⟩
    · exact Or.inl (bw_t_mono hc h3)
    · exact Or.inr ⟨w, bw_t_mono hc h3, bw_run_mono1 n h4⟩
theorem bw_run_mono {P : bi_P} {n n' mi b : Nat} {L : bi_L} {st : List bi_V} {h : bi_H} {r : bi_O × bi_H} (hn : n ≤ n') (he : bi_run P n mi b L st h = some r) : bi_run P n' mi b L st h = some r := by
  induction hn with
  | refl => exact he
  | step _ ih => exact bw_run_mono1 _ ih
theorem bw_cfn_mono {P : bi_P} {n n' : Nat} (hn : n ≤ n') (mi : Nat) (as : List bi_V) (h : bi_H) (r : Option bi_V × bi_H) (h9 : bi_cfn P n mi as h = some r) : bi_cfn P n' mi as h = some r := by
  unfold bi_cfn at h9 ⊢
  split at h9
  · rename_i hr
    rw [bw_run_mono hn hr]
    exact h9
  · cases h9
/-! the calculus -/
def bw_C (P : bi_P) (mi : Nat) (as : List bi_V) (h : bi_H) (K : Option bi_V → bi_H → Prop) : Prop := bw_r P mi 0 (bi_loc as) [] h (fun o h' => ∃ v, o = .inl v ∧ K v h')
def bw_o (P : bi_P) (r : bi_R) (L : bi_L) (st : List bi_V) (h : bi_H) (K : bw_K) : Prop := ∃ a rest, st.drop r.2.1 = .inr (.inl a) :: rest ∧ (bi_k h a).1 = 10 + r.2.2.1 ∧ bi_sum rest ≤ 8 ∧ bi_sum (st.take r.2.1) = r.2.1 ∧ bw_C P r.1 (.inr (.inl a) :: (st.take r.2.1).reverse) h (fun v h' => K L (v.toList ++ rest) h')
def bw_x (P : bi_P) (i : Instr) (r : bi_R) (L : bi_L) (st : List bi_V) (h : bi_H) (K : bw_K) : Prop := match i with
  | .invokestatic _ => r.2.1 ≤ st.length ∧ bi_sum (st.drop r.2.1) ≤ 8 ∧ bi_sum (st.take r.2.1) = r.2.1 ∧ bw_C P r.1 (st.take r.2.1).reverse h (fun v h' => K L (v.toList ++ st.drop r.2.1) h')
  | .invokevirtual _ => bw_o P r L st h K
  | .invokespecial _ => if r.1 = 9999 then ∃ a rest, st = .inr (.inl a) :: rest ∧ (bi_k h a).1 ≠ 0 ∧ bi_sum rest ≤ 8 ∧ K L rest h else bw_o P r L st h K
  | _ => ∃ q, bi_x (fun _ _ _ => none) i r L st h = some q ∧ K q.1 q.2.1 q.2.2
def bw_xs (P : bi_P) : List bi_I → bi_L → List bi_V → bi_H → bw_K → Prop
  | [], L, st, h, K => K L st h
  | i :: is, L, st, h, K => bw_x P i.1 i.2 L st h (fun L st h => bw_xs P is L st h K)
theorem bw_C_ok {P : bi_P} {mi : Nat} {as : List bi_V} {h : bi_H} {K : Option bi_V → bi_H → Prop} (hc : bw_C P mi as h K) : ∃ n v h', bi_cfn P n mi as h = some (v, h') ∧ K v h' := by
  obtain ⟨n, o, h', hr, v, rfl, hK⟩ := hc
  refine ⟨n, v, h', ?_, hK⟩
  unfold bi_cfn
  rw [hr]
theorem bw_o_ok {P : bi_P} {r : bi_R} {L : bi_L} {st : List bi_V} {h : bi_H} {K : bw_K} (ho : bw_o P r L st h K) : ∃ n q, bi_callo (bi_cfn P n) r.1 r.2.1 r.2.2.1 L st h = some q ∧ K q.1 q.2.1 q.2.2 := by
  obtain ⟨a, rest, h1, h2, h3, h4, h5⟩ := ho
  obtain ⟨n, v, h', h6, h7⟩ := bw_C_ok h5
  refine ⟨n, (L, v.toList ++ rest, h'), ?_, h7⟩
  unfold bi_callo
  rw [h1]
  dsimp only
  rw [if_pos ⟨h2, h3, h4⟩, h6]
  rfl
theorem bw_x_ok {P : bi_P} {i : Instr} {r : bi_R} {L : bi_L} {st : List bi_V} {h : bi_H} {K : bw_K} (hx : bw_x P i r L st h K) : ∃ n q, bi_x (bi_cfn P n) i r L st h = some q ∧ K q.1 q.2.1 q.2.2 := by
  cases i with
  | invokestatic k =>
    obtain ⟨h1, h2, h3, h4⟩ := hx
    obtain ⟨n, v, h', h6, h7⟩ := bw_C_ok h4
    refine ⟨n, (L, v.toList ++ st.drop r.2.1, h'), ?_, h7⟩
    show bi_calls (bi_cfn P n) r.1 r.2.1 L st h = _
    unfold bi_calls
    rw [if_pos ⟨h1, h2, h3⟩, h6]
    rfl
  | invokevirtual k => exact bw_o_ok hx
  | invokespecial k =>
    unfold bw_x at hx
    dsimp only at hx
    split at hx
    · rename_i h9
      obtain ⟨a, rest, rfl, h1, h2, h3⟩ := hx
      refine ⟨0, (L, rest, h), ?_, h3⟩
      unfold bi_x
      dsimp only
      rw [if_pos h9, if_pos ⟨h1, h2⟩]
    · rename_i h9
      obtain ⟨n, q, h1, h2⟩ := bw_o_ok hx
      refine ⟨n, q, ?_, h2⟩
      unfold bi_x
      dsimp only
      rw [if_neg h9]
      exact h1
  | _ =>
    obtain ⟨q, h1, h2⟩ := hx
    exact ⟨0, q, h1, h2⟩
theorem bw_xs_ok {P : bi_P} : ∀ {is : List bi_I} {L : bi_L} {st : List bi_V} {h : bi_H} {K : bw_K}, bw_xs P is L st h K → ∃ n q, bi_xs (bi_cfn P n) is L st h = some q ∧ K q.1 q.2.1 q.2.2
  | [], L, st, h, K, hx => ⟨0, (L, st, h), rfl, hx⟩
  | i :: is, L, st, h, K, hx => by
    obtain ⟨n, q, h1, h2⟩ := bw_x_ok hx
    obtain ⟨n', q', h3, h4⟩ := bw_xs_ok (is := is) h2
    refine ⟨n + n', q', ?_, h4⟩
    unfold bi_xs
    rw [bw_x_mono (bw_cfn_mono (Nat.le_add_right n n')) h1]
    exact bw_xs_mono (bw_cfn_mono (Nat.le_add_left n' n)) h3
def bw_t (P : bi_P) (t : bi_I) (bs : List Nat) (L : bi_L) (st : List bi_V) (h : bi_H) (Q : bw_Q) (B : Nat → bw_K) : Prop := match t.1 with
  | .invokevirtual _ => ∃ a rest, st.drop t.2.2.1 = .inr (.inl a) :: rest ∧ (bi_k h a).1 = 10 + t.2.2.2.1 ∧ bi_sum rest ≤ 8 ∧ bi_sum (st.take t.2.2.1) = t.2.2.1 ∧ bw_r P t.2.1 0 (bi_loc (.inr (.inl a) :: (st.take t.2.2.1).reverse)) [] h (fun o h' => match o with
    | .inl v => B (bs.getD 0 0) L (v.toList ++ rest) h'
    | .inr e => e + 1 < bs.length ∧ B (bs.getD (e + 1) 0) (L.filter (fun q => !(q.1 == t.2.2.2.2))) [] h')
  | _ => ∃ z, bi_t (fun _ _ _ => none) t bs L st h = some z ∧ (match z with
    | .inl o => Q o.1 o.2
    | .inr w => B w.1 w.2.1 w.2.2.1 w.2.2.2)
theorem bw_t_ok {P : bi_P} {t : bi_I} {bs : List Nat} {L : bi_L} {st : List bi_V} {h : bi_H} {Q : bw_Q} {B : Nat → bw_K} (ht : bw_t P t bs L st h Q B) : ∃ n z, bi_t (bw_cf P n) t bs L st h = some z ∧ (match z with
    | .inl o => Q o.1 o.2
    | .inr w => B w.1 w.2.1 w.2.2.1 w.2.2.2) := by
  obtain ⟨i, r⟩ := t
  cases i with
  | invokevirtual k =>
    obtain ⟨a, rest, h1, h2, h3, h4, n, o, h', h5, h6⟩ := ht
    have h5' : bw_cf P n r.1 (.inr (.inl a) :: (st.take r.2.1).reverse) h = some (o, h') := h5
    cases o with
    | inl v =>
      refine ⟨n, .inr (bs.getD 0 0, L, v.toList ++ rest, h'), ?_, h6⟩
      unfold bi_t
      dsimp only at h1 h2 h4 ⊢
      rw [h1]
      dsimp only
      rw [if_pos ⟨h2, h3, h4⟩, h5']
    | inr e =>
      refine ⟨n, .inr (bs.getD (e + 1) 0, L.filter (fun q => !(q.1 == r.2.2.2)), [], h'), ?_, h6.2⟩
      unfold bi_t
      dsimp only at h1 h2 h4 ⊢
      rw [h1]
      dsimp only
      rw [if_pos ⟨h2, h3, h4⟩, h5']
      dsimp only
      rw [if_pos h6.1]
  | _ =>
    obtain ⟨z, h1, h2⟩ := ht
    exact ⟨0, z, h1, h2⟩
/-- a block -/
theorem bw_step {P : bi_P} {mi b : Nat} {k : bi_K} {L : bi_L} {st : List bi_V} {h : bi_H} {Q : bw_Q} (hk : P mi b = some k) (hx : bw_xs P k.2.1 L st h (fun L st h => bw_t P k.2.2.1 k.2.2.2 L st h Q (fun b L st h => bw_r P mi b L st h Q))) : bw_r P mi b L st h Q := by
  obtain ⟨n, q, h1, h2⟩ := bw_xs_ok hx
  obtain ⟨n', z, h3, h4⟩ := bw_t_ok h2
  have hm : ∀ {m m' : Nat}, m ≤ m' → ∀ mi as h r, bw_cf P m mi as h = some r → bw_cf P m' mi as h = some r := fun hm mi as h r h9 => bw_run_mono hm h9
  cases z with
  | inl o =>
    refine ⟨n + n' + 1, o.1, o.2, bw_run_some.mpr ⟨k, q, hk, bw_xs_mono (bw_cfn_mono (Nat.le_add_right n n')) h1, Or.inl (bw_t_mono (hm (Nat.le_add_left n' n)) h3)⟩, h4⟩
  | inr w =>
    obtain ⟨n2, o, h', h5, h6⟩ := h4
    refine ⟨n + n' + n2 + 1, o, h', bw_run_some.mpr ⟨k, q, hk, bw_xs_mono (bw_cfn_mono (by omega)) h1, Or.inr ⟨w, bw_t_mono (hm (by omega)) h3, bw_run_mono (by omega) h5⟩⟩, h6⟩
theorem bw_imp {P : bi_P} {mi b : Nat} {L : bi_L} {st : List bi_V} {h : bi_H} {Q Q' : bw_Q} (hr : bw_r P mi b L st h Q) (hq : ∀ o h', Q o h' → Q' o h') : bw_r P mi b L st h Q' := by
  obtain ⟨n, o, h', h1, h2⟩ := hr
  exact ⟨n, o, h', h1, hq _ _ h2⟩
/-! more locals do no harm -/
def bw_le (L' L : bi_L) : Prop := ∀ i v, L'.lookup i = some v → L.lookup i = some v
theorem bw_look_filter (k j : Nat) : ∀ (L : bi_L), (L.filter (fun q => !(q.1 == k))).lookup j = if j = k then none else L.lookup j
  | [] => by simp
  | (a, v) :: L => by
    have ih := bw_look_filter k j L
    by_cases e : a = k
    · subst e
      rw [List.filter_cons_of_neg (by simp), ih]
      by_cases e2 : j = a
      · rw [if_pos e2, if_pos e2]
      · have : (j == a) = false := by simp [e2]
        rw [if_neg e2, if_neg e2, List.lookup_cons, this]
    · rw [List.filter_cons_of_pos (by simp [e]), List.lookup_cons, List.lookup_cons, ih]
      by_cases e2 : j = k
      · subst e2
        have : (j == a) = false := by
          rw [beq_eq_false_iff_ne]
          omega
        rw [this, if_pos rfl]
      · rw [if_neg e2, if_neg e2]
theorem bw_look_st (L : bi_L) (i : Nat) (v : bi_V) (j : Nat) : (bi_st L i v).lookup j = if j = i then some v else L.lookup j := by
  unfold bi_st
  rw [List.lookup_cons, bw_look_filter]
  by_cases e : j = i
  · simp [e]
  · have : (j == i) = false := by simp [e]
    rw [this, if_neg e, if_neg e]
theorem bw_le_st {L' L : bi_L} (hl : bw_le L' L) (i : Nat) (v : bi_V) : bw_le (bi_st L' i v) (bi_st L i v) := by
  intro j w hw
  rw [bw_look_st] at hw ⊢
  by_cases e : j = i
  · rw [if_pos e] at hw ⊢
    exact hw
  · rw [if_neg e] at hw ⊢
    exact hl j w hw
theorem bw_le_filter {L' L : bi_L} (hl : bw_le L' L) (k : Nat) : bw_le (L'.filter (fun q => !(q.1 == k))) (L.filter (fun q => !(q.1 == k))) := by
  intro j w hw
  rw [bw_look_filter] at hw ⊢
  by_cases e : j = k
  · rw [if_pos e] at hw
    cases hw
  · rw [if_neg e] at hw ⊢
    exact hl j w hw
/-- an instruction that leaves the locals alone -/
def bw_nl (i : Instr) : Bool := match i with
  | .iload_n _ => false
  | .iload _ => false
  | .aload_n _ => false
  | .aload _ => false
  | .istore_n _ => false
  | .istore _ => false
  | .astore_n _ => false
  | .astore _ => false
  | .iinc _ _ => false
  | _ => true
theorem bw_ret_loc (L : bi_L) (rest : List bi_V) (o : Option (Option bi_V × bi_H)) : bi_ret L rest o = (bi_ret [] rest o).map (fun q => (L, q.2.1, q.2.2)) := by
  cases o <;> rfl
theorem bw_callo_loc (cf : Nat → List bi_V → bi_H → Option (Option bi_V × bi_H)) (mi n c : Nat) (L : bi_L) (st : List bi_V) (h : bi_H) : bi_callo cf mi n c L st h = (bi_callo cf mi n c [] st h).map (fun q => (L, q.2.1, q.2.2)) := by
  unfold bi_callo
  split
  · split
    · exact bw_ret_loc _ _ _
    · rfl
  · rfl
theorem bw_op2_loc (f : Int32 → Int32 → Int32) (L : bi_L) (st : List bi_V) (h : bi_H) : bi_op2 f L st h = (bi_op2 f [] st h).map (fun q => (L, q.2.1, q.2.2)) := by
  unfold bi_op2
  split <;> rfl
theorem bw_x_loc {cf : Nat → List bi_V → bi_H → Option (Option bi_V × bi_H)} {i : Instr} (hn : bw_nl i = true) (r : bi_R) (L : bi_L) (st : List bi_V) (h : bi_H) : bi_x cf i r L st h = (bi_x cf i r [] st h).map (fun q => (L, q.2.1, q.2.2)) := by
  cases i with
  | iload_n k => cases hn
  | iload k => cases hn
  | aload_n k => cases hn
  | aload k => cases hn
  | istore_n k => cases hn
  | istore k => cases hn
  | astore_n k => cases hn
  | astore k => cases hn
  | iinc k v => cases hn
  | invokestatic k =>
    show bi_calls cf r.1 r.2.1 L st h = (bi_calls cf r.1 r.2.1 [] st h).map (fun q => (L, q.2.1, q.2.2))
    unfold bi_calls
    split
    · exact bw_ret_loc _ _ _
    · rfl
  | invokevirtual k => exact bw_callo_loc _ _ _ _ _ _ _
  | invokespecial k =>
    unfold bi_x
    dsimp only
    split
    · split
      · split <;> rfl
      · rfl
    · exact bw_callo_loc _ _ _ _ _ _ _
  | iadd => exact bw_op2_loc _ _ _ _
  | isub => exact bw_op2_loc _ _ _ _
  | imul => exact bw_op2_loc _ _ _ _
  | iand => exact bw_op2_loc _ _ _ _
  | ixor => exact bw_op2_loc _ _ _ _
  | _ => first | rfl | (unfold bi_x; dsimp only; (repeat' split) <;> rfl)
theorem bw_x_le {cf : Nat → List bi_V → bi_H → Option (Option bi_V × bi_H)} {i : Instr} {r : bi_R} {L' L : bi_L} {st : List bi_V} {h : bi_H} {z : bi_L × List bi_V × bi_H} (hl : bw_le L' L) (hz : bi_x cf i r L' st h = some z) : ∃ L1, bi_x cf i r L st h = some (L1, z.2.1, z.2.2) ∧ bw_le z.1 L1 := by
  have ldi : ∀ k, bi_ldi L' k st h = some z → ∃ L1, bi_ldi L k st h = some (L1, z.2.1, z.2.2) ∧ bw_le z.1 L1 := fun k hz => by
    unfold bi_ldi at hz ⊢
    split at hz
    · rename_i x hx
      cases hz
      rw [hl _ _ hx]
      exact ⟨L, rfl, hl⟩
    · cases hz
  have lda : ∀ k, bi_lda L' k st h = some z → ∃ L1, bi_lda L k st h = some (L1, z.2.1, z.2.2) ∧ bw_le z.1 L1 := fun k hz => by
    unfold bi_lda at hz ⊢
    split at hz
    · rename_i x hx
      cases hz
      rw [hl _ _ hx]
      exact ⟨L, rfl, hl⟩
    · cases hz
  have sti : ∀ k, bi_sti L' k st h = some z → ∃ L1, bi_sti L k st h = some (L1, z.2.1, z.2.2) ∧ bw_le z.1 L1 := fun k hz => by
    unfold bi_sti at hz ⊢
    split at hz
    · cases hz
      exact ⟨_, rfl, bw_le_st hl _ _⟩
    · cases hz
  have sta : ∀ k, bi_sta L' k st h = some z → ∃ L1, bi_sta L k st h = some (L1, z.2.1, z.2.2) ∧ bw_le z.1 L1 := fun k hz => by
    unfold bi_sta at hz ⊢
    split at hz
    · cases hz
      exact ⟨_, rfl, bw_le_st hl _ _⟩
    · cases hz
  by_cases hn : bw_nl i = true
  · rw [bw_x_loc hn] at hz ⊢
    cases hq : bi_x cf i r [] st h with
    | none => rw [hq] at hz; cases hz
    | some q => rw [hq] at hz; cases hz; exact ⟨L, rfl, hl⟩
  · cases i with
    | iload_n k => exact ldi k.val hz
    | iload k => exact ldi k hz
    | aload_n k => exact lda k.val hz
    | aload k => exact lda k hz
    | istore_n k => exact sti k.val hz
    | istore k => exact sti k hz
    | astore_n k => exact sta k.val hz
    | astore k => exact sta k hz
    | iinc k v =>
      unfold bi_x at hz ⊢
      dsimp only at hz ⊢
      split at hz
      · rename_i x hx
        cases hz
        rw [hl _ _ hx]
        exact ⟨_, rfl, bw_le_st hl _ _⟩
      · cases hz
    | _ => exact (hn rfl).elim
theorem bw_xs_le {cf : Nat → List bi_V → bi_H → Option (Option bi_V × bi_H)} : ∀ {is : List bi_I} {L' L : bi_L} {st : List bi_V} {h : bi_H} {z : bi_L × List bi_V × bi_H}, bw_le L' L → bi_xs cf is L' st h = some z → ∃ L1, bi_xs cf is L st h = some (L1, z.2.1, z.2.2) ∧ bw_le z.1 L1
  | [], L', L, st, h, z, hl, hz => by cases hz; exact ⟨L, rfl, hl⟩
  | i :: is, L', L, st, h, z, hl, hz => by
    unfold bi_xs at hz ⊢
    split at hz
    · cases hz
    · rename_i q hq
      obtain ⟨L1, h1, h2⟩ := bw_x_le hl hq
      rw [h1]
      exact bw_xs_le h2 hz
theorem bw_t_le {cf : Nat → List bi_V → bi_H → Option (bi_O × bi_H)} {t : bi_I} {bs : List Nat} {L' L : bi_L} {st : List bi_V} {h : bi_H} (hl : bw_le L' L) : (∀ o, bi_t cf t bs L' st h = some (.inl o) → bi_t cf t bs L st h = some (.inl o)) ∧ ∀ w, bi_t cf t bs L' st h = some (.inr w) → ∃ L1, bi_t cf t bs L st h = some (.inr (w.1, L1, w.2.2.1, w.2.2.2)) ∧ bw_le w.2.1 L1 := by
  obtain ⟨i, r⟩ := t
  constructor
  · intro o hz
    cases i <;> first | (cases hz; done) | (unfold bi_t at hz ⊢; dsimp only at hz ⊢; (repeat' (split at hz)) <;> first | exact hz | (cases hz; rw [if_pos (by assumption)]) | cases hz)
  · intro w hz
    cases i with
    | invokevirtual k =>
      unfold bi_t at hz ⊢
      dsimp only at hz ⊢
      split at hz
      · split at hz
        · rename_i a rest he hcnd
          rw [if_pos hcnd]
          split at hz
          · cases hz
            exact ⟨L, rfl, hl⟩
          · split at hz
            · rename_i he
              rw [if_pos he]
              cases hz
              exact ⟨_, rfl, bw_le_filter hl _⟩
            · cases hz
          · cases hz
        · cases hz
      · cases hz
    | _ => first | (cases hz; done) | (cases hz; exact ⟨L, rfl, hl⟩) | (unfold bi_t at hz ⊢; dsimp only at hz ⊢; split at hz <;> first | (cases hz; exact ⟨L, rfl, hl⟩) | (split at hz <;> cases hz) | cases hz)
theorem bw_run_le {P : bi_P} : ∀ (n : Nat) {mi b : Nat} {L' L : bi_L} {st : List bi_V} {h : bi_H} {r : bi_O × bi_H}, bw_le L' L → bi_run P n mi b L' st h = some r → bi_run P n mi b L st h = some r
  | 0, _, _, _, _, _, _, _, _, he => by cases he
  | n + 1, mi, b, L', L, st, h, r, hl, he => by
    obtain ⟨k, z, h1, h2, h3⟩ := bw_run_some.mp he
    obtain ⟨L1, h4, h5⟩ := bw_xs_le hl h2
    refine bw_run_some.mpr ⟨k, _, h1, h4, ?_⟩
    rcases h3 with h3 | ⟨w, h3, h6⟩
    · exact Or.inl ((bw_t_le h5).1 _ h3)
    · obtain ⟨L2, h7, h8⟩ := (bw_t_le h5).2 _ h3
      exact Or.inr ⟨_, h7, bw_run_le n h8 h6⟩
/-- fewer locals are enough -/
theorem bw_sub {P : bi_P} {mi b : Nat} {L : bi_L} {st : List bi_V} {h : bi_H} {Q : bw_Q} (L' : bi_L) (hl : ∀ q ∈ L', L.lookup q.1 = some q.2) (hr : bw_r P mi b L' st h Q) : bw_r P mi b L st h Q := by
  obtain ⟨n, o, h', h1, h2⟩ := hr
  refine ⟨n, o, h', bw_run_le n (fun i v hv => ?_) h1, h2⟩
  exact hl _ (bi_lk hv)
