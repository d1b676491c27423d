/-! lines: writes by number, each behind another; stretches, places, the last write of a place -/
/-- how many writes; the line that each was put behind, its spot, its number, the length of the line that ends with it, the write that held its place there, its group -/
abbrev ba_W : Type := Nat × (Nat → Nat) × (Nat → Nat) × (Nat → Int32) × (Nat → Nat) × (Nat → Nat) × (Nat → Nat)
def ba_n (W : ba_W) : Nat := W.1
def ba_b (W : ba_W) : Nat → Nat := W.2.1
def ba_s (W : ba_W) : Nat → Nat := W.2.2.1
def ba_v (W : ba_W) : Nat → Int32 := W.2.2.2.1
def ba_l (W : ba_W) : Nat → Nat := W.2.2.2.2.1
def ba_e (W : ba_W) : Nat → Nat := W.2.2.2.2.2.1
def ba_g (W : ba_W) : Nat → Nat := W.2.2.2.2.2.2
/-- so many steps back -/
def ba_up (W : ba_W) : Nat → Nat → Nat
  | 0, k => k
  | i + 1, k => ba_up W i (ba_b W k)
/-- the last d writes of a line, the newest first -/
def ba_str (W : ba_W) : Nat → Nat → List Nat
  | 0, _ => []
  | d + 1, k => k :: ba_str W d (ba_b W k)
/-- the newest of them at a spot, or 0 -/
def ba_at (W : ba_W) (p : Nat) : Nat → Nat → Nat
  | 0, _ => 0
  | d + 1, k => if ba_s W k = p then k else ba_at W p d (ba_b W k)
def ba_last (W : ba_W) (k p : Nat) : Nat := ba_at W p (ba_l W k) k
/-- those of them whose place was last written within the first f -/
def ba_pl (W : ba_W) (f : Nat) : Nat → Nat → Nat
  | 0, _ => 0
  | d + 1, k => (if ba_l W (ba_e W k) ≤ f then 1 else 0) + ba_pl W f d (ba_b W k)
def ba_row (W : ba_W) (k : Nat) : Prop := ba_b W k < k ∧ ba_l W k = ba_l W (ba_b W k) + 1 ∧ ba_s W k < 32768 ∧ ba_e W k = ba_last W (ba_b W k) (ba_s W k) ∧ ba_g W k < 4 ∧ (ba_b W k ≠ 0 → ba_g W (ba_b W k) = ba_g W k)
def ba_ok (W : ba_W) : Prop := ba_n W ≤ 60000 ∧ (ba_b W 0 = 0 ∧ ba_s W 0 = 0 ∧ ba_v W 0 = 0 ∧ ba_l W 0 = 0 ∧ ba_e W 0 = 0) ∧ ∀ k, 0 < k → k ≤ ba_n W → ba_row W k
section BA
variable {W : ba_W}
theorem ba_b_le (hW : ba_ok W) {k : Nat} (hk : k ≤ ba_n W) : ba_b W k ≤ k := by
  by_cases h0 : k = 0
  · subst h0
    rw [hW.2.1.1]
    exact Nat.le_refl 0
  · exact Nat.le_of_lt (hW.2.2 k (by omega) hk).1
theorem ba_b_in (hW : ba_ok W) {k : Nat} (hk : k ≤ ba_n W) : ba_b W k ≤ ba_n W := Nat.le_trans (ba_b_le hW hk) hk
theorem ba_l0 (hW : ba_ok W) : ba_l W 0 = 0 := hW.2.1.2.2.2.1
theorem ba_l_b (hW : ba_ok W) {k : Nat} (hk : k ≤ ba_n W) : ba_l W (ba_b W k) = ba_l W k - 1 := by
  by_cases h0 : k = 0
  · subst h0
    rw [hW.2.1.1, ba_l0 hW]
  · have := (hW.2.2 k (by omega) hk).2.1
    omega
theorem ba_l_pos (hW : ba_ok W) {k : Nat} (hk : k ≤ ba_n W) : ba_l W k = 0 ↔ k = 0 := by
  constructor
  · intro h
    by_cases h0 : k = 0
    · exact h0
    · have := (hW.2.2 k (by omega) hk).2.1
      omega
  · intro h
    subst h
    exact ba_l0 hW
theorem ba_l_le (hW : ba_ok W) : ∀ (k : Nat), k ≤ ba_n W → ba_l W k ≤ k := by
  intro k
  induction k using Nat.strongRecOn with
  | ind k ih =>
    intro hk
    by_cases h0 : k = 0
    · subst h0
      rw [ba_l0 hW]
      exact Nat.le_refl 0
    · obtain ⟨h1, h2, -⟩ := hW.2.2 k (by omega) hk
      have := ih _ h1 (by omega)
      omega
theorem ba_up_in (hW : ba_ok W) : ∀ (i k : Nat), k ≤ ba_n W → ba_up W i k ≤ ba_n W
  | 0, _, hk => hk
  | i + 1, _, hk => ba_up_in hW i _ (ba_b_in hW hk)
theorem ba_up_le (hW : ba_ok W) : ∀ (i k : Nat), k ≤ ba_n W → ba_up W i k ≤ k
  | 0, _, _ => Nat.le_refl _
  | i + 1, _, hk => Nat.le_trans (ba_up_le hW i _ (ba_b_in hW hk)) (ba_b_le hW hk)
theorem ba_up_l (hW : ba_ok W) : ∀ (i k : Nat), k ≤ ba_n W → ba_l W (ba_up W i k) = ba_l W k - i
  | 0, _, _ => rfl
  | i + 1, k, hk => by
    show ba_l W (ba_up W i (ba_b W k)) = _
    rw [ba_up_l hW i _ (ba_b_in hW hk), ba_l_b hW hk]
    omega
theorem ba_up_add (W : ba_W) : ∀ (i j k : Nat), ba_up W (i + j) k = ba_up W j (ba_up W i k)
  | 0, j, k => by rw [Nat.zero_add]; rfl
  | i + 1, j, k => by
    rw [Nat.add_right_comm]
    exact ba_up_add W i j (ba_b W k)
theorem ba_up_s (W : ba_W) (i k : Nat) : ba_up W (i + 1) k = ba_b W (ba_up W i k) := by
  rw [ba_up_add W i 1 k]
  rfl
theorem ba_up_0 (hW : ba_ok W) {i k : Nat} (hk : k ≤ ba_n W) (hi : ba_l W k ≤ i) : ba_up W i k = 0 := by
  rw [← ba_l_pos hW (ba_up_in hW i k hk), ba_up_l hW i k hk]
  omega
/-- x stands on the line y -/
def ba_anc (W : ba_W) (x y : Nat) : Prop := ba_l W x ≤ ba_l W y ∧ ba_up W (ba_l W y - ba_l W x) y = x
theorem ba_anc_rf (W : ba_W) (x : Nat) : ba_anc W x x := ⟨Nat.le_refl _, by rw [Nat.sub_self]; rfl⟩
theorem ba_anc_0 (hW : ba_ok W) {y : Nat} (hy : y ≤ ba_n W) : ba_anc W 0 y := ⟨by rw [ba_l0 hW]; exact Nat.zero_le _, ba_up_0 hW hy (by rw [ba_l0 hW]; omega)⟩
theorem ba_anc_up (hW : ba_ok W) {y : Nat} (hy : y ≤ ba_n W) {i : Nat} (hi : i ≤ ba_l W y) : ba_anc W (ba_up W i y) y := by
  have h := ba_up_l hW i y hy
  refine ⟨by omega, ?_⟩
  rw [h]
  congr 1
  omega
theorem ba_anc_tr {x y z : Nat} (h1 : ba_anc W x y) (h2 : ba_anc W y z) : ba_anc W x z := by
  refine ⟨Nat.le_trans h1.1 h2.1, ?_⟩
  have e : ba_l W z - ba_l W x = (ba_l W z - ba_l W y) + (ba_l W y - ba_l W x) := by
    have := h1.1
    have := h2.1
    omega
  rw [e, ba_up_add, h2.2, h1.2]
theorem ba_anc_in (hW : ba_ok W) {x y : Nat} (hy : y ≤ ba_n W) (h : ba_anc W x y) : x ≤ ba_n W := by
  rw [← h.2]
  exact ba_up_in hW _ _ hy
theorem ba_anc_eq {x y : Nat} (h : ba_anc W x y) (hl : ba_l W y ≤ ba_l W x) : x = y := by
  rw [← h.2, show ba_l W y - ba_l W x = 0 by omega]
  rfl
/-- two on one line: the shorter stands on the longer -/
theorem ba_anc_of {x y z : Nat} (hx : ba_anc W x z) (hy : ba_anc W y z) (hl : ba_l W x ≤ ba_l W y) : ba_anc W x y := by
  refine ⟨hl, ?_⟩
  have e : ba_l W z - ba_l W x = (ba_l W z - ba_l W y) + (ba_l W y - ba_l W x) := by
    have := hx.1
    have := hy.1
    omega
  have h := hx.2
  rw [e, ba_up_add, hy.2] at h
  exact h
theorem ba_anc_b (hW : ba_ok W) {y : Nat} (h0 : 0 < y) (hy : y ≤ ba_n W) : ba_anc W (ba_b W y) y := by
  have h := ba_anc_up hW hy (i := 1) (by have := (hW.2.2 y h0 hy).2.1; omega)
  exact h
theorem ba_anc_b2 (hW : ba_ok W) {x y : Nat} (hy : y ≤ ba_n W) (h : ba_anc W x y) (hne : x ≠ y) : ba_anc W x (ba_b W y) ∧ 0 < y := by
  have h0 : 0 < y := by
    by_cases h0 : y = 0
    · subst h0
      have := h.1
      rw [ba_l0 hW] at this
      exact absurd (ba_anc_eq h (by rw [ba_l0 hW]; omega)) hne
    · omega
  refine ⟨ba_anc_of h (ba_anc_b hW h0 hy) ?_, h0⟩
  have h1 := ba_l_b hW hy
  have h2 := h.1
  have h3 : ¬ ba_l W y ≤ ba_l W x := fun z => hne (ba_anc_eq h z)
  omega
/-! stretches -/
theorem ba_str_len (W : ba_W) : ∀ (d k : Nat), (ba_str W d k).length = d
  | 0, _ => rfl
  | d + 1, k => by
    show (k :: ba_str W d (ba_b W k)).length = d + 1
    rw [List.length_cons, ba_str_len W d]
theorem ba_str_add (W : ba_W) : ∀ (d e k : Nat), ba_str W (d + e) k = ba_str W d k ++ ba_str W e (ba_up W d k)
  | 0, e, k => by rw [Nat.zero_add]; rfl
  | d + 1, e, k => by
    rw [Nat.add_right_comm]
    show k :: ba_str W (d + e) (ba_b W k) = _
    rw [ba_str_add W d e]
    rfl
theorem ba_str_mem (W : ba_W) : ∀ (d k w : Nat), w ∈ ba_str W d k ↔ ∃ i, i < d ∧ w = ba_up W i k
  | 0, k, w => by
    constructor
    · intro h
      cases h
    · rintro ⟨i, h, -⟩
      omega
  | d + 1, k, w => by
    show w ∈ k :: ba_str W d (ba_b W k) ↔ _
    rw [List.mem_cons, ba_str_mem W d]
    constructor
    · rintro (h | ⟨i, h1, h2⟩)
      · exact ⟨0, by omega, h⟩
      · exact ⟨i + 1, by omega, h2⟩
    · rintro ⟨i, h1, h2⟩
      cases i with
      | zero => exact Or.inl h2
      | succ i => exact Or.inr ⟨i, by omega, h2⟩
/-! the last write of a place -/
theorem ba_at_spec (hW : ba_ok W) (p : Nat) : ∀ (d k : Nat), k ≤ ba_n W → d ≤ ba_l W k → (ba_at W p d k = 0 ∧ ∀ i, i < d → ba_s W (ba_up W i k) ≠ p) ∨ (∃ i, i < d ∧ ba_at W p d k = ba_up W i k ∧ ba_s W (ba_up W i k) = p ∧ ∀ j, j < i → ba_s W (ba_up W j k) ≠ p)
  | 0, _, _, _ => Or.inl ⟨rfl, fun i hi => by omega⟩
  | d + 1, k, hk, hd => by
    by_cases h : ba_s W k = p
    · exact Or.inr ⟨0, by omega, if_pos h, h, fun j hj => by omega⟩
    · have e : ba_at W p (d + 1) k = ba_at W p d (ba_b W k) := if_neg h
      rw [e]
      rcases ba_at_spec hW p d (ba_b W k) (ba_b_in hW hk) (by rw [ba_l_b hW hk]; omega) with ⟨h1, h2⟩ | ⟨i, h1, h2, h3, h4⟩
      · refine Or.inl ⟨h1, fun i hi => ?_⟩
        cases i with
        | zero => exact h
        | succ i => exact h2 i (by omega)
      · refine Or.inr ⟨i + 1, by omega, h2, h3, fun j hj => ?_⟩
        cases j with
        | zero => exact h
        | succ j => exact h4 j (by omega)
theorem ba_at_add (W : ba_W) (p : Nat) (hW : ba_ok W) : ∀ (d e k : Nat), k ≤ ba_n W → d + e ≤ ba_l W k → ba_at W p (d + e) k = if ba_at W p d k = 0 then ba_at W p e (ba_up W d k) else ba_at W p d k
  | 0, e, k, _, _ => by rw [Nat.zero_add]; rfl
  | d + 1, e, k, hk, hd => by
    rw [Nat.add_right_comm]
    show (if ba_s W k = p then k else ba_at W p (d + e) (ba_b W k)) = if (if ba_s W k = p then k else ba_at W p d (ba_b W k)) = 0 then ba_at W p e (ba_up W d (ba_b W k)) else if ba_s W k = p then k else ba_at W p d (ba_b W k)
    by_cases h : ba_s W k = p
    · have h0 : k ≠ 0 := fun z => by
        subst z
        rw [ba_l0 hW] at hd
        omega
      rw [if_pos h, if_pos h, if_neg h0]
    · rw [if_neg h, if_neg h]
      exact ba_at_add W p hW d e _ (ba_b_in hW hk) (by rw [ba_l_b hW hk]; omega)
theorem ba_at_le (hW : ba_ok W) (p d k : Nat) (hk : k ≤ ba_n W) (hd : d ≤ ba_l W k) : ba_at W p d k ≤ k := by
  rcases ba_at_spec hW p d k hk hd with ⟨h1, -⟩ | ⟨i, -, h1, -⟩
  · omega
  · rw [h1]
    exact ba_up_le hW i k hk
theorem ba_last_in (hW : ba_ok W) (k p : Nat) (hk : k ≤ ba_n W) : ba_last W k p ≤ ba_n W := Nat.le_trans (ba_at_le hW p _ k hk (Nat.le_refl _)) hk
/-- a place is written in the last d writes just if its last write is not older -/
theorem ba_last_iff (hW : ba_ok W) (p d k : Nat) (hk : k ≤ ba_n W) (hd : d ≤ ba_l W k) : (∃ w, w ∈ ba_str W d k ∧ ba_s W w = p) ↔ ba_l W k - d < ba_l W (ba_last W k p) := by
  have hs := ba_at_spec hW p (ba_l W k) k hk (Nat.le_refl _)
  constructor
  · rintro ⟨w, hw, hp⟩
    obtain ⟨i, hi, rfl⟩ := (ba_str_mem W d k w).mp hw
    rcases hs with ⟨-, h2⟩ | ⟨j, h1, h2, h3, h4⟩
    · exact absurd hp (h2 i (by omega))
    · have hji : j ≤ i := by
        apply Nat.le_of_not_lt
        intro z
        exact h4 i z hp
      show _ < ba_l W (ba_at W p (ba_l W k) k)
      rw [h2, ba_up_l hW j k hk]
      omega
  · intro h
    rcases hs with ⟨h1, -⟩ | ⟨j, h1, h2, h3, -⟩
    · have h : _ < ba_l W (ba_at W p (ba_l W k) k) := h
      rw [h1, ba_l0 hW] at h
      omega
    · have h : _ < ba_l W (ba_at W p (ba_l W k) k) := h
      rw [h2, ba_up_l hW j k hk] at h
      exact ⟨_, (ba_str_mem W d k _).mpr ⟨j, by omega, rfl⟩, h3⟩
end BA
