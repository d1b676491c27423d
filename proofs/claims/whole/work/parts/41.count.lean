/-! counting places: distinct spots of a stretch, of stretches that lie behind each other -/
def ba_ds : List Nat → Nat
  | [] => 0
  | x :: l => (if x ∈ l then 0 else 1) + ba_ds l
theorem ba_ds_perm {l l' : List Nat} (h : l.Perm l') : ba_ds l = ba_ds l' := by
  induction h with
  | nil => rfl
  | cons x h ih =>
    unfold ba_ds
    rw [ih]
    simp only [List.Perm.mem_iff h]
  | swap x y l =>
    show (if y ∈ x :: l then 0 else 1) + ((if x ∈ l then 0 else 1) + ba_ds l) = (if x ∈ y :: l then 0 else 1) + ((if y ∈ l then 0 else 1) + ba_ds l)
    by_cases e : x = y
    · subst e
      rfl
    · have e2 : ¬ y = x := fun z => e z.symm
      simp only [List.mem_cons, e, e2, false_or]
      omega
  | trans _ _ ih1 ih2 => rw [ih1, ih2]
/-- counted from the front, with what was seen before -/
def ba_dg : List Nat → List Nat → Nat
  | _, [] => 0
  | t, x :: l => (if x ∈ t then 0 else 1) + ba_dg (x :: t) l
theorem ba_dg_ds : ∀ (l t : List Nat), ba_dg t l + ba_ds t = ba_ds (l.reverse ++ t)
  | [], t => by simp [ba_dg]
  | x :: l, t => by
    have ih := ba_dg_ds l (x :: t)
    rw [List.reverse_cons, List.append_assoc, List.singleton_append, ← ih]
    show (if x ∈ t then 0 else 1) + ba_dg (x :: t) l + ba_ds t = ba_dg (x :: t) l + ((if x ∈ t then 0 else 1) + ba_ds t)
    omega
theorem ba_dg_eq (l : List Nat) : ba_dg [] l = ba_ds l := by
  have h := ba_dg_ds l []
  rw [List.append_nil] at h
  rw [ba_ds_perm (List.reverse_perm l)] at h
  exact h
theorem ba_dg_mem (l : List Nat) : ∀ (t t' : List Nat), (∀ x, x ∈ t ↔ x ∈ t') → ba_dg t l = ba_dg t' l := by
  induction l with
  | nil => intro t t' h; rfl
  | cons x l ih =>
    intro t t' h
    unfold ba_dg
    rw [ih (x :: t) (x :: t') (fun y => by rw [List.mem_cons, List.mem_cons, h])]
    by_cases e : x ∈ t
    · rw [if_pos e, if_pos ((h x).mp e)]
    · rw [if_neg e, if_neg (fun z => e ((h x).mpr z))]
/-- as many as there are numbers that are among them -/
theorem ba_ds_range (N : Nat) : ∀ (l : List Nat), (∀ x ∈ l, x < N) → (List.range N).countP (fun p => decide (p ∈ l)) = ba_ds l
  | [], _ => by
    unfold ba_ds
    rw [List.countP_eq_zero]
    intro x hx
    simp
  | y :: l, h => by
    have ih := ba_ds_range N l (fun x hx => h x (List.mem_cons_of_mem _ hx))
    have hy : y < N := h y List.mem_cons_self
    unfold ba_ds
    rw [← ih]
    by_cases e : y ∈ l
    · rw [if_pos e, Nat.zero_add]
      apply List.countP_congr
      intro x hx
      simp only [decide_eq_true_eq, List.mem_cons]
      constructor
      · rintro (rfl | h)
        · exact e
        · exact h
      · exact Or.inr
    · rw [if_neg e]
      have key : ∀ (M : Nat), (List.range M).countP (fun p => decide (p ∈ y :: l)) = (if y < M then 1 else 0) + (List.range M).countP (fun p => decide (p ∈ l)) := by
        intro M
        induction M with
        | zero => simp
        | succ M ihM =>
          rw [List.range_succ, List.countP_append, List.countP_append, ihM]
          simp only [List.countP_cons, List.countP_nil, List.mem_cons, decide_eq_true_eq]
          by_cases e1 : M = y
          · subst e1
            simp [e]
            omega
          · have e2 : (y < M + 1) ↔ (y < M) := by omega
            simp only [e1, false_or, e2]
            omega
      rw [key N, if_pos hy]
section BC
variable {W : ba_W}
theorem ba_pl_add (W : ba_W) (f : Nat) : ∀ (d e k : Nat), ba_pl W f (d + e) k = ba_pl W f d k + ba_pl W f e (ba_up W d k)
  | 0, e, k => by rw [Nat.zero_add]; show _ = 0 + _; rw [Nat.zero_add]; rfl
  | d + 1, e, k => by
    rw [Nat.add_right_comm]
    show _ + ba_pl W f (d + e) (ba_b W k) = _ + ba_pl W f d (ba_b W k) + ba_pl W f e (ba_up W d (ba_b W k))
    rw [ba_pl_add W f d e]
    omega
theorem ba_pl_le (W : ba_W) (f : Nat) : ∀ (d k : Nat), ba_pl W f d k ≤ d
  | 0, _ => Nat.le_refl 0
  | d + 1, k => by
    have := ba_pl_le W f d (ba_b W k)
    show (if _ then 1 else 0) + ba_pl W f d (ba_b W k) ≤ d + 1
    split <;> omega
theorem ba_pl_mono (W : ba_W) {f g : Nat} (h : f ≤ g) : ∀ (d k : Nat), ba_pl W f d k ≤ ba_pl W g d k
  | 0, _ => Nat.le_refl 0
  | d + 1, k => by
    have := ba_pl_mono W h d (ba_b W k)
    show (if ba_l W (ba_e W k) ≤ f then 1 else 0) + ba_pl W f d (ba_b W k) ≤ (if ba_l W (ba_e W k) ≤ g then 1 else 0) + ba_pl W g d (ba_b W k)
    by_cases h1 : ba_l W (ba_e W k) ≤ f
    · rw [if_pos h1, if_pos (Nat.le_trans h1 h)]
      omega
    · rw [if_neg h1]
      omega
theorem ba_mem_s (hW : ba_ok W) (p d k : Nat) (hk : k ≤ ba_n W) (hd : d ≤ ba_l W k) : p ∈ (ba_str W d k).map (ba_s W) ↔ ba_l W k - d < ba_l W (ba_last W k p) := by
  rw [← ba_last_iff hW p d k hk hd, List.mem_map]
/-- a stretch has as many places as it has first writes of places -/
theorem ba_pl_ds (hW : ba_ok W) : ∀ (d k : Nat), k ≤ ba_n W → d ≤ ba_l W k → ba_pl W (ba_l W k - d) d k = ba_ds ((ba_str W d k).map (ba_s W))
  | 0, _, _, _ => rfl
  | d + 1, k, hk, hd => by
    have hb := ba_l_b hW hk
    have h0 : 0 < k := by
      by_cases h0 : k = 0
      · subst h0
        rw [ba_l0 hW] at hd
        omega
      · omega
    obtain ⟨r1, r2, r3, r4, -⟩ := hW.2.2 k h0 hk
    have ih := ba_pl_ds hW d (ba_b W k) (ba_b_in hW hk) (by omega)
    have e : ba_l W (ba_b W k) - d = ba_l W k - (d + 1) := by omega
    rw [e] at ih
    show (if ba_l W (ba_e W k) ≤ _ then 1 else 0) + ba_pl W _ d (ba_b W k) = (if ba_s W k ∈ (ba_str W d (ba_b W k)).map (ba_s W) then 0 else 1) + ba_ds ((ba_str W d (ba_b W k)).map (ba_s W))
    rw [ih]
    have hm := ba_mem_s hW (ba_s W k) d (ba_b W k) (ba_b_in hW hk) (by omega)
    rw [← r4, e] at hm
    by_cases h : ba_l W (ba_e W k) ≤ ba_l W k - (d + 1)
    · rw [if_pos h, if_neg (fun z => by have := hm.mp z; omega)]
    · rw [if_neg h, if_pos (hm.mpr (by omega))]
/-- the places that are written in both of two stretches -/
theorem ba_pl_both (hW : ba_ok W) {x y z : Nat} (hz : z ≤ ba_n W) (h1 : ba_anc W x y) (h2 : ba_anc W y z) : ba_pl W (ba_l W x) (ba_l W z - ba_l W x) z + (ba_pl W (ba_l W y) (ba_l W z - ba_l W y) z - ba_pl W (ba_l W x) (ba_l W z - ba_l W y) z) = ba_pl W (ba_l W x) (ba_l W y - ba_l W x) y + ba_pl W (ba_l W y) (ba_l W z - ba_l W y) z := by
  have e : ba_l W z - ba_l W x = (ba_l W z - ba_l W y) + (ba_l W y - ba_l W x) := by
    have := h1.1
    have := h2.1
    omega
  rw [e, ba_pl_add, h2.2]
  have := ba_pl_mono W h1.1 (ba_l W z - ba_l W y) z
  omega
/-- the blocks that lines need: x, then one behind the other -/
def ba_nd (W : ba_W) : Nat → List Nat → Nat
  | _, [] => 0
  | x, y :: r => ba_pl W (ba_l W x) (ba_l W y - ba_l W x) y + ba_nd W y r
/-- lines one behind the other -/
def ba_ch (W : ba_W) : Nat → List Nat → Prop
  | _, [] => True
  | x, y :: r => ba_anc W x y ∧ ba_ch W y r
theorem ba_ch_in (hW : ba_ok W) : ∀ {x : Nat} {l : List Nat} {y : Nat}, ba_ch W x l → y ∈ l → ba_anc W x y
  | x, [], y, _, hy => by cases hy
  | x, z :: l, y, h, hy => by
    rcases List.mem_cons.mp hy with rfl | hy
    · exact h.1
    · exact ba_anc_tr h.1 (ba_ch_in hW h.2 hy)
theorem ba_ch_app : ∀ {x : Nat} {l : List Nat} {y : Nat} {r : List Nat}, ba_ch W x (l ++ y :: r) ↔ ba_ch W x (l ++ [y]) ∧ ba_ch W y r
  | x, [], y, r => by
    show ba_anc W x y ∧ ba_ch W y r ↔ (ba_anc W x y ∧ True) ∧ ba_ch W y r
    simp
  | x, z :: l, y, r => by
    show ba_anc W x z ∧ ba_ch W z (l ++ y :: r) ↔ (ba_anc W x z ∧ ba_ch W z (l ++ [y])) ∧ ba_ch W y r
    rw [ba_ch_app (x := z)]
    simp [and_assoc]
theorem ba_nd_app (W : ba_W) : ∀ (x : Nat) (l : List Nat) (y : Nat) (r : List Nat), ba_nd W x (l ++ y :: r) = ba_nd W x (l ++ [y]) + ba_nd W y r
  | x, [], y, r => by
    show ba_pl W _ _ y + ba_nd W y r = ba_pl W _ _ y + 0 + ba_nd W y r
    omega
  | x, z :: l, y, r => by
    show _ + ba_nd W z (l ++ y :: r) = _ + ba_nd W z (l ++ [y]) + ba_nd W y r
    rw [ba_nd_app W z l y r]
    omega
/-- all the places behind the first line are counted -/
theorem ba_nd_ge (hW : ba_ok W) : ∀ (x : Nat) (l : List Nat) (y : Nat), y ≤ ba_n W → ba_ch W x (l ++ [y]) → ba_pl W (ba_l W x) (ba_l W y - ba_l W x) y ≤ ba_nd W x (l ++ [y])
  | x, [], y, _, _ => by
    show _ ≤ ba_pl W _ _ y + 0
    omega
  | x, z :: l, y, hy, h => by
    have ih := ba_nd_ge hW z l y hy h.2
    have hz : ba_anc W z y := ba_ch_in hW h.2 (List.mem_append_right _ List.mem_cons_self)
    have hb := ba_pl_both hW hy h.1 hz
    show _ ≤ ba_pl W (ba_l W x) (ba_l W z - ba_l W x) z + ba_nd W z (l ++ [y])
    omega
/-- what is left out in the middle makes it less -/
theorem ba_nd_merge (hW : ba_ok W) {x y z : Nat} (hz : z ≤ ba_n W) (h1 : ba_anc W x y) (h2 : ba_anc W y z) (r : List Nat) : ba_nd W x (z :: r) + (ba_pl W (ba_l W y) (ba_l W z - ba_l W y) z - ba_pl W (ba_l W x) (ba_l W z - ba_l W y) z) = ba_nd W x (y :: z :: r) := by
  have := ba_pl_both hW hz h1 h2
  show _ + ba_nd W z r + _ = _ + (_ + ba_nd W z r)
  omega
/-- the last writes of the places of a stretch, by places -/
def ba_sp (W : ba_W) (d k : Nat) : List Nat := (List.range 32768).filterMap (fun p => if ba_at W p d k = 0 then none else some (ba_at W p d k))
theorem ba_at_ne (hW : ba_ok W) (p d k : Nat) (hk : k ≤ ba_n W) (hd : d ≤ ba_l W k) : ba_at W p d k ≠ 0 ↔ p ∈ (ba_str W d k).map (ba_s W) := by
  rw [List.mem_map]
  rcases ba_at_spec hW p d k hk hd with ⟨h1, h2⟩ | ⟨i, h1, h2, h3, -⟩
  · constructor
    · intro h
      exact absurd h1 h
    · rintro ⟨w, hw, hp⟩
      obtain ⟨i, hi, rfl⟩ := (ba_str_mem W d k w).mp hw
      exact absurd hp (h2 i hi)
  · constructor
    · intro _
      exact ⟨_, (ba_str_mem W d k _).mpr ⟨i, h1, rfl⟩, h3⟩
    · intro _
      rw [h2]
      intro z
      have h9 := (ba_l_pos hW (ba_up_in hW i k hk)).mpr z
      rw [ba_up_l hW i k hk] at h9
      omega
theorem ba_str_spot (hW : ba_ok W) {d k : Nat} (hk : k ≤ ba_n W) (hd : d ≤ ba_l W k) : ∀ p ∈ (ba_str W d k).map (ba_s W), p < 32768 := by
  intro p hp
  obtain ⟨w, hw, rfl⟩ := List.mem_map.mp hp
  obtain ⟨i, hi, rfl⟩ := (ba_str_mem W d k w).mp hw
  have h1 := ba_up_l hW i k hk
  have h2 := ba_up_in hW i k hk
  have h0 : ba_up W i k ≠ 0 := fun z => by
    rw [z, ba_l0 hW] at h1
    omega
  exact (hW.2.2 _ (by omega) h2).2.2.1
theorem ba_sp_len (hW : ba_ok W) {d k : Nat} (hk : k ≤ ba_n W) (hd : d ≤ ba_l W k) : (ba_sp W d k).length = ba_pl W (ba_l W k - d) d k := by
  rw [ba_pl_ds hW d k hk hd, ← ba_ds_range 32768 _ (ba_str_spot hW hk hd)]
  unfold ba_sp
  rw [List.length_filterMap_eq_countP]
  apply List.countP_congr
  intro p hp
  have := ba_at_ne hW p d k hk hd
  by_cases h : ba_at W p d k = 0
  · simp only [h, if_true, Option.isSome_none, Bool.false_eq_true, false_iff, decide_eq_true_eq]
    exact fun z => this.mpr z h
  · simp only [h, if_false, Option.isSome_some, decide_eq_true_eq, true_iff]
    exact this.mp h
/-! more writes -/
def ba_ext (W W' : ba_W) : Prop := ba_n W ≤ ba_n W' ∧ ∀ k, k ≤ ba_n W → ba_b W' k = ba_b W k ∧ ba_s W' k = ba_s W k ∧ ba_v W' k = ba_v W k ∧ ba_l W' k = ba_l W k ∧ ba_e W' k = ba_e W k ∧ ba_g W' k = ba_g W k
theorem ba_ext_rf (W : ba_W) : ba_ext W W := ⟨Nat.le_refl _, fun _ _ => ⟨rfl, rfl, rfl, rfl, rfl, rfl⟩⟩
theorem ba_ext_tr {W1 W2 W3 : ba_W} (h1 : ba_ext W1 W2) (h2 : ba_ext W2 W3) : ba_ext W1 W3 := by
  refine ⟨Nat.le_trans h1.1 h2.1, fun k hk => ?_⟩
  obtain ⟨a1, a2, a3, a4, a5, a6⟩ := h1.2 k hk
  obtain ⟨b1, b2, b3, b4, b5, b6⟩ := h2.2 k (Nat.le_trans hk h1.1)
  exact ⟨b1.trans a1, b2.trans a2, b3.trans a3, b4.trans a4, b5.trans a5, b6.trans a6⟩
variable {W' : ba_W}
theorem ba_ext_up (hW : ba_ok W) (hx : ba_ext W W') : ∀ (i k : Nat), k ≤ ba_n W → ba_up W' i k = ba_up W i k
  | 0, _, _ => rfl
  | i + 1, k, hk => by
    show ba_up W' i (ba_b W' k) = ba_up W i (ba_b W k)
    rw [(hx.2 k hk).1, ba_ext_up hW hx i _ (ba_b_in hW hk)]
theorem ba_ext_str (hW : ba_ok W) (hx : ba_ext W W') : ∀ (d k : Nat), k ≤ ba_n W → ba_str W' d k = ba_str W d k
  | 0, _, _ => rfl
  | d + 1, k, hk => by
    show k :: ba_str W' d (ba_b W' k) = k :: ba_str W d (ba_b W k)
    rw [(hx.2 k hk).1, ba_ext_str hW hx d _ (ba_b_in hW hk)]
theorem ba_ext_at (hW : ba_ok W) (hx : ba_ext W W') (p : Nat) : ∀ (d k : Nat), k ≤ ba_n W → ba_at W' p d k = ba_at W p d k
  | 0, _, _ => rfl
  | d + 1, k, hk => by
    show (if ba_s W' k = p then k else ba_at W' p d (ba_b W' k)) = if ba_s W k = p then k else ba_at W p d (ba_b W k)
    rw [(hx.2 k hk).1, (hx.2 k hk).2.1, ba_ext_at hW hx p d _ (ba_b_in hW hk)]
theorem ba_ext_last (hW : ba_ok W) (hx : ba_ext W W') (k p : Nat) (hk : k ≤ ba_n W) : ba_last W' k p = ba_last W k p := by
  unfold ba_last
  rw [(hx.2 k hk).2.2.2.1, ba_ext_at hW hx p _ k hk]
theorem ba_ext_pl (hW : ba_ok W) (hx : ba_ext W W') (f : Nat) : ∀ (d k : Nat), k ≤ ba_n W → ba_pl W' f d k = ba_pl W f d k
  | 0, _, _ => rfl
  | d + 1, k, hk => by
    have he : ba_e W k ≤ ba_n W := by
      by_cases h0 : k = 0
      · subst h0
        rw [hW.2.1.2.2.2.2]
        exact Nat.zero_le _
      · rw [(hW.2.2 k (by omega) hk).2.2.2.1]
        exact ba_last_in hW _ _ (ba_b_in hW hk)
    show (if ba_l W' (ba_e W' k) ≤ f then 1 else 0) + ba_pl W' f d (ba_b W' k) = (if ba_l W (ba_e W k) ≤ f then 1 else 0) + ba_pl W f d (ba_b W k)
    rw [(hx.2 k hk).1, (hx.2 k hk).2.2.2.2.1, (hx.2 _ he).2.2.2.1, ba_ext_pl hW hx f d _ (ba_b_in hW hk)]
theorem ba_ext_sp (hW : ba_ok W) (hx : ba_ext W W') (d k : Nat) (hk : k ≤ ba_n W) : ba_sp W' d k = ba_sp W d k := by
  unfold ba_sp
  congr 1
  funext p
  rw [ba_ext_at hW hx p d k hk]
theorem ba_ext_anc (hW : ba_ok W) (hx : ba_ext W W') {x y : Nat} (hy : y ≤ ba_n W) (h : ba_anc W x y) : ba_anc W' x y := by
  have hxi := ba_anc_in hW hy h
  refine ⟨by rw [(hx.2 x hxi).2.2.2.1, (hx.2 y hy).2.2.2.1]; exact h.1, ?_⟩
  rw [(hx.2 x hxi).2.2.2.1, (hx.2 y hy).2.2.2.1, ba_ext_up hW hx _ y hy]
  exact h.2
theorem ba_ext_nd (hW : ba_ok W) (hx : ba_ext W W') : ∀ (x : Nat) (l : List Nat), x ≤ ba_n W → (∀ y ∈ l, y ≤ ba_n W) → ba_nd W' x l = ba_nd W x l
  | _, [], _, _ => rfl
  | x, y :: l, hxi, hl => by
    have hy := hl y List.mem_cons_self
    show ba_pl W' _ _ y + ba_nd W' y l = ba_pl W _ _ y + ba_nd W y l
    rw [(hx.2 x hxi).2.2.2.1, (hx.2 y hy).2.2.2.1, ba_ext_pl hW hx _ _ y hy, ba_ext_nd hW hx y l hy (fun z hz => hl z (List.mem_cons_of_mem _ hz))]
theorem ba_ext_ch (hW : ba_ok W) (hx : ba_ext W W') : ∀ (x : Nat) (l : List Nat), (∀ y ∈ l, y ≤ ba_n W) → ba_ch W x l → ba_ch W' x l
  | _, [], _, _ => trivial
  | x, y :: l, hl, h => ⟨ba_ext_anc hW hx (hl y List.mem_cons_self) h.1, ba_ext_ch hW hx y l (fun z hz => hl z (List.mem_cons_of_mem _ hz)) h.2⟩
end BC
