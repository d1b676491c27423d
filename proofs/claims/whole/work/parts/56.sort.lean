/-! heap sort: rows of numbers and a key of theirs -/
def bk_cnt (f : Nat → Nat) (x : Nat) : Nat → Nat
  | 0 => 0
  | n + 1 => bk_cnt f x n + (if f n = x then 1 else 0)
theorem bk_cnt_u0 (f : Nat → Nat) (x : Nat) {i : Nat} (v : Nat) : ∀ (n : Nat), n ≤ i → bk_cnt (ba_u f i v) x n = bk_cnt f x n
  | 0, _ => rfl
  | n + 1, hn => by
    show bk_cnt (ba_u f i v) x n + (if ba_u f i v n = x then 1 else 0) = bk_cnt f x n + _
    rw [bk_cnt_u0 f x v n (by omega), ba_u_ne _ _ (show n ≠ i by omega)]
theorem bk_cnt_u (f : Nat → Nat) (x : Nat) {i : Nat} (v : Nat) : ∀ (n : Nat), i < n → bk_cnt (ba_u f i v) x n + (if f i = x then 1 else 0) = bk_cnt f x n + (if v = x then 1 else 0)
  | 0, hn => by omega
  | n + 1, hn => by
    show bk_cnt (ba_u f i v) x n + (if ba_u f i v n = x then 1 else 0) + _ = bk_cnt f x n + (if f n = x then 1 else 0) + _
    by_cases e : i = n
    · subst e
      rw [bk_cnt_u0 f x v i (Nat.le_refl _), ba_u_same]
      omega
    · have := bk_cnt_u (i := i) f x v n (by omega)
      rw [ba_u_ne _ _ (fun z => e z.symm)]
      omega
theorem bk_cnt_pos (f : Nat → Nat) (x : Nat) : ∀ (n : Nat), 0 < bk_cnt f x n ↔ ∃ i, i < n ∧ f i = x
  | 0 => by
    constructor
    · intro h
      cases h
    · rintro ⟨i, h, -⟩
      omega
  | n + 1 => by
    show 0 < bk_cnt f x n + (if f n = x then 1 else 0) ↔ _
    have ih := bk_cnt_pos f x n
    constructor
    · intro h
      by_cases e : f n = x
      · exact ⟨n, by omega, e⟩
      · rw [if_neg e] at h
        obtain ⟨i, h1, h2⟩ := ih.mp h
        exact ⟨i, by omega, h2⟩
    · rintro ⟨i, h1, h2⟩
      by_cases e : i = n
      · subst e
        rw [if_pos h2]
        omega
      · have := ih.mpr ⟨i, by omega, h2⟩
        omega
/-- the same numbers, in another order -/
def bk_same (f g : Nat → Nat) (n : Nat) : Prop := ∀ x, bk_cnt f x n = bk_cnt g x n
theorem bk_same_mem {f g : Nat → Nat} {n : Nat} (h : bk_same f g n) {i : Nat} (hi : i < n) : ∃ j, j < n ∧ g j = f i := by
  have h1 := (bk_cnt_pos f (f i) n).mpr ⟨i, hi, rfl⟩
  rw [h (f i)] at h1
  exact (bk_cnt_pos g (f i) n).mp h1
theorem bk_cnt_ext {f g : Nat → Nat} (x : Nat) : ∀ (n : Nat), (∀ i, i < n → f i = g i) → bk_cnt f x n = bk_cnt g x n
  | 0, _ => rfl
  | n + 1, h => by
    show bk_cnt f x n + (if f n = x then 1 else 0) = bk_cnt g x n + (if g n = x then 1 else 0)
    rw [bk_cnt_ext x n (fun i hi => h i (by omega)), h n (by omega)]
/-- the same up to e, and equal behind it -/
theorem bk_same_up {f g : Nat → Nat} {e : Nat} (h : bk_same f g e) (h2 : ∀ i, e ≤ i → f i = g i) : ∀ (n : Nat), e ≤ n → bk_same f g n := by
  intro n hn
  induction hn with
  | refl => exact h
  | step hn ih =>
    rename_i m
    intro x
    show bk_cnt f x m + (if f m = x then 1 else 0) = bk_cnt g x m + (if g m = x then 1 else 0)
    rw [ih x, h2 m hn]
/-- parents from i on are not below their children -/
def bk_H (κ : Nat → Nat) (f : Nat → Nat) (i e : Nat) : Prop := ∀ j c, i ≤ j → (c = 2 * j + 1 ∨ c = 2 * j + 2) → c < e → κ (f c) ≤ κ (f j)
/-- as it stands while w sinks: the hole -/
def bk_I (κ : Nat → Nat) (f : Nat → Nat) (w hole i e : Nat) : Prop :=
  i ≤ hole ∧ (∀ j c, i ≤ j → (c = 2 * j + 1 ∨ c = 2 * j + 2) → c < e → j ≠ hole → c ≠ hole → κ (f c) ≤ κ (f j)) ∧
  ∀ j, i ≤ j → (hole = 2 * j + 1 ∨ hole = 2 * j + 2) → κ w ≤ κ (f j) ∧ ∀ c, (c = 2 * hole + 1 ∨ c = 2 * hole + 2) → c < e → κ (f c) ≤ κ (f j)
def bk_ch (κ : Nat → Nat) (f : Nat → Nat) (hole e : Nat) : Nat := if 2 * hole + 2 < e ∧ κ (f (2 * hole + 1)) < κ (f (2 * hole + 2)) then 2 * hole + 2 else 2 * hole + 1
section BK
variable {κ : Nat → Nat} {f : Nat → Nat} {w hole i e : Nat}
theorem bk_ch_in (h : 2 * hole + 1 < e) : (bk_ch κ f hole e = 2 * hole + 1 ∨ bk_ch κ f hole e = 2 * hole + 2) ∧ bk_ch κ f hole e < e ∧ ∀ c, (c = 2 * hole + 1 ∨ c = 2 * hole + 2) → c < e → κ (f c) ≤ κ (f (bk_ch κ f hole e)) := by
  unfold bk_ch
  by_cases c : 2 * hole + 2 < e ∧ κ (f (2 * hole + 1)) < κ (f (2 * hole + 2))
  · rw [if_pos c]
    refine ⟨Or.inr rfl, c.1, fun d hd hde => ?_⟩
    rcases hd with rfl | rfl
    · omega
    · exact Nat.le_refl _
  · rw [if_neg c]
    refine ⟨Or.inl rfl, h, fun d hd hde => ?_⟩
    rcases hd with rfl | rfl
    · exact Nat.le_refl _
    · apply Nat.le_of_not_lt
      intro z
      exact c ⟨hde, z⟩
theorem bk_start (h : bk_H κ f (i + 1) e) (w : Nat) : bk_I κ f w i i e := by
  refine ⟨Nat.le_refl _, fun j c hj hc hce hn1 hn2 => h j c (by omega) hc hce, fun j hj hh => ?_⟩
  omega
theorem bk_stop (h : bk_I κ f w hole i e) (hc : 2 * hole + 1 < e → κ (f (bk_ch κ f hole e)) ≤ κ w) : bk_H κ (ba_u f hole w) i e := by
  obtain ⟨h1, h2, h3⟩ := h
  intro j c hj hjc hce
  by_cases e1 : j = hole
  · subst e1
    have hne : c ≠ j := by omega
    rw [ba_u_same, ba_u_ne _ _ hne]
    have h4 := hc (by omega)
    exact Nat.le_trans ((bk_ch_in (κ := κ) (f := f) (show 2 * j + 1 < e by omega)).2.2 c hjc hce) h4
  · rw [ba_u_ne _ _ e1]
    by_cases e2 : c = hole
    · subst e2
      rw [ba_u_same]
      exact (h3 j hj hjc).1
    · rw [ba_u_ne _ _ e2]
      exact h2 j c hj hjc hce e1 e2
theorem bk_down (h : bk_I κ f w hole i e) (he : 2 * hole + 1 < e) (hc : κ w < κ (f (bk_ch κ f hole e))) : bk_I κ (ba_u f hole (f (bk_ch κ f hole e))) w (bk_ch κ f hole e) i e := by
  obtain ⟨c1, c2, c3⟩ := bk_ch_in (κ := κ) (f := f) he
  obtain ⟨h1, h2, h3⟩ := h
  generalize bk_ch κ f hole e = k at c1 c2 c3 hc
  have hkh : k ≠ hole := by omega
  refine ⟨by omega, fun j c hj hjc hce n1 n2 => ?_, fun j hj hjk => ?_⟩
  · by_cases e1 : j = hole
    · subst e1
      rw [ba_u_same, ba_u_ne _ _ (show c ≠ j by omega)]
      exact c3 c hjc hce
    · rw [ba_u_ne _ _ e1]
      by_cases e2 : c = hole
      · subst e2
        rw [ba_u_same]
        exact (h3 j hj hjc).2 k c1 c2
      · rw [ba_u_ne _ _ e2]
        exact h2 j c hj hjc hce e1 e2
  · have e1 : j = hole := by omega
    subst e1
    rw [ba_u_same]
    refine ⟨Nat.le_of_lt hc, fun c hck hce => ?_⟩
    rw [ba_u_ne _ _ (show c ≠ j by omega)]
    exact h2 k c (by omega) hck hce hkh (by omega)
theorem bk_swap (f : Nat → Nat) (w : Nat) {hole k e : Nat} (hh : hole < e) (hk : k < e) (hne : k ≠ hole) : bk_same (ba_u (ba_u f hole (f k)) k w) (ba_u f hole w) e := by
  intro x
  have h1 := bk_cnt_u (ba_u f hole (f k)) x w e hk
  have h2 := bk_cnt_u f x (f k) e hh
  have h3 := bk_cnt_u f x w e hh
  rw [ba_u_ne _ _ hne] at h1
  omega
/-- the root is the greatest -/
theorem bk_root (h : bk_H κ f 0 e) : ∀ (j : Nat), j < e → κ (f j) ≤ κ (f 0) := by
  intro j
  induction j using Nat.strongRecOn with
  | ind j ih =>
    intro hj
    by_cases e0 : j = 0
    · subst e0
      exact Nat.le_refl _
    · have h1 := h ((j - 1) / 2) j (Nat.zero_le _) (by omega) hj
      exact Nat.le_trans h1 (ih ((j - 1) / 2) (by omega) (by omega))
end BK
/-- two rows in strict order with the same members -/
theorem bk_ord {κ : Nat → Nat} : ∀ (l r : List Nat), l.Pairwise (fun a b => κ a < κ b) → r.Pairwise (fun a b => κ a < κ b) → (∀ x, x ∈ l ↔ x ∈ r) → l = r
  | [], [], _, _, _ => rfl
  | [], b :: r, _, _, h => by
    have := (h b).mpr List.mem_cons_self
    cases this
  | a :: l, [], _, _, h => by
    have := (h a).mp List.mem_cons_self
    cases this
  | a :: l, b :: r, hl, hr, h => by
    obtain ⟨l1, l2⟩ := List.pairwise_cons.mp hl
    obtain ⟨r1, r2⟩ := List.pairwise_cons.mp hr
    have hab : a = b := by
      rcases List.mem_cons.mp ((h a).mp List.mem_cons_self) with e | e
      · exact e
      · rcases List.mem_cons.mp ((h b).mpr List.mem_cons_self) with e' | e'
        · exact e'.symm
        · have := l1 b e'
          have := r1 a e
          omega
    subst hab
    congr 1
    refine bk_ord l r l2 r2 (fun x => ?_)
    constructor
    · intro hx
      rcases List.mem_cons.mp ((h x).mp (List.mem_cons_of_mem _ hx)) with e | e
      · subst e
        have := l1 x hx
        omega
      · exact e
    · intro hx
      rcases List.mem_cons.mp ((h x).mpr (List.mem_cons_of_mem _ hx)) with e | e
      · subst e
        have := r1 x hx
        omega
      · exact e
/-! the class's rows -/
theorem bn_mul (a b : Nat) : Int32.ofNat a * Int32.ofNat b = Int32.ofNat (a * b) := by
  rw [Int32.ofNat_mul]
theorem bq_mul2 (a : Nat) : 2 * Int32.ofNat a = Int32.ofNat (2 * a) := bn_mul 2 a
def cr_d (A : Nat → Nat → Nat) (c s : Nat) (F : List Nat) (h h' : bi_H) : Prop :=
  (bi_k h' = bi_k h ∧ bi_nx h' = bi_nx h ∧ bi_nc h' = bi_nc h ∧ bi_ns h' = bi_ns h ∧ bi_fr h' = bi_fr h ∧ bi_ar h' = bi_ar h) ∧ (∀ c' k a, ¬ (c' = 3 ∧ k ∈ F ∧ a = A c s) → bi_fi h' c' k a = bi_fi h c' k a) ∧ ∀ a j, a ≠ A (c + 22) s → bi_ai h' a j = bi_ai h a j
theorem cr_d.rf {A : Nat → Nat → Nat} {c s : Nat} {F : List Nat} (h : bi_H) : cr_d A c s F h h := ⟨⟨rfl, rfl, rfl, rfl, rfl, rfl⟩, fun _ _ _ _ => rfl, fun _ _ _ => rfl⟩
theorem cr_d.tr {A : Nat → Nat → Nat} {c s : Nat} {F : List Nat} {h1 h2 h3 : bi_H} (d1 : cr_d A c s F h1 h2) (d2 : cr_d A c s F h2 h3) : cr_d A c s F h1 h3 := by
  obtain ⟨⟨a1, a2, a3, a4, a5, a6⟩, a7, a8⟩ := d1
  obtain ⟨⟨b1, b2, b3, b4, b5, b6⟩, b7, b8⟩ := d2
  exact ⟨⟨b1.trans a1, b2.trans a2, b3.trans a3, b4.trans a4, b5.trans a5, b6.trans a6⟩, fun c k a hn => (b7 c k a hn).trans (a7 c k a hn), fun a j hn => (b8 a j hn).trans (a8 a j hn)⟩
theorem cr_d.mono {A : Nat → Nat → Nat} {c s : Nat} {F F' : List Nat} {h1 h2 : bi_H} (d : cr_d A c s F h1 h2) (hF : ∀ k, k ∈ F → k ∈ F') : cr_d A c s F' h1 h2 := ⟨d.1, fun c k a hn => d.2.1 c k a (fun z => hn ⟨z.1, hF _ z.2.1, z.2.2⟩), d.2.2⟩
theorem cr_d.sai {A : Nat → Nat → Nat} {c s : Nat} {F : List Nat} (h : bi_H) (j : Nat) (v : Int32) : cr_d A c s F h (bi_sai h (A (c + 22) s) j v) := by
  refine ⟨⟨rfl, rfl, rfl, rfl, rfl, rfl⟩, fun _ _ _ _ => rfl, fun a j' hn => ?_⟩
  rw [bh_ai_sai, if_neg (fun z => hn z.1)]
theorem cr_d.sfi {A : Nat → Nat → Nat} {c s : Nat} {F : List Nat} (h : bi_H) {k : Nat} (hk : k ∈ F) (v : Int32) : cr_d A c s F h (bi_sfi h 3 k (A c s) v) := by
  refine ⟨⟨rfl, rfl, rfl, rfl, rfl, rfl⟩, fun c' k' a hn => ?_, fun _ _ _ => rfl⟩
  rw [bh_fi_sfi, if_neg (fun z => hn ⟨z.1, by rw [z.2.1]; exact hk, z.2.2⟩)]
section CR
variable {A : Nat → Nat → Nat} {h h' : bi_H} {p : Nat} {W : ba_W} {c s : Nat}
theorem cw_R.kr (R : cw_R A p W h) (hc : c = 30 ∨ c = 31) (hs : s < 8) : bi_k h (A c s) = (13, 0) := hc.elim (fun e => by rw [e]; exact R.k30 hs) (fun e => by rw [e]; exact R.k31 hs)
theorem cw_R.ka (R : cw_R A p W h) (hc : c = 30 ∨ c = 31) (hs : s < 8) : bi_k h (A (c + 22) s) = (1, p) := hc.elim (fun e => by rw [e]; exact R.k52 hs) (fun e => by rw [e]; exact R.k53 hs)
theorem cw_R.rr (R : cw_R A p W h) (hc : c = 30 ∨ c = 31) (hs : s < 8) : bi_fr h 3 2 (A c s) = A (c + 22) s := hc.elim (fun e => by rw [e]; exact R.r320 hs) (fun e => by rw [e]; exact R.r321 hs)
theorem cw_R.na (R : cw_R A p W h) (hc : c = 30 ∨ c = 31) (hs : s < 8) {d i : Nat} (hi : i < ca_bd d) (hd : d < 52 ∨ 53 < d) : (A d i = A (c + 22) s) = False := by rcases hc with rfl | rfl <;> exact R.ne hi hs (Or.inl (by omega))
theorem cr_d.w {F : List Nat} (d : cr_d A c s F h h') (hc : c = 30 ∨ c = 31) (hs : s < 8) (R : cw_R A p W h) : cw_R A p W h' := by
  obtain ⟨⟨a1, a2, a3, a4, a5, a6⟩, a7, a8⟩ := d
  have hne : ∀ d, 57 ≤ d → d ≤ 61 → ∀ k, bi_ai h' (A d 0) k = bi_ai h (A d 0) k := fun d h1 h2 k => by
    refine a8 _ _ (fun z => ?_)
    have hd : 0 < ca_bd d := by
      have : d = 57 ∨ d = 58 ∨ d = 59 ∨ d = 60 ∨ d = 61 := by omega
      rcases this with rfl | rfl | rfl | rfl | rfl <;> decide
    rw [R.na hc hs hd (by omega)] at z
    exact z
  refine ⟨?_, ?_, fun k hk => ?_⟩
  · unfold ca_lay
    rw [a1, a2, a5, a6]
    exact R.1
  · rw [a7 8 0 (A 8 0) (fun z => absurd z.1 (by decide))]
    exact R.2.1
  · rw [hne 57 (by decide) (by decide), hne 58 (by decide) (by decide), hne 59 (by decide) (by decide), hne 60 (by decide) (by decide), hne 61 (by decide) (by decide)]
    exact R.2.2 k hk
/-- what a row holds -/
def cr_f (A : Nat → Nat → Nat) (c s m : Nat) (f : Nat → Nat) (h : bi_H) : Prop := ∀ i, i < m → bi_ai h (A (c + 22) s) i = Int32.ofNat (f i)
theorem cr_f.sai {m : Nat} {f : Nat → Nat} (F : cr_f A c s m f h) (j v : Nat) : cr_f A c s m (ba_u f j v) (bi_sai h (A (c + 22) s) j (Int32.ofNat v)) := by
  intro i hi
  rw [bh_ai_sai]
  by_cases e : i = j
  · rw [if_pos ⟨rfl, e⟩, e, ba_u_same]
  · rw [if_neg (fun z => e z.2), ba_u_ne _ _ e]
    exact F i hi
/-- Row.sink: its loop -/
theorem cl_sink (hW : ba_ok W) (hc : c = 30 ∨ c = 31) (hs : s < 8) (hp : p ≤ 8192) {e m st w : Nat} (hem : e ≤ m) (hmp : m ≤ p) (hw : w ≤ ba_n W) : ∀ (d hole : Nat) (f : Nat → Nat) (h : bi_H), e - hole ≤ d → hole < e → cw_R A p W h → cr_f A c s m f h → (∀ i, i < m → f i ≤ ba_n W) → bk_I (ba_s W) f w hole st e → ∃ h' f', bw_r bt_P 100 1 [(0, .inr (.inl (A c s))), (1, .inr (.inl (A 57 0))), (3, .inl (Int32.ofNat e)), (4, .inl (Int32.ofNat w)), (5, .inl (Int32.ofNat hole)), (6, .inl (Int32.ofNat (2 * hole + 1)))] [] h (fun o g => o = .inl none ∧ g = h') ∧ cr_d A c s [] h h' ∧ cr_f A c s m f' h' ∧ (∀ i, i < m → f' i ≤ ba_n W) ∧ bk_same f' (ba_u f hole w) e ∧ (∀ i, e ≤ i → f' i = f i) ∧ bk_H (ba_s W) f' st e := by
  intro d
  induction d with
  | zero => intro hole f h hd hh; omega
  | succ d ih =>
    intro hole f h hd hh R F hf hI
    have n6 := hW.1
    have q1 : hole < 60001 := by omega
    have q2 : e < 60001 := by omega
    have q3 : 2 * hole + 1 < 60001 := by omega
    have q4 : hole < p := by omega
    have hfu : ∀ i, i < m → ba_u f hole w i ≤ ba_n W := fun i hi => by
      unfold ba_u
      split
      · exact hw
      · exact hf i hi
    have stop : (2 * hole + 1 < e → ba_s W (f (bk_ch (ba_s W) f hole e)) ≤ ba_s W w) → ∃ h' f', (∀ L : bi_L, bw_all [(0, .inr (.inl (A c s))), (4, .inl (Int32.ofNat w)), (5, .inl (Int32.ofNat hole))] L → bw_r bt_P 100 8 L [] h (fun o g => o = .inl none ∧ g = h')) ∧ cr_d A c s [] h h' ∧ cr_f A c s m f' h' ∧ (∀ i, i < m → f' i ≤ ba_n W) ∧ bk_same f' (ba_u f hole w) e ∧ (∀ i, e ≤ i → f' i = f i) ∧ bk_H (ba_s W) f' st e := fun hst => by
      refine ⟨bi_sai h (A (c + 22) s) hole (Int32.ofNat w), ba_u f hole w, fun L hL => ?_, cr_d.sai h _ _, F.sai hole w, hfu, fun x => rfl, fun i hi => ba_u_ne _ _ (by omega), bk_stop hI hst⟩
      refine bw_sub2 _ hL ?_
      (refine bw_step rfl ?_; simp +decide only [bw_gi_s, bw_ga_s, bw_go_s, bw_w_i, bw_w_a, bw_w_l, bw_sum_n, bw_sum_c, bw_xs_n, bw_iconst, bw_bipush, bw_sipush, bw_ldc, bw_ldc_w, bw_anull, bw_iload0, bw_aload0, bw_istore0, bw_astore0, bw_iload1, bw_aload1, bw_istore1, bw_astore1, bw_iload2, bw_aload2, bw_istore2, bw_astore2, bw_iload3, bw_aload3, bw_istore3, bw_astore3, bw_iload, bw_aload, bw_istore, bw_astore, bw_iinc, bw_iadd, bw_isub, bw_imul, bw_iand, bw_ixor, bw_idiv, bw_irem, bw_i2l, bw_lcmp, bw_dupi, bw_dupa, bw_dup2ia, bw_dup2ii, bw_getf0, bw_getf2, bw_getf1, bw_putf0, bw_putf2, bw_putf1, bw_iaload, bw_baload, bw_laload, bw_aaload, bw_iastore, bw_bastore, bw_lastore, bw_aastore, bw_alen, bw_newa_int, bw_newa_boolean, bw_newa_long, bw_anewa, bw_multi, bw_new, bw_static, bw_virt, bw_obj, bw_t_nop, bw_t_goto, bw_t_eq_z, bw_t_eq_i, bw_t_ne_z, bw_t_ne_i, bw_t_lt_z, bw_t_lt_i, bw_t_ge_z, bw_t_ge_i, bw_t_gt_z, bw_t_gt_i, bw_t_le_z, bw_t_le_i, bw_t_null, bw_t_nonnull, bw_t_switch, bw_t_ireturn0, bw_t_ireturn1, bw_t_areturn, bw_t_return, bw_t_athrow, bw_t_try, List.lookup_cons, List.lookup_nil, bi_st, List.filter_cons, List.filter_nil, List.take_succ_cons, List.take_zero, List.take_nil, List.drop_succ_cons, List.drop_zero, List.reverse_cons, List.reverse_nil, List.nil_append, List.cons_append, Option.toList_some, Option.toList_none, List.length_cons, List.length_nil, bi_loc, List.zipIdx_cons, List.zipIdx_nil, List.map_cons, List.map_nil, List.getD_cons_zero, List.getD_cons_succ, Nat.zero_add, Bool.not_true, Bool.not_false, Bool.false_eq_true, if_true, if_false, ite_true, ite_false, ↓reduceIte, true_and, and_true, Bool.not_eq_true, beq_self_eq_true, Nat.reduceBEq, Nat.reduceEqDiff, Nat.reduceAdd, Nat.reduceLeDiff, Nat.reduceLT, Nat.reduceSub, Nat.reduceMul, Int32.reduceOfInt, Int32.reduceOfNat, Int32.reduceToNatClampNeg, Int32.reduceLT, Int32.reduceLE, Int32.reduceAdd, Int32.reduceSub, Int32.reduceMul, Int32.reduceDiv, Int32.reduceToInt, Int.reduceLT, Int.reduceSub, Int.reduceToNat, not_false_eq_true, ne_eq, or_true, true_or, or_false, false_or, and_false, false_and, not_true_eq_false, reduceCtorEq, and_self, or_self, eq_self, bh_k_sfi, bh_k_sfr, bh_k_sai, bh_k_sar, bh_k_new, bh_fi_sfi, bh_fi_sfr, bh_fi_sai, bh_fi_sar, bh_fi_new, bh_fr_sfi, bh_fr_sfr, bh_fr_sai, bh_fr_sar, bh_fr_new, bh_ai_sfi, bh_ai_sfr, bh_ai_sai, bh_ai_sar, bh_ai_new, bh_ar_sfi, bh_ar_sfr, bh_ar_sai, bh_ar_sar, bh_ar_new, bh_nx_sfi, bh_nx_sfr, bh_nx_sai, bh_nx_sar, bh_nx_new, bh_nc_sfi, bh_nc_sfr, bh_nc_sai, bh_nc_sar, bh_nc_new, bh_ns_sfi, bh_ns_sfr, bh_ns_sai, bh_ns_sar, bh_ns_new, bh_k_new2, bh_fi_new2, bh_fr_new2, bh_ai_new2, bh_ar_new2, bh_nx_new2, bh_nc_new2, bh_ns_new2, Nat.lt_irrefl, Nat.le_refl, bq_le0, bq_neg, bq_nat, bq_lt, bq_le, bq_eq, bn_one, bn_dec, R.kr hc hs, R.rr hc hs, R.ka hc hs, q1, q4])
    by_cases he : 2 * hole + 1 < e
    · obtain ⟨k1, k2, k3⟩ := bk_ch_in (κ := ba_s W) (f := f) he
      have hck : ∀ i, i < m → f i < 60001 ∧ ba_s W (f i) < 60001 := fun i hi => by
        have h1 := hf i hi
        refine ⟨by omega, ?_⟩
        by_cases z : f i = 0
        · rw [z, hW.2.1.2.1]
          omega
        · have := (hW.2.2 (f i) (by omega) h1).2.2.1
          omega
      obtain ⟨g1, g2⟩ := hck (bk_ch (ba_s W) f hole e) (by omega)
      have q5 : bk_ch (ba_s W) f hole e < 60001 := by omega
      have q6 : bk_ch (ba_s W) f hole e < p := by omega
      have q7 : w < 60001 := by omega
      have q8 : ba_s W w < 60001 := by
        by_cases z : w = 0
        · rw [z, hW.2.1.2.1]
          omega
        · have := (hW.2.2 w (by omega) hw).2.2.1
          omega
      have five : ∃ h' f', (∀ L : bi_L, bw_all [(0, .inr (.inl (A c s))), (1, .inr (.inl (A 57 0))), (3, .inl (Int32.ofNat e)), (4, .inl (Int32.ofNat w)), (5, .inl (Int32.ofNat hole)), (6, .inl (Int32.ofNat (bk_ch (ba_s W) f hole e)))] L → bw_r bt_P 100 5 L [] h (fun o g => o = .inl none ∧ g = h')) ∧ cr_d A c s [] h h' ∧ cr_f A c s m f' h' ∧ (∀ i, i < m → f' i ≤ ba_n W) ∧ bk_same f' (ba_u f hole w) e ∧ (∀ i, e ≤ i → f' i = f i) ∧ bk_H (ba_s W) f' st e := by
        by_cases hk : ba_s W (f (bk_ch (ba_s W) f hole e)) ≤ ba_s W w
        · obtain ⟨h', f', r, rest⟩ := stop (fun _ => hk)
          refine ⟨h', f', fun L hL => ?_, rest⟩
          refine bw_sub2 _ hL ?_
          (refine bw_step rfl ?_; simp +decide only [bw_gi_s, bw_ga_s, bw_go_s, bw_w_i, bw_w_a, bw_w_l, bw_sum_n, bw_sum_c, bw_xs_n, bw_iconst, bw_bipush, bw_sipush, bw_ldc, bw_ldc_w, bw_anull, bw_iload0, bw_aload0, bw_istore0, bw_astore0, bw_iload1, bw_aload1, bw_istore1, bw_astore1, bw_iload2, bw_aload2, bw_istore2, bw_astore2, bw_iload3, bw_aload3, bw_istore3, bw_astore3, bw_iload, bw_aload, bw_istore, bw_astore, bw_iinc, bw_iadd, bw_isub, bw_imul, bw_iand, bw_ixor, bw_idiv, bw_irem, bw_i2l, bw_lcmp, bw_dupi, bw_dupa, bw_dup2ia, bw_dup2ii, bw_getf0, bw_getf2, bw_getf1, bw_putf0, bw_putf2, bw_putf1, bw_iaload, bw_baload, bw_laload, bw_aaload, bw_iastore, bw_bastore, bw_lastore, bw_aastore, bw_alen, bw_newa_int, bw_newa_boolean, bw_newa_long, bw_anewa, bw_multi, bw_new, bw_static, bw_virt, bw_obj, bw_t_nop, bw_t_goto, bw_t_eq_z, bw_t_eq_i, bw_t_ne_z, bw_t_ne_i, bw_t_lt_z, bw_t_lt_i, bw_t_ge_z, bw_t_ge_i, bw_t_gt_z, bw_t_gt_i, bw_t_le_z, bw_t_le_i, bw_t_null, bw_t_nonnull, bw_t_switch, bw_t_ireturn0, bw_t_ireturn1, bw_t_areturn, bw_t_return, bw_t_athrow, bw_t_try, List.lookup_cons, List.lookup_nil, bi_st, List.filter_cons, List.filter_nil, List.take_succ_cons, List.take_zero, List.take_nil, List.drop_succ_cons, List.drop_zero, List.reverse_cons, List.reverse_nil, List.nil_append, List.cons_append, Option.toList_some, Option.toList_none, List.length_cons, List.length_nil, bi_loc, List.zipIdx_cons, List.zipIdx_nil, List.map_cons, List.map_nil, List.getD_cons_zero, List.getD_cons_succ, Nat.zero_add, Bool.not_true, Bool.not_false, Bool.false_eq_true, if_true, if_false, ite_true, ite_false, ↓reduceIte, true_and, and_true, Bool.not_eq_true, beq_self_eq_true, Nat.reduceBEq, Nat.reduceEqDiff, Nat.reduceAdd, Nat.reduceLeDiff, Nat.reduceLT, Nat.reduceSub, Nat.reduceMul, Int32.reduceOfInt, Int32.reduceOfNat, Int32.reduceToNatClampNeg, Int32.reduceLT, Int32.reduceLE, Int32.reduceAdd, Int32.reduceSub, Int32.reduceMul, Int32.reduceDiv, Int32.reduceToInt, Int.reduceLT, Int.reduceSub, Int.reduceToNat, not_false_eq_true, ne_eq, or_true, true_or, or_false, false_or, and_false, false_and, not_true_eq_false, reduceCtorEq, and_self, or_self, eq_self, bh_k_sfi, bh_k_sfr, bh_k_sai, bh_k_sar, bh_k_new, bh_fi_sfi, bh_fi_sfr, bh_fi_sai, bh_fi_sar, bh_fi_new, bh_fr_sfi, bh_fr_sfr, bh_fr_sai, bh_fr_sar, bh_fr_new, bh_ai_sfi, bh_ai_sfr, bh_ai_sai, bh_ai_sar, bh_ai_new, bh_ar_sfi, bh_ar_sfr, bh_ar_sai, bh_ar_sar, bh_ar_new, bh_nx_sfi, bh_nx_sfr, bh_nx_sai, bh_nx_sar, bh_nx_new, bh_nc_sfi, bh_nc_sfr, bh_nc_sai, bh_nc_sar, bh_nc_new, bh_ns_sfi, bh_ns_sfr, bh_ns_sai, bh_ns_sar, bh_ns_new, bh_k_new2, bh_fi_new2, bh_fr_new2, bh_ai_new2, bh_ar_new2, bh_nx_new2, bh_nc_new2, bh_ns_new2, Nat.lt_irrefl, Nat.le_refl, bq_le0, bq_neg, bq_nat, bq_lt, bq_le, bq_eq, bn_one, bn_dec, R.kr hc hs, R.rr hc hs, R.ka hc hs, R.k57, q5, q6, F _ (show bk_ch (ba_s W) f hole e < m by omega), g1, R.a57 (hf _ (show bk_ch (ba_s W) f hole e < m by omega)), q7, R.a57 hw, g2, q8, Nat.not_lt.mpr hk])
          (refine bw_step rfl ?_; simp +decide only [bw_gi_s, bw_ga_s, bw_go_s, bw_w_i, bw_w_a, bw_w_l, bw_sum_n, bw_sum_c, bw_xs_n, bw_iconst, bw_bipush, bw_sipush, bw_ldc, bw_ldc_w, bw_anull, bw_iload0, bw_aload0, bw_istore0, bw_astore0, bw_iload1, bw_aload1, bw_istore1, bw_astore1, bw_iload2, bw_aload2, bw_istore2, bw_astore2, bw_iload3, bw_aload3, bw_istore3, bw_astore3, bw_iload, bw_aload, bw_istore, bw_astore, bw_iinc, bw_iadd, bw_isub, bw_imul, bw_iand, bw_ixor, bw_idiv, bw_irem, bw_i2l, bw_lcmp, bw_dupi, bw_dupa, bw_dup2ia, bw_dup2ii, bw_getf0, bw_getf2, bw_getf1, bw_putf0, bw_putf2, bw_putf1, bw_iaload, bw_baload, bw_laload, bw_aaload, bw_iastore, bw_bastore, bw_lastore, bw_aastore, bw_alen, bw_newa_int, bw_newa_boolean, bw_newa_long, bw_anewa, bw_multi, bw_new, bw_static, bw_virt, bw_obj, bw_t_nop, bw_t_goto, bw_t_eq_z, bw_t_eq_i, bw_t_ne_z, bw_t_ne_i, bw_t_lt_z, bw_t_lt_i, bw_t_ge_z, bw_t_ge_i, bw_t_gt_z, bw_t_gt_i, bw_t_le_z, bw_t_le_i, bw_t_null, bw_t_nonnull, bw_t_switch, bw_t_ireturn0, bw_t_ireturn1, bw_t_areturn, bw_t_return, bw_t_athrow, bw_t_try, List.lookup_cons, List.lookup_nil, bi_st, List.filter_cons, List.filter_nil, List.take_succ_cons, List.take_zero, List.take_nil, List.drop_succ_cons, List.drop_zero, List.reverse_cons, List.reverse_nil, List.nil_append, List.cons_append, Option.toList_some, Option.toList_none, List.length_cons, List.length_nil, bi_loc, List.zipIdx_cons, List.zipIdx_nil, List.map_cons, List.map_nil, List.getD_cons_zero, List.getD_cons_succ, Nat.zero_add, Bool.not_true, Bool.not_false, Bool.false_eq_true, if_true, if_false, ite_true, ite_false, ↓reduceIte, true_and, and_true, Bool.not_eq_true, beq_self_eq_true, Nat.reduceBEq, Nat.reduceEqDiff, Nat.reduceAdd, Nat.reduceLeDiff, Nat.reduceLT, Nat.reduceSub, Nat.reduceMul, Int32.reduceOfInt, Int32.reduceOfNat, Int32.reduceToNatClampNeg, Int32.reduceLT, Int32.reduceLE, Int32.reduceAdd, Int32.reduceSub, Int32.reduceMul, Int32.reduceDiv, Int32.reduceToInt, Int.reduceLT, Int.reduceSub, Int.reduceToNat, not_false_eq_true, ne_eq, or_true, true_or, or_false, false_or, and_false, false_and, not_true_eq_false, reduceCtorEq, and_self, or_self, eq_self, bh_k_sfi, bh_k_sfr, bh_k_sai, bh_k_sar, bh_k_new, bh_fi_sfi, bh_fi_sfr, bh_fi_sai, bh_fi_sar, bh_fi_new, bh_fr_sfi, bh_fr_sfr, bh_fr_sai, bh_fr_sar, bh_fr_new, bh_ai_sfi, bh_ai_sfr, bh_ai_sai, bh_ai_sar, bh_ai_new, bh_ar_sfi, bh_ar_sfr, bh_ar_sai, bh_ar_sar, bh_ar_new, bh_nx_sfi, bh_nx_sfr, bh_nx_sai, bh_nx_sar, bh_nx_new, bh_nc_sfi, bh_nc_sfr, bh_nc_sai, bh_nc_sar, bh_nc_new, bh_ns_sfi, bh_ns_sfr, bh_ns_sai, bh_ns_sar, bh_ns_new, bh_k_new2, bh_fi_new2, bh_fr_new2, bh_ai_new2, bh_ar_new2, bh_nx_new2, bh_nc_new2, bh_ns_new2, Nat.lt_irrefl, Nat.le_refl, bq_le0, bq_neg, bq_nat, bq_lt, bq_le, bq_eq, bn_one, bn_dec])
          exact r _ ⟨rfl, rfl, rfl, trivial⟩
        · have hk : ba_s W w < ba_s W (f (bk_ch (ba_s W) f hole e)) := by omega
          have R1 : cw_R A p W (bi_sai h (A (c + 22) s) hole (Int32.ofNat (f (bk_ch (ba_s W) f hole e)))) := cr_d.w (F := []) (cr_d.sai h _ _) hc hs R
          obtain ⟨h', f', r, e1, e2, e3, e4, e5, e6⟩ := ih (bk_ch (ba_s W) f hole e) (ba_u f hole (f (bk_ch (ba_s W) f hole e))) _ (by omega) k2 R1 (F.sai hole (f (bk_ch (ba_s W) f hole e))) (fun i hi => by
            unfold ba_u
            split
            · exact hf _ (by omega)
            · exact hf i hi) (bk_down hI he hk)
          refine ⟨h', f', fun L hL => ?_, (cr_d.sai h _ _).tr e1, e2, e3, fun x => (e4 x).trans (bk_swap f w hh k2 (by omega) x), fun i hi => by rw [e5 i hi, ba_u_ne _ _ (by omega)], e6⟩
          refine bw_sub2 _ hL ?_
          (refine bw_step rfl ?_; simp +decide only [bw_gi_s, bw_ga_s, bw_go_s, bw_w_i, bw_w_a, bw_w_l, bw_sum_n, bw_sum_c, bw_xs_n, bw_iconst, bw_bipush, bw_sipush, bw_ldc, bw_ldc_w, bw_anull, bw_iload0, bw_aload0, bw_istore0, bw_astore0, bw_iload1, bw_aload1, bw_istore1, bw_astore1, bw_iload2, bw_aload2, bw_istore2, bw_astore2, bw_iload3, bw_aload3, bw_istore3, bw_astore3, bw_iload, bw_aload, bw_istore, bw_astore, bw_iinc, bw_iadd, bw_isub, bw_imul, bw_iand, bw_ixor, bw_idiv, bw_irem, bw_i2l, bw_lcmp, bw_dupi, bw_dupa, bw_dup2ia, bw_dup2ii, bw_getf0, bw_getf2, bw_getf1, bw_putf0, bw_putf2, bw_putf1, bw_iaload, bw_baload, bw_laload, bw_aaload, bw_iastore, bw_bastore, bw_lastore, bw_aastore, bw_alen, bw_newa_int, bw_newa_boolean, bw_newa_long, bw_anewa, bw_multi, bw_new, bw_static, bw_virt, bw_obj, bw_t_nop, bw_t_goto, bw_t_eq_z, bw_t_eq_i, bw_t_ne_z, bw_t_ne_i, bw_t_lt_z, bw_t_lt_i, bw_t_ge_z, bw_t_ge_i, bw_t_gt_z, bw_t_gt_i, bw_t_le_z, bw_t_le_i, bw_t_null, bw_t_nonnull, bw_t_switch, bw_t_ireturn0, bw_t_ireturn1, bw_t_areturn, bw_t_return, bw_t_athrow, bw_t_try, List.lookup_cons, List.lookup_nil, bi_st, List.filter_cons, List.filter_nil, List.take_succ_cons, List.take_zero, List.take_nil, List.drop_succ_cons, List.drop_zero, List.reverse_cons, List.reverse_nil, List.nil_append, List.cons_append, Option.toList_some, Option.toList_none, List.length_cons, List.length_nil, bi_loc, List.zipIdx_cons, List.zipIdx_nil, List.map_cons, List.map_nil, List.getD_cons_zero, List.getD_cons_succ, Nat.zero_add, Bool.not_true, Bool.not_false, Bool.false_eq_true, if_true, if_false, ite_true, ite_false, ↓reduceIte, true_and, and_true, Bool.not_eq_true, beq_self_eq_true, Nat.reduceBEq, Nat.reduceEqDiff, Nat.reduceAdd, Nat.reduceLeDiff, Nat.reduceLT, Nat.reduceSub, Nat.reduceMul, Int32.reduceOfInt, Int32.reduceOfNat, Int32.reduceToNatClampNeg, Int32.reduceLT, Int32.reduceLE, Int32.reduceAdd, Int32.reduceSub, Int32.reduceMul, Int32.reduceDiv, Int32.reduceToInt, Int.reduceLT, Int.reduceSub, Int.reduceToNat, not_false_eq_true, ne_eq, or_true, true_or, or_false, false_or, and_false, false_and, not_true_eq_false, reduceCtorEq, and_self, or_self, eq_self, bh_k_sfi, bh_k_sfr, bh_k_sai, bh_k_sar, bh_k_new, bh_fi_sfi, bh_fi_sfr, bh_fi_sai, bh_fi_sar, bh_fi_new, bh_fr_sfi, bh_fr_sfr, bh_fr_sai, bh_fr_sar, bh_fr_new, bh_ai_sfi, bh_ai_sfr, bh_ai_sai, bh_ai_sar, bh_ai_new, bh_ar_sfi, bh_ar_sfr, bh_ar_sai, bh_ar_sar, bh_ar_new, bh_nx_sfi, bh_nx_sfr, bh_nx_sai, bh_nx_sar, bh_nx_new, bh_nc_sfi, bh_nc_sfr, bh_nc_sai, bh_nc_sar, bh_nc_new, bh_ns_sfi, bh_ns_sfr, bh_ns_sai, bh_ns_sar, bh_ns_new, bh_k_new2, bh_fi_new2, bh_fr_new2, bh_ai_new2, bh_ar_new2, bh_nx_new2, bh_nc_new2, bh_ns_new2, Nat.lt_irrefl, Nat.le_refl, bq_le0, bq_neg, bq_nat, bq_lt, bq_le, bq_eq, bn_one, bn_dec, R.kr hc hs, R.rr hc hs, R.ka hc hs, R.k57, q5, q6, F _ (show bk_ch (ba_s W) f hole e < m by omega), g1, R.a57 (hf _ (show bk_ch (ba_s W) f hole e < m by omega)), q7, R.a57 hw, g2, q8, hk])
          (refine bw_step rfl ?_; simp +decide only [bw_gi_s, bw_ga_s, bw_go_s, bw_w_i, bw_w_a, bw_w_l, bw_sum_n, bw_sum_c, bw_xs_n, bw_iconst, bw_bipush, bw_sipush, bw_ldc, bw_ldc_w, bw_anull, bw_iload0, bw_aload0, bw_istore0, bw_astore0, bw_iload1, bw_aload1, bw_istore1, bw_astore1, bw_iload2, bw_aload2, bw_istore2, bw_astore2, bw_iload3, bw_aload3, bw_istore3, bw_astore3, bw_iload, bw_aload, bw_istore, bw_astore, bw_iinc, bw_iadd, bw_isub, bw_imul, bw_iand, bw_ixor, bw_idiv, bw_irem, bw_i2l, bw_lcmp, bw_dupi, bw_dupa, bw_dup2ia, bw_dup2ii, bw_getf0, bw_getf2, bw_getf1, bw_putf0, bw_putf2, bw_putf1, bw_iaload, bw_baload, bw_laload, bw_aaload, bw_iastore, bw_bastore, bw_lastore, bw_aastore, bw_alen, bw_newa_int, bw_newa_boolean, bw_newa_long, bw_anewa, bw_multi, bw_new, bw_static, bw_virt, bw_obj, bw_t_nop, bw_t_goto, bw_t_eq_z, bw_t_eq_i, bw_t_ne_z, bw_t_ne_i, bw_t_lt_z, bw_t_lt_i, bw_t_ge_z, bw_t_ge_i, bw_t_gt_z, bw_t_gt_i, bw_t_le_z, bw_t_le_i, bw_t_null, bw_t_nonnull, bw_t_switch, bw_t_ireturn0, bw_t_ireturn1, bw_t_areturn, bw_t_return, bw_t_athrow, bw_t_try, List.lookup_cons, List.lookup_nil, bi_st, List.filter_cons, List.filter_nil, List.take_succ_cons, List.take_zero, List.take_nil, List.drop_succ_cons, List.drop_zero, List.reverse_cons, List.reverse_nil, List.nil_append, List.cons_append, Option.toList_some, Option.toList_none, List.length_cons, List.length_nil, bi_loc, List.zipIdx_cons, List.zipIdx_nil, List.map_cons, List.map_nil, List.getD_cons_zero, List.getD_cons_succ, Nat.zero_add, Bool.not_true, Bool.not_false, Bool.false_eq_true, if_true, if_false, ite_true, ite_false, ↓reduceIte, true_and, and_true, Bool.not_eq_true, beq_self_eq_true, Nat.reduceBEq, Nat.reduceEqDiff, Nat.reduceAdd, Nat.reduceLeDiff, Nat.reduceLT, Nat.reduceSub, Nat.reduceMul, Int32.reduceOfInt, Int32.reduceOfNat, Int32.reduceToNatClampNeg, Int32.reduceLT, Int32.reduceLE, Int32.reduceAdd, Int32.reduceSub, Int32.reduceMul, Int32.reduceDiv, Int32.reduceToInt, Int.reduceLT, Int.reduceSub, Int.reduceToNat, not_false_eq_true, ne_eq, or_true, true_or, or_false, false_or, and_false, false_and, not_true_eq_false, reduceCtorEq, and_self, or_self, eq_self, bh_k_sfi, bh_k_sfr, bh_k_sai, bh_k_sar, bh_k_new, bh_fi_sfi, bh_fi_sfr, bh_fi_sai, bh_fi_sar, bh_fi_new, bh_fr_sfi, bh_fr_sfr, bh_fr_sai, bh_fr_sar, bh_fr_new, bh_ai_sfi, bh_ai_sfr, bh_ai_sai, bh_ai_sar, bh_ai_new, bh_ar_sfi, bh_ar_sfr, bh_ar_sai, bh_ar_sar, bh_ar_new, bh_nx_sfi, bh_nx_sfr, bh_nx_sai, bh_nx_sar, bh_nx_new, bh_nc_sfi, bh_nc_sfr, bh_nc_sai, bh_nc_sar, bh_nc_new, bh_ns_sfi, bh_ns_sfr, bh_ns_sai, bh_ns_sar, bh_ns_new, bh_k_new2, bh_fi_new2, bh_fr_new2, bh_ai_new2, bh_ar_new2, bh_nx_new2, bh_nc_new2, bh_ns_new2, Nat.lt_irrefl, Nat.le_refl, bq_le0, bq_neg, bq_nat, bq_lt, bq_le, bq_eq, bn_one, bn_dec, R.kr hc hs, R.rr hc hs, R.ka hc hs, q1, q4, q5, q6, F _ (show bk_ch (ba_s W) f hole e < m by omega), bq_mul2])
          (refine bw_sub2 _ ?_ (r); exact ⟨rfl, rfl, rfl, rfl, rfl, rfl, trivial⟩)
      obtain ⟨h', f', r, rest⟩ := five
      refine ⟨h', f', ?_, rest⟩
      by_cases c2 : 2 * hole + 2 < e
      · obtain ⟨u1, u2⟩ := hck (2 * hole + 1) (by omega)
        obtain ⟨w1, w2⟩ := hck (2 * hole + 2) (by omega)
        have q9 : 2 * hole + 1 < p := by omega
        have q10 : 2 * hole + 2 < p := by omega
        have q11 : 2 * hole + 2 < 60001 := by omega
        have F1 := F (2 * hole + 1) (by omega)
        have F2 := F (2 * hole + 2) (by omega)
        have A1 := R.a57 (hf (2 * hole + 1) (by omega))
        have A2 := R.a57 (hf (2 * hole + 2) (by omega))
        (refine bw_step rfl ?_; simp +decide only [bw_gi_s, bw_ga_s, bw_go_s, bw_w_i, bw_w_a, bw_w_l, bw_sum_n, bw_sum_c, bw_xs_n, bw_iconst, bw_bipush, bw_sipush, bw_ldc, bw_ldc_w, bw_anull, bw_iload0, bw_aload0, bw_istore0, bw_astore0, bw_iload1, bw_aload1, bw_istore1, bw_astore1, bw_iload2, bw_aload2, bw_istore2, bw_astore2, bw_iload3, bw_aload3, bw_istore3, bw_astore3, bw_iload, bw_aload, bw_istore, bw_astore, bw_iinc, bw_iadd, bw_isub, bw_imul, bw_iand, bw_ixor, bw_idiv, bw_irem, bw_i2l, bw_lcmp, bw_dupi, bw_dupa, bw_dup2ia, bw_dup2ii, bw_getf0, bw_getf2, bw_getf1, bw_putf0, bw_putf2, bw_putf1, bw_iaload, bw_baload, bw_laload, bw_aaload, bw_iastore, bw_bastore, bw_lastore, bw_aastore, bw_alen, bw_newa_int, bw_newa_boolean, bw_newa_long, bw_anewa, bw_multi, bw_new, bw_static, bw_virt, bw_obj, bw_t_nop, bw_t_goto, bw_t_eq_z, bw_t_eq_i, bw_t_ne_z, bw_t_ne_i, bw_t_lt_z, bw_t_lt_i, bw_t_ge_z, bw_t_ge_i, bw_t_gt_z, bw_t_gt_i, bw_t_le_z, bw_t_le_i, bw_t_null, bw_t_nonnull, bw_t_switch, bw_t_ireturn0, bw_t_ireturn1, bw_t_areturn, bw_t_return, bw_t_athrow, bw_t_try, List.lookup_cons, List.lookup_nil, bi_st, List.filter_cons, List.filter_nil, List.take_succ_cons, List.take_zero, List.take_nil, List.drop_succ_cons, List.drop_zero, List.reverse_cons, List.reverse_nil, List.nil_append, List.cons_append, Option.toList_some, Option.toList_none, List.length_cons, List.length_nil, bi_loc, List.zipIdx_cons, List.zipIdx_nil, List.map_cons, List.map_nil, List.getD_cons_zero, List.getD_cons_succ, Nat.zero_add, Bool.not_true, Bool.not_false, Bool.false_eq_true, if_true, if_false, ite_true, ite_false, ↓reduceIte, true_and, and_true, Bool.not_eq_true, beq_self_eq_true, Nat.reduceBEq, Nat.reduceEqDiff, Nat.reduceAdd, Nat.reduceLeDiff, Nat.reduceLT, Nat.reduceSub, Nat.reduceMul, Int32.reduceOfInt, Int32.reduceOfNat, Int32.reduceToNatClampNeg, Int32.reduceLT, Int32.reduceLE, Int32.reduceAdd, Int32.reduceSub, Int32.reduceMul, Int32.reduceDiv, Int32.reduceToInt, Int.reduceLT, Int.reduceSub, Int.reduceToNat, not_false_eq_true, ne_eq, or_true, true_or, or_false, false_or, and_false, false_and, not_true_eq_false, reduceCtorEq, and_self, or_self, eq_self, bh_k_sfi, bh_k_sfr, bh_k_sai, bh_k_sar, bh_k_new, bh_fi_sfi, bh_fi_sfr, bh_fi_sai, bh_fi_sar, bh_fi_new, bh_fr_sfi, bh_fr_sfr, bh_fr_sai, bh_fr_sar, bh_fr_new, bh_ai_sfi, bh_ai_sfr, bh_ai_sai, bh_ai_sar, bh_ai_new, bh_ar_sfi, bh_ar_sfr, bh_ar_sai, bh_ar_sar, bh_ar_new, bh_nx_sfi, bh_nx_sfr, bh_nx_sai, bh_nx_sar, bh_nx_new, bh_nc_sfi, bh_nc_sfr, bh_nc_sai, bh_nc_sar, bh_nc_new, bh_ns_sfi, bh_ns_sfr, bh_ns_sai, bh_ns_sar, bh_ns_new, bh_k_new2, bh_fi_new2, bh_fr_new2, bh_ai_new2, bh_ar_new2, bh_nx_new2, bh_nc_new2, bh_ns_new2, Nat.lt_irrefl, Nat.le_refl, bq_le0, bq_neg, bq_nat, bq_lt, bq_le, bq_eq, bn_one, bn_dec, q2, q3, Nat.not_le.mpr he])
        (refine bw_step rfl ?_; simp +decide only [bw_gi_s, bw_ga_s, bw_go_s, bw_w_i, bw_w_a, bw_w_l, bw_sum_n, bw_sum_c, bw_xs_n, bw_iconst, bw_bipush, bw_sipush, bw_ldc, bw_ldc_w, bw_anull, bw_iload0, bw_aload0, bw_istore0, bw_astore0, bw_iload1, bw_aload1, bw_istore1, bw_astore1, bw_iload2, bw_aload2, bw_istore2, bw_astore2, bw_iload3, bw_aload3, bw_istore3, bw_astore3, bw_iload, bw_aload, bw_istore, bw_astore, bw_iinc, bw_iadd, bw_isub, bw_imul, bw_iand, bw_ixor, bw_idiv, bw_irem, bw_i2l, bw_lcmp, bw_dupi, bw_dupa, bw_dup2ia, bw_dup2ii, bw_getf0, bw_getf2, bw_getf1, bw_putf0, bw_putf2, bw_putf1, bw_iaload, bw_baload, bw_laload, bw_aaload, bw_iastore, bw_bastore, bw_lastore, bw_aastore, bw_alen, bw_newa_int, bw_newa_boolean, bw_newa_long, bw_anewa, bw_multi, bw_new, bw_static, bw_virt, bw_obj, bw_t_nop, bw_t_goto, bw_t_eq_z, bw_t_eq_i, bw_t_ne_z, bw_t_ne_i, bw_t_lt_z, bw_t_lt_i, bw_t_ge_z, bw_t_ge_i, bw_t_gt_z, bw_t_gt_i, bw_t_le_z, bw_t_le_i, bw_t_null, bw_t_nonnull, bw_t_switch, bw_t_ireturn0, bw_t_ireturn1, bw_t_areturn, bw_t_return, bw_t_athrow, bw_t_try, List.lookup_cons, List.lookup_nil, bi_st, List.filter_cons, List.filter_nil, List.take_succ_cons, List.take_zero, List.take_nil, List.drop_succ_cons, List.drop_zero, List.reverse_cons, List.reverse_nil, List.nil_append, List.cons_append, Option.toList_some, Option.toList_none, List.length_cons, List.length_nil, bi_loc, List.zipIdx_cons, List.zipIdx_nil, List.map_cons, List.map_nil, List.getD_cons_zero, List.getD_cons_succ, Nat.zero_add, Bool.not_true, Bool.not_false, Bool.false_eq_true, if_true, if_false, ite_true, ite_false, ↓reduceIte, true_and, and_true, Bool.not_eq_true, beq_self_eq_true, Nat.reduceBEq, Nat.reduceEqDiff, Nat.reduceAdd, Nat.reduceLeDiff, Nat.reduceLT, Nat.reduceSub, Nat.reduceMul, Int32.reduceOfInt, Int32.reduceOfNat, Int32.reduceToNatClampNeg, Int32.reduceLT, Int32.reduceLE, Int32.reduceAdd, Int32.reduceSub, Int32.reduceMul, Int32.reduceDiv, Int32.reduceToInt, Int.reduceLT, Int.reduceSub, Int.reduceToNat, not_false_eq_true, ne_eq, or_true, true_or, or_false, false_or, and_false, false_and, not_true_eq_false, reduceCtorEq, and_self, or_self, eq_self, bh_k_sfi, bh_k_sfr, bh_k_sai, bh_k_sar, bh_k_new, bh_fi_sfi, bh_fi_sfr, bh_fi_sai, bh_fi_sar, bh_fi_new, bh_fr_sfi, bh_fr_sfr, bh_fr_sai, bh_fr_sar, bh_fr_new, bh_ai_sfi, bh_ai_sfr, bh_ai_sai, bh_ai_sar, bh_ai_new, bh_ar_sfi, bh_ar_sfr, bh_ar_sai, bh_ar_sar, bh_ar_new, bh_nx_sfi, bh_nx_sfr, bh_nx_sai, bh_nx_sar, bh_nx_new, bh_nc_sfi, bh_nc_sfr, bh_nc_sai, bh_nc_sar, bh_nc_new, bh_ns_sfi, bh_ns_sfr, bh_ns_sai, bh_ns_sar, bh_ns_new, bh_k_new2, bh_fi_new2, bh_fr_new2, bh_ai_new2, bh_ar_new2, bh_nx_new2, bh_nc_new2, bh_ns_new2, Nat.lt_irrefl, Nat.le_refl, bq_le0, bq_neg, bq_nat, bq_lt, bq_le, bq_eq, bn_one, bn_dec, q2, q11, Nat.not_le.mpr c2, show 2 * hole + 1 + 1 = 2 * hole + 2 from rfl])
        by_cases c3 : ba_s W (f (2 * hole + 1)) < ba_s W (f (2 * hole + 2))
        · have ek : bk_ch (ba_s W) f hole e = 2 * hole + 2 := if_pos ⟨c2, c3⟩
          rw [ek] at r
          (refine bw_step rfl ?_; simp +decide only [bw_gi_s, bw_ga_s, bw_go_s, bw_w_i, bw_w_a, bw_w_l, bw_sum_n, bw_sum_c, bw_xs_n, bw_iconst, bw_bipush, bw_sipush, bw_ldc, bw_ldc_w, bw_anull, bw_iload0, bw_aload0, bw_istore0, bw_astore0, bw_iload1, bw_aload1, bw_istore1, bw_astore1, bw_iload2, bw_aload2, bw_istore2, bw_astore2, bw_iload3, bw_aload3, bw_istore3, bw_astore3, bw_iload, bw_aload, bw_istore, bw_astore, bw_iinc, bw_iadd, bw_isub, bw_imul, bw_iand, bw_ixor, bw_idiv, bw_irem, bw_i2l, bw_lcmp, bw_dupi, bw_dupa, bw_dup2ia, bw_dup2ii, bw_getf0, bw_getf2, bw_getf1, bw_putf0, bw_putf2, bw_putf1, bw_iaload, bw_baload, bw_laload, bw_aaload, bw_iastore, bw_bastore, bw_lastore, bw_aastore, bw_alen, bw_newa_int, bw_newa_boolean, bw_newa_long, bw_anewa, bw_multi, bw_new, bw_static, bw_virt, bw_obj, bw_t_nop, bw_t_goto, bw_t_eq_z, bw_t_eq_i, bw_t_ne_z, bw_t_ne_i, bw_t_lt_z, bw_t_lt_i, bw_t_ge_z, bw_t_ge_i, bw_t_gt_z, bw_t_gt_i, bw_t_le_z, bw_t_le_i, bw_t_null, bw_t_nonnull, bw_t_switch, bw_t_ireturn0, bw_t_ireturn1, bw_t_areturn, bw_t_return, bw_t_athrow, bw_t_try, List.lookup_cons, List.lookup_nil, bi_st, List.filter_cons, List.filter_nil, List.take_succ_cons, List.take_zero, List.take_nil, List.drop_succ_cons, List.drop_zero, List.reverse_cons, List.reverse_nil, List.nil_append, List.cons_append, Option.toList_some, Option.toList_none, List.length_cons, List.length_nil, bi_loc, List.zipIdx_cons, List.zipIdx_nil, List.map_cons, List.map_nil, List.getD_cons_zero, List.getD_cons_succ, Nat.zero_add, Bool.not_true, Bool.not_false, Bool.false_eq_true, if_true, if_false, ite_true, ite_false, ↓reduceIte, true_and, and_true, Bool.not_eq_true, beq_self_eq_true, Nat.reduceBEq, Nat.reduceEqDiff, Nat.reduceAdd, Nat.reduceLeDiff, Nat.reduceLT, Nat.reduceSub, Nat.reduceMul, Int32.reduceOfInt, Int32.reduceOfNat, Int32.reduceToNatClampNeg, Int32.reduceLT, Int32.reduceLE, Int32.reduceAdd, Int32.reduceSub, Int32.reduceMul, Int32.reduceDiv, Int32.reduceToInt, Int.reduceLT, Int.reduceSub, Int.reduceToNat, not_false_eq_true, ne_eq, or_true, true_or, or_false, false_or, and_false, false_and, not_true_eq_false, reduceCtorEq, and_self, or_self, eq_self, bh_k_sfi, bh_k_sfr, bh_k_sai, bh_k_sar, bh_k_new, bh_fi_sfi, bh_fi_sfr, bh_fi_sai, bh_fi_sar, bh_fi_new, bh_fr_sfi, bh_fr_sfr, bh_fr_sai, bh_fr_sar, bh_fr_new, bh_ai_sfi, bh_ai_sfr, bh_ai_sai, bh_ai_sar, bh_ai_new, bh_ar_sfi, bh_ar_sfr, bh_ar_sai, bh_ar_sar, bh_ar_new, bh_nx_sfi, bh_nx_sfr, bh_nx_sai, bh_nx_sar, bh_nx_new, bh_nc_sfi, bh_nc_sfr, bh_nc_sai, bh_nc_sar, bh_nc_new, bh_ns_sfi, bh_ns_sfr, bh_ns_sai, bh_ns_sar, bh_ns_new, bh_k_new2, bh_fi_new2, bh_fr_new2, bh_ai_new2, bh_ar_new2, bh_nx_new2, bh_nc_new2, bh_ns_new2, Nat.lt_irrefl, Nat.le_refl, bq_le0, bq_neg, bq_nat, bq_lt, bq_le, bq_eq, bn_one, bn_dec, R.kr hc hs, R.rr hc hs, R.ka hc hs, R.k57, q3, q9, q10, q11, F1, F2, A1, A2, u1, u2, w1, w2, Nat.not_le.mpr c3, show 2 * hole + 1 + 1 = 2 * hole + 2 from rfl])
          (refine bw_step rfl ?_; simp +decide only [bw_gi_s, bw_ga_s, bw_go_s, bw_w_i, bw_w_a, bw_w_l, bw_sum_n, bw_sum_c, bw_xs_n, bw_iconst, bw_bipush, bw_sipush, bw_ldc, bw_ldc_w, bw_anull, bw_iload0, bw_aload0, bw_istore0, bw_astore0, bw_iload1, bw_aload1, bw_istore1, bw_astore1, bw_iload2, bw_aload2, bw_istore2, bw_astore2, bw_iload3, bw_aload3, bw_istore3, bw_astore3, bw_iload, bw_aload, bw_istore, bw_astore, bw_iinc, bw_iadd, bw_isub, bw_imul, bw_iand, bw_ixor, bw_idiv, bw_irem, bw_i2l, bw_lcmp, bw_dupi, bw_dupa, bw_dup2ia, bw_dup2ii, bw_getf0, bw_getf2, bw_getf1, bw_putf0, bw_putf2, bw_putf1, bw_iaload, bw_baload, bw_laload, bw_aaload, bw_iastore, bw_bastore, bw_lastore, bw_aastore, bw_alen, bw_newa_int, bw_newa_boolean, bw_newa_long, bw_anewa, bw_multi, bw_new, bw_static, bw_virt, bw_obj, bw_t_nop, bw_t_goto, bw_t_eq_z, bw_t_eq_i, bw_t_ne_z, bw_t_ne_i, bw_t_lt_z, bw_t_lt_i, bw_t_ge_z, bw_t_ge_i, bw_t_gt_z, bw_t_gt_i, bw_t_le_z, bw_t_le_i, bw_t_null, bw_t_nonnull, bw_t_switch, bw_t_ireturn0, bw_t_ireturn1, bw_t_areturn, bw_t_return, bw_t_athrow, bw_t_try, List.lookup_cons, List.lookup_nil, bi_st, List.filter_cons, List.filter_nil, List.take_succ_cons, List.take_zero, List.take_nil, List.drop_succ_cons, List.drop_zero, List.reverse_cons, List.reverse_nil, List.nil_append, List.cons_append, Option.toList_some, Option.toList_none, List.length_cons, List.length_nil, bi_loc, List.zipIdx_cons, List.zipIdx_nil, List.map_cons, List.map_nil, List.getD_cons_zero, List.getD_cons_succ, Nat.zero_add, Bool.not_true, Bool.not_false, Bool.false_eq_true, if_true, if_false, ite_true, ite_false, ↓reduceIte, true_and, and_true, Bool.not_eq_true, beq_self_eq_true, Nat.reduceBEq, Nat.reduceEqDiff, Nat.reduceAdd, Nat.reduceLeDiff, Nat.reduceLT, Nat.reduceSub, Nat.reduceMul, Int32.reduceOfInt, Int32.reduceOfNat, Int32.reduceToNatClampNeg, Int32.reduceLT, Int32.reduceLE, Int32.reduceAdd, Int32.reduceSub, Int32.reduceMul, Int32.reduceDiv, Int32.reduceToInt, Int.reduceLT, Int.reduceSub, Int.reduceToNat, not_false_eq_true, ne_eq, or_true, true_or, or_false, false_or, and_false, false_and, not_true_eq_false, reduceCtorEq, and_self, or_self, eq_self, bh_k_sfi, bh_k_sfr, bh_k_sai, bh_k_sar, bh_k_new, bh_fi_sfi, bh_fi_sfr, bh_fi_sai, bh_fi_sar, bh_fi_new, bh_fr_sfi, bh_fr_sfr, bh_fr_sai, bh_fr_sar, bh_fr_new, bh_ai_sfi, bh_ai_sfr, bh_ai_sai, bh_ai_sar, bh_ai_new, bh_ar_sfi, bh_ar_sfr, bh_ar_sai, bh_ar_sar, bh_ar_new, bh_nx_sfi, bh_nx_sfr, bh_nx_sai, bh_nx_sar, bh_nx_new, bh_nc_sfi, bh_nc_sfr, bh_nc_sai, bh_nc_sar, bh_nc_new, bh_ns_sfi, bh_ns_sfr, bh_ns_sai, bh_ns_sar, bh_ns_new, bh_k_new2, bh_fi_new2, bh_fr_new2, bh_ai_new2, bh_ar_new2, bh_nx_new2, bh_nc_new2, bh_ns_new2, Nat.lt_irrefl, Nat.le_refl, bq_le0, bq_neg, bq_nat, bq_lt, bq_le, bq_eq, bn_one, bn_dec, show 2 * hole + 1 + 1 = 2 * hole + 2 from rfl])
          exact r _ ⟨rfl, rfl, rfl, rfl, rfl, rfl, trivial⟩
        · have ek : bk_ch (ba_s W) f hole e = 2 * hole + 1 := if_neg (fun z => c3 z.2)
          rw [ek] at r
          (refine bw_step rfl ?_; simp +decide only [bw_gi_s, bw_ga_s, bw_go_s, bw_w_i, bw_w_a, bw_w_l, bw_sum_n, bw_sum_c, bw_xs_n, bw_iconst, bw_bipush, bw_sipush, bw_ldc, bw_ldc_w, bw_anull, bw_iload0, bw_aload0, bw_istore0, bw_astore0, bw_iload1, bw_aload1, bw_istore1, bw_astore1, bw_iload2, bw_aload2, bw_istore2, bw_astore2, bw_iload3, bw_aload3, bw_istore3, bw_astore3, bw_iload, bw_aload, bw_istore, bw_astore, bw_iinc, bw_iadd, bw_isub, bw_imul, bw_iand, bw_ixor, bw_idiv, bw_irem, bw_i2l, bw_lcmp, bw_dupi, bw_dupa, bw_dup2ia, bw_dup2ii, bw_getf0, bw_getf2, bw_getf1, bw_putf0, bw_putf2, bw_putf1, bw_iaload, bw_baload, bw_laload, bw_aaload, bw_iastore, bw_bastore, bw_lastore, bw_aastore, bw_alen, bw_newa_int, bw_newa_boolean, bw_newa_long, bw_anewa, bw_multi, bw_new, bw_static, bw_virt, bw_obj, bw_t_nop, bw_t_goto, bw_t_eq_z, bw_t_eq_i, bw_t_ne_z, bw_t_ne_i, bw_t_lt_z, bw_t_lt_i, bw_t_ge_z, bw_t_ge_i, bw_t_gt_z, bw_t_gt_i, bw_t_le_z, bw_t_le_i, bw_t_null, bw_t_nonnull, bw_t_switch, bw_t_ireturn0, bw_t_ireturn1, bw_t_areturn, bw_t_return, bw_t_athrow, bw_t_try, List.lookup_cons, List.lookup_nil, bi_st, List.filter_cons, List.filter_nil, List.take_succ_cons, List.take_zero, List.take_nil, List.drop_succ_cons, List.drop_zero, List.reverse_cons, List.reverse_nil, List.nil_append, List.cons_append, Option.toList_some, Option.toList_none, List.length_cons, List.length_nil, bi_loc, List.zipIdx_cons, List.zipIdx_nil, List.map_cons, List.map_nil, List.getD_cons_zero, List.getD_cons_succ, Nat.zero_add, Bool.not_true, Bool.not_false, Bool.false_eq_true, if_true, if_false, ite_true, ite_false, ↓reduceIte, true_and, and_true, Bool.not_eq_true, beq_self_eq_true, Nat.reduceBEq, Nat.reduceEqDiff, Nat.reduceAdd, Nat.reduceLeDiff, Nat.reduceLT, Nat.reduceSub, Nat.reduceMul, Int32.reduceOfInt, Int32.reduceOfNat, Int32.reduceToNatClampNeg, Int32.reduceLT, Int32.reduceLE, Int32.reduceAdd, Int32.reduceSub, Int32.reduceMul, Int32.reduceDiv, Int32.reduceToInt, Int.reduceLT, Int.reduceSub, Int.reduceToNat, not_false_eq_true, ne_eq, or_true, true_or, or_false, false_or, and_false, false_and, not_true_eq_false, reduceCtorEq, and_self, or_self, eq_self, bh_k_sfi, bh_k_sfr, bh_k_sai, bh_k_sar, bh_k_new, bh_fi_sfi, bh_fi_sfr, bh_fi_sai, bh_fi_sar, bh_fi_new, bh_fr_sfi, bh_fr_sfr, bh_fr_sai, bh_fr_sar, bh_fr_new, bh_ai_sfi, bh_ai_sfr, bh_ai_sai, bh_ai_sar, bh_ai_new, bh_ar_sfi, bh_ar_sfr, bh_ar_sai, bh_ar_sar, bh_ar_new, bh_nx_sfi, bh_nx_sfr, bh_nx_sai, bh_nx_sar, bh_nx_new, bh_nc_sfi, bh_nc_sfr, bh_nc_sai, bh_nc_sar, bh_nc_new, bh_ns_sfi, bh_ns_sfr, bh_ns_sai, bh_ns_sar, bh_ns_new, bh_k_new2, bh_fi_new2, bh_fr_new2, bh_ai_new2, bh_ar_new2, bh_nx_new2, bh_nc_new2, bh_ns_new2, Nat.lt_irrefl, Nat.le_refl, bq_le0, bq_neg, bq_nat, bq_lt, bq_le, bq_eq, bn_one, bn_dec, R.kr hc hs, R.rr hc hs, R.ka hc hs, R.k57, q3, q9, q10, q11, F1, F2, A1, A2, u1, u2, w1, w2, Nat.le_of_not_lt c3, show 2 * hole + 1 + 1 = 2 * hole + 2 from rfl])
          exact r _ ⟨rfl, rfl, rfl, rfl, rfl, rfl, trivial⟩
      · have q11 : 2 * hole + 2 < 60001 := by omega
        have ek : bk_ch (ba_s W) f hole e = 2 * hole + 1 := if_neg (fun z => c2 z.1)
        rw [ek] at r
        (refine bw_step rfl ?_; simp +decide only [bw_gi_s, bw_ga_s, bw_go_s, bw_w_i, bw_w_a, bw_w_l, bw_sum_n, bw_sum_c, bw_xs_n, bw_iconst, bw_bipush, bw_sipush, bw_ldc, bw_ldc_w, bw_anull, bw_iload0, bw_aload0, bw_istore0, bw_astore0, bw_iload1, bw_aload1, bw_istore1, bw_astore1, bw_iload2, bw_aload2, bw_istore2, bw_astore2, bw_iload3, bw_aload3, bw_istore3, bw_astore3, bw_iload, bw_aload, bw_istore, bw_astore, bw_iinc, bw_iadd, bw_isub, bw_imul, bw_iand, bw_ixor, bw_idiv, bw_irem, bw_i2l, bw_lcmp, bw_dupi, bw_dupa, bw_dup2ia, bw_dup2ii, bw_getf0, bw_getf2, bw_getf1, bw_putf0, bw_putf2, bw_putf1, bw_iaload, bw_baload, bw_laload, bw_aaload, bw_iastore, bw_bastore, bw_lastore, bw_aastore, bw_alen, bw_newa_int, bw_newa_boolean, bw_newa_long, bw_anewa, bw_multi, bw_new, bw_static, bw_virt, bw_obj, bw_t_nop, bw_t_goto, bw_t_eq_z, bw_t_eq_i, bw_t_ne_z, bw_t_ne_i, bw_t_lt_z, bw_t_lt_i, bw_t_ge_z, bw_t_ge_i, bw_t_gt_z, bw_t_gt_i, bw_t_le_z, bw_t_le_i, bw_t_null, bw_t_nonnull, bw_t_switch, bw_t_ireturn0, bw_t_ireturn1, bw_t_areturn, bw_t_return, bw_t_athrow, bw_t_try, List.lookup_cons, List.lookup_nil, bi_st, List.filter_cons, List.filter_nil, List.take_succ_cons, List.take_zero, List.take_nil, List.drop_succ_cons, List.drop_zero, List.reverse_cons, List.reverse_nil, List.nil_append, List.cons_append, Option.toList_some, Option.toList_none, List.length_cons, List.length_nil, bi_loc, List.zipIdx_cons, List.zipIdx_nil, List.map_cons, List.map_nil, List.getD_cons_zero, List.getD_cons_succ, Nat.zero_add, Bool.not_true, Bool.not_false, Bool.false_eq_true, if_true, if_false, ite_true, ite_false, ↓reduceIte, true_and, and_true, Bool.not_eq_true, beq_self_eq_true, Nat.reduceBEq, Nat.reduceEqDiff, Nat.reduceAdd, Nat.reduceLeDiff, Nat.reduceLT, Nat.reduceSub, Nat.reduceMul, Int32.reduceOfInt, Int32.reduceOfNat, Int32.reduceToNatClampNeg, Int32.reduceLT, Int32.reduceLE, Int32.reduceAdd, Int32.reduceSub, Int32.reduceMul, Int32.reduceDiv, Int32.reduceToInt, Int.reduceLT, Int.reduceSub, Int.reduceToNat, not_false_eq_true, ne_eq, or_true, true_or, or_false, false_or, and_false, false_and, not_true_eq_false, reduceCtorEq, and_self, or_self, eq_self, bh_k_sfi, bh_k_sfr, bh_k_sai, bh_k_sar, bh_k_new, bh_fi_sfi, bh_fi_sfr, bh_fi_sai, bh_fi_sar, bh_fi_new, bh_fr_sfi, bh_fr_sfr, bh_fr_sai, bh_fr_sar, bh_fr_new, bh_ai_sfi, bh_ai_sfr, bh_ai_sai, bh_ai_sar, bh_ai_new, bh_ar_sfi, bh_ar_sfr, bh_ar_sai, bh_ar_sar, bh_ar_new, bh_nx_sfi, bh_nx_sfr, bh_nx_sai, bh_nx_sar, bh_nx_new, bh_nc_sfi, bh_nc_sfr, bh_nc_sai, bh_nc_sar, bh_nc_new, bh_ns_sfi, bh_ns_sfr, bh_ns_sai, bh_ns_sar, bh_ns_new, bh_k_new2, bh_fi_new2, bh_fr_new2, bh_ai_new2, bh_ar_new2, bh_nx_new2, bh_nc_new2, bh_ns_new2, Nat.lt_irrefl, Nat.le_refl, bq_le0, bq_neg, bq_nat, bq_lt, bq_le, bq_eq, bn_one, bn_dec, q2, q3, Nat.not_le.mpr he])
        (refine bw_step rfl ?_; simp +decide only [bw_gi_s, bw_ga_s, bw_go_s, bw_w_i, bw_w_a, bw_w_l, bw_sum_n, bw_sum_c, bw_xs_n, bw_iconst, bw_bipush, bw_sipush, bw_ldc, bw_ldc_w, bw_anull, bw_iload0, bw_aload0, bw_istore0, bw_astore0, bw_iload1, bw_aload1, bw_istore1, bw_astore1, bw_iload2, bw_aload2, bw_istore2, bw_astore2, bw_iload3, bw_aload3, bw_istore3, bw_astore3, bw_iload, bw_aload, bw_istore, bw_astore, bw_iinc, bw_iadd, bw_isub, bw_imul, bw_iand, bw_ixor, bw_idiv, bw_irem, bw_i2l, bw_lcmp, bw_dupi, bw_dupa, bw_dup2ia, bw_dup2ii, bw_getf0, bw_getf2, bw_getf1, bw_putf0, bw_putf2, bw_putf1, bw_iaload, bw_baload, bw_laload, bw_aaload, bw_iastore, bw_bastore, bw_lastore, bw_aastore, bw_alen, bw_newa_int, bw_newa_boolean, bw_newa_long, bw_anewa, bw_multi, bw_new, bw_static, bw_virt, bw_obj, bw_t_nop, bw_t_goto, bw_t_eq_z, bw_t_eq_i, bw_t_ne_z, bw_t_ne_i, bw_t_lt_z, bw_t_lt_i, bw_t_ge_z, bw_t_ge_i, bw_t_gt_z, bw_t_gt_i, bw_t_le_z, bw_t_le_i, bw_t_null, bw_t_nonnull, bw_t_switch, bw_t_ireturn0, bw_t_ireturn1, bw_t_areturn, bw_t_return, bw_t_athrow, bw_t_try, List.lookup_cons, List.lookup_nil, bi_st, List.filter_cons, List.filter_nil, List.take_succ_cons, List.take_zero, List.take_nil, List.drop_succ_cons, List.drop_zero, List.reverse_cons, List.reverse_nil, List.nil_append, List.cons_append, Option.toList_some, Option.toList_none, List.length_cons, List.length_nil, bi_loc, List.zipIdx_cons, List.zipIdx_nil, List.map_cons, List.map_nil, List.getD_cons_zero, List.getD_cons_succ, Nat.zero_add, Bool.not_true, Bool.not_false, Bool.false_eq_true, if_true, if_false, ite_true, ite_false, ↓reduceIte, true_and, and_true, Bool.not_eq_true, beq_self_eq_true, Nat.reduceBEq, Nat.reduceEqDiff, Nat.reduceAdd, Nat.reduceLeDiff, Nat.reduceLT, Nat.reduceSub, Nat.reduceMul, Int32.reduceOfInt, Int32.reduceOfNat, Int32.reduceToNatClampNeg, Int32.reduceLT, Int32.reduceLE, Int32.reduceAdd, Int32.reduceSub, Int32.reduceMul, Int32.reduceDiv, Int32.reduceToInt, Int.reduceLT, Int.reduceSub, Int.reduceToNat, not_false_eq_true, ne_eq, or_true, true_or, or_false, false_or, and_false, false_and, not_true_eq_false, reduceCtorEq, and_self, or_self, eq_self, bh_k_sfi, bh_k_sfr, bh_k_sai, bh_k_sar, bh_k_new, bh_fi_sfi, bh_fi_sfr, bh_fi_sai, bh_fi_sar, bh_fi_new, bh_fr_sfi, bh_fr_sfr, bh_fr_sai, bh_fr_sar, bh_fr_new, bh_ai_sfi, bh_ai_sfr, bh_ai_sai, bh_ai_sar, bh_ai_new, bh_ar_sfi, bh_ar_sfr, bh_ar_sai, bh_ar_sar, bh_ar_new, bh_nx_sfi, bh_nx_sfr, bh_nx_sai, bh_nx_sar, bh_nx_new, bh_nc_sfi, bh_nc_sfr, bh_nc_sai, bh_nc_sar, bh_nc_new, bh_ns_sfi, bh_ns_sfr, bh_ns_sai, bh_ns_sar, bh_ns_new, bh_k_new2, bh_fi_new2, bh_fr_new2, bh_ai_new2, bh_ar_new2, bh_nx_new2, bh_nc_new2, bh_ns_new2, Nat.lt_irrefl, Nat.le_refl, bq_le0, bq_neg, bq_nat, bq_lt, bq_le, bq_eq, bn_one, bn_dec, q2, q11, Nat.le_of_not_lt c2, show 2 * hole + 1 + 1 = 2 * hole + 2 from rfl])
        exact r _ ⟨rfl, rfl, rfl, rfl, rfl, rfl, trivial⟩
    · obtain ⟨h', f', r, rest⟩ := stop (fun z => absurd z he)
      refine ⟨h', f', ?_, rest⟩
      (refine bw_step rfl ?_; simp +decide only [bw_gi_s, bw_ga_s, bw_go_s, bw_w_i, bw_w_a, bw_w_l, bw_sum_n, bw_sum_c, bw_xs_n, bw_iconst, bw_bipush, bw_sipush, bw_ldc, bw_ldc_w, bw_anull, bw_iload0, bw_aload0, bw_istore0, bw_astore0, bw_iload1, bw_aload1, bw_istore1, bw_astore1, bw_iload2, bw_aload2, bw_istore2, bw_astore2, bw_iload3, bw_aload3, bw_istore3, bw_astore3, bw_iload, bw_aload, bw_istore, bw_astore, bw_iinc, bw_iadd, bw_isub, bw_imul, bw_iand, bw_ixor, bw_idiv, bw_irem, bw_i2l, bw_lcmp, bw_dupi, bw_dupa, bw_dup2ia, bw_dup2ii, bw_getf0, bw_getf2, bw_getf1, bw_putf0, bw_putf2, bw_putf1, bw_iaload, bw_baload, bw_laload, bw_aaload, bw_iastore, bw_bastore, bw_lastore, bw_aastore, bw_alen, bw_newa_int, bw_newa_boolean, bw_newa_long, bw_anewa, bw_multi, bw_new, bw_static, bw_virt, bw_obj, bw_t_nop, bw_t_goto, bw_t_eq_z, bw_t_eq_i, bw_t_ne_z, bw_t_ne_i, bw_t_lt_z, bw_t_lt_i, bw_t_ge_z, bw_t_ge_i, bw_t_gt_z, bw_t_gt_i, bw_t_le_z, bw_t_le_i, bw_t_null, bw_t_nonnull, bw_t_switch, bw_t_ireturn0, bw_t_ireturn1, bw_t_areturn, bw_t_return, bw_t_athrow, bw_t_try, List.lookup_cons, List.lookup_nil, bi_st, List.filter_cons, List.filter_nil, List.take_succ_cons, List.take_zero, List.take_nil, List.drop_succ_cons, List.drop_zero, List.reverse_cons, List.reverse_nil, List.nil_append, List.cons_append, Option.toList_some, Option.toList_none, List.length_cons, List.length_nil, bi_loc, List.zipIdx_cons, List.zipIdx_nil, List.map_cons, List.map_nil, List.getD_cons_zero, List.getD_cons_succ, Nat.zero_add, Bool.not_true, Bool.not_false, Bool.false_eq_true, if_true, if_false, ite_true, ite_false, ↓reduceIte, true_and, and_true, Bool.not_eq_true, beq_self_eq_true, Nat.reduceBEq, Nat.reduceEqDiff, Nat.reduceAdd, Nat.reduceLeDiff, Nat.reduceLT, Nat.reduceSub, Nat.reduceMul, Int32.reduceOfInt, Int32.reduceOfNat, Int32.reduceToNatClampNeg, Int32.reduceLT, Int32.reduceLE, Int32.reduceAdd, Int32.reduceSub, Int32.reduceMul, Int32.reduceDiv, Int32.reduceToInt, Int.reduceLT, Int.reduceSub, Int.reduceToNat, not_false_eq_true, ne_eq, or_true, true_or, or_false, false_or, and_false, false_and, not_true_eq_false, reduceCtorEq, and_self, or_self, eq_self, bh_k_sfi, bh_k_sfr, bh_k_sai, bh_k_sar, bh_k_new, bh_fi_sfi, bh_fi_sfr, bh_fi_sai, bh_fi_sar, bh_fi_new, bh_fr_sfi, bh_fr_sfr, bh_fr_sai, bh_fr_sar, bh_fr_new, bh_ai_sfi, bh_ai_sfr, bh_ai_sai, bh_ai_sar, bh_ai_new, bh_ar_sfi, bh_ar_sfr, bh_ar_sai, bh_ar_sar, bh_ar_new, bh_nx_sfi, bh_nx_sfr, bh_nx_sai, bh_nx_sar, bh_nx_new, bh_nc_sfi, bh_nc_sfr, bh_nc_sai, bh_nc_sar, bh_nc_new, bh_ns_sfi, bh_ns_sfr, bh_ns_sai, bh_ns_sar, bh_ns_new, bh_k_new2, bh_fi_new2, bh_fr_new2, bh_ai_new2, bh_ar_new2, bh_nx_new2, bh_nc_new2, bh_ns_new2, Nat.lt_irrefl, Nat.le_refl, bq_le0, bq_neg, bq_nat, bq_lt, bq_le, bq_eq, bn_one, bn_dec, q2, q3, Nat.le_of_not_lt he])
      exact r _ ⟨rfl, rfl, rfl, trivial⟩
/-- Row.sink -/
theorem c_sink (hW : ba_ok W) (hc : c = 30 ∨ c = 31) (hs : s < 8) (hp : p ≤ 8192) {e m st : Nat} (hem : e ≤ m) (hmp : m ≤ p) {f : Nat → Nat} (hst : st < e) (R : cw_R A p W h) (F : cr_f A c s m f h) (hf : ∀ i, i < m → f i ≤ ba_n W) (hH : bk_H (ba_s W) f (st + 1) e) : ∃ h' f', (∀ K : Option bi_V → bi_H → Prop, bw_C bt_P 100 [.inr (.inl (A c s)), .inr (.inl (A 57 0)), .inl (Int32.ofNat st), .inl (Int32.ofNat e)] h K ↔ K none h') ∧ cr_d A c s [] h h' ∧ cr_f A c s m f' h' ∧ (∀ i, i < m → f' i ≤ ba_n W) ∧ bk_same f' f e ∧ (∀ i, e ≤ i → f' i = f i) ∧ bk_H (ba_s W) f' st e := by
  have q1 : st < 60001 := by omega
  have q2 : st < p := by omega
  obtain ⟨h', f', r, e1, e2, e3, e4, e5, e6⟩ := cl_sink hW hc hs hp hem hmp (hf st (by omega)) (e - st) st f h (Nat.le_refl _) hst R F hf (bk_start hH _)
  rw [ba_u_id] at e4
  refine ⟨h', f', fun K => ?_, e1, e2, e3, e4, e5, e6⟩
  refine bw_C_iff ?_ K
  (refine bw_step rfl ?_; simp +decide only [bw_gi_s, bw_ga_s, bw_go_s, bw_w_i, bw_w_a, bw_w_l, bw_sum_n, bw_sum_c, bw_xs_n, bw_iconst, bw_bipush, bw_sipush, bw_ldc, bw_ldc_w, bw_anull, bw_iload0, bw_aload0, bw_istore0, bw_astore0, bw_iload1, bw_aload1, bw_istore1, bw_astore1, bw_iload2, bw_aload2, bw_istore2, bw_astore2, bw_iload3, bw_aload3, bw_istore3, bw_astore3, bw_iload, bw_aload, bw_istore, bw_astore, bw_iinc, bw_iadd, bw_isub, bw_imul, bw_iand, bw_ixor, bw_idiv, bw_irem, bw_i2l, bw_lcmp, bw_dupi, bw_dupa, bw_dup2ia, bw_dup2ii, bw_getf0, bw_getf2, bw_getf1, bw_putf0, bw_putf2, bw_putf1, bw_iaload, bw_baload, bw_laload, bw_aaload, bw_iastore, bw_bastore, bw_lastore, bw_aastore, bw_alen, bw_newa_int, bw_newa_boolean, bw_newa_long, bw_anewa, bw_multi, bw_new, bw_static, bw_virt, bw_obj, bw_t_nop, bw_t_goto, bw_t_eq_z, bw_t_eq_i, bw_t_ne_z, bw_t_ne_i, bw_t_lt_z, bw_t_lt_i, bw_t_ge_z, bw_t_ge_i, bw_t_gt_z, bw_t_gt_i, bw_t_le_z, bw_t_le_i, bw_t_null, bw_t_nonnull, bw_t_switch, bw_t_ireturn0, bw_t_ireturn1, bw_t_areturn, bw_t_return, bw_t_athrow, bw_t_try, List.lookup_cons, List.lookup_nil, bi_st, List.filter_cons, List.filter_nil, List.take_succ_cons, List.take_zero, List.take_nil, List.drop_succ_cons, List.drop_zero, List.reverse_cons, List.reverse_nil, List.nil_append, List.cons_append, Option.toList_some, Option.toList_none, List.length_cons, List.length_nil, bi_loc, List.zipIdx_cons, List.zipIdx_nil, List.map_cons, List.map_nil, List.getD_cons_zero, List.getD_cons_succ, Nat.zero_add, Bool.not_true, Bool.not_false, Bool.false_eq_true, if_true, if_false, ite_true, ite_false, ↓reduceIte, true_and, and_true, Bool.not_eq_true, beq_self_eq_true, Nat.reduceBEq, Nat.reduceEqDiff, Nat.reduceAdd, Nat.reduceLeDiff, Nat.reduceLT, Nat.reduceSub, Nat.reduceMul, Int32.reduceOfInt, Int32.reduceOfNat, Int32.reduceToNatClampNeg, Int32.reduceLT, Int32.reduceLE, Int32.reduceAdd, Int32.reduceSub, Int32.reduceMul, Int32.reduceDiv, Int32.reduceToInt, Int.reduceLT, Int.reduceSub, Int.reduceToNat, not_false_eq_true, ne_eq, or_true, true_or, or_false, false_or, and_false, false_and, not_true_eq_false, reduceCtorEq, and_self, or_self, eq_self, bh_k_sfi, bh_k_sfr, bh_k_sai, bh_k_sar, bh_k_new, bh_fi_sfi, bh_fi_sfr, bh_fi_sai, bh_fi_sar, bh_fi_new, bh_fr_sfi, bh_fr_sfr, bh_fr_sai, bh_fr_sar, bh_fr_new, bh_ai_sfi, bh_ai_sfr, bh_ai_sai, bh_ai_sar, bh_ai_new, bh_ar_sfi, bh_ar_sfr, bh_ar_sai, bh_ar_sar, bh_ar_new, bh_nx_sfi, bh_nx_sfr, bh_nx_sai, bh_nx_sar, bh_nx_new, bh_nc_sfi, bh_nc_sfr, bh_nc_sai, bh_nc_sar, bh_nc_new, bh_ns_sfi, bh_ns_sfr, bh_ns_sai, bh_ns_sar, bh_ns_new, bh_k_new2, bh_fi_new2, bh_fr_new2, bh_ai_new2, bh_ar_new2, bh_nx_new2, bh_nc_new2, bh_ns_new2, Nat.lt_irrefl, Nat.le_refl, bq_le0, bq_neg, bq_nat, bq_lt, bq_le, bq_eq, bn_one, bn_dec, R.kr hc hs, R.rr hc hs, R.ka hc hs, q1, q2, F st (by omega), bq_mul2])
  (refine bw_sub2 _ ?_ (r); exact ⟨rfl, rfl, rfl, rfl, rfl, rfl, trivial⟩)
end CR
