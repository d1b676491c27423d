/-! what class and reference hold: one state of plain numbers; how the class's heap shows it -/
/-- a store: its numbers by field, its staging's; NOW, SAFE, KEPT; snapshots (ID, line); what is lost (writes) -/
abbrev ba_T : Type := (Nat → Int32) × (Nat → Int32) × (Nat × Nat × Nat) × List (Nat × Nat) × List Nat
def bs_c (t : ba_T) : Nat → Int32 := t.1
def bs_g (t : ba_T) : Nat → Int32 := t.2.1
def bs_now (t : ba_T) : Nat := t.2.2.1.1
def bs_safe (t : ba_T) : Nat := t.2.2.1.2.1
def bs_kept (t : ba_T) : Nat := t.2.2.1.2.2
def bs_sn (t : ba_T) : List (Nat × Nat) := t.2.2.2.1
def bs_lo (t : ba_T) : List Nat := t.2.2.2.2
/-- a message: its numbers by field, its items one behind the other -/
abbrev ba_G : Type := (Nat → Int32) × List Int32
/-- writes; stores; messages in flight; sites, the object, the link: their numbers by field; volumes and places of groups; all snapshots ever taken, by group; how many groups; rounds of the class's marks, of the reference's -/
abbrev ba_S : Type := ba_W × (Nat → ba_T) × List ba_G × (Nat → Nat → Int32) × (Nat → Int32) × (Nat → Int32) × (Nat → Nat × Nat) × (Nat → List (Nat × Nat)) × Nat × Nat × Nat
def bz_W (S : ba_S) : ba_W := S.1
def bz_T (S : ba_S) : Nat → ba_T := S.2.1
def bz_F (S : ba_S) : List ba_G := S.2.2.1
def bz_I (S : ba_S) : Nat → Nat → Int32 := S.2.2.2.1
def bz_G (S : ba_S) : Nat → Int32 := S.2.2.2.2.1
def bz_L (S : ba_S) : Nat → Int32 := S.2.2.2.2.2.1
def bz_D (S : ba_S) : Nat → Nat × Nat := S.2.2.2.2.2.2.1
def bz_R (S : ba_S) : Nat → List (Nat × Nat) := S.2.2.2.2.2.2.2.1
def bz_N (S : ba_S) : Nat := S.2.2.2.2.2.2.2.2.1
def bz_r (S : ba_S) : Nat := S.2.2.2.2.2.2.2.2.2.1
def bz_m (S : ba_S) : Nat := S.2.2.2.2.2.2.2.2.2.2
def bz_pool (S : ba_S) : Nat := (bz_G S 0).toNatClampNeg
/-- one place of a row changed -/
def ba_u {α : Type} (f : Nat → α) (i : Nat) (v : α) : Nat → α := fun j => if j = i then v else f j
theorem ba_u_same {α : Type} (f : Nat → α) (i : Nat) (v : α) : ba_u f i v i = v := if_pos rfl
theorem ba_u_ne {α : Type} (f : Nat → α) {i j : Nat} (v : α) (h : j ≠ i) : ba_u f i v j = f j := if_neg h
def bz_sW (S : ba_S) (W : ba_W) : ba_S := (W, S.2)
def bz_sT (S : ba_S) (s : Nat) (t : ba_T) : ba_S := (S.1, ba_u S.2.1 s t, S.2.2)
def bz_sF (S : ba_S) (F : List ba_G) : ba_S := (S.1, S.2.1, F, S.2.2.2)
def bz_sI (S : ba_S) (i k : Nat) (v : Int32) : ba_S := (S.1, S.2.1, S.2.2.1, ba_u S.2.2.2.1 i (ba_u (S.2.2.2.1 i) k v), S.2.2.2.2)
def bz_sG (S : ba_S) (k : Nat) (v : Int32) : ba_S := (S.1, S.2.1, S.2.2.1, S.2.2.2.1, ba_u S.2.2.2.2.1 k v, S.2.2.2.2.2)
def bz_sL (S : ba_S) (k : Nat) (v : Int32) : ba_S := (S.1, S.2.1, S.2.2.1, S.2.2.2.1, S.2.2.2.2.1, ba_u S.2.2.2.2.2.1 k v, S.2.2.2.2.2.2)
def bz_sD (S : ba_S) (g : Nat) (v : Nat × Nat) : ba_S := (S.1, S.2.1, S.2.2.1, S.2.2.2.1, S.2.2.2.2.1, S.2.2.2.2.2.1, ba_u S.2.2.2.2.2.2.1 g v, S.2.2.2.2.2.2.2)
def bz_sR (S : ba_S) (g : Nat) (v : List (Nat × Nat)) : ba_S := (S.1, S.2.1, S.2.2.1, S.2.2.2.1, S.2.2.2.2.1, S.2.2.2.2.2.1, S.2.2.2.2.2.2.1, ba_u S.2.2.2.2.2.2.2.1 g v, S.2.2.2.2.2.2.2.2)
def bz_sN (S : ba_S) (n : Nat) : ba_S := (S.1, S.2.1, S.2.2.1, S.2.2.2.1, S.2.2.2.2.1, S.2.2.2.2.2.1, S.2.2.2.2.2.2.1, S.2.2.2.2.2.2.2.1, n, S.2.2.2.2.2.2.2.2.2)
def bz_sr (S : ba_S) (n : Nat) : ba_S := (S.1, S.2.1, S.2.2.1, S.2.2.2.1, S.2.2.2.2.1, S.2.2.2.2.2.1, S.2.2.2.2.2.2.1, S.2.2.2.2.2.2.2.1, S.2.2.2.2.2.2.2.2.1, n, S.2.2.2.2.2.2.2.2.2.2)
def bz_sm (S : ba_S) (n : Nat) : ba_S := (S.1, S.2.1, S.2.2.1, S.2.2.2.1, S.2.2.2.2.1, S.2.2.2.2.2.1, S.2.2.2.2.2.2.1, S.2.2.2.2.2.2.2.1, S.2.2.2.2.2.2.2.2.1, S.2.2.2.2.2.2.2.2.2.1, n)
/-- a number of a store changed, of its staging -/
def bs_sc (t : ba_T) (k : Nat) (v : Int32) : ba_T := (ba_u t.1 k v, t.2)
def bs_sg (t : ba_T) (k : Nat) (v : Int32) : ba_T := (t.1, ba_u t.2.1 k v, t.2.2)
def bs_sl (t : ba_T) (x : Nat × Nat × Nat) : ba_T := (t.1, t.2.1, x, t.2.2.2)
def bs_ss (t : ba_T) (x : List (Nat × Nat)) : ba_T := (t.1, t.2.1, t.2.2.1, x, t.2.2.2.2)
def bs_sx (t : ba_T) (x : List Nat) : ba_T := (t.1, t.2.1, t.2.2.1, t.2.2.2.1, x)
/-- the lines of a store, one behind the other; the blocks that they need -/
def bs_an (t : ba_T) : List Nat := (bs_sn t).map (fun q => q.2) ++ [bs_kept t, bs_now t]
def bs_need (W : ba_W) (t : ba_T) : Nat := ba_nd W 0 (bs_an t)
def ba_la (l : List (Nat × Nat)) : Nat := (l.getD (l.length - 1) (0, 0)).1
def ba_ln (l : List (Nat × Nat)) : Nat := (l.getD (l.length - 1) (0, 0)).2
def bs_latest (t : ba_T) : Nat := ba_la (bs_sn t)
def bs_line (t : ba_T) : Nat := ba_ln (bs_sn t)
/-! the class's objects: codes 0 Link, 1 Marks, 4 Site, 5 Staging, 6 Store, 7 Vault, 8 Writes, 9 TwinVaults, 30 plan, 31 gone; arrays: 50 flight, 51 rounds, 52 plan's, 53 gone's, 54 newest, 55 ids, 56 lines, 57 spot, 58 number, 59 before, 60 earlier, 61 length, 62 sites, 63 stores -/
def ca_bd (c : Nat) : Nat := match c with
  | 0 => 1
  | 1 => 1
  | 4 => 2
  | 5 => 8
  | 6 => 8
  | 7 => 8
  | 8 => 1
  | 9 => 1
  | 30 => 8
  | 31 => 8
  | 50 => 1
  | 51 => 1
  | 52 => 8
  | 53 => 8
  | 54 => 8
  | 55 => 8
  | 56 => 8
  | 57 => 1
  | 58 => 1
  | 59 => 1
  | 60 => 1
  | 61 => 1
  | 62 => 1
  | 63 => 1
  | _ => 0
def ca_kd (p c : Nat) : Nat × Nat := match c with
  | 0 => (10, 0)
  | 1 => (11, 0)
  | 4 => (14, 0)
  | 5 => (15, 0)
  | 6 => (16, 0)
  | 7 => (17, 0)
  | 8 => (18, 0)
  | 9 => (19, 0)
  | 30 => (13, 0)
  | 31 => (13, 0)
  | 50 => (42, 60)
  | 51 => (1, 32768)
  | 52 => (1, p)
  | 53 => (1, p)
  | 54 => (1, 32768)
  | 55 => (1, 16)
  | 56 => (1, 16)
  | 57 => (1, 60001)
  | 58 => (1, 60001)
  | 59 => (1, 60001)
  | 60 => (1, 60001)
  | 61 => (1, 60001)
  | 62 => (44, 2)
  | 63 => (46, 8)
  | _ => (0, 0)
/-- the class's objects stand, and refer to each other -/
def ca_lay (A : Nat → Nat → Nat) (p : Nat) (h : bi_H) : Prop :=
  (∀ c i, i < ca_bd c → bi_k h (A c i) = ca_kd p c ∧ A c i < bi_nx h ∧ A c i ≠ 0) ∧
  (∀ c i c' i', i < ca_bd c → i' < ca_bd c' → A c i = A c' i' → c = c' ∧ i = i') ∧
  (bi_fr h 9 3 (A 9 0) = A 62 0 ∧ bi_fr h 9 4 (A 9 0) = A 63 0 ∧ bi_fr h 9 5 (A 9 0) = A 8 0 ∧ bi_fr h 9 6 (A 9 0) = A 0 0 ∧ bi_fr h 0 0 (A 0 0) = A 50 0 ∧ bi_fr h 1 0 (A 1 0) = A 51 0) ∧
  (bi_fr h 8 1 (A 8 0) = A 57 0 ∧ bi_fr h 8 2 (A 8 0) = A 58 0 ∧ bi_fr h 8 3 (A 8 0) = A 59 0 ∧ bi_fr h 8 4 (A 8 0) = A 60 0 ∧ bi_fr h 8 5 (A 8 0) = A 61 0 ∧ bi_fr h 8 6 (A 8 0) = A 1 0) ∧
  (∀ i, i < 2 → bi_ar h (A 62 0) i = A 4 i) ∧ (∀ s, s < 8 → bi_ar h (A 63 0) s = A 6 s) ∧
  ∀ s, s < 8 → bi_fr h 6 1 (A 6 s) = A 4 (s / 4) ∧ bi_fr h 6 2 (A 6 s) = A 7 s ∧ bi_fr h 6 3 (A 6 s) = A 5 s ∧ bi_fr h 6 4 (A 6 s) = A 30 s ∧ bi_fr h 6 5 (A 6 s) = A 31 s ∧ bi_fr h 7 0 (A 7 s) = A 8 0 ∧ bi_fr h 7 3 (A 7 s) = A 54 s ∧ bi_fr h 7 7 (A 7 s) = A 55 s ∧ bi_fr h 7 8 (A 7 s) = A 56 s ∧ bi_fr h 3 2 (A 30 s) = A 52 s ∧ bi_fr h 3 2 (A 31 s) = A 53 s
/-- what is not the class's is as it was; cells and slots made; A 99: what is another's, below A 98 0 -/
def ca_fr (A : Nat → Nat → Nat) (h0 : bi_H) (x y : Nat) (h : bi_H) : Prop :=
  max (A 98 0) (bi_nx h0) ≤ bi_nx h ∧ (∀ a, a < bi_nx h0 → bi_k h a = bi_k h0 a) ∧ (∀ c k a, (10 ≤ c ∨ c = 2) → a < bi_nx h0 → bi_fi h c k a = bi_fi h0 c k a ∧ bi_fr h c k a = bi_fr h0 c k a) ∧ (∀ a j, a < bi_nx h0 → (∀ c i, i < ca_bd c → a ≠ A c i) → bi_ai h a j = bi_ai h0 a j ∧ bi_ar h a j = bi_ar h0 a j) ∧ bi_nc h ≤ x ∧ bi_ns h ≤ y
/-- a row of writes: those of a stretch -/
def ca_row (W : ba_W) (p : Nat) (f : Nat → Int32) (a : Nat → Int32) (L : List Nat) : Prop :=
  ∃ k d, k ≤ ba_n W ∧ d ≤ ba_l W k ∧ f 0 = Int32.ofNat k ∧ f 1 = Int32.ofNat (ba_l W k - d) ∧ f 3 = Int32.ofNat L.length ∧ L = ba_sp W d k ∧ L.length ≤ p ∧ ∀ i, i < L.length → a i = Int32.ofNat (L.getD i 0)
def ca_w (A : Nat → Nat → Nat) (W : ba_W) (h : bi_H) : Prop :=
  bi_fi h 8 0 (A 8 0) = Int32.ofNat (ba_n W) ∧ ∀ k, k ≤ ba_n W → bi_ai h (A 57 0) k = Int32.ofNat (ba_s W k) ∧ bi_ai h (A 58 0) k = ba_v W k ∧ bi_ai h (A 59 0) k = Int32.ofNat (ba_b W k) ∧ bi_ai h (A 60 0) k = Int32.ofNat (ba_e W k) ∧ bi_ai h (A 61 0) k = Int32.ofNat (ba_l W k)
/-- a vault -/
def ca_v (A : Nat → Nat → Nat) (W : ba_W) (D : Nat × Nat) (t : ba_T) (s : Nat) (h : bi_H) : Prop :=
  (bi_fi h 7 1 (A 7 s) = Int32.ofNat D.1 ∧ bi_fi h 7 2 (A 7 s) = Int32.ofNat D.2) ∧ (bi_fi h 7 4 (A 7 s) = Int32.ofNat (bs_now t) ∧ bi_fi h 7 5 (A 7 s) = Int32.ofNat (bs_safe t) ∧ bi_fi h 7 6 (A 7 s) = Int32.ofNat (bs_kept t)) ∧ bi_fi h 7 9 (A 7 s) = Int32.ofNat (bs_sn t).length ∧ bi_fi h 7 10 (A 7 s) = Int32.ofNat (bs_need W t) ∧
  (∀ i, i < (bs_sn t).length → bi_ai h (A 55 s) i = Int32.ofNat ((bs_sn t).getD i (0, 0)).1 ∧ bi_ai h (A 56 s) i = Int32.ofNat ((bs_sn t).getD i (0, 0)).2) ∧ ∀ p, p < 32768 → bi_ai h (A 54 s) p = Int32.ofNat (ba_last W (bs_now t) p)
/-- a store -/
def ca_t (A : Nat → Nat → Nat) (W : ba_W) (D : Nat × Nat) (p : Nat) (t : ba_T) (s : Nat) (h : bi_H) : Prop :=
  (∀ k, bi_fi h 6 k (A 6 s) = bs_c t k) ∧ (∀ k, bi_fi h 5 k (A 5 s) = bs_g t k) ∧ ca_v A W D t s h ∧ (∃ L, ca_row W p (fun k => bi_fi h 3 k (A 30 s)) (fun i => bi_ai h (A 52 s) i) L) ∧ ca_row W p (fun k => bi_fi h 3 k (A 31 s)) (fun i => bi_ai h (A 53 s) i) (bs_lo t)
/-- a message -/
def ca_g (A : Nat → Nat → Nat) (h : bi_H) (a : Nat) (g : ba_G) : Prop :=
  bi_k h a = (12, 0) ∧ (a < bi_nx h ∧ a ≠ 0) ∧ (∀ k, bi_fi h 2 k a = g.1 k) ∧ ((bi_fr h 2 8 a = 0 ∧ g.2 = []) ∨ ((bi_fr h 2 8 a < bi_nx h ∧ bi_fr h 2 8 a ≠ 0 ∧ ∀ i, A 99 i < A 98 0 → bi_fr h 2 8 a ≠ A 99 i) ∧ bi_k h (bi_fr h 2 8 a) = (1, g.2.length) ∧ (∀ c i, i < ca_bd c → bi_fr h 2 8 a ≠ A c i) ∧ ∀ j, j < g.2.length → bi_ai h (bi_fr h 2 8 a) j = g.2.getD j 0))
/-- the class's heap shows a state -/
def cs_R (A : Nat → Nat → Nat) (h0 : bi_H) (x y : Nat) (h : bi_H) (S : ba_S) : Prop :=
  ca_lay A (bz_pool S) h ∧ ca_fr A h0 x y h ∧ ca_w A (bz_W S) h ∧ (∀ s, s < 8 → ca_t A (bz_W S) (bz_D S (s % 4)) (bz_pool S) (bz_T S s) s h) ∧ (∀ i, i < 2 → ∀ k, bi_fi h 4 k (A 4 i) = bz_I S i k) ∧ (∀ k, bi_fi h 9 k (A 9 0) = bz_G S k) ∧ (∀ k, bi_fi h 0 k (A 0 0) = bz_L S k) ∧
  (∀ i, i < (bz_F S).length → ca_g A h (bi_ar h (A 50 0) i) ((bz_F S).getD i (fun _ => 0, []))) ∧ bi_fi h 1 1 (A 1 0) = Int32.ofNat (bz_r S) ∧ ∀ j, j < 32768 → ∃ x, x ≤ bz_r S ∧ bi_ai h (A 51 0) j = Int32.ofNat x
