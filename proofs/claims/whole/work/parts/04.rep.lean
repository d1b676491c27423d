/-! the interpreter's heap and the machine's: what it is that they agree -/
def bi_tr (a : Nat) : Value := match a with
  | 0 => .null
  | a + 1 => .ref a
def bi_tv (v : bi_V) : Value := match v with
  | .inl x => .int x
  | .inr (.inl a) => bi_tr a
  | .inr (.inr x) => .long x.toInt64
def bi_ft (c k : Nat) : Nat := match vwCl[c]? with
  | some q => if (q.2.1 k).2.2.1 = "I" then 0 else if (q.2.1 k).2.2.1 = "Z" then 2 else 1
  | none => 0
def bi_fv (h : bi_H) (c k a : Nat) : Value := if bi_ft c k = 1 then bi_tr (bi_fr h c k a) else .int (bi_fi h c k a)
def bi_aty (t : Nat) : Option FieldType := if t = 1 ∨ t = 4 then some .int else if t = 2 then some .boolean else if t = 3 then some .long else if t = 5 then some (.array .int) else if 40 ≤ t then (vwCl[t - 40]?).map (fun q => .object q.1) else none
def bi_av (h : bi_H) (t a j : Nat) : Value := if t = 3 then .long (bi_ai h a j).toInt64 else if t = 5 ∨ 40 ≤ t then bi_tr (bi_ar h a j) else .int (bi_ai h a j)
/-- words that stay true as the machine goes on -/
def bi_ok (w : Cond) : Bool := match w with
  | .fieldLinkNest .. => true
  | .methodLinkNest .. => true
  | .arrayOver (.object _) => true
  | .arrayOver (.array _) => true
  | w => goodWord w || (w.onTables && w.keepsFace)
/-- the texts of the class's exceptions, by their pool entries -/
def bi_strs : List (Nat × String) := [(241, "no such item"), (250, "no such place"), (254, "the site is down"), (265, "no such snapshot or place"), (270, "no such volume"), (275, "no such snapshots"), (335, "no such lost place")]
def bi_wd (B0 : Nat) (Hb : Heap) (U : State) : Prop := (∀ w ∈ lw_tbl, bi_ok w = true → ∀ a : Array Value, w.before a U = true) ∧ (∀ q ∈ bi_strs, ∃ sa, vk_R RX9 q.1 q.2 sa U) ∧ vx_Zq Bundle.tN "UNASSIGNED_STACK" Bundle.steD (fun q => B0 ≤ q) U Hb ∧ vx_Zq Bundle.tN "SUPPRESSED_SENTINEL" Bundle.listD (fun q => B0 ≤ q) U Hb ∧ va_Nc "java/lang/IllegalStateException" "java/lang/IndexOutOfBoundsException" U
theorem bi_wd1 {s U : State} (hW : s.WarmedH U.vm) {w : Cond} (hw : bi_ok w = true) (h : ∀ a : Array Value, w.before a s = true) (a : Array Value) : w.before a U = true := by
  have good : (goodWord w || (w.onTables && w.keepsFace)) = true → w.before a U = true := fun hg => by
    simp only [Bool.or_eq_true, Bool.and_eq_true] at hg
    rcases hg with hg | ⟨h1, h2⟩
    · exact word_at hW (good_of_word hg) (h a)
    · exact va_tabs h1 (rfl : (s.setVm U.vm).vm = U.vm) (Cond.before_shiftedFace (State.Shifted.of_warmed hW) w h2 (h a))
  cases w with
  | fieldLinkNest q1 q2 q3 q4 q5 q6 => exact va_Nw.use rfl (va_Nw.warmF hW (h #[]))
  | methodLinkNest q1 q2 q3 q4 => exact va_Nw.use rfl (va_Nw.warmM hW (h #[]))
  | arrayOver ty =>
    cases ty with
    | object C => exact va_AO.moved hW.alike (h #[])
    | array t => exact over_moved hW.alike (h #[])
    | _ => exact good hw
  | _ => exact good hw
theorem bi_wd.moved {B0 : Nat} {Hb : Heap} {s U : State} (hW : s.WarmedH U.vm) (h : bi_wd B0 Hb s) : bi_wd B0 Hb U := ⟨fun w hw ho a => bi_wd1 hW ho (h.1 w hw ho) a, fun q hq => (h.2.1 q hq).imp (fun _ z => vk_R.warm hW z), vx_Zq.moved hW.alike h.2.2.1, vx_Zq.moved hW.alike h.2.2.2.1, va_Nc.moved hW.alike h.2.2.2.2⟩
/-- an object's cell -/
def bi_co (D : va_G) (h : bi_H) (H : Heap) (a c : Nat) : Prop := ∃ q, vwCl[c]? = some q ∧ t_OB a (D.1 c) q.2.2 (D.2 c) H (fun k => bi_fv h c k (a + 1))
/-- an array's cell -/
def bi_ca (U : State) (h : bi_H) (H : Heap) (a t n : Nat) : Prop := ∀ ty, bi_aty t = some ty → ∃ cell : Cell, H[a]? = some cell ∧ U.isArrayOf cell ty ∧ cell.vm ≠ .unknown ∧ cell.slots.size = n ∧ (∀ j, j < n → cell.slots[j]? = some (bi_av h t (a + 1) j)) ∧ (∀ C, ty = .object C → ∃ (kA : Class) (comp : ClassId), U.vm.classes[cell.cls]? = some kA ∧ kA.kind = .array comp (.object C) ∧ U.vm.findClass C = some comp)
def bi_cell (D : va_G) (U : State) (h : bi_H) (H : Heap) (a : Nat) : Prop := (∀ c, (bi_k h (a + 1)).1 = 10 + c → c < 13 → bi_co D h H a c) ∧ bi_ca U h H a (bi_k h (a + 1)).1 (bi_k h (a + 1)).2
def bi_rp (D : va_G) (B0 : Nat) (Hb : Heap) (h : bi_H) (U : State) (H : Heap) : Prop :=
  (H.size + 1 = bi_nx h ∧ B0 ≤ H.size ∧ ∀ q, q < B0 → H[q]? = Hb[q]?) ∧ va_K D vwCl [] U ∧ bi_wd B0 Hb U ∧ (bi_k h 0).1 = 0 ∧ (∀ a, (bi_k h (a + 1)).1 ≠ 0 → a < H.size ∧ ((bi_k h (a + 1)).1 ≠ 4 → B0 ≤ a)) ∧ ∀ a, bi_cell D U h H a
theorem bi_ca.moved {u U : State} (hvm : u.vm.Alike U.vm) {h : bi_H} {H : Heap} {a t n : Nat} (hc : bi_ca u h H a t n) : bi_ca U h H a t n := by
  intro ty hty
  obtain ⟨cell, h1, h2, h3, h4, h5, h6⟩ := hc ty hty
  refine ⟨cell, h1, State.isArrayOf_alike hvm h2, h3, h4, h5, fun C hC => ?_⟩
  obtain ⟨kA, comp, k1, k2, k3⟩ := h6 C hC
  obtain ⟨k', hk', he⟩ := hvm.2.2 _ _ k1
  exact ⟨k', comp, hk', by rw [he]; exact k2, by rw [hvm.findClass]; exact k3⟩
theorem bi_rp.moved {D : va_G} {B0 : Nat} {Hb : Heap} {h : bi_H} {s U : State} {H : Heap} (hW : s.WarmedH U.vm) (hr : bi_rp D B0 Hb h s H) : bi_rp D B0 Hb h U H := by
  obtain ⟨h1, h2, h3, h4, h5, h6⟩ := hr
  exact ⟨h1, va_K.moved hW.alike h2, h3.moved hW, h4, h5, fun a => ⟨(h6 a).1, (h6 a).2.moved hW.alike⟩⟩
/-- the tables of the classes -/
def bi_ty (c : Nat) : Nat → FieldType := match c with
  | 0 => tyX0
  | 1 => tyX1
  | 2 => tyX2
  | 3 => tyX3
  | 4 => tyX4
  | 5 => tyX5
  | 6 => tyX6
  | 7 => tyX7
  | 8 => tyX8
  | 9 => tyX9
  | 10 => tyX10
  | 11 => tyX11
  | _ => tyX12
theorem bi_in0 : ∀ w ∈ u_ws RX0 TX0 4, w ∈ lw_tbl := by decide +kernel
theorem bi_in1 : ∀ w ∈ u_ws RX1 TX1 2, w ∈ lw_tbl := by decide +kernel
theorem bi_in2 : ∀ w ∈ u_ws RX2 TX2 9, w ∈ lw_tbl := by decide +kernel
theorem bi_in3 : ∀ w ∈ u_ws RX3 TX3 4, w ∈ lw_tbl := by decide +kernel
theorem bi_in4 : ∀ w ∈ u_ws RX4 TX4 4, w ∈ lw_tbl := by decide +kernel
theorem bi_in5 : ∀ w ∈ u_ws RX5 TX5 7, w ∈ lw_tbl := by decide +kernel
theorem bi_in6 : ∀ w ∈ u_ws RX6 TX6 20, w ∈ lw_tbl := by decide +kernel
theorem bi_in7 : ∀ w ∈ u_ws RX7 TX7 11, w ∈ lw_tbl := by decide +kernel
theorem bi_in8 : ∀ w ∈ u_ws RX8 TX8 7, w ∈ lw_tbl := by decide +kernel
theorem bi_in9 : ∀ w ∈ u_ws RX9 TX9 10, w ∈ lw_tbl := by decide +kernel
theorem bi_in10 : ∀ w ∈ u_ws RX10 TX10 11, w ∈ lw_tbl := by decide +kernel
theorem bi_in11 : ∀ w ∈ u_ws RX11 TX11 35, w ∈ lw_tbl := by decide +kernel
theorem bi_in12 : ∀ w ∈ u_ws RX12 TX12 39, w ∈ lw_tbl := by decide +kernel
/-- what the tables say of a class -/
def bi_cok (c : Nat) (q : vw_C) : Prop := (∀ w ∈ u_ws q.1 q.2.1 q.2.2, w ∈ lw_tbl) ∧ (∀ k, k < q.2.2 → parseFieldDescriptor (q.2.1 k).2.2.1 = some (bi_ty c k)) ∧ (∀ a, a < q.2.2 → ∀ b, b < q.2.2 → a ≠ b → (q.2.1 a).2.1 ≠ (q.2.1 b).2.1)
theorem bi_cok_of : ∀ (c : Nat) (q : vw_C), vwCl[c]? = some q → bi_cok c q
  | 0, _, h => by cases h; exact ⟨bi_in0, tyX0_ok, nmX0⟩
  | 1, _, h => by cases h; exact ⟨bi_in1, tyX1_ok, nmX1⟩
  | 2, _, h => by cases h; exact ⟨bi_in2, tyX2_ok, nmX2⟩
  | 3, _, h => by cases h; exact ⟨bi_in3, tyX3_ok, nmX3⟩
  | 4, _, h => by cases h; exact ⟨bi_in4, tyX4_ok, nmX4⟩
  | 5, _, h => by cases h; exact ⟨bi_in5, tyX5_ok, nmX5⟩
  | 6, _, h => by cases h; exact ⟨bi_in6, tyX6_ok, nmX6⟩
  | 7, _, h => by cases h; exact ⟨bi_in7, tyX7_ok, nmX7⟩
  | 8, _, h => by cases h; exact ⟨bi_in8, tyX8_ok, nmX8⟩
  | 9, _, h => by cases h; exact ⟨bi_in9, tyX9_ok, nmX9⟩
  | 10, _, h => by cases h; exact ⟨bi_in10, tyX10_ok, nmX10⟩
  | 11, _, h => by cases h; exact ⟨bi_in11, tyX11_ok, nmX11⟩
  | 12, _, h => by cases h; exact ⟨bi_in12, tyX12_ok, nmX12⟩
  | c + 13, _, h => by simp at h
/-- a field's type by its number, and what may be written into it -/
theorem bi_ty_i : ∀ c, c < 13 → ∀ k, k < 39 → bi_ft c k = 0 → bi_ty c k = .int := by decide +kernel
theorem bi_ty_z : ∀ c, c < 13 → ∀ k, k < 39 → bi_ft c k = 2 → bi_ty c k = .boolean := by decide +kernel
def bi_isr (t : FieldType) : Bool := match t with
  | .object _ => true
  | .array _ => true
  | _ => false
theorem bi_ty_r : ∀ c, c < 13 → ∀ k, k < 39 → bi_ft c k = 1 → bi_isr (bi_ty c k) = true := by decide +kernel
theorem bi_nar_r {t : FieldType} (h : bi_isr t = true) (a : Nat) : narrow t (bi_tr a) = bi_tr a ∧ fits t (bi_tr a) = true := by
  cases t <;> first | (simp [bi_isr] at h; done) | (cases a <;> exact ⟨rfl, rfl⟩)
theorem bi_nar_z {x : Int32} (h : x = 0 ∨ x = 1) : narrow .boolean (.int x) = .int x ∧ fits .boolean (.int x) = true := by
  rcases h with rfl | rfl <;> exact ⟨by decide +kernel, by decide +kernel⟩
