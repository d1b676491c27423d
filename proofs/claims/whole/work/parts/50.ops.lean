/-! what the calls do to a state -/
theorem bz_T_same (S : ba_S) (s : Nat) (t : ba_T) : bz_T (bz_sT S s t) s = t := ba_u_same _ _ _
theorem bz_T_ne (S : ba_S) {s s' : Nat} (t : ba_T) (h : s' ≠ s) : bz_T (bz_sT S s t) s' = bz_T S s' := ba_u_ne _ _ h
theorem ba_u_u {α : Type} (f : Nat → α) (i : Nat) (v w : α) : ba_u (ba_u f i v) i w = ba_u f i w := by
  funext j
  unfold ba_u
  split <;> rfl
theorem ba_u_id {α : Type} (f : Nat → α) (i : Nat) : ba_u f i (f i) = f := by
  funext j
  unfold ba_u
  split
  · rename_i e
    rw [e]
  · rfl
theorem bz_sT_sT (S : ba_S) (s : Nat) (t t' : ba_T) : bz_sT (bz_sT S s t) s t' = bz_sT S s t' := by
  show (S.1, ba_u (ba_u S.2.1 s t) s t', S.2.2) = (S.1, ba_u S.2.1 s t', S.2.2)
  rw [ba_u_u]
theorem bz_sT_id (S : ba_S) (s : Nat) : bz_sT S s (bz_T S s) = S := by
  show (S.1, ba_u S.2.1 s (S.2.1 s), S.2.2) = S
  rw [ba_u_id]
def bz_keep (S : ba_S) : Nat := (bz_G S 1).toNatClampNeg
def bz_win (S : ba_S) : Nat := (bz_G S 2).toNatClampNeg
/-! acts -/
def bx_act (S : ba_S) (i : Nat) : ba_S := if bz_I S i 3 = 0 then bz_sI (bz_sI S i 1 0) i 3 (-1) else bz_sI (if 0 < bz_I S i 3 then bz_sI S i 3 (bz_I S i 3 - 1) else S) i 2 (bz_I S i 2 + 1)
def bx_acts : Nat → ba_S → Nat → ba_S × Bool
  | 0, S, _ => (S, true)
  | n + 1, S, i => if bz_I S i 3 = 0 then (bx_act S i, false) else bx_acts n (bx_act S i) i
/-! lines -/
def bx_check (S : ba_S) (s : Nat) : ba_S × Bool :=
  if bs_now (bz_T S s) = bs_kept (bz_T S s) then (S, true)
  else if (bx_acts (ba_no (bz_W S) [] (ba_l (bz_W S) (bs_now (bz_T S s)) - ba_l (bz_W S) (bs_kept (bz_T S s))) (bs_now (bz_T S s)) + 1) S (s / 4)).2 = true then (bz_sT (bx_acts (ba_no (bz_W S) [] (ba_l (bz_W S) (bs_now (bz_T S s)) - ba_l (bz_W S) (bs_kept (bz_T S s))) (bs_now (bz_T S s)) + 1) S (s / 4)).1 s (bs_sl (bz_T S s) (bs_now (bz_T S s), bs_now (bz_T S s), bs_now (bz_T S s))), true)
  else ((bx_acts (ba_no (bz_W S) [] (ba_l (bz_W S) (bs_now (bz_T S s)) - ba_l (bz_W S) (bs_kept (bz_T S s))) (bs_now (bz_T S s)) + 1) S (s / 4)).1, false)
def bs_save (W : ba_W) (t : ba_T) : ba_T := bs_sl t (bs_now t, ba_up W (ba_l W (bs_now t) - ba_l W (bs_safe t) - 8) (bs_now t), bs_kept t)
def bx_save (S : ba_S) (s : Nat) : ba_S := bz_sT S s (bs_save (bz_W S) (bz_T S s))
def bx_fl : Nat → ba_S → Nat → ba_S × Bool
  | 0, S, _ => (S, true)
  | n + 1, S, s => if bz_I S (s / 4) 3 = 0 then (bx_act S (s / 4), false) else bx_fl n (bx_save (bx_act S (s / 4)) s) s
def bx_flush (S : ba_S) (s : Nat) : ba_S × Bool :=
  if 512 < ba_l (bz_W S) (bs_now (bz_T S s)) - ba_l (bz_W S) (bs_kept (bz_T S s)) then bx_check S s else bx_fl ((ba_l (bz_W S) (bs_now (bz_T S s)) - ba_l (bz_W S) (bs_safe (bz_T S s)) + 7) / 8) S s
def bs_pin (t : ba_T) (v : Int32) : Bool := decide (v = Int32.ofNat (bs_latest t)) || decide (v = bs_c t 9) || decide (v = bs_c t 10) || decide (v = bs_c t 14) || decide (v = bs_c t 11) || decide (v = bs_c t 12)
def ba_th (f : Int32 → Bool) (keep : Nat) : List (Nat × Nat) → List (Nat × Nat) → List (Nat × Nat)
  | d, [] => d
  | d, q :: r => if keep < d.length + (r.length + 1) then (if f (Int32.ofNat q.1) = true then ba_th f keep (d ++ [q]) r else ba_th f keep d r) else d ++ q :: r
def bs_thin (keep : Nat) (t : ba_T) : ba_T := bs_ss t (ba_th (bs_pin t) keep [] (bs_sn t))
def bx_thin (S : ba_S) (s : Nat) : ba_S := bz_sT S s (bs_thin (bz_keep S) (bz_T S s))
/-- NOW a snapshot with this ID, told to the registry -/
def bs_snap (t : ba_T) (v : Int32) : ba_T := bs_ss t (bs_sn t ++ [(v.toNatClampNeg, bs_now t)])
def bx_snap (S : ba_S) (s : Nat) (v : Int32) : ba_S := bz_sR (bz_sT S s (bs_snap (bz_T S s) v)) (s % 4) (bz_R S (s % 4) ++ [(v.toNatClampNeg, bs_now (bz_T S s))])
def bx_sc (S : ba_S) (s k : Nat) (v : Int32) : ba_S := bz_sT S s (bs_sc (bz_T S s) k v)
def bx_take (S : ba_S) (s : Nat) : ba_S × Bool :=
  if (bx_check S s).2 = true then
    (if bz_I (bx_check S s).1 (s / 4) 3 = 0 then (bx_act (bx_check S s).1 (s / 4), false)
     else (bx_thin (bx_snap (bx_sc (bx_act (bx_check S s).1 (s / 4)) s 8 (bs_c (bz_T S s) 8 + 1)) s (4096 * bs_c (bz_T S s) 7 + (bs_c (bz_T S s) 8 + 1))) s, true))
  else ((bx_check S s).1, false)
/-! what is staged goes -/
def bs_clr (t : ba_T) : ba_T := (t.1, fun k => if k < 6 then 0 else t.2.1 k, t.2.2)
def bs_fgt (t : ba_T) : ba_T := bs_sc (bs_sc (bs_sc (bs_sc (bs_sc t 9 0) 10 0) 14 0) 11 0) 12 0
def bx_begin (S : ba_S) (s : Nat) (e : Int32) : ba_S := bx_thin (bx_snap (bz_sT S s (bs_clr (bs_sc (bs_sc (bs_sc (bz_T S s) 6 1) 7 e) 8 1))) s (4096 * e + 1)) s
/-! sending -/
def bx_m (S : ba_S) (s : Nat) (kind a b c d line : Int32) (l : List Int32) : ba_G := (fun k => match k with
  | 0 => kind
  | 1 => Int32.ofNat s
  | 2 => bs_c (bz_T S s) 7
  | 3 => a
  | 4 => b
  | 5 => c
  | 6 => d
  | 7 => line
  | _ => 0, l)
def bx_send (S : ba_S) (g : ba_G) : ba_S :=
  if (bz_F S).length < 60 then bz_sF (bz_sL (bz_sL S 2 (bz_L S 2 + 1)) 1 (Int32.ofNat ((bz_F S).length + 1))) (bz_F S ++ [g]) else bz_sL (bz_sL S 2 (bz_L S 2 + 1)) 3 (bz_L S 3 + 1)
/-- what a store sends: the last write of each place behind BASE in TARGET -/
def bs_plan (W : ba_W) (t : ba_T) : List Nat := ba_sp W (ba_l W (ba_lo (bs_c t 10) (bs_sn t)) - ba_l W (ba_lo (bs_c t 14) (bs_sn t))) (ba_lo (bs_c t 10) (bs_sn t))
def bx_offer (S : ba_S) (s : Nat) : ba_S := bx_send (bz_sT S s (bs_sc (bs_sc (bz_T S s) 15 1) 18 0)) (bx_m S s 1 (bs_c (bz_T S s) 14) (bs_c (bz_T S s) 10) (Int32.ofNat (bs_plan (bz_W S) (bz_T S s)).length) (Int32.ofNat (ba_l (bz_W S) (ba_lo (bs_c (bz_T S s) 10) (bs_sn (bz_T S s))))) (Int32.ofNat (ba_lo (bs_c (bz_T S s) 10) (bs_sn (bz_T S s)))) [])
def bx_give (S : ba_S) (s : Nat) : ba_S := bx_send (bx_sc S s 18 0) (bx_m S s 8 0 (Int32.ofNat (bs_latest (bz_T S s))) (bs_c (bz_T S s) 13) 0 0 [])
def bx_hello (S : ba_S) (s : Nat) : ba_S := bx_send (bx_sc S s 18 0) (bx_m S s 10 0 0 0 0 0 ((bs_sn (bz_T S s)).reverse.flatMap (fun q => [Int32.ofNat q.1, 0, 0])))
def bx_tell (S : ba_S) (s : Nat) (kind b : Int32) : ba_S := bx_send S (bx_m S s kind 0 b 0 0 0 [])
def bx_prog (S : ba_S) (s : Nat) (kind : Int32) : ba_S := bx_send S (bx_m S s kind (bs_g (bz_T S s) 0) (bs_g (bz_T S s) 1) (bs_g (bz_T S s) 4) 0 0 [])
def bx_items (W : ba_W) (L : List Nat) (c : Nat) : List Int32 := ((L.drop (4 * c)).take 4).flatMap (fun w => [Int32.ofNat (ba_s W w / 4096), Int32.ofNat (ba_s W w % 4096), ba_v W w])
def bx_data (S : ba_S) (s : Nat) : ba_S := bx_sc (bx_send S (bx_m S s 3 (bs_c (bz_T S s) 14) (bs_c (bz_T S s) 10) (bs_c (bz_T S s) 17) 0 0 (bx_items (bz_W S) (bs_plan (bz_W S) (bz_T S s)) (bs_c (bz_T S s) 17).toNatClampNeg))) s 17 (bs_c (bz_T S s) 17 + 1)
def bx_son : Nat → ba_S → Nat → ba_S
  | 0, S, _ => S
  | n + 1, S, s => if bs_c (bz_T S s) 17 < bs_c (bz_T S s) 16 + bz_G S 2 ∧ 4 * bs_c (bz_T S s) 17 < Int32.ofNat (bs_plan (bz_W S) (bz_T S s)).length then bx_son n (bx_data S s) s else S
/-! receiving -/
def bs_learn (t : ba_T) (e : Int32) : ba_T := bs_clr (bs_sc (bs_sc (bs_sc (bs_sc (if bs_c t 6 = 2 ∧ bs_c t 13 = e then bs_fgt (bs_sc t 6 0) else if bs_c t 6 = 1 ∨ bs_c t 6 = 2 then bs_sc t 6 3 else t) 13 0) 7 e) 8 0) 15 0)
def bx_commit (S : ba_S) (s : Nat) : ba_S :=
  if (bx_acts (ba_no (bz_W S) [] (ba_l (bz_W S) (bs_g (bz_T S s) 2).toNatClampNeg - (if bs_g (bz_T S s) 0 = 0 then 0 else ba_l (bz_W S) (bs_line (bz_T S s)))) (bs_g (bz_T S s) 2).toNatClampNeg + 1) S (s / 4)).2 = true
  then bx_tell (bx_thin (bz_sT (bx_acts (ba_no (bz_W S) [] (ba_l (bz_W S) (bs_g (bz_T S s) 2).toNatClampNeg - (if bs_g (bz_T S s) 0 = 0 then 0 else ba_l (bz_W S) (bs_line (bz_T S s)))) (bs_g (bz_T S s) 2).toNatClampNeg + 1) S (s / 4)).1 s (bs_clr (bs_ss (bs_sl (bz_T S s) ((bs_g (bz_T S s) 2).toNatClampNeg, (bs_g (bz_T S s) 2).toNatClampNeg, (bs_g (bz_T S s) 2).toNatClampNeg)) ((if bs_g (bz_T S s) 0 = 0 then [] else bs_sn (bz_T S s)) ++ [((bs_g (bz_T S s) 1).toNatClampNeg, (bs_g (bz_T S s) 2).toNatClampNeg)])))) s) s 5 (bs_g (bz_T S s) 1)
  else (bx_acts (ba_no (bz_W S) [] (ba_l (bz_W S) (bs_g (bz_T S s) 2).toNatClampNeg - (if bs_g (bz_T S s) 0 = 0 then 0 else ba_l (bz_W S) (bs_line (bz_T S s)))) (bs_g (bz_T S s) 2).toNatClampNeg + 1) S (s / 4)).1
def bx_staged (S : ba_S) (s : Nat) (kind : Int32) : ba_S := if bs_g (bz_T S s) 3 ≤ bs_g (bz_T S s) 5 then bx_commit S s else bx_prog S s kind
def bs_just (t : ba_T) (g : ba_G) : Bool := decide (bs_g t 1 ≠ 0) && decide (bs_g t 0 = g.1 3) && decide (bs_g t 1 = g.1 4)
def bs_stage (t : ba_T) (g : ba_G) : ba_T := bs_sg (bs_sg (bs_sg (bs_sg (bs_clr t) 0 (g.1 3)) 1 (g.1 4)) 3 (g.1 5)) 2 (g.1 7)
def bx_fr (S : ba_S) (i : Nat) : Nat → Int32
  | 0 => bz_G S 0
  | g + 1 => if g < bz_N S then bx_fr S i g - (Int32.ofNat (bs_need (bz_W S) (bz_T S (4 * i + g))) + bs_g (bz_T S (4 * i + g)) 5) else bx_fr S i g
def bx_free (S : ba_S) (i : Nat) : Int32 := bx_fr S i 4
def bx_onOffer (S : ba_S) (s : Nat) (g : ba_G) : ba_S :=
  if bs_c (bz_T S s) 6 ≠ 0 ∨ g.1 4 < Int32.ofNat (bs_latest (bz_T S s)) then S
  else if g.1 4 = Int32.ofNat (bs_latest (bz_T S s)) then bx_tell S s 5 (g.1 4)
  else if g.1 3 ≠ 0 ∧ g.1 3 ≠ Int32.ofNat (bs_latest (bz_T S s)) then bx_tell S s 6 (Int32.ofNat (bs_latest (bz_T S s)))
  else if bs_just (bz_T S s) g = true then bx_staged S s 2
  else if bz_I S (s / 4) 3 = 0 then bx_act S (s / 4)
  else bx_staged (bz_sT (bx_act S (s / 4)) s (bs_stage (bz_T S s) g)) s 2
def bx_onData (S : ba_S) (s : Nat) (g : ba_G) : ba_S :=
  if bs_c (bz_T S s) 6 ≠ 0 ∨ bs_just (bz_T S s) g = false then S
  else if g.1 5 < bs_g (bz_T S s) 4 ∨ bs_g (bz_T S s) 3 ≤ bs_g (bz_T S s) 5 then bx_prog S s 4
  else if bs_g (bz_T S s) 4 < g.1 5 then S
  else if bx_free S (s / 4) < Int32.ofNat (g.2.length / 3) then bz_sT S s (bs_sg (bz_T S s) 6 (bs_g (bz_T S s) 6 + 1))
  else if bz_I S (s / 4) 3 = 0 then bx_act S (s / 4)
  else bx_staged (bz_sT (bx_act S (s / 4)) s (bs_sg (bs_sg (bz_T S s) 4 (bs_g (bz_T S s) 4 + 1)) 5 (bs_g (bz_T S s) 5 + Int32.ofNat (g.2.length / 3)))) s 4
def bs_src (t : ba_T) : Bool := decide (bs_c t 6 = 1) || decide (bs_c t 6 = 2)
def bs_sends (t : ba_T) (g : ba_G) (ph : Int32) : Bool := bs_src t && decide (bs_c t 15 = ph) && decide (bs_c t 14 = g.1 3) && decide (bs_c t 10 = g.1 4)
def bx_onAccept (S : ba_S) (s : Nat) (g : ba_G) : ba_S :=
  if bs_sends (bz_T S s) g 1 = true then bx_son 9 (bz_sT S s (bs_sc (bs_sc (bs_sc (bs_sc (bz_T S s) 15 2) 16 (g.1 5)) 17 (g.1 5)) 18 0)) s else S
def bx_onAck (S : ba_S) (s : Nat) (g : ba_G) : ba_S :=
  if bs_sends (bz_T S s) g 2 = true ∧ bs_c (bz_T S s) 16 < g.1 5 then bx_son 9 (bz_sT S s (bs_sc (bs_sc (bs_sc (bz_T S s) 16 (g.1 5)) 17 (if g.1 5 ≤ bs_c (bz_T S s) 17 then bs_c (bz_T S s) 17 else g.1 5)) 18 0)) s else S
def bx_onHave (S : ba_S) (s : Nat) (g : ba_G) : ba_S :=
  if bs_src (bz_T S s) = true ∧ bs_c (bz_T S s) 10 ≠ 0 ∧ bs_c (bz_T S s) 10 = g.1 4 then
    (if bz_I S (s / 4) 3 = 0 then bx_act S (s / 4) else bx_thin (bz_sT (bx_act S (s / 4)) s (bs_sc (bs_sc (bs_sc (bs_sc (bs_sc (bz_T S s) 9 (g.1 4)) 14 (g.1 4)) 10 0) 15 0) 18 0)) s)
  else S
def bx_onLack (S : ba_S) (s : Nat) (g : ba_G) : ba_S :=
  if bs_src (bz_T S s) = true ∧ bs_c (bz_T S s) 10 ≠ 0 ∧ bs_c (bz_T S s) 15 ≠ 0 then bx_offer (bx_sc S s 14 (if g.1 4 < bs_c (bz_T S s) 10 ∧ ba_fd (g.1 4) (bs_sn (bz_T S s)) 0 ≠ -1 then g.1 4 else 0)) s else S
def bx_onGive (S : ba_S) (s : Nat) (g : ba_G) : ba_S :=
  if bs_c (bz_T S s) 6 = 0 ∧ g.1 4 = Int32.ofNat (bs_latest (bz_T S s)) then
    (if bz_I S (s / 4) 3 = 0 then bx_act S (s / 4) else bx_tell (bx_begin (bz_sT (bx_act S (s / 4)) s (bs_sc (bs_sc (bs_sc (bs_sc (bs_sc (bz_T S s) 9 (g.1 4)) 14 (g.1 4)) 10 0) 11 0) 12 0)) s (g.1 5)) s 9 0)
  else S
def bx_com (l : List (Nat × Nat)) : List Int32 → Int32
  | a :: _ :: _ :: r => if ba_fd a l 0 ≠ -1 then a else bx_com l r
  | _ => 0
def bx_onHello (S : ba_S) (s : Nat) (g : ba_G) : ba_S :=
  if bs_c (bz_T S s) 6 = 1 ∧ bs_c (bz_T S s) 9 ≤ 4096 * bs_c (bz_T S s) 7 then
    (if bz_I S (s / 4) 3 = 0 then bx_act S (s / 4) else bx_tell (bx_thin (bz_sT (bx_act S (s / 4)) s (bs_sc (bs_sc (bs_sc (bs_sc (bs_sc (bs_sc (bs_sc (bz_T S s) 9 (bx_com (bs_sn (bz_T S s)) g.2)) 11 0) 12 0) 10 (if bs_c (bz_T S s) 10 = bx_com (bs_sn (bz_T S s)) g.2 then 0 else bs_c (bz_T S s) 10)) 14 (bx_com (bs_sn (bz_T S s)) g.2)) 15 0) 18 0)) s) s 11 (bx_com (bs_sn (bz_T S s)) g.2))
  else S
/-- the snapshots up to an ID -/
def ba_tk (v : Int32) (l : List (Nat × Nat)) : List (Nat × Nat) := if ba_fd v l 0 = -1 then [] else l.take ((ba_fd v l 0).toNatClampNeg + 1)
def bs_back (W : ba_W) (t : ba_T) (v : Int32) : ba_T := bs_sc (bs_fgt (bs_sc (bs_sx (bs_ss (bs_sl t (ba_lo v (bs_sn t), ba_lo v (bs_sn t), ba_lo v (bs_sn t))) (ba_tk v (bs_sn t))) (ba_sp W (ba_l W (bs_now t) - ba_l W (ba_lo v (bs_sn t))) (bs_now t))) 6 0)) 19 0
def bx_onCommon (S : ba_S) (s : Nat) (g : ba_G) : ba_S :=
  if bs_c (bz_T S s) 6 = 3 ∧ bs_c (bz_T S s) 19 ≠ 0 ∧ (g.1 4 = 0 ∨ ba_fd (g.1 4) (bs_sn (bz_T S s)) 0 ≠ -1) then
    (if bz_I S (s / 4) 3 = 0 then bx_act S (s / 4) else bx_thin (bz_sT (bx_act S (s / 4)) s (bs_back (bz_W S) (bz_T S s) (g.1 4))) s)
  else S
def bx_kind (S : ba_S) (s : Nat) (g : ba_G) : ba_S :=
  if g.1 0 = 1 then bx_onOffer S s g else if g.1 0 = 2 then bx_onAccept S s g else if g.1 0 = 3 then bx_onData S s g else if g.1 0 = 4 then bx_onAck S s g else if g.1 0 = 5 then bx_onHave S s g else if g.1 0 = 6 then bx_onLack S s g else if g.1 0 = 8 then bx_onGive S s g else if g.1 0 = 10 then bx_onHello S s g else if g.1 0 = 11 then bx_onCommon S s g else S
def bx_rcv (S : ba_S) (s : Nat) (g : ba_G) : ba_S :=
  if bz_I S (s / 4) 1 = 0 then S
  else if g.1 2 < bs_c (bz_T S s) 7 then (if g.1 0 = 1 ∨ g.1 0 = 3 ∨ g.1 0 = 8 then bx_tell S s 7 0 else S)
  else if bs_c (bz_T S s) 7 < g.1 2 then (if bz_I S (s / 4) 3 = 0 then bx_act S (s / 4) else bx_kind (bz_sT (bx_act S (s / 4)) s (bs_learn (bz_T S s) (g.1 2))) s g)
  else bx_kind S s g
def bx_receive (S : ba_S) (g : ba_G) : ba_S := bx_rcv S (((g.1 1).toNatClampNeg + 4) % 8) g
/-! the calls -/
def bx_ok (S : ba_S) (h : Int32) : Bool := decide (0 ≤ h) && decide (h < 8) && decide (h.toNatClampNeg % 4 < bz_N S)
def bx_pl (S : ba_S) (h v p : Int32) : Bool := bx_ok S h && decide (0 ≤ v) && decide (v.toNatClampNeg < (bz_D S (h.toNatClampNeg % 4)).1) && decide (0 ≤ p) && decide (p.toNatClampNeg < (bz_D S (h.toNatClampNeg % 4)).2)
def bx_group (S : ba_S) (n p : Int32) : ba_S × Int32 :=
  if n < 1 ∨ 8 < n ∨ p < 1 ∨ 4096 < p then (S, -2) else if bz_N S = 4 then (S, -1) else (bz_sN (bz_sD (bz_sG S 7 (Int32.ofNat (bz_N S + 1))) (bz_N S) (n.toNatClampNeg, p.toNatClampNeg)) (bz_N S + 1), Int32.ofNat (bz_N S))
def bx_put (S : ba_S) (s q : Nat) (v : Int32) : ba_S := bz_sT (bz_sW S (ba_add (bz_W S) (bs_now (bz_T S s)) q v (s % 4))) s (bs_sl (bz_T S s) (ba_n (bz_W S) + 1, bs_safe (bz_T S s), bs_kept (bz_T S s)))
def bs_pend (W : ba_W) (t : ba_T) : Nat := ba_l W (bs_now t) - ba_l W (bs_safe t)
def bx_fl64 (S : ba_S) (s : Nat) : ba_S × Bool := if 64 ≤ bs_pend (bz_W S) (bz_T S s) then bx_flush S s else (S, true)
def bx_ref (S : ba_S) (s : Nat) (role : Int32) : Int32 := if bz_I S (s / 4) 1 = 0 then -3 else if bs_c (bz_T S s) 6 = role then 0 else -4
def bx_w1 (S : ba_S) (s q : Nat) (v : Int32) : ba_S × Int32 :=
  if bx_ref S s 1 ≠ 0 then (S, bx_ref S s 1) else if 60000 ≤ ba_n (bz_W S) then (S, -5)
  else if (bx_fl64 S s).2 = true then (if bx_free (bx_fl64 S s).1 (s / 4) < 1 then ((bx_fl64 S s).1, -6) else (bx_put (bx_fl64 S s).1 s q v, 0)) else ((bx_fl64 S s).1, -3)
def bx_spot (v p : Int32) : Nat := 4096 * v.toNatClampNeg + p.toNatClampNeg
def bx_write (S : ba_S) (h v p x : Int32) : ba_S × Int32 :=
  if bx_pl S h v p = true then (if (bx_w1 S h.toNatClampNeg (bx_spot v p) x).2 = 0 then ((bx_w1 S h.toNatClampNeg (bx_spot v p) x).1, Int32.ofNat (bs_pend (bz_W (bx_w1 S h.toNatClampNeg (bx_spot v p) x).1) (bz_T (bx_w1 S h.toNatClampNeg (bx_spot v p) x).1 h.toNatClampNeg))) else bx_w1 S h.toNatClampNeg (bx_spot v p) x) else (S, -2)
def bx_fil : Nat → ba_S → Nat → Nat → Int32 → Nat → ba_S × Int32
  | 0, S, _, _, _, i => (S, Int32.ofNat i)
  | n + 1, S, s, q, v, i => if (bx_w1 S s q v).2 = 0 then bx_fil n (bx_w1 S s q v).1 s (q + 1) (v + 1) (i + 1) else ((bx_w1 S s q v).1, if i = 0 then (bx_w1 S s q v).2 else Int32.ofNat i)
def bx_fill (S : ba_S) (h v p n x : Int32) : ba_S × Int32 :=
  if bx_pl S h v p = true ∧ ¬ n < 1 ∧ ¬ 4096 < n ∧ p.toNatClampNeg + n.toNatClampNeg ≤ (bz_D S (h.toNatClampNeg % 4)).2 then bx_fil n.toNatClampNeg S h.toNatClampNeg (bx_spot v p) x 0 else (S, -2)
def bx_fls (S : ba_S) (h : Int32) : ba_S × Int32 :=
  if bx_ok S h = true then (if bz_I S (h.toNatClampNeg / 4) 1 = 0 then (S, -3) else if (bx_flush S h.toNatClampNeg).2 = true then ((bx_flush S h.toNatClampNeg).1, Int32.ofNat (ba_l (bz_W S) (bs_safe (bz_T (bx_flush S h.toNatClampNeg).1 h.toNatClampNeg)) - ba_l (bz_W S) (bs_kept (bz_T (bx_flush S h.toNatClampNeg).1 h.toNatClampNeg)))) else ((bx_flush S h.toNatClampNeg).1, -3)) else (S, -2)
def bx_cks (S : ba_S) (h : Int32) : ba_S × Int32 :=
  if bx_ok S h = true then (if bz_I S (h.toNatClampNeg / 4) 1 = 0 then (S, -3) else if (bx_check S h.toNatClampNeg).2 = true then ((bx_check S h.toNatClampNeg).1, if bs_now (bz_T S h.toNatClampNeg) = bs_kept (bz_T S h.toNatClampNeg) then 0 else Int32.ofNat (ba_no (bz_W S) [] (ba_l (bz_W S) (bs_now (bz_T S h.toNatClampNeg)) - ba_l (bz_W S) (bs_kept (bz_T S h.toNatClampNeg))) (bs_now (bz_T S h.toNatClampNeg)) + 1)) else ((bx_check S h.toNatClampNeg).1, -3)) else (S, -2)
def bx_snp (S : ba_S) (s : Nat) : ba_S × Int32 :=
  if bx_ref S s 1 ≠ 0 then (S, bx_ref S s 1) else if bs_now (bz_T S s) = bs_line (bz_T S s) then (S, 0) else if 4095 ≤ bs_c (bz_T S s) 8 then (S, -5)
  else if (bx_take S s).2 = true then ((bx_take S s).1, Int32.ofNat (bs_latest (bz_T (bx_take S s).1 s))) else ((bx_take S s).1, -3)
def bx_lv2 (S : ba_S) (s : Nat) : ba_S × Int32 :=
  if bz_I S (s / 4) 3 = 0 then (bx_act S (s / 4), -3) else (bz_sT (bx_act S (s / 4)) s (bs_sc (bs_sc (bz_T S s) 6 2) 13 0), Int32.ofNat (bs_latest (bz_T S s)))
def bx_lv (S : ba_S) (s : Nat) : ba_S × Int32 :=
  if bx_ref S s 1 ≠ 0 then (S, bx_ref S s 1) else if bs_now (bz_T S s) = bs_line (bz_T S s) then bx_lv2 S s else if 4095 ≤ bs_c (bz_T S s) 8 then (S, -5)
  else if (bx_take S s).2 = true then bx_lv2 (bx_take S s).1 s else ((bx_take S s).1, -3)
def bx_sty (S : ba_S) (s : Nat) : ba_S × Int32 :=
  if bx_ref S s 2 ≠ 0 then (S, bx_ref S s 2) else if bs_c (bz_T S s) 13 ≠ 0 then (S, -4) else if bz_I S (s / 4) 3 = 0 then (bx_act S (s / 4), -3) else (bx_sc (bx_act S (s / 4)) s 6 1, 0)
/-- the least above e that leaves r by 4 -/
def ba_next (e : Int32) (r : Nat) : Int32 := Int32.ofNat (e.toNatClampNeg + 1 + (r + 4 - (e.toNatClampNeg + 1) % 4) % 4)
def bx_frc1 (S : ba_S) (s : Nat) : ba_S × Bool := if bs_c (bz_T S s) 6 = 3 then bx_check S s else (S, true)
def bx_frc2 (S : ba_S) (s : Nat) : ba_S := bx_begin (bz_sT S s (bs_sc (bs_sc (bs_sc (bs_sc (bs_sc (bs_sc (bs_sc (bs_sc (bz_T S s) 11 (if bs_c (bz_T S s) 6 = 0 then Int32.ofNat (bs_latest (bz_T S s)) else if bs_c (bz_T S s) 11 = 0 ∧ bs_c (bz_T S s) 12 = 0 then bs_c (bz_T S s) 9 else bs_c (bz_T S s) 11)) 12 (if bs_c (bz_T S s) 6 = 0 then 0 else if bs_c (bz_T S s) 11 = 0 ∧ bs_c (bz_T S s) 12 = 0 then bs_c (bz_T S s) 10 else bs_c (bz_T S s) 12)) 9 0) 10 0) 14 0) 15 0) 18 0) 19 0)) s (ba_next (bs_c (bz_T S s) 7) (if s < 4 then 3 else 0))
def bx_frc (S : ba_S) (s : Nat) : ba_S × Int32 :=
  if bz_I S (s / 4) 1 = 0 then (S, -3) else if bs_c (bz_T S s) 6 ≠ 0 ∧ bs_c (bz_T S s) 6 ≠ 3 then (S, -4)
  else if (bx_frc1 S s).2 = true then (if bz_I (bx_frc1 S s).1 (s / 4) 3 = 0 then (bx_act (bx_frc1 S s).1 (s / 4), -3) else (bx_frc2 (bx_act (bx_frc1 S s).1 (s / 4)) s, ba_next (bs_c (bz_T S s) 7) (if s < 4 then 3 else 0))) else ((bx_frc1 S s).1, -3)
def bx_bck (S : ba_S) (s : Nat) : ba_S × Int32 :=
  if bx_ref S s 3 ≠ 0 then (S, bx_ref S s 3) else (bx_hello (bx_sc S s 19 1) s, 0)
/-- of a call on a store -/
def bx_on (f : ba_S → Nat → ba_S × Int32) (S : ba_S) (h : Int32) : ba_S × Int32 := if bx_ok S h = true then f S h.toNatClampNeg else (S, -2)
def bx_period (S : ba_S) (n : Int32) : ba_S × Int32 := if n < 0 ∨ 1000 < n then (S, 0) else (bz_sG S 9 n, 1)
/-- a tick of a store -/
def bx_hand (S : ba_S) (s : Nat) : ba_S :=
  if bs_c (bz_T S s) 13 ≠ 0 then (if 8 ≤ bs_c (bz_T S s) 18 + 1 then bx_give (bx_sc S s 18 (bs_c (bz_T S s) 18 + 1)) s else bx_sc S s 18 (bs_c (bz_T S s) 18 + 1))
  else if bz_I S (s / 4) 3 = 0 then bx_act S (s / 4) else bx_give (bx_sc (bx_act S (s / 4)) s 13 (ba_next (bs_c (bz_T S s) 7) (if s < 4 then 2 else 1))) s
def bx_fwd (S : ba_S) (s : Nat) : ba_S :=
  if bs_c (bz_T S s) 10 ≠ 0 then (if 8 ≤ bs_c (bz_T S s) 18 + 1 then bx_offer (bx_sc S s 18 (bs_c (bz_T S s) 18 + 1)) s else bx_sc S s 18 (bs_c (bz_T S s) 18 + 1))
  else if Int32.ofNat (bs_latest (bz_T S s)) ≠ bs_c (bz_T S s) 9 then (if bz_I S (s / 4) 3 = 0 then bx_act S (s / 4) else bx_offer (bz_sT (bx_act S (s / 4)) s (bs_sc (bs_sc (bz_T S s) 10 (Int32.ofNat (bs_latest (bz_T S s)))) 14 (bs_c (bz_T S s) 9))) s)
  else if bs_c (bz_T S s) 6 = 2 then bx_hand S s else S
def bx_tk2 (S : ba_S) (s : Nat) : ba_S :=
  if bs_src (bz_T S s) = true then bx_fwd S s
  else if bs_c (bz_T S s) 6 = 3 ∧ bs_c (bz_T S s) 19 ≠ 0 then (if 8 ≤ bs_c (bz_T S s) 18 + 1 then bx_hello (bx_sc S s 18 (bs_c (bz_T S s) 18 + 1)) s else bx_sc S s 18 (bs_c (bz_T S s) 18 + 1)) else S
def bx_tk1 (S : ba_S) (s : Nat) : ba_S :=
  if bs_c (bz_T S s) 6 = 1 ∧ 0 < bz_G S 9 ∧ bz_G S 8 - bz_G S 8 / bz_G S 9 * bz_G S 9 = 0 ∧ bs_now (bz_T S s) ≠ bs_line (bz_T S s) ∧ bs_c (bz_T S s) 8 < 4095 then (if (bx_take S s).2 = true then bx_tk2 (bx_take S s).1 s else (bx_take S s).1) else bx_tk2 S s
def bx_tks : Nat → ba_S → ba_S
  | 0, S => S
  | n + 1, S => if n % 4 < bz_N S ∧ bz_I (bx_tks n S) (n / 4) 1 ≠ 0 then bx_tk1 (bx_tks n S) n else bx_tks n S
def bx_tick (S : ba_S) : ba_S × Int32 := (bx_tks 8 (bz_sG S 8 (bz_G S 8 + 1)), bz_G S 8 + 1)
def bx_power (S : ba_S) (i n : Int32) : ba_S × Int32 := if i < 0 ∨ 1 < i ∨ n < -1 ∨ 100000 < n then (S, 0) else (bz_sI S i.toNatClampNeg 3 n, 1)
def bx_crash (S : ba_S) (i : Int32) : ba_S × Int32 := if i < 0 ∨ 1 < i then (S, 0) else if bz_I S i.toNatClampNeg 1 = 0 then (S, 0) else (bz_sI (bz_sI S i.toNatClampNeg 1 0) i.toNatClampNeg 3 (-1), 1)
def bs_wake (t : ba_T) : ba_T := bs_sl (bs_sc (bs_sc (bs_sc (bs_sc (bs_sc (bs_sc t 14 (bs_c t 9)) 15 0) 16 0) 17 0) 18 0) 19 0) (bs_safe t, bs_safe t, bs_kept t)
def bx_wk (i : Nat) : Nat → ba_S → ba_S × Int32
  | 0, S => (S, 0)
  | g + 1, S => if g < bz_N S then (bz_sT (bx_wk i g S).1 (4 * i + g) (bs_wake (bz_T (bx_wk i g S).1 (4 * i + g))), (bx_wk i g S).2 + Int32.ofNat (bs_pend (bz_W S) (bz_T S (4 * i + g)))) else bx_wk i g S
def bx_upc (S : ba_S) (i : Int32) : ba_S × Int32 := if i < 0 ∨ 1 < i then (S, -2) else if bz_I S i.toNatClampNeg 1 ≠ 0 then (S, -1) else bx_wk i.toNatClampNeg 4 (bz_sI S i.toNatClampNeg 1 1)
def bx_drop (S : ba_S) (i : Nat) : ba_S := bz_sF (bz_sL S 1 (Int32.ofNat ((bz_F S).length - 1))) ((bz_F S).eraseIdx i)
def bx_g0 : ba_G := (fun _ => 0, [])
def bx_at (S : ba_S) (i : Int32) : Bool := decide (0 ≤ i) && decide (i < Int32.ofNat (bz_F S).length)
def bx_pass (S : ba_S) (i how : Int32) : ba_S × Int32 :=
  if bx_at S i = false ∨ how < 0 ∨ 2 < how then (S, -1)
  else if how = 0 then (bx_drop S i.toNatClampNeg, 1) else if how = 1 then (bx_receive (bx_drop S i.toNatClampNeg) ((bz_F S).getD i.toNatClampNeg bx_g0), 1) else (bx_receive S ((bz_F S).getD i.toNatClampNeg bx_g0), 1)
