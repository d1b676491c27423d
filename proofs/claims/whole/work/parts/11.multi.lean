/-! new int[n][m] -/
theorem bi_outer (c : ClassId) (N h0 : Nat) : ∀ i : Nat, Jvm.Free.Multi.outerC c N h0 i = arrV c N (fun j => bi_tr (if j < i then h0 + 1 + j + 1 else 0))
  | 0 => by
    show ({ cls := c, slots := Array.replicate N .null, vm := .none } : Cell) = _
    rw [arrV_new]
    refine congrArg (arrV c N) (funext fun j => ?_)
    simp [bi_tr]
  | i + 1 => by
    show (Jvm.Free.Multi.outerC c N h0 i).setSlot i (.ref (h0 + 1 + i)) = _
    rw [bi_outer c N h0 i, arrV_store]
    refine congrArg (arrV c N) (funext fun j => ?_)
    by_cases e : j = i
    · subst e
      simp [updV, bi_tr]
    · by_cases h : j < i
      · simp [updV, e, h, Nat.lt_succ_of_lt h]
      · simp [updV, e, h, show ¬ j < i + 1 by omega]
theorem bi_rp.born2 {D : va_G} {B0 : Nat} {Hb : Heap} {s : State} {h : bi_H} {H H' : Heap} {N K : Nat} (hr : bi_rp D B0 Hb h s H) (hz : H'.size = H.size + 1 + N) (ho : ∀ q, q < H.size → H'[q]? = H[q]?) (h5 : bi_ca s (bi_new2 h N K) H' H.size 5 N) (h1 : ∀ j, j < N → bi_ca s (bi_new2 h N K) H' (H.size + 1 + j) 1 K) : bi_rp D B0 Hb (bi_new2 h N K) s H' := by
  obtain ⟨⟨z1, z2, z3⟩, g2, g3, g4, g5, g6⟩ := hr
  have e0 : ∀ x, x < bi_nx h ∨ bi_nx h + N < x → bi_k (bi_new2 h N K) x = bi_k h x := fun x hx => by
    have a1 : ¬ x = bi_nx h := by omega
    have a2 : ¬ (bi_nx h < x ∧ x ≤ bi_nx h + N) := by omega
    show (if x = bi_nx h then (5, N) else if bi_nx h < x ∧ x ≤ bi_nx h + N then (1, K) else bi_k h x) = bi_k h x
    rw [if_neg a1, if_neg a2]
  have e5 : bi_k (bi_new2 h N K) (H.size + 1) = (5, N) := by
    show (if H.size + 1 = bi_nx h then (5, N) else if bi_nx h < H.size + 1 ∧ H.size + 1 ≤ bi_nx h + N then (1, K) else bi_k h (H.size + 1)) = (5, N)
    rw [if_pos z1]
  have e1 : ∀ j, j < N → bi_k (bi_new2 h N K) (H.size + 1 + j + 1) = (1, K) := fun j hj => by
    show (if H.size + 1 + j + 1 = bi_nx h then (5, N) else if bi_nx h < H.size + 1 + j + 1 ∧ H.size + 1 + j + 1 ≤ bi_nx h + N then (1, K) else bi_k h (H.size + 1 + j + 1)) = (1, K)
    rw [if_neg (by omega), if_pos (by omega)]
  refine ⟨⟨by rw [hz]; show H.size + 1 + N + 1 = bi_nx h + N + 1; omega, by omega, fun q hq => by rw [ho q (by omega)]; exact z3 q hq⟩, g2, g3, by rw [e0 0 (by omega)]; exact g4, fun b hb => ?_, fun b => ?_⟩
  · by_cases c1 : b < H.size
    · rw [e0 _ (by omega)] at hb ⊢
      obtain ⟨q1, q2⟩ := g5 b hb
      exact ⟨by omega, q2⟩
    · by_cases c2 : b ≤ H.size + N
      · exact ⟨by omega, fun _ => by omega⟩
      · rw [e0 _ (by omega)] at hb
        have := (g5 b hb).1
        omega
  · by_cases c1 : b < H.size
    · have hx1 : ¬ (bi_nx h ≤ b + 1 ∧ b + 1 ≤ bi_nx h + N) := by omega
      have hx2 : ¬ b + 1 = bi_nx h := by omega
      have hx3 : ¬ (bi_nx h < b + 1 ∧ b + 1 ≤ bi_nx h + N) := by omega
      refine (g6 b).kept (ho b c1) (e0 _ (by omega)) (fun c k => ?_) (fun t j => ?_)
      · simp only [bi_fv, bi_fr, bi_fi, bi_new2, if_neg hx1]
      · simp only [bi_av, bi_ar, bi_ai, bi_new2, if_neg hx1, if_neg hx2, if_neg hx3]
    · by_cases c2 : b = H.size
      · subst c2
        refine ⟨fun c k1 _ => by rw [e5] at k1; have k1 : 5 = 10 + c := k1; omega, ?_⟩
        rw [e5]
        exact h5
      · by_cases c3 : b ≤ H.size + N
        · obtain ⟨j, hj, rfl⟩ : ∃ j, j < N ∧ b = H.size + 1 + j := ⟨b - H.size - 1, by omega, by omega⟩
          refine ⟨fun c k1 _ => by rw [e1 j hj] at k1; have k1 : 1 = 10 + c := k1; omega, ?_⟩
          rw [e1 j hj]
          exact h1 j hj
        · refine bi_cell.none ?_
          rw [e0 _ (by omega)]
          by_cases hb : (bi_k h (b + 1)).1 = 0
          · exact hb
          · have := (g5 b hb).1
            omega
section BM
variable {p : Program} {l : Launch} {e : Env} {R : Room} {s : State} {m : MethodId} {args : Array Value} {below : List Frame} {meth : Method} {cd : Code} {Q : State → Prop} {D : va_G} {B0 : Nat} {Hb : Heap} {nL n0 m0 : Nat} {cc : ByteArray} {pc : Nat} {own : String} {L L' : bi_L} {st st' : List bi_V} {h h' : bi_H} {ini : Bool} {r : bi_R} {cf : Nat → List bi_V → bi_H → Option (Option bi_V × bi_H)}
theorem bi_s_multi {k d : Nat} (hx : p.tables.exec = Jvm.exec) (hb : cd.code = cc) (hown : s.vm.findClass own = some m.cls) (hok : bi_oki own nL ini (.multianewarray k d) r) (hdg : decode cc pc = .ok (.multianewarray k d, 4)) (he : bi_x cf (.multianewarray k d) r L st h = some (L', st', h')) (hRc : bi_nc h' ≤ n0 + R.cells) (hRs : bi_ns h' ≤ m0 + R.slots) (kk : bi_At p l e R s m args below meth cd Q D B0 Hb nL n0 m0 (pc + 4) L' st' h') : bi_At p l e R s m args below meth cd Q D B0 Hb nL n0 m0 pc L st h := by
  intro H locs ls cells slots hr hl hw hlc hc hs
  obtain ⟨rfl, w1, w2, w3⟩ := hok
  unfold bi_x at he
  dsimp only at he
  split at he
  · split at he
    · rename_i mm n st0 ha
      cases he
      obtain ⟨hn, hn2, hk, hk2⟩ := ha
      have e1 : bi_nc (bi_new2 h n.toNatClampNeg mm.toNatClampNeg) = bi_nc h + n.toNatClampNeg + 1 := rfl
      have e2 : bi_ns (bi_new2 h n.toNatClampNeg mm.toNatClampNeg) = bi_ns h + n.toNatClampNeg + n.toNatClampNeg * mm.toNatClampNeg := rfl
      have hs1 : H.size + 1 = bi_nx h := hr.1.1
      intro T hT X
      obtain ⟨vm₁, cA, comp, -, fA, fC, hO, hI, X', step⟩ := X.multianewarray2F hx (ty := .int) hown (bi_hts hr w1 rfl) (bi_hts hr w2 rfl) (bi_hts hr w3 rfl) (g := F0 m pc ls (.int mm :: .int n :: st0.map bi_tv)) rfl (by rw [hb]; exact hdg) rfl hn hk (by omega) (by simp [componentBytes]; omega) (by omega) rfl rfl (by omega) (by omega)
      generalize hF : Jvm.Free.Multi.fill (T.setVm vm₁) cA comp n.toNatClampNeg mm.toNatClampNeg (defaultValue .int) n.toNatClampNeg = F at X' step
      have hTh : (T.setVm vm₁).heap = H := hT
      obtain ⟨f1, f2, -, -⟩ := Jvm.Free.Multi.fill_facts (T.setVm vm₁) cA comp n.toNatClampNeg mm.toNatClampNeg (defaultValue .int) n.toNatClampNeg
      rw [hF, hTh] at f1 f2
      have hold : ∀ x : Nat, x < H.size → F.heap[x]? = H[x]? := fun x hx => by
        have := Jvm.Free.Multi.fill_old (T.setVm vm₁) cA comp n.toNatClampNeg mm.toNatClampNeg (defaultValue .int) (a := x) (by rw [hTh]; exact hx) n.toNatClampNeg
        rw [hF, hTh] at this
        exact this
      have hrow : ∀ j : Nat, j < n.toNatClampNeg → F.heap[H.size + 1 + j]? = some (Jvm.Free.Multi.innerC comp mm.toNatClampNeg (defaultValue .int)) := fun j hj => by
        have := Jvm.Free.Multi.fill_inner (T.setVm vm₁) cA comp n.toNatClampNeg mm.toNatClampNeg (defaultValue .int) n.toNatClampNeg j hj
        rw [hF, hTh] at this
        exact this
      have hrp : bi_rp D B0 Hb (bi_new2 h n.toNatClampNeg mm.toNatClampNeg) s F.heap := by
        refine hr.born2 (by rw [f1]) hold (fun ty hty => ?_) (fun j hj ty hty => ?_)
        · have hty : ty = .array .int := by simp [bi_aty] at hty; exact hty.symm
          subst hty
          refine ⟨_, f2, (hO _ _ _).1, (hO _ _ _).2, by rw [bi_outer, arrV_size], fun j hj => ?_, fun C hC => by cases hC⟩
          rw [bi_outer, arrV_read _ _ hj]
          have e7 : bi_av (bi_new2 h n.toNatClampNeg mm.toNatClampNeg) 5 (H.size + 1) j = bi_tr (if H.size + 1 = bi_nx h then (if j < n.toNatClampNeg then bi_nx h + 1 + j else 0) else if bi_nx h < H.size + 1 ∧ H.size + 1 ≤ bi_nx h + n.toNatClampNeg then 0 else bi_ar h (H.size + 1) j) := rfl
          rw [e7, if_pos hs1, if_pos hj, if_pos hj, ← hs1, show H.size + 1 + 1 + j = H.size + 1 + j + 1 by omega]
        · have hty : ty = .int := by simp [bi_aty] at hty; exact hty.symm
          subst hty
          have hin : Jvm.Free.Multi.innerC comp mm.toNatClampNeg (defaultValue .int) = arrV comp mm.toNatClampNeg (fun _ => .int 0) := arrV_new comp mm.toNatClampNeg (.int 0)
          refine ⟨_, hrow j hj, (hI _ _).1, (hI _ _).2, by rw [hin, arrV_size], fun i hi => ?_, fun C hC => by cases hC⟩
          rw [hin, arrV_read _ _ hi]
          have a1 : bi_nx h ≤ H.size + 1 + j + 1 ∧ H.size + 1 + j + 1 ≤ bi_nx h + n.toNatClampNeg := by omega
          simp only [bi_av, bi_ai, bi_new2, if_pos a1]
          rfl
      obtain ⟨t, a1, b1⟩ := kk F.heap locs ls (cells + 1 + n.toNatClampNeg) (slots + n.toNatClampNeg + n.toNatClampNeg * mm.toNatClampNeg) hrp hl hw hlc (by omega) (by omega) F rfl X'
      refine ⟨t, step t ?_, b1⟩
      have e9 : T.heap.size = H.size := by rw [hT]
      rw [e9]
      have e8 : bi_tr (bi_nx h) = .ref H.size := bi_nxr hr
      have a2 := a1
      simp only [List.map_cons, bi_tv, e8] at a2
      exact a2
    · cases he
  · cases he
end BM
