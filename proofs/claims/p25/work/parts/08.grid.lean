section FBG
variable {p : Program} {l : Launch} {e : Env} {R : Room} {s : State} {m : MethodId} {args : Array Value} {below : List Frame} {meth : Method} {c : Code} {Q : State → Prop}
variable {D : va_G} {aC : Nat → ClassId} {B : Nat} {sa rl : Nat → Nat} {rf : Nat → Nat → Int32} {n0 z0 j pc : Nat} {ls st : List Value} {h : fb_H} {z : Nat × List Value × List Value × fb_H}
theorem fb_mn_T0 (n k : Nat) : fb_T (fb_mn h n k) (fb_N h) = (15, n) := if_pos rfl
theorem fb_mn_T1 {n k i : Nat} (h1 : fb_N h < i) (h2 : i ≤ fb_N h + n) : fb_T (fb_mn h n k) i = (10, k) := (if_neg (by omega)).trans (if_pos ⟨h1, h2⟩)
theorem fb_mn_R0 (n k q : Nat) : fb_R (fb_mn h n k) (fb_N h) q = if q < n then some (fb_N h + 1 + q) else none := if_pos rfl
theorem fb_mn_I1 {n k i q : Nat} (h1 : fb_N h ≤ i) (h2 : i ≤ fb_N h + n) : fb_I (fb_mn h n k) i q = 0 := if_pos ⟨h1, h2⟩
theorem fb_mn_cell {n k i : Nat} (hi : i < fb_N h) : fb_cell aC B (fb_mn h n k) i = fb_cell aC B h i :=
  fb_cell_eq ((if_neg (by omega)).trans (if_neg (by omega))) (fun _ => (if_neg (by omega)).trans (if_neg (by omega))) (fun _ => if_neg (by omega))
theorem fb_outer (c : ClassId) (N h0 : Nat) : ∀ i : Nat, Jvm.Free.Multi.outerC c N h0 i = arrV c N (fun j => va_rf (if j < i then some (h0 + 1 + j) else none))
  | 0 => by
    show ({ cls := c, slots := Array.replicate N .null, vm := .none } : Cell) = _
    rw [arrV_new]
    refine congrArg (arrV c N) (funext fun j => ?_)
    simp [va_rf]
  | i + 1 => by
    show (Jvm.Free.Multi.outerC c N h0 i).setSlot i (.ref (h0 + 1 + i)) = _
    rw [fb_outer c N h0 i, arrV_store]
    refine congrArg (arrV c N) (funext fun j => ?_)
    by_cases e : j = i
    · subst e
      simp [updV, va_rf]
    · by_cases h : j < i
      · simp [updV, e, h, Nat.lt_succ_of_lt h]
      · simp [updV, e, h, show ¬ j < i + 1 by omega]
theorem fb_g_mn {i q1 : Nat} {x y : Int32} {r : List Value} (X : fb_X p R s m args meth c D aC B sa rl rf n0 j) (hn : n0 ≤ fb_N h) (hz0 : z0 ≤ fb_Z h) (hd : decode (mB j) pc = .ok (.multianewarray i 2, 4)) (hf : fb_fd fb_cl (fb_ky j i) = some (15, q1)) (hx0 : ¬ x < 0) (hy0 : ¬ y < 0) (hx1 : x.toNatClampNeg ≤ 1000) (hy1 : y.toNatClampNeg ≤ 1000) (hbig : fb_N h < 900000) (hc : fb_N h + 1 + x.toNatClampNeg - n0 ≤ R.cells) (hz' : fb_Z h + x.toNatClampNeg + x.toNatClampNeg * y.toNatClampNeg - z0 ≤ R.slots)
    (k : fb_Nx p l e R s m args below meth c Q D aC B sa n0 z0 j (fb_mn h x.toNatClampNeg y.toNatClampNeg) (pc + 4) ls (.ref (fb_N h) :: r)) : fb_Nx p l e R s m args below meth c Q D aC B sa n0 z0 j h pc ls (.int y :: .int x :: r) := by
  have hw := fb_lk_c hf
  intro H locs lsr hP hS hL
  obtain ⟨hx, hb, hml, hown, hts, hE, hsz, -⟩ := X
  refine fb_wsize fun hle => ?_
  have hH := fb_hsz hsz hn hP hS hle
  rw [fb_i_cons, fb_i_cons]
  intro T hTT Xs
  obtain ⟨vm₁, cA, comp, -, fA, fC, -, -, X', step⟩ := Xs.multianewarray2F (ty := .int) hx hown (hts _ hw) hE.2.2.2.2.2.1 (hts _ fb_wac.1) (g := F0 m pc lsr (.int y :: .int x :: r.map (fb_cv B sa))) rfl (by rw [hb]; exact hd) rfl hx0 hy0 (by omega) (by show _ * 4 ≤ _; omega) (by omega) rfl rfl (by omega) (by omega)
  have gI : s.vm.findClass ("[" ++ (FieldType.int).toString) = some (aC 10) := (hE.1.2 0 _ rfl).2
  have gA : s.vm.findClass ("[" ++ (FieldType.array .int).toString) = some (aC 15) := (hE.1.2 5 _ rfl).2
  have hcomp : comp = aC 10 := Option.some.inj (fC.symm.trans gI)
  have hcA : cA = aC 15 := Option.some.inj (fA.symm.trans gA)
  subst hcomp
  subst hcA
  generalize hF : Jvm.Free.Multi.fill (T.setVm vm₁) (aC 15) (aC 10) x.toNatClampNeg y.toNatClampNeg (defaultValue .int) x.toNatClampNeg = F at X' step
  have hTh : (T.setVm vm₁).heap = H := hTT
  obtain ⟨f1, f2, -, -⟩ := Jvm.Free.Multi.fill_facts (T.setVm vm₁) (aC 15) (aC 10) x.toNatClampNeg y.toNatClampNeg (defaultValue .int) x.toNatClampNeg
  rw [hF, hTh] at f1 f2
  have hold : ∀ q : Nat, q < B + fb_N h → F.heap[q]? = H[q]? := fun q hq => by
    have := Jvm.Free.Multi.fill_old (T.setVm vm₁) (aC 15) (aC 10) x.toNatClampNeg y.toNatClampNeg (defaultValue .int) (a := q) (by rw [hTh]; exact (show q < H.size by omega)) x.toNatClampNeg
    rw [hF, hTh] at this
    exact this
  have hrow : ∀ q : Nat, q < x.toNatClampNeg → F.heap[H.size + 1 + q]? = some (Jvm.Free.Multi.innerC (aC 10) y.toNatClampNeg (defaultValue .int)) := fun q hq => by
    have := Jvm.Free.Multi.fill_inner (T.setVm vm₁) (aC 15) (aC 10) x.toNatClampNeg y.toNatClampNeg (defaultValue .int) x.toNatClampNeg q hq
    rw [hF, hTh] at this
    exact this
  rw [fb_outer] at f2
  have k1 := k F.heap locs lsr (fb_grow hP (fun i hi => fb_mn_cell hi) hold (fun i h1 h2 => ?_)) (fb_growS hS hH (by omega) hold) hL
  · rw [fb_ref_lo (by omega)] at k1
    rw [show fb_N (fb_mn h x.toNatClampNeg y.toNatClampNeg) - n0 = fb_N h - n0 + 1 + x.toNatClampNeg by show fb_N h + 1 + x.toNatClampNeg - n0 = _; omega, show fb_Z (fb_mn h x.toNatClampNeg y.toNatClampNeg) - z0 = fb_Z h - z0 + x.toNatClampNeg + x.toNatClampNeg * y.toNatClampNeg by show fb_Z h + x.toNatClampNeg + x.toNatClampNeg * y.toNatClampNeg - z0 = _; omega] at k1
    obtain ⟨t2, a1, b1⟩ := k1 F rfl X'
    refine ⟨t2, step t2 ?_, b1⟩
    rw [show T.heap.size = B + fb_N h by rw [hTT, hH]]
    exact a1
  · have h2 : i < fb_N h + 1 + x.toNatClampNeg := h2
    by_cases hi : i = fb_N h
    · subst hi
      rw [fb_cell_q (h := fb_mn h x.toNatClampNeg y.toNatClampNeg) (c := 15) (by rw [fb_mn_T0]) (by omega)]
      show F.heap[B + fb_N h]? = some (vp_cell _ _)
      rw [← hH, f2, fb_mn_T0, vp_cell_q]
      refine congrArg (fun f => some (arrV (aC 15) x.toNatClampNeg f)) (funext fun q => ?_)
      rw [fb_mn_R0, hH]
      by_cases hq : q < x.toNatClampNeg
      · rw [if_pos hq, if_pos hq]
        have e9 : B + fb_N h + 1 + q = B + (fb_N h + 1 + q) := by omega
        show Value.ref (B + fb_N h + 1 + q) = Value.ref (B + (fb_N h + 1 + q))
        rw [e9]
      · rw [if_neg hq, if_neg hq]
        rfl
    · rw [fb_cell_i (h := fb_mn h x.toNatClampNeg y.toNatClampNeg) (c := 10) (by rw [fb_mn_T1 (by omega) (by omega)]) (by omega) (by omega)]
      show F.heap[B + i]? = some (vp_cell _ _)
      have := hrow (i - fb_N h - 1) (by omega)
      rw [show H.size + 1 + (i - fb_N h - 1) = B + i by omega] at this
      rw [this, fb_mn_T1 (by omega) (by omega), vp_cell_i]
      unfold Jvm.Free.Multi.innerC
      rw [arrV_new]
      refine congrArg (fun f => some (arrV (aC 10) y.toNatClampNeg f)) (funext fun q => ?_)
      rw [fb_mn_I1 (by omega) (by omega)]
      rfl
end FBG
