/-! an instruction of the abstract machine is one of the machine -/
def fb_X (p : Program) (R : Room) (s : State) (m : MethodId) (args : Array Value) (meth : Method) (c : Code) (D : va_G) (aC : Nat → ClassId) (B : Nat) (sa rl : Nat → Nat) (rf : Nat → Nat → Int32) (n0 j : Nat) : Prop :=
  p.tables.exec = Jvm.exec ∧ c.code = mB j ∧ c.maxLocals = mL j ∧ s.vm.findClass (oN (mO j)) = some m.cls ∧ (∀ w ∈ fb_W, w.before args s = true) ∧ fb_E D aC B sa rl rf s s.heap ∧ s.heap.size = B + n0 ∧ ((mY j).name = "<init>" → meth.name = "<init>") ∧ mD j ≤ R.frames ∧ 40 * mD j ≤ R.locals
def fb_Nx (p : Program) (l : Launch) (e : Env) (R : Room) (s : State) (m : MethodId) (args : Array Value) (below : List Frame) (meth : Method) (c : Code) (Q : State → Prop) (D : va_G) (aC : Nat → ClassId) (B : Nat) (sa : Nat → Nat) (n0 z0 j : Nat) (h : fb_H) (pc : Nat) (ls st : List Value) : Prop :=
  ∀ (H : Heap) (locs : List Loc) (lsr : Array Slot), va_P D vwCl (fb_ws aC B h) H → va_S (fun q => B ≤ q) s.heap H locs → fb_L B sa (mL j) ls lsr → W p l e R s m args below meth c H locs (fb_N h - n0) (fb_Z h - z0) Q (F0 m pc lsr (st.map (fb_cv B sa)))
/-! what a helper's answer tells -/
theorem fb_b2_of {f : Int32 → Int32 → Int32} {pc : Nat} {ls st : List Value} {h : fb_H} {z : Nat × List Value × List Value × fb_H} (e : fb_b2 f pc ls st h = some z) : ∃ x y r, st = .int y :: .int x :: r ∧ z = (pc + 1, ls, .int (f x y) :: r, h) := by
  unfold fb_b2 at e
  split at e
  · cases e; exact ⟨_, _, _, rfl, rfl⟩
  · cases e
theorem fb_l2_of {f : Int64 → Int64 → Value} {pc : Nat} {ls st : List Value} {h : fb_H} {z : Nat × List Value × List Value × fb_H} (e : fb_l2 f pc ls st h = some z) : ∃ x y r, st = .long y :: .long x :: r ∧ z = (pc + 1, ls, f x y :: r, h) := by
  unfold fb_l2 at e
  split at e
  · cases e; exact ⟨_, _, _, rfl, rfl⟩
  · cases e
theorem fb_ls_of {f : Int64 → Int32 → Int64} {pc : Nat} {ls st : List Value} {h : fb_H} {z : Nat × List Value × List Value × fb_H} (e : fb_ls f pc ls st h = some z) : ∃ x y r, st = .int y :: .long x :: r ∧ z = (pc + 1, ls, .long (f x y) :: r, h) := by
  unfold fb_ls at e
  split at e
  · cases e; exact ⟨_, _, _, rfl, rfl⟩
  · cases e
theorem fb_sto_of {i n pc : Nat} {ls st : List Value} {h : fb_H} {z : Nat × List Value × List Value × fb_H} (e : fb_sto i n pc ls st h = some z) : ∃ x r l, st = .int x :: r ∧ fb_p1 ls i (.int x) = some l ∧ z = (pc + n, l, r, h) := by
  unfold fb_sto at e
  split at e
  · obtain ⟨l, h1, h2⟩ := Option.map_eq_some_iff.mp e
    exact ⟨_, _, l, rfl, h1, h2.symm⟩
  · cases e
theorem fb_sta_of {i n pc : Nat} {ls st : List Value} {h : fb_H} {z : Nat × List Value × List Value × fb_H} (e : fb_sta i n pc ls st h = some z) : ∃ (x : Nat) (r : List Value) (l : List Value), st = .ref x :: r ∧ fb_p1 ls i (.ref x) = some l ∧ z = (pc + n, l, r, h) := by
  unfold fb_sta at e
  split at e
  · obtain ⟨l, h1, h2⟩ := Option.map_eq_some_iff.mp e
    exact ⟨_, _, l, rfl, h1, h2.symm⟩
  · cases e
theorem fb_ldi_of {i n pc : Nat} {ls st : List Value} {h : fb_H} {z : Nat × List Value × List Value × fb_H} (e : fb_ldi i n pc ls st h = some z) : ∃ x, ls[i]? = some (.int x) ∧ z = (pc + n, ls, .int x :: st, h) := by
  unfold fb_ldi at e
  split at e
  · rename_i x hx; cases e; exact ⟨_, hx, rfl⟩
  · cases e
theorem fb_lda_of {i n pc : Nat} {ls st : List Value} {h : fb_H} {z : Nat × List Value × List Value × fb_H} (e : fb_lda i n pc ls st h = some z) : ∃ (x : Nat), ls[i]? = some (.ref x) ∧ z = (pc + n, ls, .ref x :: st, h) := by
  unfold fb_lda at e
  split at e
  · rename_i x hx; cases e; exact ⟨_, hx, rfl⟩
  · cases e
theorem fb_ldl_of {i n pc : Nat} {ls st : List Value} {h : fb_H} {z : Nat × List Value × List Value × fb_H} (e : fb_ldl i n pc ls st h = some z) : ∃ x, ls[i]? = some (.long x) ∧ z = (pc + n, ls, .long x :: st, h) := by
  unfold fb_ldl at e
  split at e
  · rename_i x hx; cases e; exact ⟨_, hx, rfl⟩
  · cases e
theorem fb_j_of {pc : Nat} {off : Int} {ls st : List Value} {h : fb_H} {z : Nat × List Value × List Value × fb_H} (e : fb_j pc off ls st h = some z) : (pc : Int) + off = (fb_to pc off : Int) ∧ z = (fb_to pc off, ls, st, h) := by
  unfold fb_j at e
  split at e
  · rename_i hc; cases e; exact ⟨(Int.toNat_of_nonneg hc).symm, rfl⟩
  · cases e
theorem fb_in_of {x : Int32} {n : Nat} (h : fb_in x n = true) : vp_in x n := by
  unfold fb_in at h
  simp only [Bool.and_eq_true, Bool.not_eq_true', decide_eq_false_iff_not, decide_eq_true_eq] at h
  rintro (h1 | h1)
  · exact h.1 h1
  · omega
theorem fb_el_of {k1 k2 pc : Nat} {ls st : List Value} {h : fb_H} {z : Nat × List Value × List Value × fb_H} (e : fb_el k1 k2 pc ls st h = some z) : ∃ (x : Int32) (a : Nat) (r : List Value), st = .int x :: .ref a :: r ∧ ((fb_T h a).1 = k1 ∨ (fb_T h a).1 = k2) ∧ vp_in x (fb_T h a).2 ∧ z = (pc + 1, ls, .int (fb_I h a x.toNatClampNeg) :: r, h) := by
  unfold fb_el at e
  split at e
  · split at e
    · rename_i hc; cases e; exact ⟨_, _, _, rfl, hc.1, fb_in_of hc.2, rfl⟩
    · cases e
  · cases e
theorem fb_es_of {k pc : Nat} {f : Int32 → Int32} {ls st : List Value} {h : fb_H} {z : Nat × List Value × List Value × fb_H} (e : fb_es k f pc ls st h = some z) : ∃ (v x : Int32) (a : Nat) (r : List Value), st = .int v :: .int x :: .ref a :: r ∧ (fb_T h a).1 = k ∧ vp_in x (fb_T h a).2 ∧ z = (pc + 1, ls, r, fb_sI h a x.toNatClampNeg (f v)) := by
  unfold fb_es at e
  split at e
  · split at e
    · rename_i hc; cases e; exact ⟨_, _, _, _, rfl, hc.1, fb_in_of hc.2, rfl⟩
    · cases e
  · cases e
theorem fb_gf_of {f : Option (Nat × Nat)} {pc : Nat} {ls st : List Value} {h : fb_H} {z : Nat × List Value × List Value × fb_H} (e : fb_gf f pc ls st h = some z) : ∃ (a : Nat) (r : List Value) (c k : Nat), st = .ref a :: r ∧ f = some (c, k) ∧ (fb_T h a).1 = c ∧ ((cK c k = true ∧ ∃ (b : Nat), fb_R h a k = some b ∧ z = (pc + 3, ls, .ref b :: r, h)) ∨ (cK c k = false ∧ z = (pc + 3, ls, .int (fb_I h a k) :: r, h))) := by
  unfold fb_gf at e
  split at e
  · split at e
    · rename_i hc
      split at e
      · rename_i hk
        split at e
        · rename_i b hb; cases e; exact ⟨_, _, _, _, rfl, rfl, hc, Or.inl ⟨hk, _, hb, rfl⟩⟩
        · cases e
      · rename_i hk; cases e; exact ⟨_, _, _, _, rfl, rfl, hc, Or.inr ⟨by simpa using hk, rfl⟩⟩
    · cases e
  · cases e
theorem fb_pf_of {f : Option (Nat × Nat)} {j pc : Nat} {ls st : List Value} {h : fb_H} {z : Nat × List Value × List Value × fb_H} (e : fb_pf j f pc ls st h = some z) : ∃ (a : Nat) (r : List Value) (c k : Nat), f = some (c, k) ∧ (fb_T h a).1 = c ∧ ((∃ v, st = .int v :: .ref a :: r ∧ cK c k = false ∧ (cT c k).2.2.2 = false ∧ z = (pc + 3, ls, r, fb_sI h a k v)) ∨ (∃ (b : Nat), st = .ref b :: .ref a :: r ∧ cK c k = true ∧ b < fb_N h ∧ (cT c k).2.2.2 = true ∧ (mY j).name = "<init>" ∧ cX c = oN (mO j) ∧ z = (pc + 3, ls, r, fb_sR h a k (some b)))) := by
  unfold fb_pf at e
  split at e
  · split at e
    · rename_i hc; cases e; exact ⟨_, _, _, _, rfl, hc.1, Or.inl ⟨_, rfl, hc.2.1, hc.2.2, rfl⟩⟩
    · cases e
  · split at e
    · rename_i hc; cases e; exact ⟨_, _, _, _, rfl, hc.1, Or.inr ⟨_, rfl, hc.2.1, hc.2.2.1, hc.2.2.2.1, hc.2.2.2.2.1, hc.2.2.2.2.2, rfl⟩⟩
    · cases e
  · cases e
theorem fb_na_of {kd n : Nat} {x : Int32} {pc : Nat} {ls r : List Value} {h : fb_H} {z : Nat × List Value × List Value × fb_H} (e : fb_na kd n x pc ls r h = some z) : ¬ x < 0 ∧ x.toNatClampNeg ≤ 10000 ∧ fb_N h < 900000 ∧ z = (pc + n, ls, .ref (fb_N h) :: r, fb_nw h kd x.toNatClampNeg x.toNatClampNeg) := by
  unfold fb_na at e
  split at e
  · rename_i hc; cases e; exact ⟨hc.1, hc.2.1, hc.2.2, rfl⟩
  · cases e
/-! cells, one by one -/
section FBC
variable {D : va_G} {aC : Nat → ClassId} {B : Nat} {sa rl : Nat → Nat} {rf : Nat → Nat → Int32} {h : fb_H} {H : Heap} {a : Nat}
theorem fb_cell_o {c : Nat} (hk : (fb_T h a).1 = c) (hc : c < 10) : fb_cell aC B h a = .inr (c, (List.range (cN c)).map (fun k => if cK c k = true then va_rf ((fb_R h a k).map (fun a => B + a)) else .int (fb_I h a k))) := by
  unfold fb_cell
  rw [hk, if_pos hc]
theorem fb_cell_i {c : Nat} (hk : (fb_T h a).1 = c) (h1 : 10 ≤ c) (h2 : c < 13) : fb_cell aC B h a = .inl (aC c, (fb_T h a).2, .inl (fb_I h a)) := by
  unfold fb_cell
  rw [hk, if_neg (by omega), if_pos h2]
theorem fb_cell_q {c : Nat} (hk : (fb_T h a).1 = c) (h1 : 13 ≤ c) : fb_cell aC B h a = .inl (aC c, (fb_T h a).2, .inr (.inr (.inr (.inr (fun k => (fb_R h a k).map (fun a => B + a)))))) := by
  unfold fb_cell
  rw [hk, if_neg (by omega), if_neg (by omega)]
theorem fb_sI_N (h : fb_H) (i k : Nat) (v : Int32) : fb_N (fb_sI h i k v) = fb_N h := rfl
theorem fb_sI_Z (h : fb_H) (i k : Nat) (v : Int32) : fb_Z (fb_sI h i k v) = fb_Z h := rfl
theorem fb_sI_T (h : fb_H) (i k : Nat) (v : Int32) : fb_T (fb_sI h i k v) = fb_T h := rfl
theorem fb_sI_R (h : fb_H) (i k : Nat) (v : Int32) : fb_R (fb_sI h i k v) = fb_R h := rfl
theorem fb_sI_I (h : fb_H) (i k : Nat) (v : Int32) (a b : Nat) : fb_I (fb_sI h i k v) a b = if a = i ∧ b = k then v else fb_I h a b := rfl
theorem fb_sR_N (h : fb_H) (i k : Nat) (v : Option Nat) : fb_N (fb_sR h i k v) = fb_N h := rfl
theorem fb_sR_Z (h : fb_H) (i k : Nat) (v : Option Nat) : fb_Z (fb_sR h i k v) = fb_Z h := rfl
theorem fb_sR_T (h : fb_H) (i k : Nat) (v : Option Nat) : fb_T (fb_sR h i k v) = fb_T h := rfl
theorem fb_sR_I (h : fb_H) (i k : Nat) (v : Option Nat) : fb_I (fb_sR h i k v) = fb_I h := rfl
theorem fb_sR_R (h : fb_H) (i k : Nat) (v : Option Nat) (a b : Nat) : fb_R (fb_sR h i k v) a b = if a = i ∧ b = k then v else fb_R h a b := rfl
theorem fb_cell_eq {h h' : fb_H} {i : Nat} (h1 : fb_T h' i = fb_T h i) (h2 : ∀ k, fb_R h' i k = fb_R h i k) (h3 : ∀ k, fb_I h' i k = fb_I h i k) : fb_cell aC B h' i = fb_cell aC B h i := by
  unfold fb_cell
  have e2 : fb_R h' i = fb_R h i := funext h2
  have e3 : fb_I h' i = fb_I h i := funext h3
  rw [h1, e2, e3]
theorem fb_fields_I {c k : Nat} {v : Int32} (hk : k < cN c) (hK : cK c k = false) : ((List.range (cN c)).map (fun q => if cK c q = true then va_rf ((fb_R h a q).map (fun a => B + a)) else .int (fb_I h a q))).set k (.int v) = (List.range (cN c)).map (fun q => if cK c q = true then va_rf ((fb_R (fb_sI h a k v) a q).map (fun a => B + a)) else .int (fb_I (fb_sI h a k v) a q)) := by
  apply List.ext_getElem?
  intro q
  rw [List.getElem?_set]
  by_cases hq : k = q
  · subst hq
    rw [if_pos rfl, if_pos (by simpa using hk), List.getElem?_map, List.getElem?_range hk]
    simp [hK, fb_sI_I]
  · rw [if_neg hq]
    by_cases hl : q < cN c
    · rw [List.getElem?_map, List.getElem?_map, List.getElem?_range hl]
      simp [fb_sI_I, fb_sI_R, Ne.symm hq]
    · rw [List.getElem?_eq_none (by simpa using hl), List.getElem?_eq_none (by simpa using hl)]
theorem fb_fields_R {c k b : Nat} (hk : k < cN c) (hK : cK c k = true) : ((List.range (cN c)).map (fun q => if cK c q = true then va_rf ((fb_R h a q).map (fun a => B + a)) else .int (fb_I h a q))).set k (.ref (B + b)) = (List.range (cN c)).map (fun q => if cK c q = true then va_rf ((fb_R (fb_sR h a k (some b)) a q).map (fun a => B + a)) else .int (fb_I (fb_sR h a k (some b)) a q)) := by
  apply List.ext_getElem?
  intro q
  rw [List.getElem?_set]
  by_cases hq : k = q
  · subst hq
    rw [if_pos rfl, if_pos (by simpa using hk), List.getElem?_map, List.getElem?_range hk]
    simp [hK, fb_sR_R, va_rf]
  · rw [if_neg hq]
    by_cases hl : q < cN c
    · rw [List.getElem?_map, List.getElem?_map, List.getElem?_range hl]
      simp [fb_sR_I, fb_sR_R, Ne.symm hq]
    · rw [List.getElem?_eq_none (by simpa using hl), List.getElem?_eq_none (by simpa using hl)]
end FBC
