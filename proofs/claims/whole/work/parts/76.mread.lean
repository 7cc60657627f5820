/-! the pad as a whole -/
theorem dg_lt {T : List Nat} {p : Nat} (h : dg T p = true) : p < T.length := by
  by_cases q : p < T.length
  · exact q
  · have := dg_i.mp h
    rw [sgn_0 q] at this
    omega
theorem rdN_le {T : List Nat} {k : Nat} {x : Nat × Nat} (h : rdN T k = some x) : k < T.length ∧ x.2 ≤ T.length := by
  unfold rdN at h
  cases q : dg T k with
  | false => rw [q, if_neg (by decide)] at h; cases h
  | true =>
    have h1 := dg_lt q
    rw [q, if_pos rfl] at h
    split at h
    · rename_i g
      have := dg_lt g.2
      cases h
      exact ⟨h1, by dsimp only; omega⟩
    · cases h
      exact ⟨h1, by dsimp only; omega⟩
theorem sgn_lt2 {T : List Nat} {k c : Nat} (hc : 0 < c) (h : sgn T k = c) : k < T.length := by
  by_cases q : k < T.length
  · exact q
  · rw [sgn_0 q] at h; omega
theorem rdF_le {T : List Nat} {k : Nat} {x : Nat × Nat} (h : rdF T k = some x) : x.2 ≤ T.length := by
  unfold rdF at h
  split at h
  · rename_i g; have := sgn_lt2 (by omega) g; cases h; dsimp only; omega
  · split at h
    · rename_i g; have := sgn_lt2 (by omega) g; cases h; dsimp only; omega
    · split at h
      · rename_i g
        have := sgn_lt2 (by omega) g
        split at h
        · rename_i g2; have := sgn_lt2 (by omega) g2; cases h; dsimp only; omega
        · cases h; dsimp only; omega
      · cases h
theorem rdV_le {T : List Nat} {k : Nat} {v : (Nat × Nat × Nat) × Nat} (hv : rdV T k = .inr v) : k < v.2 ∧ v.2 ≤ T.length := by
  unfold rdV at hv
  cases q1 : rdN T k with
  | none => rw [q1] at hv; cases hv
  | some x =>
    rw [q1] at hv
    have i1 := rdN_in q1
    dsimp only at hv
    split at hv
    · cases q2 : rdN T (x.2 + 1) with
      | none => rw [q2] at hv; cases hv
      | some y =>
        rw [q2] at hv
        have i2 := rdN_in q2
        dsimp only at hv
        split at hv
        · cases q3 : rdN T (y.2 + 1) with
          | none => rw [q3] at hv; cases hv
          | some z =>
            rw [q3] at hv
            have i3 := rdN_in q3
            have i4 := rdN_le q3
            cases hv
            exact ⟨by dsimp only; omega, i4.2⟩
        · cases hv
    · cases hv
theorem rdE_le {T : List Nat} {b f e : Nat} {x : Ch × Nat} (h : rdE T b f e = .inr x) (he : e ≤ T.length) : e ≤ x.2 ∧ x.2 ≤ T.length ∧ x.1.1 = b ∧ x.1.2.1 = f := by
  unfold rdE at h
  split at h
  · cases hv : rdV T (e + 1) with
    | inl g => rw [hv] at h; cases h
    | inr v =>
      rw [hv] at h
      have := rdV_le hv
      cases h
      exact ⟨by dsimp only; omega, this.2, rfl, rfl⟩
  · cases h
    exact ⟨Nat.le_refl _, he, rfl, rfl⟩
theorem rdC_le {T : List Nat} {k : Nat} {x : Ch × Nat} (h : rdC T k = .inr x) : k < x.2 ∧ x.2 ≤ T.length ∧ ∃ e, rdN T k = some (x.1.1, e) := by
  unfold rdC at h
  cases q1 : rdN T k with
  | none => rw [q1] at h; cases h
  | some b =>
    rw [q1] at h
    have i1 := rdN_in q1
    have i2 := rdN_le q1
    dsimp only at h
    split at h
    · cases q2 : rdF T (b.2 + 1) with
      | none => rw [q2] at h; cases h
      | some f =>
        rw [q2] at h
        have j1 := rdF_in q2
        have j2 := rdF_le q2
        have := rdE_le h j2
        exact ⟨by omega, this.2.1, b.2, by rw [this.2.2.1]⟩
    · have := rdE_le h i2.2
      exact ⟨by omega, this.2.1, b.2, by rw [this.2.2.1]⟩
/-- from a place on, with what was read before -/
def rdB (T : List Nat) (g : Nat) (l : List Ch) (p : Nat) : Nat ⊕ List Ch := match rdC T p with
  | .inl w => .inl w
  | .inr x => rdA T g (l ++ [x.1]) x.2
theorem rdB_s {T : List Nat} {g p : Nat} {l : List Ch} {x : Ch × Nat} (h : rdC T p = .inr x) : rdB T (g + 1) l p = if x.2 < T.length then (if sgn T x.2 = 59 then rdB T g (l ++ [x.1]) (x.2 + 1) else .inl x.2) else .inr (l ++ [x.1]) := by
  unfold rdB
  rw [h]
  rfl
/-- where the chords stand -/
def Pl (T : List Nat) : List Ch → Nat → Prop
  | [], p => T.length < p
  | x :: l, p => ∃ e, rdC T p = .inr (x, e) ∧ Pl T l (e + 1)
theorem rdB_Pl {T : List Nat} : ∀ (g p : Nat) (l l' : List Ch), p ≤ T.length → T.length < p + 2 * g → rdB T g l p = .inr l' → ∃ m, l' = l ++ m ∧ Pl T m p
  | 0, p, l, l', h1, h2, _ => by omega
  | g + 1, p, l, l', h1, h2, h => by
    cases hc : rdC T p with
    | inl w =>
      unfold rdB at h
      rw [hc] at h
      cases h
    | inr x =>
      have hx := rdC_le hc
      rw [rdB_s hc] at h
      split at h
      · rename_i q1
        split at h
        · rename_i q2
          obtain ⟨m, m1, m2⟩ := rdB_Pl g (x.2 + 1) (l ++ [x.1]) l' (by omega) (by omega) h
          exact ⟨x.1 :: m, by rw [m1, List.append_assoc]; rfl, x.2, by rw [hc], m2⟩
        · cases h
      · rename_i q1
        cases h
        exact ⟨[x.1], rfl, x.2, by rw [hc], by show T.length < x.2 + 1; omega⟩
theorem rdT_B {T : List Nat} : rdT T = rdB T 80 [] 0 := by
  unfold rdT rdB
  cases rdC T 0 <;> rfl
/-- fault, as the model finds it -/
def mfA (T : List Nat) : Nat → Nat → Int
  | 0, _ => -6
  | f + 1, p => match rdC T p with
    | .inl g => (g : Int)
    | .inr x => if x.2 = T.length then -6 else if sgn T x.2 = 59 then mfA T f (x.2 + 1) else (x.2 : Int)
theorem mfA_B {T : List Nat} : ∀ (f g p : Nat) (l : List Ch), p ≤ T.length → T.length < p + 2 * f → T.length < p + 2 * g → mfA T f p = rdI (rdB T g l p)
  | 0, g, p, l, h1, h2, _ => by omega
  | f + 1, 0, p, l, h1, h2, h3 => by omega
  | f + 1, g + 1, p, l, h1, h2, h3 => by
    unfold mfA
    cases hc : rdC T p with
    | inl w =>
      unfold rdB
      rw [hc]
      rfl
    | inr x =>
      have hx := rdC_le hc
      rw [rdB_s hc]
      dsimp only
      by_cases q1 : x.2 = T.length
      · rw [if_pos q1, if_neg (by omega)]
        rfl
      · rw [if_neg q1, if_pos (show x.2 < T.length by omega)]
        by_cases q2 : sgn T x.2 = 59
        · rw [if_pos q2, if_pos q2]
          exact mfA_B f g (x.2 + 1) (l ++ [x.1]) (by omega) (by omega) (by omega)
        · rw [if_neg q2, if_neg q2]
          rfl
section MTY
variable {L : Nat} {σ : Nat → Nat} {I J K : Nat → Nat → Int32} {Q : Option Value → fb_H → Prop} {h : fb_H} {x y z : Int} {p c n : Nat} {T : List Nat} {A : AS} {S : Co}
theorem c177i (hY : RepY I T) (hT : TV T) : ∀ (f k p : Nat) (x3 : Value), x3.category = 1 → k + f = 80 → p ≤ T.length → ev_w 177 4 [.ref 102, .int (iI (p : Int)), .int (iI (k : Int)), x3] [] (hp L σ I) Q = Q (some (.int (iI (mfA T f p)))) (hp L σ I)
  | 0, k, p, x3, hx3, hk, hp' => by
    have : k = 80 := by omega
    subst this
    simp (disch := first | exact hx3 | exact cat_i _ | exact cat_r _ | omega) only [u177_4, u177_5, u177_7, u177_57, u177_59, hT_102, mfA, Int.cast_ofNat_Int, if_pos, if_neg, ↓reduceIte, false_and, and_false, false_or, or_false, ite_not, decide_true, decide_false, Bool.true_eq_false, Bool.false_eq_true, decide_eq_true_eq, decide_eq_false_iff_not, hp_I, hp_sI, hp_N, ev_k_s, ev_k_n, true_and, and_true, true_or, or_true, not_true_eq_false, not_false_eq_true, if_true, if_false, ite_self, Option.some.injEq, exists_eq_left', nb_0, nb_1, nb_z, zI_t, zI_f, zI_e, cat_i, cat_r, cat_n, iI_add, iI_sub, iI_mul, iI_neg, iI_lt, iI_le, iI_eq, iI_idx, iI_inT, iI_ne0, ite_false, ite_true, iN_0, iN_1, Int.reduceAdd, Int.reduceSub, Int.reduceMul, Int.reduceNeg, Int.reduceDiv, Int.reduceMod, Int.reduceEq, Int.reduceLT, Int.reduceLE, Int.reduceToNat, Nat.reduceAdd, Nat.reduceSub, Nat.reduceMul, Nat.reduceLT, Nat.reduceLeDiff, Nat.reduceEqDiff, Int.cast_ofNat_Int, Std.le_refl, and_self, Int.toNat_natCast, Int.toNat_zero, Nat.le_refl]
  | f + 1, k, p, x3, hx3, hk, hp' => by
    have h80 := hT.1
    have hl := hY.1
    have e176 := fun Q => c176 (L := L) (σ := σ) (Q := Q) hY hT (show p < 100 by omega)
    unfold rsC at e176
    unfold mfA
    rw [u177_4]
    cases hc : rdC T p with
    | inl g =>
      rw [hc] at e176
      have hg : g < 600 := rdC_f (by omega) hc
      simp (disch := first | exact hx3 | exact cat_i _ | exact cat_r _ | omega) only [u177_5, u177_7, u177_10, u177_11, u177_12, u177_15, u177_16, u177_17, u177_20, u177_21, u177_22, u177_23, u177_24, u177_25, u177_26, u177_29, u177_32, u177_34, u177_35, u177_36, u177_37, u177_40, u177_42, u177_45, u177_46, u177_47, u177_48, u177_49, u177_50, u177_51, u177_54, hT_102, e176, if_pos, if_neg, ↓reduceIte, false_and, and_false, false_or, or_false, ite_not, decide_true, decide_false, Bool.true_eq_false, Bool.false_eq_true, decide_eq_true_eq, decide_eq_false_iff_not, hp_I, hp_sI, hp_N, ev_k_s, ev_k_n, true_and, and_true, true_or, or_true, not_true_eq_false, not_false_eq_true, if_true, if_false, ite_self, Option.some.injEq, exists_eq_left', nb_0, nb_1, nb_z, zI_t, zI_f, zI_e, cat_i, cat_r, cat_n, iI_add, iI_sub, iI_mul, iI_neg, iI_lt, iI_le, iI_eq, iI_idx, iI_inT, iI_ne0, ite_false, ite_true, iN_0, iN_1, Int.reduceAdd, Int.reduceSub, Int.reduceMul, Int.reduceNeg, Int.reduceDiv, Int.reduceMod, Int.reduceEq, Int.reduceLT, Int.reduceLE, Int.reduceToNat, Nat.reduceAdd, Nat.reduceSub, Nat.reduceMul, Nat.reduceLT, Nat.reduceLeDiff, Nat.reduceEqDiff, Int.cast_ofNat_Int, Std.le_refl, and_self, Int.toNat_natCast, Int.toNat_zero, Nat.le_refl]
      exact Qi (by omega)
    | inr x =>
      rw [hc] at e176
      have hx := rdC_le hc
      dsimp only at e176 ⊢
      have e1 := fun Q => c170 (L := L) (σ := σ) (Q := Q) hY hT (show x.2 < 1000 by omega)
      have hb := sgM_in hT x.2
      obtain ⟨hb1, hb2⟩ := hb
      have he3 := sgM_eq (T := T) (p := x.2) (c := 59) (by omega)
      simp only [Int.cast_ofNat_Int] at he3
      by_cases q1 : x.2 = T.length
      · rw [if_pos q1]
        simp (disch := first | exact hx3 | exact cat_i _ | exact cat_r _ | omega) only [u177_5, u177_7, u177_10, u177_11, u177_12, u177_15, u177_16, u177_17, u177_20, u177_21, u177_22, u177_23, u177_24, u177_25, u177_26, u177_29, u177_32, u177_34, u177_35, u177_36, u177_37, u177_40, u177_42, u177_45, u177_46, u177_47, u177_48, u177_49, u177_50, u177_51, u177_54, hT_102, e176, hl, if_pos, if_neg, ↓reduceIte, false_and, and_false, false_or, or_false, ite_not, decide_true, decide_false, Bool.true_eq_false, Bool.false_eq_true, decide_eq_true_eq, decide_eq_false_iff_not, hp_I, hp_sI, hp_N, ev_k_s, ev_k_n, true_and, and_true, true_or, or_true, not_true_eq_false, not_false_eq_true, if_true, if_false, ite_self, Option.some.injEq, exists_eq_left', nb_0, nb_1, nb_z, zI_t, zI_f, zI_e, cat_i, cat_r, cat_n, iI_add, iI_sub, iI_mul, iI_neg, iI_lt, iI_le, iI_eq, iI_idx, iI_inT, iI_ne0, ite_false, ite_true, iN_0, iN_1, Int.reduceAdd, Int.reduceSub, Int.reduceMul, Int.reduceNeg, Int.reduceDiv, Int.reduceMod, Int.reduceEq, Int.reduceLT, Int.reduceLE, Int.reduceToNat, Nat.reduceAdd, Nat.reduceSub, Nat.reduceMul, Nat.reduceLT, Nat.reduceLeDiff, Nat.reduceEqDiff, Int.cast_ofNat_Int, Std.le_refl, and_self, Int.toNat_natCast, Int.toNat_zero, Nat.le_refl]
      · rw [if_neg q1]
        by_cases q2 : sgn T x.2 = 59
        · have q' : sgM T x.2 = 59 := by rw [he3]; exact q2
          rw [if_pos q2]
          refine Eq.trans ?_ (c177i hY hT f (k + 1) (x.2 + 1) (.int (iI (x.2 : Int))) (cat_i _) (by omega) (by omega))
          simp (disch := first | exact hx3 | exact cat_i _ | exact cat_r _ | omega) only [u177_5, u177_7, u177_10, u177_11, u177_12, u177_15, u177_16, u177_17, u177_20, u177_21, u177_22, u177_23, u177_24, u177_25, u177_26, u177_29, u177_32, u177_34, u177_35, u177_36, u177_37, u177_40, u177_42, u177_45, u177_46, u177_47, u177_48, u177_49, u177_50, u177_51, u177_54, hT_102, e176, e1, q', hl, if_pos, if_neg, ↓reduceIte, false_and, and_false, false_or, or_false, ite_not, decide_true, decide_false, Bool.true_eq_false, Bool.false_eq_true, decide_eq_true_eq, decide_eq_false_iff_not, hp_I, hp_sI, hp_N, ev_k_s, ev_k_n, true_and, and_true, true_or, or_true, not_true_eq_false, not_false_eq_true, if_true, if_false, ite_self, Option.some.injEq, exists_eq_left', nb_0, nb_1, nb_z, zI_t, zI_f, zI_e, cat_i, cat_r, cat_n, iI_add, iI_sub, iI_mul, iI_neg, iI_lt, iI_le, iI_eq, iI_idx, iI_inT, iI_ne0, ite_false, ite_true, iN_0, iN_1, Int.reduceAdd, Int.reduceSub, Int.reduceMul, Int.reduceNeg, Int.reduceDiv, Int.reduceMod, Int.reduceEq, Int.reduceLT, Int.reduceLE, Int.reduceToNat, Nat.reduceAdd, Nat.reduceSub, Nat.reduceMul, Nat.reduceLT, Nat.reduceLeDiff, Nat.reduceEqDiff, Int.cast_ofNat_Int, Std.le_refl, and_self, Int.toNat_natCast, Int.toNat_zero, Nat.le_refl]
          all_goals rfl
        · have q' : ¬ sgM T x.2 = 59 := by rw [he3]; exact q2
          rw [if_neg q2]
          simp (disch := first | exact hx3 | exact cat_i _ | exact cat_r _ | omega) only [u177_5, u177_7, u177_10, u177_11, u177_12, u177_15, u177_16, u177_17, u177_20, u177_21, u177_22, u177_23, u177_24, u177_25, u177_26, u177_29, u177_32, u177_34, u177_35, u177_36, u177_37, u177_40, u177_42, u177_45, u177_46, u177_47, u177_48, u177_49, u177_50, u177_51, u177_54, hT_102, e176, e1, hl, if_pos, if_neg, ↓reduceIte, false_and, and_false, false_or, or_false, ite_not, decide_true, decide_false, Bool.true_eq_false, Bool.false_eq_true, decide_eq_true_eq, decide_eq_false_iff_not, hp_I, hp_sI, hp_N, ev_k_s, ev_k_n, true_and, and_true, true_or, or_true, not_true_eq_false, not_false_eq_true, if_true, if_false, ite_self, Option.some.injEq, exists_eq_left', nb_0, nb_1, nb_z, zI_t, zI_f, zI_e, cat_i, cat_r, cat_n, iI_add, iI_sub, iI_mul, iI_neg, iI_lt, iI_le, iI_eq, iI_idx, iI_inT, iI_ne0, ite_false, ite_true, iN_0, iN_1, Int.reduceAdd, Int.reduceSub, Int.reduceMul, Int.reduceNeg, Int.reduceDiv, Int.reduceMod, Int.reduceEq, Int.reduceLT, Int.reduceLE, Int.reduceToNat, Nat.reduceAdd, Nat.reduceSub, Nat.reduceMul, Nat.reduceLT, Nat.reduceLeDiff, Nat.reduceEqDiff, Int.cast_ofNat_Int, Std.le_refl, and_self, Int.toNat_natCast, Int.toNat_zero, Nat.le_refl]
theorem c177 (hY : RepY I T) (hT : TV T) : ev_c 177 [.ref 102] (hp L σ I) Q = Q (some (.int (iI (rdI (rdT T))))) (hp L σ I) := by
  have h80 := hT.1
  rw [rdT_B, ← mfA_B 80 80 0 [] (by omega) (by omega) (by omega)]
  have := c177i (L := L) (σ := σ) (Q := Q) hY hT 80 0 0 .null rfl rfl (by omega)
  refine Eq.trans ?_ this
  simp (disch := first | exact cat_i _ | exact cat_r _ | exact cat_n | omega) only [u177_0, u177_1, u177_2, u177_3, e177, if_pos, if_neg, ↓reduceIte, false_and, and_false, false_or, or_false, ite_not, decide_true, decide_false, Bool.true_eq_false, Bool.false_eq_true, decide_eq_true_eq, decide_eq_false_iff_not, hp_I, hp_sI, hp_N, ev_k_s, ev_k_n, true_and, and_true, true_or, or_true, not_true_eq_false, not_false_eq_true, if_true, if_false, ite_self, Option.some.injEq, exists_eq_left', nb_0, nb_1, nb_z, zI_t, zI_f, zI_e, cat_i, cat_r, cat_n, iI_add, iI_sub, iI_mul, iI_neg, iI_lt, iI_le, iI_eq, iI_idx, iI_inT, iI_ne0, ite_false, ite_true, iN_0, iN_1, Int.reduceAdd, Int.reduceSub, Int.reduceMul, Int.reduceNeg, Int.reduceDiv, Int.reduceMod, Int.reduceEq, Int.reduceLT, Int.reduceLE, Int.reduceToNat, Nat.reduceAdd, Nat.reduceSub, Nat.reduceMul, Nat.reduceLT, Nat.reduceLeDiff, Nat.reduceEqDiff, Int.cast_ofNat_Int, Std.le_refl, and_self, Int.toNat_natCast, Int.toNat_zero, Nat.le_refl]
  all_goals rfl
theorem m177 (hM : RepM I A) (hA : AV A) : MR L σ I 177 [.ref 102] (rdI (rdT A.2.2.2), A) := MR_id hM fun Q => c177 hM.2.2.2 hA.2.2.2
/-- noteAt -/
theorem c178 {b e : Nat} (hY : RepY I T) (hT : TV T) (hr : rdN T p = some (b, e)) : ev_c 178 [.ref 102, .int (iI (p : Int))] (hp L σ I) Q = Q (some (.int (iI (b : Int)))) (hp L σ I) := by
  have h80 := hT.1
  have hle := rdN_le hr
  have n1 := fun Q => c172 (L := L) (σ := σ) (Q := Q) hY hT (show p < 900 by omega)
  have d1 := fun Q => c171 (L := L) (σ := σ) (Q := Q) hY hT (show p < 1000 by omega)
  have d2 := fun Q => c171 (L := L) (σ := σ) (Q := Q) hY hT (p := p + 1) (by omega)
  have ep : ((p + 1 : Nat) : Int) = (p : Int) + 1 := by omega
  rw [ep] at d2
  unfold rsN at n1
  rw [hr] at n1
  unfold dgM at d1 d2
  unfold rdN at hr
  cases q : dg T p with
  | false => rw [q, if_neg (by decide)] at hr; cases hr
  | true =>
    have q' := dg_i.mp q
    rw [q, if_pos rfl] at d1 hr
    split at hr
    · rename_i g
      have g' := dg_i.mp g.2
      rw [g.2, if_pos rfl] at d2
      cases hr
      simp (disch := first | exact cat_i _ | exact cat_r _ | exact cat_n | omega) only [e178, u178_0, u178_1, u178_2, u178_5, u178_6, u178_7, u178_8, u178_11, u178_12, u178_13, u178_16, u178_19, u178_21, u178_22, u178_23, u178_26, u178_27, u178_28, u178_29, u178_30, u178_31, u178_34, u178_35, hT_102, n1, d1, d2, if_pos, if_neg, ↓reduceIte, false_and, and_false, false_or, or_false, ite_not, decide_true, decide_false, Bool.true_eq_false, Bool.false_eq_true, decide_eq_true_eq, decide_eq_false_iff_not, hp_I, hp_sI, hp_N, ev_k_s, ev_k_n, true_and, and_true, true_or, or_true, not_true_eq_false, not_false_eq_true, if_true, if_false, ite_self, Option.some.injEq, exists_eq_left', nb_0, nb_1, nb_z, zI_t, zI_f, zI_e, cat_i, cat_r, cat_n, iI_add, iI_sub, iI_mul, iI_neg, iI_lt, iI_le, iI_eq, iI_idx, iI_inT, iI_ne0, ite_false, ite_true, iN_0, iN_1, Int.reduceAdd, Int.reduceSub, Int.reduceMul, Int.reduceNeg, Int.reduceDiv, Int.reduceMod, Int.reduceEq, Int.reduceLT, Int.reduceLE, Int.reduceToNat, Nat.reduceAdd, Nat.reduceSub, Nat.reduceMul, Nat.reduceLT, Nat.reduceLeDiff, Nat.reduceEqDiff, Int.cast_ofNat_Int, Std.le_refl, and_self, Int.toNat_natCast, Int.toNat_zero, Nat.le_refl]
      exact Qi (by omega)
    · rename_i g
      cases hr
      simp (disch := first | exact cat_i _ | exact cat_r _ | exact cat_n | omega) only [e178, u178_0, u178_1, u178_2, u178_5, u178_6, u178_7, u178_8, u178_11, u178_12, u178_13, u178_16, u178_19, u178_21, u178_22, u178_23, u178_26, u178_27, u178_28, u178_29, u178_30, u178_31, u178_34, u178_35, hT_102, n1, d1, if_pos, if_neg, ↓reduceIte, false_and, and_false, false_or, or_false, ite_not, decide_true, decide_false, Bool.true_eq_false, Bool.false_eq_true, decide_eq_true_eq, decide_eq_false_iff_not, hp_I, hp_sI, hp_N, ev_k_s, ev_k_n, true_and, and_true, true_or, or_true, not_true_eq_false, not_false_eq_true, if_true, if_false, ite_self, Option.some.injEq, exists_eq_left', nb_0, nb_1, nb_z, zI_t, zI_f, zI_e, cat_i, cat_r, cat_n, iI_add, iI_sub, iI_mul, iI_neg, iI_lt, iI_le, iI_eq, iI_idx, iI_inT, iI_ne0, ite_false, ite_true, iN_0, iN_1, Int.reduceAdd, Int.reduceSub, Int.reduceMul, Int.reduceNeg, Int.reduceDiv, Int.reduceMod, Int.reduceEq, Int.reduceLT, Int.reduceLE, Int.reduceToNat, Nat.reduceAdd, Nat.reduceSub, Nat.reduceMul, Nat.reduceLT, Nat.reduceLeDiff, Nat.reduceEqDiff, Int.cast_ofNat_Int, Std.le_refl, and_self, Int.toNat_natCast, Int.toNat_zero, Nat.le_refl]
      exact Qi (by omega)
/-- chordsOfPad -/
def bad (what : Nat) (x : Ch) : Nat := if what = 0 ∨ ¬ (36 ≤ x.1 ∧ x.1 ≤ 59) then 1 else 0
def bads (what : Nat) (l : List Ch) (n : Nat) : Nat := l.foldl (fun a x => a + bad what x) n
theorem c179i {w : Nat} (hY : RepY I T) (hT : TV T) (hw : w = 0 ∨ w = 1) : ∀ (l : List Ch) (p n : Nat), Pl T l p → p ≤ T.length + 1 → n < 1000 → l.length + n < 1000 → ev_w 179 4 [.ref 102, .int (iI (w : Int)), .int (iI (n : Int)), .int (iI (p : Int))] [] (hp L σ I) Q = Q (some (.int (iI ((bads w l n : Nat) : Int)))) (hp L σ I)
  | [], p, n, h, hp', hn, _ => by
    have h80 := hT.1
    have hl := hY.1
    have hpl : T.length < p := h
    simp (disch := first | exact cat_i _ | exact cat_r _ | exact cat_n | omega) only [u179_4, u179_5, u179_6, u179_9, u179_50, u179_51, hT_102, hl, if_pos, if_neg, ↓reduceIte, false_and, and_false, false_or, or_false, ite_not, decide_true, decide_false, Bool.true_eq_false, Bool.false_eq_true, decide_eq_true_eq, decide_eq_false_iff_not, hp_I, hp_sI, hp_N, ev_k_s, ev_k_n, true_and, and_true, true_or, or_true, not_true_eq_false, not_false_eq_true, if_true, if_false, ite_self, Option.some.injEq, exists_eq_left', nb_0, nb_1, nb_z, zI_t, zI_f, zI_e, cat_i, cat_r, cat_n, iI_add, iI_sub, iI_mul, iI_neg, iI_lt, iI_le, iI_eq, iI_idx, iI_inT, iI_ne0, ite_false, ite_true, iN_0, iN_1, Int.reduceAdd, Int.reduceSub, Int.reduceMul, Int.reduceNeg, Int.reduceDiv, Int.reduceMod, Int.reduceEq, Int.reduceLT, Int.reduceLE, Int.reduceToNat, Nat.reduceAdd, Nat.reduceSub, Nat.reduceMul, Nat.reduceLT, Nat.reduceLeDiff, Nat.reduceEqDiff, Int.cast_ofNat_Int, Std.le_refl, and_self, Int.toNat_natCast, Int.toNat_zero, Nat.le_refl]
    all_goals rfl
  | x :: l, p, n, h, hp', hn, hn2 => by
    have h80 := hT.1
    have hl := hY.1
    obtain ⟨e, h1, h2⟩ := h
    have hx := rdC_le h1
    obtain ⟨hx1, hx2, e0, hx3⟩ := hx
    have hle := rdN_le hx3
    have hin := rdN_in hx3
    dsimp only at hx1 hx2 hx3 hin
    have hn3 : l.length + 1 + n < 1000 := hn2
    have e178 := fun Q => c178 (L := L) (σ := σ) (Q := Q) hY hT hx3
    have e176 := fun Q => c176 (L := L) (σ := σ) (Q := Q) hY hT (show p < 100 by omega)
    unfold rsC at e176
    rw [h1] at e176
    dsimp only at e176
    have hbd : bad w x ≤ 1 := by unfold bad; split <;> omega
    have ih := c179i hY hT hw l (e + 1) (n + bad w x) h2 (by omega) (by omega) (by omega)
    refine Eq.trans ?_ ih
    clear ih
    unfold bad
    rw [u179_4]
    rcases hw with rfl | rfl
    · rw [if_pos (Or.inl rfl)]
      simp only [Int.cast_ofNat_Int]
      simp (disch := first | exact cat_i _ | exact cat_r _ | exact cat_n | omega) only [u179_5, u179_6, u179_9, u179_12, u179_13, u179_14, u179_17, u179_18, u179_19, u179_22, u179_24, u179_26, u179_29, u179_32, u179_33, u179_36, u179_37, u179_38, u179_39, u179_40, u179_41, u179_44, u179_45, u179_46, u179_47, hT_102, hl, e176, if_pos, if_neg, ↓reduceIte, false_and, and_false, false_or, or_false, ite_not, decide_true, decide_false, Bool.true_eq_false, Bool.false_eq_true, decide_eq_true_eq, decide_eq_false_iff_not, hp_I, hp_sI, hp_N, ev_k_s, ev_k_n, true_and, and_true, true_or, or_true, not_true_eq_false, not_false_eq_true, if_true, if_false, ite_self, Option.some.injEq, exists_eq_left', nb_0, nb_1, nb_z, zI_t, zI_f, zI_e, cat_i, cat_r, cat_n, iI_add, iI_sub, iI_mul, iI_neg, iI_lt, iI_le, iI_eq, iI_idx, iI_inT, iI_ne0, ite_false, ite_true, iN_0, iN_1, Int.reduceAdd, Int.reduceSub, Int.reduceMul, Int.reduceNeg, Int.reduceDiv, Int.reduceMod, Int.reduceEq, Int.reduceLT, Int.reduceLE, Int.reduceToNat, Nat.reduceAdd, Nat.reduceSub, Nat.reduceMul, Nat.reduceLT, Nat.reduceLeDiff, Nat.reduceEqDiff, Int.cast_ofNat_Int, Std.le_refl, and_self, Int.toNat_natCast, Int.toNat_zero, Nat.le_refl]
      all_goals rfl
    · simp only [Int.cast_ofNat_Int]
      by_cases q : 36 ≤ x.1 ∧ x.1 ≤ 59
      · have q' : 36 ≤ (x.1 : Int) ∧ (x.1 : Int) ≤ 59 := by omega
        rw [if_neg (by omega)]
        simp (disch := first | exact cat_i _ | exact cat_r _ | exact cat_n | omega) only [u179_5, u179_6, u179_9, u179_12, u179_13, u179_14, u179_17, u179_18, u179_19, u179_22, u179_24, u179_26, u179_29, u179_32, u179_33, u179_36, u179_37, u179_38, u179_39, u179_40, u179_41, u179_44, u179_45, u179_46, u179_47, hT_102, hl, e178, e176, c113, zI_dt q', if_pos, if_neg, ↓reduceIte, false_and, and_false, false_or, or_false, ite_not, decide_true, decide_false, Bool.true_eq_false, Bool.false_eq_true, decide_eq_true_eq, decide_eq_false_iff_not, hp_I, hp_sI, hp_N, ev_k_s, ev_k_n, true_and, and_true, true_or, or_true, not_true_eq_false, not_false_eq_true, if_true, if_false, ite_self, Option.some.injEq, exists_eq_left', nb_0, nb_1, nb_z, zI_t, zI_f, zI_e, cat_i, cat_r, cat_n, iI_add, iI_sub, iI_mul, iI_neg, iI_lt, iI_le, iI_eq, iI_idx, iI_inT, iI_ne0, ite_false, ite_true, iN_0, iN_1, Int.reduceAdd, Int.reduceSub, Int.reduceMul, Int.reduceNeg, Int.reduceDiv, Int.reduceMod, Int.reduceEq, Int.reduceLT, Int.reduceLE, Int.reduceToNat, Nat.reduceAdd, Nat.reduceSub, Nat.reduceMul, Nat.reduceLT, Nat.reduceLeDiff, Nat.reduceEqDiff, Int.cast_ofNat_Int, Std.le_refl, and_self, Int.toNat_natCast, Int.toNat_zero, Nat.le_refl]
        all_goals rfl
      · have q' : ¬ (36 ≤ (x.1 : Int) ∧ (x.1 : Int) ≤ 59) := by omega
        rw [if_pos (Or.inr q)]
        simp (disch := first | exact cat_i _ | exact cat_r _ | exact cat_n | omega) only [u179_5, u179_6, u179_9, u179_12, u179_13, u179_14, u179_17, u179_18, u179_19, u179_22, u179_24, u179_26, u179_29, u179_32, u179_33, u179_36, u179_37, u179_38, u179_39, u179_40, u179_41, u179_44, u179_45, u179_46, u179_47, hT_102, hl, e178, e176, c113, zI_df q', if_pos, if_neg, ↓reduceIte, false_and, and_false, false_or, or_false, ite_not, decide_true, decide_false, Bool.true_eq_false, Bool.false_eq_true, decide_eq_true_eq, decide_eq_false_iff_not, hp_I, hp_sI, hp_N, ev_k_s, ev_k_n, true_and, and_true, true_or, or_true, not_true_eq_false, not_false_eq_true, if_true, if_false, ite_self, Option.some.injEq, exists_eq_left', nb_0, nb_1, nb_z, zI_t, zI_f, zI_e, cat_i, cat_r, cat_n, iI_add, iI_sub, iI_mul, iI_neg, iI_lt, iI_le, iI_eq, iI_idx, iI_inT, iI_ne0, ite_false, ite_true, iN_0, iN_1, Int.reduceAdd, Int.reduceSub, Int.reduceMul, Int.reduceNeg, Int.reduceDiv, Int.reduceMod, Int.reduceEq, Int.reduceLT, Int.reduceLE, Int.reduceToNat, Nat.reduceAdd, Nat.reduceSub, Nat.reduceMul, Nat.reduceLT, Nat.reduceLeDiff, Nat.reduceEqDiff, Int.cast_ofNat_Int, Std.le_refl, and_self, Int.toNat_natCast, Int.toNat_zero, Nat.le_refl]
        all_goals rfl
theorem c179 {w : Nat} {l : List Ch} (hY : RepY I T) (hT : TV T) (hw : w = 0 ∨ w = 1) (hl : Pl T l 0) (hl2 : l.length < 900) : ev_c 179 [.ref 102, .int (iI (w : Int))] (hp L σ I) Q = Q (some (.int (iI ((bads w l 0 : Nat) : Int)))) (hp L σ I) := by
  refine Eq.trans ?_ (c179i (L := L) (σ := σ) (Q := Q) hY hT hw l 0 0 hl (by omega) (by omega) (by omega))
  simp (disch := first | exact cat_i _ | exact cat_r _ | exact cat_n | omega) only [u179_0, u179_1, u179_2, u179_3, e179, if_pos, if_neg, ↓reduceIte, false_and, and_false, false_or, or_false, ite_not, decide_true, decide_false, Bool.true_eq_false, Bool.false_eq_true, decide_eq_true_eq, decide_eq_false_iff_not, hp_I, hp_sI, hp_N, ev_k_s, ev_k_n, true_and, and_true, true_or, or_true, not_true_eq_false, not_false_eq_true, if_true, if_false, ite_self, Option.some.injEq, exists_eq_left', nb_0, nb_1, nb_z, zI_t, zI_f, zI_e, cat_i, cat_r, cat_n, iI_add, iI_sub, iI_mul, iI_neg, iI_lt, iI_le, iI_eq, iI_idx, iI_inT, iI_ne0, ite_false, ite_true, iN_0, iN_1, Int.reduceAdd, Int.reduceSub, Int.reduceMul, Int.reduceNeg, Int.reduceDiv, Int.reduceMod, Int.reduceEq, Int.reduceLT, Int.reduceLE, Int.reduceToNat, Nat.reduceAdd, Nat.reduceSub, Nat.reduceMul, Nat.reduceLT, Nat.reduceLeDiff, Nat.reduceEqDiff, Int.cast_ofNat_Int, Std.le_refl, and_self, Int.toNat_natCast, Int.toNat_zero, Nat.le_refl]
  all_goals rfl
end MTY
theorem bads_0 : ∀ (l : List Ch) (n : Nat), bads 0 l n = n + l.length
  | [], n => rfl
  | x :: l, n => by
    show bads 0 l (n + bad 0 x) = _
    rw [bads_0 l]
    unfold bad
    rw [if_pos (Or.inl rfl), List.length_cons]
    omega
theorem bads_1 : ∀ (l : List Ch) (n : Nat), n ≤ bads 1 l n ∧ (bads 1 l n = n ↔ ∀ x, x ∈ l → 36 ≤ x.1 ∧ x.1 ≤ 59)
  | [], n => ⟨Nat.le_refl _, fun _ x hx => absurd hx List.not_mem_nil, fun _ => rfl⟩
  | x :: l, n => by
    have e : bads 1 (x :: l) n = bads 1 l (n + bad 1 x) := rfl
    rw [e]
    obtain ⟨h1, h2⟩ := bads_1 l (n + bad 1 x)
    by_cases q : 36 ≤ x.1 ∧ x.1 ≤ 59
    · have hb : bad 1 x = 0 := by unfold bad; rw [if_neg (by omega)]
      rw [hb, Nat.add_zero] at h1 h2 ⊢
      refine ⟨h1, fun a y hy => ?_, fun a => h2.mpr fun y hy => a y (List.mem_cons_of_mem _ hy)⟩
      rcases List.mem_cons.mp hy with r | r
      · rw [r]; exact q
      · exact h2.mp a y r
    · have hb : bad 1 x = 1 := by unfold bad; rw [if_pos (Or.inr q)]
      rw [hb] at h1 h2 ⊢
      refine ⟨by omega, fun a => by omega, fun a => absurd (a x (List.mem_cons_self ..)) q⟩
theorem okB_i (l : List Ch) : okB l = true ↔ ∀ x, x ∈ l → 36 ≤ x.1 ∧ x.1 ≤ 59 := by
  constructor
  · intro h x hx
    obtain ⟨j, hj, e⟩ := List.getElem_of_mem hx
    have := okB_k h hj
    rw [List.getD_eq_getElem?_getD, List.getElem?_eq_getElem hj, Option.getD_some, e] at this
    exact this
  · intro h
    unfold okB
    rw [List.all_eq_true]
    intro j hj
    rw [List.mem_range] at hj
    rw [decide_eq_true_eq, List.getD_eq_getElem?_getD, List.getElem?_eq_getElem hj, Option.getD_some]
    exact h _ (List.getElem_mem hj)
