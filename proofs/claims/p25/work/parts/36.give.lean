def pth (S : Co) : Nat → Option Nat
  | 0 => (lst S).2
  | c + 1 => match pth S c with
    | some r => (tgc S c r).2
    | none => none
def rel (S : Co) : Nat → Co
  | 0 => S
  | c + 1 => match pth S c with
    | some r => gv (rel S c) c (some ((chl S c).getD r (0, 0, 0)))
    | none => rel S c
section GI
variable {Q : Option Value → fb_H → Prop} {n : Nat} {L t y : Nat} {σ : Nat → Nat} {I : Nat → Nat → Int32} {S : Co} {l : List (Nat × Nat × Nat)}
theorem wgh_q (S : Co) (c : Nat) (v : Nat × Nat × Nat) (g : Nat → Nat) : ((wgh S c v g).2 = none → (wgh S c v g).1 = 1000000) ∧ ∀ q, (wgh S c v g).2 = some q → q < (chl S (c + 1)).length ∧ g q < 1000000 := by
  have h := (lf0 (fun _ _ => True) (wst S c v g) (fun a k => a.1 ≤ 1000000 ∧ (a.2 = none → a.1 = 1000000) ∧ ∀ q, a.2 = some q → q < k ∧ g q < 1000000) (chl S (c + 1)).length (fun a k _ h => ⟨⟨wst_le S c v g a k h.1, ?_⟩, rfl⟩) (1000000, none) ⟨Nat.le_refl _, fun _ => rfl, fun q h => by cases h⟩).2
  · exact h.2
  · obtain ⟨h0, h1, h2⟩ := h
    unfold wst
    split
    · rename_i w
      refine ⟨fun e => (by cases e), fun q e => ?_⟩
      cases e
      exact ⟨by omega, by omega⟩
    · exact ⟨h1, fun q e => ⟨by have := (h2 q e).1; omega, (h2 q e).2⟩⟩
theorem lst_q (S : Co) : ((lst S).2 = none → (lst S).1 = 1000000) ∧ ∀ q, (lst S).2 = some q → q < (chl S 0).length ∧ (tgc S 0 q).1 < 1000000 := by
  have h := (lf0 (fun _ _ => True) (lsf S) (fun a k => a.1 ≤ 1000000 ∧ (a.2 = none → a.1 = 1000000) ∧ ∀ q, a.2 = some q → q < k ∧ (tgc S 0 q).1 < 1000000) (chl S 0).length (fun a k _ h => ⟨?_, rfl⟩) (1000000, none) ⟨Nat.le_refl _, fun _ => rfl, fun q h => by cases h⟩).2
  · exact h.2
  · obtain ⟨h0, h1, h2⟩ := h
    unfold lsf
    split
    · rename_i w
      refine ⟨by dsimp only; omega, fun e => (by cases e), fun q e => ?_⟩
      cases e
      exact ⟨by omega, by omega⟩
    · exact ⟨h0, h1, fun q e => ⟨by have := (h2 q e).1; omega, (h2 q e).2⟩⟩
theorem pth_q {S : Co} (h : (lst S).1 < 1000000) : ∀ c, c < S.2.length → ∃ r, pth S c = some r ∧ r < (chl S c).length ∧ (tgc S c r).1 < 1000000
  | 0, _ => by
    cases e : (lst S).2 with
    | none => have := (lst_q S).1 e; omega
    | some q => exact ⟨q, e, (lst_q S).2 q e⟩
  | c + 1, hc => by
    obtain ⟨r, e1, e2, e3⟩ := pth_q h c (by omega)
    rw [tgc_step hc] at e3
    have hq := wgh_q S c ((chl S c).getD r (0, 0, 0)) (fun q => (tgc S (c + 1) q).1)
    cases e : (wgh S c ((chl S c).getD r (0, 0, 0)) (fun q => (tgc S (c + 1) q).1)).2 with
    | none => have := hq.1 e; omega
    | some q =>
      refine ⟨q, ?_, hq.2 q e⟩
      show (match pth S c with
        | some r => (tgc S c r).2
        | none => none) = some q
      rw [e1]
      show (tgc S c r).2 = some q
      rw [tgc_step hc]
      exact e
theorem rel_s {S : Co} (h : (lst S).1 < 1000000) {c : Nat} (hc : c < S.2.length) : ∃ r, pth S c = some r ∧ r < (chl S c).length ∧ rel S (c + 1) = gv (rel S c) c (some ((chl S c).getD r (0, 0, 0))) := by
  obtain ⟨r, e1, e2, _⟩ := pth_q h c hc
  refine ⟨r, e1, e2, ?_⟩
  show (match pth S c with
    | some r => gv (rel S c) c (some ((chl S c).getD r (0, 0, 0)))
    | none => rel S c) = _
  rw [e1]
theorem rel_len (S : Co) : ∀ c, (rel S c).2.length = S.2.length
  | 0 => rfl
  | c + 1 => by
    show (match pth S c with
      | some r => gv (rel S c) c (some ((chl S c).getD r (0, 0, 0)))
      | none => rel S c).2.length = _
    cases pth S c with
    | none => exact rel_len S c
    | some r => exact len_gv.trans (rel_len S c)
theorem c53 (ht : isp t) (hr : RepP I t S) (hv : VS S) (h : (lst S).1 < 1000000) (hw : ∀ c, c < S.2.length → RepV I (82 + 2 * c) (chl S c)) (hg : ∀ c, c < S.2.length → RowC S I c (chl S c).length) (hf : ∀ q, (lst S).2 = some q → I 58 3 = iI (q : Int)) (h0 : 0 < S.2.length) : ∃ J, (∀ Q : Option Value → fb_H → Prop, ev_c 53 [.ref 58, .ref t] (hp L σ I) Q = Q none (hp L σ J)) ∧ RepP J t (rel S S.2.length) ∧ VS (rel S S.2.length) ∧ Oth I J t := by
  have hl := hv.2.2.2.1
  have ht2 := isp_lt ht
  obtain ⟨r0, hp0, hr0, _⟩ := pth_q h 0 h0
  obtain ⟨⟨J, x⟩, ⟨p1, p2, p3, p4⟩, e⟩ := lx (fun Q (a : (Nat → Nat → Int32) × Int32) (k : Nat) => ev_w 53 7 [.ref 58, .ref t, .int a.2, .int (iI (k : Int))] [] (hp L σ a.1) Q) (fun a k => RepP a.1 t (rel S k) ∧ VS (rel S k) ∧ Oth I a.1 t ∧ (k < S.2.length → ∀ r, pth S k = some r → a.2 = iI (r : Int))) S.2.length (fun a k hk hp' => by
    obtain ⟨A, x⟩ := a
    obtain ⟨p1, p2, p3, p4⟩ := hp'
    dsimp only at p1 p2 p3 p4
    obtain ⟨r, e1, e2, e3⟩ := rel_s h hk
    have hx := p4 hk r e1
    subst hx
    have hk10 : k < 10 := by omega
    have hwA : RepV A (82 + 2 * k) (chl S k) := RepV_o (hw k hk) fun q => ⟨p3 _ _ (by omega), p3 _ _ (by omega)⟩
    have h20 := hwA.2.1
    have hvv := RepV_in hwA e2
    obtain ⟨B, b1, b2, b3⟩ := c44 (L := L) (σ := σ) ht p1 p2 (n := k) (by rw [rel_len]; exact hk) (some ((chl S k).getD r (0, 0, 0)))
    have hOB : Oth I B t := fun i q hi => (b3 i q hi).trans (p3 i q hi)
    have e71 := fun Q => c71 (L := L) (σ := σ) (Q := Q) (isv_w hk10) hwA
    have e72 := fun Q => c72 (L := L) (σ := σ) (Q := Q) (isv_w hk10) hwA e2
    have hT := hT_v (L := L) (σ := σ) (I := A) (isv_w hk10)
    have e25 := fun Q => c25 (L := L) (σ := σ) (Q := Q) ht p1
    rw [rel_len] at e25
    refine ⟨(B, B (72 + k) r), ⟨by rw [e3]; exact b2, by rw [e3]; exact VS_gv p2 (by rw [rel_len]; exact hk) (fun v hv2 => by cases hv2; exact hvv), hOB, fun hk1 r' hr' => ?_⟩, fun Q => ?_⟩
    · refine (hOB _ _ (by omega)).trans ((hg k hk r e2).2 r' ?_)
      have : pth S (k + 1) = (tgc S k r).2 := by
        show (match pth S k with
          | some r => (tgc S k r).2
          | none => none) = _
        rw [e1]
      rw [← this]
      exact hr'
    · show ev_w 53 7 [.ref 58, .ref t, .int (iI (r : Int)), .int (iI (k : Int))] [] (hp L σ A) Q = _
      simp only [pkO] at b1
      rw [u53_7]
      simp (disch := first | exact cat_i _ | exact cat_r _ | exact cat_n | omega) only [u53_8, u53_9, u53_12, u53_15, u53_16, u53_19, u53_20, u53_21, u53_24, u53_25, u53_26, u53_29, u53_32, u53_33, u53_34, u53_35, u53_36, u53_39, u53_40, u53_41, u53_42, u53_45, u53_48, u53_49, u53_52, u53_53, u53_54, u53_55, u53_56, u53_57, u53_60, hT_p ht, hT_58, hT_59, hT_71, hR_58_0, hR_58_2, hR_59, hR_71, hT, hT_72k, e25, e71, e72, b1, if_pos, if_neg, ↓reduceIte, false_and, and_false, false_or, or_false, ite_not, decide_true, decide_false, Bool.true_eq_false, Bool.false_eq_true, decide_eq_true_eq, decide_eq_false_iff_not, hp_I, hp_sI, hp_N, ev_k_s, ev_k_n, true_and, and_true, true_or, or_true, not_true_eq_false, not_false_eq_true, if_true, if_false, ite_self, Option.some.injEq, exists_eq_left', nb_0, nb_1, nb_z, zI_t, zI_f, zI_e, cat_i, cat_r, cat_n, iI_add, iI_sub, iI_mul, iI_neg, iI_lt, iI_le, iI_eq, iI_idx, iI_inT, iI_ne0, ite_false, ite_true, iN_0, iN_1, Int.reduceAdd, Int.reduceSub, Int.reduceMul, Int.reduceNeg, Int.reduceDiv, Int.reduceMod, Int.reduceEq, Int.reduceLT, Int.reduceLE, Int.reduceToNat, Nat.reduceAdd, Nat.reduceSub, Nat.reduceMul, Nat.reduceLT, Nat.reduceLeDiff, Nat.reduceEqDiff, Int.cast_ofNat_Int, Std.le_refl, and_self, Int.toNat_natCast, Int.toNat_zero, Nat.le_refl]
      rfl) S.2.length 0 (I, iI (r0 : Int)) (by omega) ⟨hr, hv, fun _ _ _ => rfl, fun _ r hr' => by rw [hp0] at hr'; cases hr'; rfl⟩
  dsimp only at p1 p2 p3 p4
  refine ⟨J, fun Q => ?_, p1, p2, p3⟩
  have e0 := e Q
  clear e
  have e25 := fun Q => c25 (L := L) (σ := σ) (Q := Q) ht p1
  rw [rel_len] at e25
  have hf0 := hf r0 hp0
  simp (disch := first | exact cat_i _ | exact cat_r _ | exact cat_n | omega) only [u53_0, u53_1, u53_4, u53_5, u53_6, e53, hT_58, hf0, if_pos, if_neg, ↓reduceIte, false_and, and_false, false_or, or_false, ite_not, decide_true, decide_false, Bool.true_eq_false, Bool.false_eq_true, decide_eq_true_eq, decide_eq_false_iff_not, hp_I, hp_sI, hp_N, ev_k_s, ev_k_n, true_and, and_true, true_or, or_true, not_true_eq_false, not_false_eq_true, if_true, if_false, ite_self, Option.some.injEq, exists_eq_left', nb_0, nb_1, nb_z, zI_t, zI_f, zI_e, cat_i, cat_r, cat_n, iI_add, iI_sub, iI_mul, iI_neg, iI_lt, iI_le, iI_eq, iI_idx, iI_inT, iI_ne0, ite_false, ite_true, iN_0, iN_1, Int.reduceAdd, Int.reduceSub, Int.reduceMul, Int.reduceNeg, Int.reduceDiv, Int.reduceMod, Int.reduceEq, Int.reduceLT, Int.reduceLE, Int.reduceToNat, Nat.reduceAdd, Nat.reduceSub, Nat.reduceMul, Nat.reduceLT, Nat.reduceLeDiff, Nat.reduceEqDiff, Int.cast_ofNat_Int, Std.le_refl, and_self, Int.toNat_natCast, Int.toNat_zero, Nat.le_refl]
  refine Eq.trans e0 ?_
  simp (disch := first | exact cat_i _ | exact cat_r _ | exact cat_n | omega) only [u53_7, u53_8, u53_9, u53_12, u53_63, hT_p ht, e25, if_pos, if_neg, ↓reduceIte, false_and, and_false, false_or, or_false, ite_not, decide_true, decide_false, Bool.true_eq_false, Bool.false_eq_true, decide_eq_true_eq, decide_eq_false_iff_not, hp_I, hp_sI, hp_N, ev_k_s, ev_k_n, true_and, and_true, true_or, or_true, not_true_eq_false, not_false_eq_true, if_true, if_false, ite_self, Option.some.injEq, exists_eq_left', nb_0, nb_1, nb_z, zI_t, zI_f, zI_e, cat_i, cat_r, cat_n, iI_add, iI_sub, iI_mul, iI_neg, iI_lt, iI_le, iI_eq, iI_idx, iI_inT, iI_ne0, ite_false, ite_true, iN_0, iN_1, Int.reduceAdd, Int.reduceSub, Int.reduceMul, Int.reduceNeg, Int.reduceDiv, Int.reduceMod, Int.reduceEq, Int.reduceLT, Int.reduceLE, Int.reduceToNat, Nat.reduceAdd, Nat.reduceSub, Nat.reduceMul, Nat.reduceLT, Nat.reduceLeDiff, Nat.reduceEqDiff, Int.cast_ofNat_Int, Std.le_refl, and_self, Int.toNat_natCast, Int.toNat_zero, Nat.le_refl]
end GI
