def opRead (A : AS) : Int × AS := match rdT A.2.2.2 with
  | .inl _ => (-3, A)
  | .inr l => if 10 < l.length then (-4, A) else if okB l = true then ((l.length : Int), ((A.1.1, l), pus A.2.1 A.1, A.2.2.1, [])) else (-2, A)
theorem rdA_len {T : List Nat} : ∀ (f : Nat) (l : List Ch) (k : Nat) (l' : List Ch), rdA T f l k = .inr l' → l'.length ≤ l.length + f
  | 0, l, k, l', e => by unfold rdA at e; cases e; omega
  | f + 1, l, k, l', e => by
    unfold rdA at e
    split at e
    · split at e
      · cases hc : rdC T (k + 1) with
        | inl g => rw [hc] at e; cases e
        | inr x =>
          rw [hc] at e
          have := rdA_len f _ _ l' e
          rw [List.length_append] at this
          have h2 : l'.length ≤ l.length + 1 + f := this
          omega
      · cases e
    · cases e; omega
theorem rdT_len {T : List Nat} {l : List Ch} (h : rdT T = .inr l) : l.length ≤ 81 := by
  unfold rdT at h
  cases hc : rdC T 0 with
  | inl g => rw [hc] at h; cases h
  | inr x =>
    rw [hc] at h
    have := rdA_len _ _ _ _ h
    have h2 : l.length ≤ 1 + 80 := this
    omega
theorem rdC_f {T : List Nat} {k w : Nat} (hk : k < 100) (hc : rdC T k = .inl w) : w < 600 := by
  unfold rdC at hc
  cases q1 : rdN T k with
  | none => rw [q1] at hc; cases hc; omega
  | some b =>
    rw [q1] at hc
    have i1 := rdN_in q1
    dsimp only at hc
    have key : ∀ (bb f e g : Nat), e < 200 → rdE T bb f e = .inl g → g < 600 := fun bb f e g he h => by
      unfold rdE at h
      split at h
      · cases hv : rdV T (e + 1) with
        | inr v => rw [hv] at h; cases h
        | inl z =>
          rw [hv] at h
          cases h
          unfold rdV at hv
          cases q2 : rdN T (e + 1) with
          | none => rw [q2] at hv; cases hv; omega
          | some x =>
            rw [q2] at hv
            have i2 := rdN_in q2
            dsimp only at hv
            split at hv
            · cases q3 : rdN T (x.2 + 1) with
              | none => rw [q3] at hv; cases hv; omega
              | some y =>
                rw [q3] at hv
                have i3 := rdN_in q3
                dsimp only at hv
                split at hv
                · cases q4 : rdN T (y.2 + 1) with
                  | none => rw [q4] at hv; cases hv; omega
                  | some z => rw [q4] at hv; cases hv
                · cases hv; omega
            · cases hv; omega
      · cases h
    split at hc
    · cases q2 : rdF T (b.2 + 1) with
      | none => rw [q2] at hc; cases hc; omega
      | some f =>
        rw [q2] at hc
        have i2 := rdF_in q2
        exact key _ _ _ _ (by omega) hc
    · exact key _ _ _ _ (by omega) hc
theorem rdA_f {T : List Nat} (hT : T.length ≤ 80) : ∀ (f : Nat) (l : List Ch) (k g : Nat), rdA T f l k = .inl g → g < 600
  | 0, l, k, g, e => by unfold rdA at e; cases e
  | f + 1, l, k, g, e => by
    unfold rdA at e
    split at e
    · split at e
      · cases hc : rdC T (k + 1) with
        | inl w =>
          rw [hc] at e
          cases e
          have hk : k < 80 := by omega
          exact rdC_f (by omega) hc
        | inr x =>
          rw [hc] at e
          exact rdA_f hT f _ _ g e
      · cases e; omega
    · cases e
theorem rdT_f {T : List Nat} (hT : T.length ≤ 80) {g : Nat} (h : rdT T = .inl g) : g < 600 := by
  unfold rdT at h
  cases hc : rdC T 0 with
  | inl w => rw [hc] at h; cases h; exact rdC_f (by omega) hc
  | inr x => rw [hc] at h; exact rdA_f hT _ _ _ g h
section RP
variable {L : Nat} {σ : Nat → Nat} {I : Nat → Nat → Int32} {Q : Option Value → fb_H → Prop} {A : AS}
theorem x86 (hX : RepX σ I A) (hs : StI I) : XR L σ I 86 [.ref 0] (opRead A) := by
  obtain ⟨h1, h2, h3, h4, h5, h6⟩ := id hX
  obtain ⟨K, k1, k2, k3⟩ := c14 (L := L) (σ := σ) h6
  dsimp only at k1
  have hXK : RepX σ K A := RepX_o hX fun i q a => k2 i q (by omega)
  have hsK : StI K := StI_o hs fun i q a => k2 i q (by omega)
  unfold opRead
  cases hr : rdT A.2.2.2 with
  | inl g =>
    rw [hr] at k1
    simp only [rdI] at k1
    have hg := rdT_f h6.2.1 hr
    refine ⟨σ, K, fun Q => ?_, hXK, fun i q a => k2 i q (by omega)⟩
    simp (disch := first | exact cat_i _ | exact cat_r _ | exact cat_n | omega) only [e86, u86_0, u86_1, u86_4, u86_5, u86_8, u86_11, u86_13, u86_16, u86_18, u86_19, u86_20, u86_23, u86_26, u86_28, u86_31, u86_33, u86_34, u86_35, u86_38, u86_41, u86_44, u86_46, u86_47, u86_48, u86_51, u86_52, u86_55, u86_58, u86_59, u86_62, u86_63, u86_66, u86_69, u86_70, u86_73, u86_76, u86_77, u86_80, u86_83, hT_0, hT_52, hT_50, hR_0_4, hR_0_5, k1, if_pos, if_neg, ↓reduceIte, false_and, and_false, false_or, or_false, ite_not, decide_true, decide_false, Bool.true_eq_false, Bool.false_eq_true, decide_eq_true_eq, decide_eq_false_iff_not, hp_I, hp_sI, hp_N, ev_k_s, ev_k_n, true_and, and_true, true_or, or_true, not_true_eq_false, not_false_eq_true, if_true, if_false, ite_self, Option.some.injEq, exists_eq_left', nb_0, nb_1, nb_z, zI_t, zI_f, zI_e, cat_i, cat_r, cat_n, iI_add, iI_sub, iI_mul, iI_neg, iI_lt, iI_le, iI_eq, iI_idx, iI_inT, iI_ne0, ite_false, ite_true, iN_0, iN_1, Int.reduceAdd, Int.reduceSub, Int.reduceMul, Int.reduceNeg, Int.reduceDiv, Int.reduceMod, Int.reduceEq, Int.reduceLT, Int.reduceLE, Int.reduceToNat, Nat.reduceAdd, Nat.reduceSub, Nat.reduceMul, Nat.reduceLT, Nat.reduceLeDiff, Nat.reduceEqDiff, Int.cast_ofNat_Int, Std.le_refl, and_self, Int.toNat_natCast, Int.toNat_zero, Nat.le_refl]
  | inr l =>
    rw [hr] at k1
    simp only [rdI] at k1
    obtain ⟨k, hR⟩ := k3 l hr
    have hlen := rdT_len hr
    have hok := rdT_ok hr
    have e13 := fun Q => c13 (L := L) (σ := σ) (Q := Q) hR
    dsimp only
    by_cases q : 10 < l.length
    · rw [if_pos q]
      refine ⟨σ, K, fun Q => ?_, hXK, fun i q a => k2 i q (by omega)⟩
      simp (disch := first | exact cat_i _ | exact cat_r _ | exact cat_n | omega) only [e86, u86_0, u86_1, u86_4, u86_5, u86_8, u86_11, u86_13, u86_16, u86_18, u86_19, u86_20, u86_23, u86_26, u86_28, u86_31, u86_33, u86_34, u86_35, u86_38, u86_41, u86_44, u86_46, u86_47, u86_48, u86_51, u86_52, u86_55, u86_58, u86_59, u86_62, u86_63, u86_66, u86_69, u86_70, u86_73, u86_76, u86_77, u86_80, u86_83, hT_0, hT_52, hT_50, hR_0_4, hR_0_5, k1, e13, if_pos, if_neg, ↓reduceIte, false_and, and_false, false_or, or_false, ite_not, decide_true, decide_false, Bool.true_eq_false, Bool.false_eq_true, decide_eq_true_eq, decide_eq_false_iff_not, hp_I, hp_sI, hp_N, ev_k_s, ev_k_n, true_and, and_true, true_or, or_true, not_true_eq_false, not_false_eq_true, if_true, if_false, ite_self, Option.some.injEq, exists_eq_left', nb_0, nb_1, nb_z, zI_t, zI_f, zI_e, cat_i, cat_r, cat_n, iI_add, iI_sub, iI_mul, iI_neg, iI_lt, iI_le, iI_eq, iI_idx, iI_inT, iI_ne0, ite_false, ite_true, iN_0, iN_1, Int.reduceAdd, Int.reduceSub, Int.reduceMul, Int.reduceNeg, Int.reduceDiv, Int.reduceMod, Int.reduceEq, Int.reduceLT, Int.reduceLE, Int.reduceToNat, Nat.reduceAdd, Nat.reduceSub, Nat.reduceMul, Nat.reduceLT, Nat.reduceLeDiff, Nat.reduceEqDiff, Int.cast_ofNat_Int, Std.le_refl, and_self, Int.toNat_natCast, Int.toNat_zero, Nat.le_refl]
    · rw [if_neg q]
      have e22 := fun Q => c22 (L := L) (σ := σ) (Q := Q) hR hsK (by omega) hok
      cases hb : okB l with
      | false =>
        rw [if_neg (by decide)]
        rw [hb] at e22
        refine ⟨σ, K, fun Q => ?_, hXK, fun i q a => k2 i q (by omega)⟩
        simp (disch := first | exact cat_i _ | exact cat_r _ | exact cat_n | omega) only [e86, u86_0, u86_1, u86_4, u86_5, u86_8, u86_11, u86_13, u86_16, u86_18, u86_19, u86_20, u86_23, u86_26, u86_28, u86_31, u86_33, u86_34, u86_35, u86_38, u86_41, u86_44, u86_46, u86_47, u86_48, u86_51, u86_52, u86_55, u86_58, u86_59, u86_62, u86_63, u86_66, u86_69, u86_70, u86_73, u86_76, u86_77, u86_80, u86_83, hT_0, hT_52, hT_50, hR_0_4, hR_0_5, k1, e13, e22, if_pos, if_neg, ↓reduceIte, false_and, and_false, false_or, or_false, ite_not, decide_true, decide_false, Bool.true_eq_false, Bool.false_eq_true, decide_eq_true_eq, decide_eq_false_iff_not, hp_I, hp_sI, hp_N, ev_k_s, ev_k_n, true_and, and_true, true_or, or_true, not_true_eq_false, not_false_eq_true, if_true, if_false, ite_self, Option.some.injEq, exists_eq_left', nb_0, nb_1, nb_z, zI_t, zI_f, zI_e, cat_i, cat_r, cat_n, iI_add, iI_sub, iI_mul, iI_neg, iI_lt, iI_le, iI_eq, iI_idx, iI_inT, iI_ne0, ite_false, ite_true, iN_0, iN_1, Int.reduceAdd, Int.reduceSub, Int.reduceMul, Int.reduceNeg, Int.reduceDiv, Int.reduceMod, Int.reduceEq, Int.reduceLT, Int.reduceLE, Int.reduceToNat, Nat.reduceAdd, Nat.reduceSub, Nat.reduceMul, Nat.reduceLT, Nat.reduceLeDiff, Nat.reduceEqDiff, Int.cast_ofNat_Int, Std.le_refl, and_self, Int.toNat_natCast, Int.toNat_zero, Nat.le_refl]
      | true =>
        rw [if_pos rfl]
        rw [hb] at e22
        obtain ⟨τ, B, b1, b2, b3, b4, b5⟩ := chg (L := L) hXK hsK
        have hRB : RepR B l k := ⟨(b4 _ _ (by omega)).trans hR.1, (b4 _ _ (by omega)).trans hR.2.1, fun j a b => ⟨(b4 _ _ (by omega)).trans (hR.2.2 j a b).1, (b4 _ _ (by omega)).trans (hR.2.2 j a b).2.1, (b4 _ _ (by omega)).trans (hR.2.2 j a b).2.2⟩⟩
        obtain ⟨D, d1, d2, d3, d4⟩ := c23 (L := L) (σ := τ) hRB (by omega) hok hb b2 h2
        obtain ⟨r1, r2⟩ := b5 D _ d2 d3 d4
        obtain ⟨s1, s2, s3, s4, s5, s6⟩ := r1
        have e7 := fun Q => c7 (L := L) (σ := τ) (I := D) Q
        have d2' : RepP (fb_u2 D 50 1 (iI 0)) 1 (A.1.1, l) := RepP_o d2 fun i q a b => u2_ne (by omega)
        have e25 := fun Q => c25 (L := L) (σ := τ) (Q := Q) isp1 d2'
        refine ⟨τ, fb_u2 D 50 1 (iI 0), fun Q => ?_, ⟨d2', s2, s3, RepH_o s4 s3 fun i q a b => u2_ne (by omega), RepSl_o s5 fun i q a b => u2_ne (by omega), RepT_0⟩, fun i q a => (u2_ne (by omega)).trans ((r2 i q a).trans (k2 i q (by omega)))⟩
        simp (disch := first | exact cat_i _ | exact cat_r _ | exact cat_n | omega) only [e86, u86_0, u86_1, u86_4, u86_5, u86_8, u86_11, u86_13, u86_16, u86_18, u86_19, u86_20, u86_23, u86_26, u86_28, u86_31, u86_33, u86_34, u86_35, u86_38, u86_41, u86_44, u86_46, u86_47, u86_48, u86_51, u86_52, u86_55, u86_58, u86_59, u86_62, u86_63, u86_66, u86_69, u86_70, u86_73, u86_76, u86_77, u86_80, u86_83, hT_0, hT_1, hT_6, hT_52, hT_50, hR_0_0, hR_0_1, hR_0_4, hR_0_5, k1, e13, e22, b1, d1, e7, e25, if_pos, if_neg, ↓reduceIte, false_and, and_false, false_or, or_false, ite_not, decide_true, decide_false, Bool.true_eq_false, Bool.false_eq_true, decide_eq_true_eq, decide_eq_false_iff_not, hp_I, hp_sI, hp_N, ev_k_s, ev_k_n, true_and, and_true, true_or, or_true, not_true_eq_false, not_false_eq_true, if_true, if_false, ite_self, Option.some.injEq, exists_eq_left', nb_0, nb_1, nb_z, zI_t, zI_f, zI_e, cat_i, cat_r, cat_n, iI_add, iI_sub, iI_mul, iI_neg, iI_lt, iI_le, iI_eq, iI_idx, iI_inT, iI_ne0, ite_false, ite_true, iN_0, iN_1, Int.reduceAdd, Int.reduceSub, Int.reduceMul, Int.reduceNeg, Int.reduceDiv, Int.reduceMod, Int.reduceEq, Int.reduceLT, Int.reduceLE, Int.reduceToNat, Nat.reduceAdd, Nat.reduceSub, Nat.reduceMul, Nat.reduceLT, Nat.reduceLeDiff, Nat.reduceEqDiff, Int.cast_ofNat_Int, Std.le_refl, and_self, Int.toNat_natCast, Int.toNat_zero, Nat.le_refl]
end RP
