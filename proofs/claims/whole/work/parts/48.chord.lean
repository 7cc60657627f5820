def RepR (I : Nat → Nat → Int32) (l : List Ch) (k : Nat) : Prop := I 52 4 = iI (k : Int) ∧ I 52 3 = iI (l.length : Int) ∧ ∀ j, j < l.length → j < 10 → I 53 j = iI ((l.getD j (0, 0, none)).1 : Int) ∧ I 54 j = iI ((l.getD j (0, 0, none)).2.1 : Int) ∧ I 55 j = iI (pkO (l.getD j (0, 0, none)).2.2)
def OthR (I J : Nat → Nat → Int32) : Prop := ∀ i q, (i < 52 ∨ 55 < i) → J i q = I i q
def rdE (T : List Nat) (b f e : Nat) : Nat ⊕ (Ch × Nat) := if sgn T e = 61 then (match rdV T (e + 1) with
  | .inl g => .inl g
  | .inr v => .inr ((b, f, some v.1), v.2)) else .inr ((b, f, none), e)
def rdC (T : List Nat) (k : Nat) : Nat ⊕ (Ch × Nat) := match rdN T k with
  | none => .inl k
  | some b => if sgn T b.2 = 47 then (match rdF T (b.2 + 1) with
    | none => .inl (b.2 + 1)
    | some f => rdE T b.1 f.1 f.2) else rdE T b.1 5 b.2
section RC
variable {L : Nat} {σ : Nat → Nat} {I J : Nat → Nat → Int32} {Q : Option Value → fb_H → Prop} {h : fb_H} {T : List Nat} {k c : Nat} {l : List Ch}
theorem nx_self (h : I 52 4 = iI (k : Int)) : nx I k = I := by
  funext a b
  unfold nx fb_u2
  split
  · rename_i w; rw [w.1, w.2]; exact h.symm
  · rfl
theorem RepR_nx (h : RepR I l k) (e : Nat) : RepR (nx I e) l e := ⟨nx_4 I e, (nx_o _ _ _ _ (by omega)).trans h.2.1, fun j a b => ⟨(nx_o _ _ _ _ (by omega)).trans (h.2.2 j a b).1, (nx_o _ _ _ _ (by omega)).trans (h.2.2 j a b).2.1, (nx_o _ _ _ _ (by omega)).trans (h.2.2 j a b).2.2⟩⟩
theorem OthR_nx (e : Nat) : OthR I (nx I e) := fun i q a => nx_o _ _ _ _ (by omega)
/-- keep -/
theorem c16 (hR : RepR J l k) (hl : l.length < 1000) (x : Ch) : ∃ K, (∀ Q : Option Value → fb_H → Prop, ev_c 16 [.ref 52, .int (iI (x.1 : Int)), .int (iI (x.2.1 : Int)), .int (iI (pkO x.2.2))] (hp L σ J) Q = Q none (hp L σ K)) ∧ RepR K (l ++ [x]) k ∧ OthR J K := by
  obtain ⟨g1, g2, g3⟩ := hR
  by_cases q : l.length < 10
  · have e3 : fb_u2 (fb_u2 (fb_u2 J 53 l.length (iI (x.1 : Int))) 54 l.length (iI (x.2.1 : Int))) 55 l.length (iI (pkO x.2.2)) 52 3 = iI (l.length : Int) := (u2_ne (by omega)).trans ((u2_ne (by omega)).trans ((u2_ne (by omega)).trans g2))
    have e1 : fb_u2 J 53 l.length (iI (x.1 : Int)) 52 3 = iI (l.length : Int) := (u2_ne (by omega)).trans g2
    have e2 : fb_u2 (fb_u2 J 53 l.length (iI (x.1 : Int))) 54 l.length (iI (x.2.1 : Int)) 52 3 = iI (l.length : Int) := (u2_ne (by omega)).trans ((u2_ne (by omega)).trans g2)
    refine ⟨fb_u2 (fb_u2 (fb_u2 (fb_u2 J 53 l.length (iI (x.1 : Int))) 54 l.length (iI (x.2.1 : Int))) 55 l.length (iI (pkO x.2.2))) 52 3 (iI ((l.length : Int) + 1)), fun Q => ?_, ⟨?_, ?_, fun j hj hj10 => ?_⟩, fun i q a => (u2_ne (by omega)).trans ((u2_ne (by omega)).trans ((u2_ne (by omega)).trans (u2_ne (by omega))))⟩
    · simp (disch := first | exact cat_i _ | exact cat_r _ | exact cat_n | omega) only [e16, u16_0, u16_1, u16_4, u16_6, u16_9, u16_10, u16_13, u16_14, u16_17, u16_18, u16_19, u16_20, u16_23, u16_24, u16_27, u16_28, u16_29, u16_30, u16_33, u16_34, u16_37, u16_38, u16_39, u16_40, u16_41, u16_44, u16_45, u16_46, u16_49, hT_52, hT_53, hT_54, hT_55, hR_52_0, hR_52_1, hR_52_2, g2, e1, e2, e3, if_pos, if_neg, ↓reduceIte, false_and, and_false, false_or, or_false, ite_not, decide_true, decide_false, Bool.true_eq_false, Bool.false_eq_true, decide_eq_true_eq, decide_eq_false_iff_not, hp_I, hp_sI, hp_N, ev_k_s, ev_k_n, true_and, and_true, true_or, or_true, not_true_eq_false, not_false_eq_true, if_true, if_false, ite_self, Option.some.injEq, exists_eq_left', nb_0, nb_1, nb_z, zI_t, zI_f, zI_e, cat_i, cat_r, cat_n, iI_add, iI_sub, iI_mul, iI_neg, iI_lt, iI_le, iI_eq, iI_idx, iI_inT, iI_ne0, ite_false, ite_true, iN_0, iN_1, Int.reduceAdd, Int.reduceSub, Int.reduceMul, Int.reduceNeg, Int.reduceDiv, Int.reduceMod, Int.reduceEq, Int.reduceLT, Int.reduceLE, Int.reduceToNat, Nat.reduceAdd, Nat.reduceSub, Nat.reduceMul, Nat.reduceLT, Nat.reduceLeDiff, Nat.reduceEqDiff, Int.cast_ofNat_Int, Std.le_refl, and_self, Int.toNat_natCast, Int.toNat_zero, Nat.le_refl]
    · rw [u2_ne (by omega), u2_ne (by omega), u2_ne (by omega), u2_ne (by omega)]; exact g1
    · rw [u2_eq, List.length_append]; rfl
    · rw [List.length_append] at hj
      have hj2 : j < l.length + 1 := hj
      rw [List.getD_eq_getElem?_getD]
      by_cases w : j = l.length
      · subst w
        rw [List.getElem?_append_right (Nat.le_refl _), Nat.sub_self]
        exact ⟨(u2_ne (by omega)).trans ((u2_ne (by omega)).trans ((u2_ne (by omega)).trans u2_eq)), (u2_ne (by omega)).trans ((u2_ne (by omega)).trans u2_eq), (u2_ne (by omega)).trans u2_eq⟩
      · rw [List.getElem?_append_left (by omega), ← List.getD_eq_getElem?_getD]
        obtain ⟨a1, a2, a3⟩ := g3 j (by omega) hj10
        exact ⟨(u2_ne (by omega)).trans ((u2_ne (by omega)).trans ((u2_ne (by omega)).trans ((u2_ne (by omega)).trans a1))), (u2_ne (by omega)).trans ((u2_ne (by omega)).trans ((u2_ne (by omega)).trans ((u2_ne (by omega)).trans a2))), (u2_ne (by omega)).trans ((u2_ne (by omega)).trans ((u2_ne (by omega)).trans ((u2_ne (by omega)).trans a3)))⟩
  · refine ⟨fb_u2 J 52 3 (iI ((l.length : Int) + 1)), fun Q => ?_, ⟨(u2_ne (by omega)).trans g1, by rw [u2_eq, List.length_append]; rfl, fun j hj hj10 => ?_⟩, fun i q a => u2_ne (by omega)⟩
    · simp (disch := first | exact cat_i _ | exact cat_r _ | exact cat_n | omega) only [e16, u16_0, u16_1, u16_4, u16_6, u16_9, u16_10, u16_13, u16_14, u16_17, u16_18, u16_19, u16_20, u16_23, u16_24, u16_27, u16_28, u16_29, u16_30, u16_33, u16_34, u16_37, u16_38, u16_39, u16_40, u16_41, u16_44, u16_45, u16_46, u16_49, hT_52, g2, if_pos, if_neg, ↓reduceIte, false_and, and_false, false_or, or_false, ite_not, decide_true, decide_false, Bool.true_eq_false, Bool.false_eq_true, decide_eq_true_eq, decide_eq_false_iff_not, hp_I, hp_sI, hp_N, ev_k_s, ev_k_n, true_and, and_true, true_or, or_true, not_true_eq_false, not_false_eq_true, if_true, if_false, ite_self, Option.some.injEq, exists_eq_left', nb_0, nb_1, nb_z, zI_t, zI_f, zI_e, cat_i, cat_r, cat_n, iI_add, iI_sub, iI_mul, iI_neg, iI_lt, iI_le, iI_eq, iI_idx, iI_inT, iI_ne0, ite_false, ite_true, iN_0, iN_1, Int.reduceAdd, Int.reduceSub, Int.reduceMul, Int.reduceNeg, Int.reduceDiv, Int.reduceMod, Int.reduceEq, Int.reduceLT, Int.reduceLE, Int.reduceToNat, Nat.reduceAdd, Nat.reduceSub, Nat.reduceMul, Nat.reduceLT, Nat.reduceLeDiff, Nat.reduceEqDiff, Int.cast_ofNat_Int, Std.le_refl, and_self, Int.toNat_natCast, Int.toNat_zero, Nat.le_refl]
    · rw [List.getD_eq_getElem?_getD, List.getElem?_append_left (by omega), ← List.getD_eq_getElem?_getD]
      obtain ⟨a1, a2, a3⟩ := g3 j (by omega) hj10
      exact ⟨(u2_ne (by omega)).trans a1, (u2_ne (by omega)).trans a2, (u2_ne (by omega)).trans a3⟩
end RC
