/-! the whole state of the model -/
def RepK (I : Nat → Nat → Int32) (H : List Co) : Prop := I 102 2 = iI (H.length : Int) ∧ ∀ k, k < H.length → RepS I 104 (64 * k) (H.getD k ((0, 0, 0), []))
def RepQ (I : Nat → Nat → Int32) (s : Option Co × Option Co) : Prop := I 106 0 = zI s.1.isSome ∧ I 106 1 = zI s.2.isSome ∧ (∀ S, s.1 = some S → RepS I 105 0 S) ∧ ∀ S, s.2 = some S → RepS I 105 64 S
def RepY (I : Nat → Nat → Int32) (T : List Nat) : Prop := I 102 6 = iI (T.length : Int) ∧ ∀ k, k < T.length → I 107 k = iI ((T.getD k 0 : Nat) : Int)
def RepM (I : Nat → Nat → Int32) (A : AS) : Prop := RepS I 103 0 A.1 ∧ RepK I A.2.1 ∧ RepQ I A.2.2.1 ∧ RepY I A.2.2.2
def AV (A : AS) : Prop := VS A.1 ∧ (A.2.1.length ≤ 6 ∧ ∀ S, S ∈ A.2.1 → VS S) ∧ ((∀ S, A.2.2.1.1 = some S → VS S) ∧ ∀ S, A.2.2.1.2 = some S → VS S) ∧ (A.2.2.2.length ≤ 80 ∧ ∀ c, c ∈ A.2.2.2 → 33 ≤ c ∧ c ≤ 126)
def MR (L : Nat) (σ : Nat → Nat) (I : Nat → Nat → Int32) (y : Nat) (as : List Value) (r : Int × AS) : Prop := ∃ J, (∀ Q : Option Value → fb_H → Prop, ev_c y as (hp L σ I) Q = Q (some (.int (iI r.1))) (hp L σ J)) ∧ RepM J r.2 ∧ ∀ i q, (i < 102 ∨ 113 ≤ i) → J i q = I i q
section MZ
variable {L : Nat} {σ : Nat → Nat} {I J : Nat → Nat → Int32} {Q : Option Value → fb_H → Prop} {h : fb_H} {x y z iv : Int} {S : Co} {n m a o a' o' b b' : Nat} {v w : Nat × Nat × Nat} {A : AS} {H : List Co}
theorem RepX_AV (hX : RepX σ I A) : AV A := ⟨hX.2.1, ⟨hX.2.2.2.1.2.1, hX.2.2.2.1.2.2.1⟩, ⟨fun S e => (hX.2.2.2.2.1.2.2.1 S e).2, fun S e => (hX.2.2.2.2.1.2.2.2 S e).2⟩, hX.2.2.2.2.2.2.1, hX.2.2.2.2.2.2.2.1⟩
theorem RepS_cp (hr : RepS I a o S) (hl : S.2.length ≤ 10) (h : ∀ j, j < 64 → J a' (o' + j) = I a (o + j)) : RepS J a' o' S := by
  obtain ⟨r0, r1, r2, r3, r4⟩ := hr
  refine ⟨(h 0 (by omega)).trans r0, (h 61 (by omega)).trans r1, (h 62 (by omega)).trans r2, (h 63 (by omega)).trans r3, fun c hc => ?_⟩
  obtain ⟨s0, s1, s2, s3⟩ := r4 c hc
  have g : ∀ j, j < 6 → J a' (o' + 1 + 6 * c + j) = I a (o + 1 + 6 * c + j) := fun j hj => by
    have := h (1 + 6 * c + j) (by omega)
    rw [show o' + 1 + 6 * c + j = o' + (1 + 6 * c + j) by omega, show o + 1 + 6 * c + j = o + (1 + 6 * c + j) by omega]
    exact this
  refine ⟨(g 0 (by omega)).trans s0, (g 1 (by omega)).trans s1, (g 2 (by omega)).trans s2, fun v e => ?_⟩
  obtain ⟨t0, t1, t2⟩ := s3 v e
  exact ⟨(g 3 (by omega)).trans t0, (g 4 (by omega)).trans t1, (g 5 (by omega)).trans t2⟩
theorem RepK_o (hr : RepK I H) (h1 : J 102 2 = I 102 2) (h2 : ∀ q, J 104 q = I 104 q) : RepK J H := ⟨h1.trans hr.1, fun k hk => RepS_o (hr.2 k hk) h2⟩
theorem RepQ_o {s : Option Co × Option Co} (hr : RepQ I s) (h1 : ∀ q, J 106 q = I 106 q) (h2 : ∀ q, J 105 q = I 105 q) : RepQ J s := ⟨(h1 _).trans hr.1, (h1 _).trans hr.2.1, fun S e => RepS_o (hr.2.2.1 S e) h2, fun S e => RepS_o (hr.2.2.2 S e) h2⟩
theorem RepY_o {T : List Nat} (hr : RepY I T) (h1 : J 102 6 = I 102 6) (h2 : ∀ q, J 107 q = I 107 q) : RepY J T := ⟨h1.trans hr.1, fun k hk => (h2 _).trans (hr.2 k hk)⟩
theorem RepM_o (hr : RepM I A) (h : ∀ i q, 102 ≤ i → i ≤ 107 → J i q = I i q) : RepM J A := ⟨RepS_o hr.1 fun q => h _ _ (by omega) (by omega), RepK_o hr.2.1 (h _ _ (by omega) (by omega)) fun q => h _ _ (by omega) (by omega), RepQ_o hr.2.2.1 (fun q => h _ _ (by omega) (by omega)) fun q => h _ _ (by omega) (by omega), RepY_o hr.2.2.2 (h _ _ (by omega) (by omega)) fun q => h _ _ (by omega) (by omega)⟩
/-- a call that leaves but free cells changed -/
theorem MR_v {as : List Value} {r : Int} {y : Nat} (hM : RepM I A) (h : ∀ Q : Option Value → fb_H → Prop, ev_c y as (hp L σ I) Q = Q (some (.int (iI r))) (hp L σ J)) (hJ : OthM I J) : MR L σ I y as (r, A) := ⟨J, h, RepM_o hM fun i q a b => hJ i q (by omega), fun i q a => hJ i q (by omega)⟩
theorem MR_id {as : List Value} {r : Int} {y : Nat} (hM : RepM I A) (h : ∀ Q : Option Value → fb_H → Prop, ev_c y as (hp L σ I) Q = Q (some (.int (iI r))) (hp L σ I)) : MR L σ I y as (r, A) := MR_v hM h fun _ _ _ => rfl
theorem OthF_M (h : OthF I J) : OthM I J := fun i q a => h i q (by omega) (by omega)
/-- remembers, behind a place that is free -/
theorem c120t {x1 : Value} (hx1 : x1.category = 1) (hr : RepS I 103 0 S) (hVS : VS S) (hK : RepK I H) (hH : H.length < 6) (hHV : ∀ S, S ∈ H → VS S) : ∃ J, (∀ Q : Option Value → fb_H → Prop, ev_w 120 49 [.ref 102, x1] [] (hp L σ I) Q = Q none (hp L σ J)) ∧ RepK J (H ++ [S]) ∧ ∀ i q, i ≠ 104 → ¬ (i = 102 ∧ q = 2) → J i q = I i q := by
  obtain ⟨k1, k2⟩ := hK
  have lp := fun Q : Option Value → fb_H → Prop => lf0 (fun (A : Nat → Nat → Int32) (k : Nat) => ev_w 120 51 [.ref 102, .int (iI (k : Int))] [] (hp L σ A) Q) (fun A k => fb_u2 A 104 (64 * H.length + k) (I 103 k)) (fun A k => (∀ i q, i ≠ 104 → A i q = I i q) ∧ ∀ q, A 104 q = if 64 * H.length ≤ q ∧ q < 64 * H.length + k then I 103 (q - 64 * H.length) else I 104 q) 64 (fun A k hk hp' => by
    obtain ⟨p1, p2⟩ := hp'
    refine ⟨⟨fun i q hi => (u2_ne (by omega)).trans (p1 i q hi), fun q => ?_⟩, ?_⟩
    · by_cases e : q = 64 * H.length + k
      · subst e
        rw [u2_eq, if_pos (by omega), show 64 * H.length + k - 64 * H.length = k by omega]
      · rw [u2_ne (by omega), p2]
        by_cases e2 : 64 * H.length ≤ q ∧ q < 64 * H.length + k
        · rw [if_pos e2, if_pos (by omega)]
        · rw [if_neg e2, if_neg (by omega)]
    · show ev_w 120 51 [.ref 102, .int (iI (k : Int))] [] (hp L σ A) Q = _
      have f1 : A 102 2 = iI (H.length : Int) := (p1 _ _ (by omega)).trans k1
      have f2 : A 103 k = I 103 k := p1 _ _ (by omega)
      have f3 : (64 * (H.length : Int) + (k : Int)).toNat = 64 * H.length + k := by omega
      rw [u120_51]
      simp (disch := first | exact cat_i _ | exact cat_r _ | exact cat_n | omega) only [u120_52, u120_54, u120_57, u120_58, u120_61, u120_63, u120_64, u120_67, u120_68, u120_69, u120_70, u120_71, u120_74, u120_75, u120_76, u120_77, u120_80, hT_102, hT_103, hT_104, hR_102_0, hR_102_1, f1, f2, f3, if_pos, if_neg, ↓reduceIte, false_and, and_false, false_or, or_false, ite_not, decide_true, decide_false, Bool.true_eq_false, Bool.false_eq_true, decide_eq_true_eq, decide_eq_false_iff_not, hp_I, hp_sI, hp_N, ev_k_s, ev_k_n, true_and, and_true, true_or, or_true, not_true_eq_false, not_false_eq_true, if_true, if_false, ite_self, Option.some.injEq, exists_eq_left', nb_0, nb_1, nb_z, zI_t, zI_f, zI_e, cat_i, cat_r, cat_n, iI_add, iI_sub, iI_mul, iI_neg, iI_lt, iI_le, iI_eq, iI_idx, iI_inT, iI_ne0, ite_false, ite_true, iN_0, iN_1, Int.reduceAdd, Int.reduceSub, Int.reduceMul, Int.reduceNeg, Int.reduceDiv, Int.reduceMod, Int.reduceEq, Int.reduceLT, Int.reduceLE, Int.reduceToNat, Nat.reduceAdd, Nat.reduceSub, Nat.reduceMul, Nat.reduceLT, Nat.reduceLeDiff, Nat.reduceEqDiff, Int.cast_ofNat_Int, Std.le_refl, and_self, Int.toNat_natCast, Int.toNat_zero, Nat.le_refl]
      all_goals rfl) I ⟨fun _ _ _ => rfl, fun q => by rw [if_neg (by omega)]⟩
  generalize hJ : (List.range 64).foldl (fun A k => fb_u2 A 104 (64 * H.length + k) (I 103 k)) I = J at lp
  obtain ⟨j1, j2⟩ := (lp (fun _ _ => True)).2
  have f1 : J 102 2 = iI (H.length : Int) := (j1 _ _ (by omega)).trans k1
  refine ⟨fb_u2 J 102 2 (iI ((H.length : Int) + 1)), fun Q => ?_, ⟨?_, fun k hk => ?_⟩, fun i q a b => (u2_ne (by omega)).trans (j1 i q a)⟩
  · have l1 := (lp Q).1
    clear lp hJ
    simp (disch := first | exact hx1 | exact cat_i _ | exact cat_r _ | omega) only [u120_49, u120_50, if_pos, if_neg, ↓reduceIte, false_and, and_false, false_or, or_false, ite_not, decide_true, decide_false, Bool.true_eq_false, Bool.false_eq_true, decide_eq_true_eq, decide_eq_false_iff_not, hp_I, hp_sI, hp_N, ev_k_s, ev_k_n, true_and, and_true, true_or, or_true, not_true_eq_false, not_false_eq_true, if_true, if_false, ite_self, Option.some.injEq, exists_eq_left', nb_0, nb_1, nb_z, zI_t, zI_f, zI_e, cat_i, cat_r, cat_n, iI_add, iI_sub, iI_mul, iI_neg, iI_lt, iI_le, iI_eq, iI_idx, iI_inT, iI_ne0, ite_false, ite_true, iN_0, iN_1, Int.reduceAdd, Int.reduceSub, Int.reduceMul, Int.reduceNeg, Int.reduceDiv, Int.reduceMod, Int.reduceEq, Int.reduceLT, Int.reduceLE, Int.reduceToNat, Nat.reduceAdd, Nat.reduceSub, Nat.reduceMul, Nat.reduceLT, Nat.reduceLeDiff, Nat.reduceEqDiff, Int.cast_ofNat_Int, Std.le_refl, and_self, Int.toNat_natCast, Int.toNat_zero, Nat.le_refl]
    refine Eq.trans l1 ?_
    simp (disch := first | exact cat_i _ | exact cat_r _ | exact cat_n | omega) only [u120_51, u120_52, u120_54, u120_83, u120_84, u120_85, u120_88, u120_89, u120_90, u120_93, hT_102, f1, Int.cast_ofNat_Int, if_pos, if_neg, ↓reduceIte, false_and, and_false, false_or, or_false, ite_not, decide_true, decide_false, Bool.true_eq_false, Bool.false_eq_true, decide_eq_true_eq, decide_eq_false_iff_not, hp_I, hp_sI, hp_N, ev_k_s, ev_k_n, true_and, and_true, true_or, or_true, not_true_eq_false, not_false_eq_true, if_true, if_false, ite_self, Option.some.injEq, exists_eq_left', nb_0, nb_1, nb_z, zI_t, zI_f, zI_e, cat_i, cat_r, cat_n, iI_add, iI_sub, iI_mul, iI_neg, iI_lt, iI_le, iI_eq, iI_idx, iI_inT, iI_ne0, ite_false, ite_true, iN_0, iN_1, Int.reduceAdd, Int.reduceSub, Int.reduceMul, Int.reduceNeg, Int.reduceDiv, Int.reduceMod, Int.reduceEq, Int.reduceLT, Int.reduceLE, Int.reduceToNat, Nat.reduceAdd, Nat.reduceSub, Nat.reduceMul, Nat.reduceLT, Nat.reduceLeDiff, Nat.reduceEqDiff, Int.cast_ofNat_Int, Std.le_refl, and_self, Int.toNat_natCast, Int.toNat_zero, Nat.le_refl]
  · rw [u2_eq, List.length_append]; rfl
  · rw [List.length_append] at hk
    have hk2 : k < H.length + 1 := hk
    rw [List.getD_eq_getElem?_getD]
    by_cases q : k = H.length
    · subst q
      rw [List.getElem?_append_right (Nat.le_refl _), Nat.sub_self]
      refine RepS_cp (S := S) hr hVS.2.2.2.1 fun j hj => ?_
      rw [u2_ne (by omega), j2, if_pos (by omega), Nat.zero_add, show 64 * H.length + j - 64 * H.length = j by omega]
    · rw [List.getElem?_append_left (by omega), ← List.getD_eq_getElem?_getD]
      have hin : H.getD k ((0, 0, 0), []) ∈ H := by
        rw [List.getD_eq_getElem?_getD, List.getElem?_eq_getElem (by omega)]
        exact List.getElem_mem (by omega)
      refine RepS_cp (k2 k (by omega)) (hHV _ hin).2.2.2.1 fun j hj => ?_
      rw [u2_ne (by omega), j2, if_neg (by omega)]
/-- remembers -/
theorem c120 (hr : RepS I 103 0 S) (hVS : VS S) (hK : RepK I H) (hH : H.length ≤ 6) (hHV : ∀ S, S ∈ H → VS S) : ∃ J, (∀ Q : Option Value → fb_H → Prop, ev_c 120 [.ref 102] (hp L σ I) Q = Q none (hp L σ J)) ∧ RepK J (pus H S) ∧ ∀ i q, i ≠ 104 → ¬ (i = 102 ∧ q = 2) → J i q = I i q := by
  obtain ⟨k1, k2⟩ := id hK
  by_cases h6 : H.length = 6
  · have lp := fun Q : Option Value → fb_H → Prop => lf0 (fun (A : Nat → Nat → Int32) (k : Nat) => ev_w 120 11 [.ref 102, .int (iI (k : Int))] [] (hp L σ A) Q) (fun A k => fb_u2 A 104 k (I 104 (64 + k))) (fun A k => (∀ i q, i ≠ 104 → A i q = I i q) ∧ ∀ q, A 104 q = if q < k then I 104 (64 + q) else I 104 q) 320 (fun A k hk hp' => by
      obtain ⟨p1, p2⟩ := hp'
      refine ⟨⟨fun i q hi => (u2_ne (by omega)).trans (p1 i q hi), fun q => ?_⟩, ?_⟩
      · by_cases e : q = k
        · subst e
          rw [u2_eq, if_pos (by omega)]
        · rw [u2_ne (by omega), p2]
          by_cases e2 : q < k
          · rw [if_pos e2, if_pos (by omega)]
          · rw [if_neg e2, if_neg (by omega)]
      · show ev_w 120 11 [.ref 102, .int (iI (k : Int))] [] (hp L σ A) Q = _
        have f2 : A 104 (64 + k) = I 104 (64 + k) := by rw [p2, if_neg (by omega)]
        have f3 : (64 + (k : Int)).toNat = 64 + k := by omega
        rw [u120_11]
        simp (disch := first | exact cat_i _ | exact cat_r _ | exact cat_n | omega) only [u120_12, u120_15, u120_18, u120_19, u120_22, u120_23, u120_24, u120_27, u120_29, u120_30, u120_31, u120_32, u120_33, u120_36, hT_102, hT_104, hR_102_1, f2, f3, if_pos, if_neg, ↓reduceIte, false_and, and_false, false_or, or_false, ite_not, decide_true, decide_false, Bool.true_eq_false, Bool.false_eq_true, decide_eq_true_eq, decide_eq_false_iff_not, hp_I, hp_sI, hp_N, ev_k_s, ev_k_n, true_and, and_true, true_or, or_true, not_true_eq_false, not_false_eq_true, if_true, if_false, ite_self, Option.some.injEq, exists_eq_left', nb_0, nb_1, nb_z, zI_t, zI_f, zI_e, cat_i, cat_r, cat_n, iI_add, iI_sub, iI_mul, iI_neg, iI_lt, iI_le, iI_eq, iI_idx, iI_inT, iI_ne0, ite_false, ite_true, iN_0, iN_1, Int.reduceAdd, Int.reduceSub, Int.reduceMul, Int.reduceNeg, Int.reduceDiv, Int.reduceMod, Int.reduceEq, Int.reduceLT, Int.reduceLE, Int.reduceToNat, Nat.reduceAdd, Nat.reduceSub, Nat.reduceMul, Nat.reduceLT, Nat.reduceLeDiff, Nat.reduceEqDiff, Int.cast_ofNat_Int, Std.le_refl, and_self, Int.toNat_natCast, Int.toNat_zero, Nat.le_refl]
        all_goals rfl) I ⟨fun _ _ _ => rfl, fun q => by rw [if_neg (by omega)]⟩
    generalize hJ : (List.range 320).foldl (fun A k => fb_u2 A 104 k (I 104 (64 + k))) I = B at lp
    obtain ⟨j1, j2⟩ := (lp (fun _ _ => True)).2
    have f1 : B 102 2 = iI 6 := by rw [j1 _ _ (by omega), k1, h6]; rfl
    have hD : RepK (fb_u2 B 102 2 (iI 5)) (H.drop 1) := by
      refine ⟨by rw [u2_eq, List.length_drop, h6]; rfl, fun k hk => ?_⟩
      rw [List.length_drop] at hk
      rw [List.getD_eq_getElem?_getD, List.getElem?_drop, ← List.getD_eq_getElem?_getD, Nat.add_comm 1 k]
      have hin : H.getD (k + 1) ((0, 0, 0), []) ∈ H := by
        rw [List.getD_eq_getElem?_getD, List.getElem?_eq_getElem (by omega)]
        exact List.getElem_mem (by omega)
      refine RepS_cp (k2 (k + 1) (by omega)) (hHV _ hin).2.2.2.1 fun j hj => ?_
      rw [u2_ne (by omega), j2, if_pos (by omega)]
      congr 1
      omega
    have hrB : RepS (fb_u2 B 102 2 (iI 5)) 103 0 S := RepS_o hr fun q => (u2_ne (by omega)).trans (j1 _ _ (by omega))
    obtain ⟨J, t1, t2, t3⟩ := c120t (L := L) (σ := σ) (cat_i (iI 320)) hrB hVS hD (by rw [List.length_drop]; omega) (fun X hX => hHV X (List.mem_of_mem_drop hX))
    refine ⟨J, fun Q => ?_, by unfold pus; rw [if_pos h6]; exact t2, fun i q a b => (t3 i q a b).trans ((u2_ne (by omega)).trans (j1 i q a))⟩
    have l1 := (lp Q).1
    clear lp hJ
    rw [h6] at k1
    simp only [Int.cast_ofNat_Int] at k1
    simp (disch := first | exact cat_i _ | exact cat_r _ | exact cat_n | omega) only [u120_0, u120_1, u120_4, u120_6, u120_9, u120_10, e120, hT_102, k1, if_pos, if_neg, ↓reduceIte, false_and, and_false, false_or, or_false, ite_not, decide_true, decide_false, Bool.true_eq_false, Bool.false_eq_true, decide_eq_true_eq, decide_eq_false_iff_not, hp_I, hp_sI, hp_N, ev_k_s, ev_k_n, true_and, and_true, true_or, or_true, not_true_eq_false, not_false_eq_true, if_true, if_false, ite_self, Option.some.injEq, exists_eq_left', nb_0, nb_1, nb_z, zI_t, zI_f, zI_e, cat_i, cat_r, cat_n, iI_add, iI_sub, iI_mul, iI_neg, iI_lt, iI_le, iI_eq, iI_idx, iI_inT, iI_ne0, ite_false, ite_true, iN_0, iN_1, Int.reduceAdd, Int.reduceSub, Int.reduceMul, Int.reduceNeg, Int.reduceDiv, Int.reduceMod, Int.reduceEq, Int.reduceLT, Int.reduceLE, Int.reduceToNat, Nat.reduceAdd, Nat.reduceSub, Nat.reduceMul, Nat.reduceLT, Nat.reduceLeDiff, Nat.reduceEqDiff, Int.cast_ofNat_Int, Std.le_refl, and_self, Int.toNat_natCast, Int.toNat_zero, Nat.le_refl]
    refine Eq.trans l1 ?_
    refine Eq.trans ?_ (t1 Q)
    simp (disch := first | exact cat_i _ | exact cat_r _ | exact cat_n | omega) only [u120_11, u120_12, u120_15, u120_39, u120_40, u120_41, u120_44, u120_45, u120_46, hT_102, f1, Int.cast_ofNat_Int, if_pos, if_neg, ↓reduceIte, false_and, and_false, false_or, or_false, ite_not, decide_true, decide_false, Bool.true_eq_false, Bool.false_eq_true, decide_eq_true_eq, decide_eq_false_iff_not, hp_I, hp_sI, hp_N, ev_k_s, ev_k_n, true_and, and_true, true_or, or_true, not_true_eq_false, not_false_eq_true, if_true, if_false, ite_self, Option.some.injEq, exists_eq_left', nb_0, nb_1, nb_z, zI_t, zI_f, zI_e, cat_i, cat_r, cat_n, iI_add, iI_sub, iI_mul, iI_neg, iI_lt, iI_le, iI_eq, iI_idx, iI_inT, iI_ne0, ite_false, ite_true, iN_0, iN_1, Int.reduceAdd, Int.reduceSub, Int.reduceMul, Int.reduceNeg, Int.reduceDiv, Int.reduceMod, Int.reduceEq, Int.reduceLT, Int.reduceLE, Int.reduceToNat, Nat.reduceAdd, Nat.reduceSub, Nat.reduceMul, Nat.reduceLT, Nat.reduceLeDiff, Nat.reduceEqDiff, Int.cast_ofNat_Int, Std.le_refl, and_self, Int.toNat_natCast, Int.toNat_zero, Nat.le_refl]
  · obtain ⟨J, t1, t2, t3⟩ := c120t (L := L) (σ := σ) cat_n hr hVS hK (by omega) hHV
    refine ⟨J, fun Q => ?_, by unfold pus; rw [if_neg h6]; exact t2, t3⟩
    refine Eq.trans ?_ (t1 Q)
    simp (disch := first | exact cat_i _ | exact cat_r _ | exact cat_n | omega) only [u120_0, u120_1, u120_4, u120_6, e120, hT_102, k1, if_pos, if_neg, ↓reduceIte, false_and, and_false, false_or, or_false, ite_not, decide_true, decide_false, Bool.true_eq_false, Bool.false_eq_true, decide_eq_true_eq, decide_eq_false_iff_not, hp_I, hp_sI, hp_N, ev_k_s, ev_k_n, true_and, and_true, true_or, or_true, not_true_eq_false, not_false_eq_true, if_true, if_false, ite_self, Option.some.injEq, exists_eq_left', nb_0, nb_1, nb_z, zI_t, zI_f, zI_e, cat_i, cat_r, cat_n, iI_add, iI_sub, iI_mul, iI_neg, iI_lt, iI_le, iI_eq, iI_idx, iI_inT, iI_ne0, ite_false, ite_true, iN_0, iN_1, Int.reduceAdd, Int.reduceSub, Int.reduceMul, Int.reduceNeg, Int.reduceDiv, Int.reduceMod, Int.reduceEq, Int.reduceLT, Int.reduceLE, Int.reduceToNat, Nat.reduceAdd, Nat.reduceSub, Nat.reduceMul, Nat.reduceLT, Nat.reduceLeDiff, Nat.reduceEqDiff, Int.cast_ofNat_Int, Std.le_refl, and_self, Int.toNat_natCast, Int.toNat_zero, Nat.le_refl]
/-- a change, behind what is remembered -/
def OthS (J K : Nat → Nat → Int32) : Prop := ∀ i q, i ≠ 103 → (i < 108 ∨ 113 ≤ i) → K i q = J i q
theorem mchg (hM : RepM I A) (hA : AV A) : ∃ J, (∀ Q : Option Value → fb_H → Prop, ev_c 120 [.ref 102] (hp L σ I) Q = Q none (hp L σ J)) ∧ RepS J 103 0 A.1 ∧ (∀ i q, i ≠ 104 → ¬ (i = 102 ∧ q = 2) → J i q = I i q) ∧ ∀ K S', RepS K 103 0 S' → OthS J K → RepM K (S', pus A.2.1 A.1, A.2.2) ∧ ∀ i q, (i < 102 ∨ 113 ≤ i) → K i q = I i q := by
  obtain ⟨J, j1, j2, j3⟩ := c120 (L := L) (σ := σ) hM.1 hA.1 hM.2.1 hA.2.1.1 hA.2.1.2
  refine ⟨J, j1, RepS_o hM.1 fun q => j3 _ _ (by omega) (by omega), j3, fun K S' k1 k2 => ⟨⟨k1, RepK_o j2 (k2 _ _ (by omega) (by omega)) fun q => k2 _ _ (by omega) (by omega), RepQ_o hM.2.2.1 (fun q => (k2 _ _ (by omega) (by omega)).trans (j3 _ _ (by omega) (by omega))) fun q => (k2 _ _ (by omega) (by omega)).trans (j3 _ _ (by omega) (by omega)), RepY_o hM.2.2.2 ((k2 _ _ (by omega) (by omega)).trans (j3 _ _ (by omega) (by omega))) fun q => (k2 _ _ (by omega) (by omega)).trans (j3 _ _ (by omega) (by omega))⟩, fun i q a => (k2 _ _ (by omega) (by omega)).trans (j3 _ _ (by omega) (by omega))⟩⟩
end MZ
