/-! put, as the model reads it -/
def mpS (z : Int64) (s : Nat × Bool × Bool) (k : Nat) : Nat × Bool × Bool := (s.1 + (if (s.2.2 || decide (cod z k = 0)) = true then 0 else 1), s.2.1 && (if (s.2.2 || decide (cod z k = 0)) = true then decide (cod z k = 0) else decide (33 ≤ cod z k ∧ cod z k ≤ 126)), s.2.2 || decide (cod z k = 0))
def mpR (z : Int64) : Nat → Nat → Nat × Bool × Bool → Nat × Bool × Bool
  | 0, _, s => s
  | f + 1, k, s => mpR z f (k + 1) (mpS z s k)
theorem rst_s (z : Int64) {k : Nat} (hk : k < 8) : rst z k = (decide (cod z k = 0) && rst z (k + 1)) := by
  rw [Bool.eq_iff_iff, Bool.and_eq_true, rst_i, rst_i, decide_eq_true_eq]
  constructor
  · intro h
    exact ⟨h k (Nat.le_refl _) hk, fun j a b => h j (by omega) b⟩
  · rintro ⟨h1, h2⟩ j a b
    by_cases q : j = k
    · subst q; exact h1
    · exact h2 j (by omega) b
theorem mpA (z : Int64) : ∀ (f k m : Nat) (r : Bool), k + f = 8 → mpR z f k (m, r, true) = (m, r && rst z k, true)
  | 0, k, m, r, h => by
    have : rst z k = true := (rst_i z k).mpr fun j a b => by omega
    rw [this, Bool.and_true]
    rfl
  | f + 1, k, m, r, h => by
    show mpR z f (k + 1) (mpS z (m, r, true) k) = _
    have e : mpS z (m, r, true) k = (m, r && decide (cod z k = 0), true) := by
      unfold mpS
      simp
    rw [e, mpA z f (k + 1) m _ (by omega), rst_s z (k := k) (by omega), Bool.and_assoc]
theorem mpC (z : Int64) : ∀ (f k m : Nat) (e : Bool), (mpR z f k (m, false, e)).2.1 = false
  | 0, _, _, _ => rfl
  | f + 1, k, m, e => by
    show (mpR z f (k + 1) (mpS z (m, false, e) k)).2.1 = false
    have e2 : mpS z (m, false, e) k = ((mpS z (m, false, e) k).1, false, (mpS z (m, false, e) k).2.2) := by
      unfold mpS
      simp
    rw [e2]
    exact mpC z f (k + 1) _ _
theorem mpB (z : Int64) : ∀ f k, k + f = 8 → (if (mpR z f k (k, true, false)).2.1 = true ∧ (mpR z f k (k, true, false)).1 ≠ 0 then (mpR z f k (k, true, false)).1 else 0) = chI z f k
  | 0, k, h => by
    have : k = 8 := by omega
    subst this
    rfl
  | f + 1, k, h => by
    have es : mpR z (f + 1) k (k, true, false) = mpR z f (k + 1) (mpS z (k, true, false) k) := rfl
    rw [es]
    unfold chI
    by_cases q0 : cod z k = 0
    · rw [if_pos q0]
      have e : mpS z (k, true, false) k = (k, true, true) := by
        unfold mpS
        simp [q0]
      rw [e, mpA z f (k + 1) k true (by omega), rst_s z (k := k) (by omega), decide_eq_true q0, Bool.true_and]
      dsimp only
      cases rst z (k + 1) with
      | true =>
        by_cases q1 : k = 0
        · subst q1; rfl
        · rw [if_pos ⟨rfl, q1⟩, if_pos rfl]
      | false => rw [if_neg (by rintro ⟨a, _⟩; cases a), if_neg (by decide)]
    · rw [if_neg q0]
      by_cases q1 : 33 ≤ cod z k ∧ cod z k ≤ 126
      · have e : mpS z (k, true, false) k = (k + 1, true, false) := by
          unfold mpS
          simp [q0, q1]
        rw [e, if_neg (show ¬ (cod z k < 33 ∨ 126 < cod z k) by omega)]
        exact mpB z f (k + 1) (by omega)
      · have e : mpS z (k, true, false) k = (k + 1, false, false) := by
          unfold mpS
          simp only [Bool.false_or, decide_eq_true_eq, q0, if_false, decide_eq_false q1, Bool.true_and, decide_false, Bool.false_eq_true, ite_self]
        rw [e, if_pos (show cod z k < 33 ∨ 126 < cod z k by omega), if_neg (by rw [mpC]; rintro ⟨a, _⟩; cases a)]
theorem mp_le (z : Int64) : ∀ (f k : Nat) (s : Nat × Bool × Bool), s.1 ≤ k → (mpR z f k s).1 ≤ k + f
  | 0, k, s, h => h
  | f + 1, k, s, h => by
    have h2 : (mpS z s k).1 ≤ k + 1 := by
      unfold mpS
      dsimp only
      split <;> omega
    have := mp_le z f (k + 1) (mpS z s k) h2
    show (mpR z f (k + 1) (mpS z s k)).1 ≤ k + (f + 1)
    omega
section MPP
variable {L : Nat} {σ : Nat → Nat} {I J K : Nat → Nat → Int32} {Q : Option Value → fb_H → Prop} {h : fb_H} {x y r iv w : Int} {S : Co} {n m a o a' o' b b' f c : Nat} {v : Nat × Nat × Nat} {A : AS} {H : List Co} {z : Int64} {T : List Nat}
theorem c168i (f k : Nat) (hfk : k + f = 8) {s : Nat × Bool × Bool} (hs : s.1 ≤ k) {x7 : Value} (hx7 : x7.category = 1) : ∃ y : Value, y.category = 1 ∧ ∀ Q : Option Value → fb_H → Prop, ev_w 168 11 [.ref 102, .long z, .null, .int (iI (s.1 : Int)), .int (zI s.2.1), .int (zI s.2.2), .int (iI (k : Int)), x7] [] (hp L σ I) Q = ev_w 168 11 [.ref 102, .long z, .null, .int (iI ((mpR z f k s).1 : Int)), .int (zI (mpR z f k s).2.1), .int (zI (mpR z f k s).2.2), .int (iI 8), y] [] (hp L σ I) Q := by
  induction f generalizing k s x7 with
  | zero =>
    have : k = 8 := by omega
    subst this
    exact ⟨x7, hx7, fun Q => rfl⟩
  | succ f ih =>
    have hk : k < 8 := by omega
    have e8 : (8 : Int) * (k : Int) = ((8 * k : Nat) : Int) := by omega
    have hc := cod_lt z k
    have hco := co_m z hk
    have hs2 : (mpS z s k).1 ≤ k + 1 := by
      unfold mpS
      dsimp only
      split <;> omega
    obtain ⟨y, y1, y2⟩ := ih (k + 1) (by omega) (s := mpS z s k) hs2 (cat_i (iI ((cod z k : Nat) : Int)))
    refine ⟨y, y1, fun Q => Eq.trans ?_ (y2 Q)⟩
    clear y2 ih
    obtain ⟨m, r, e⟩ := s
    dsimp only at hs
    unfold mpS
    dsimp only
    rw [u168_11]
    generalize cod z k = g at *
    by_cases q0 : g = 0
    · subst q0
      simp only [Int.cast_ofNat_Int] at hco
      cases r <;> cases e
      all_goals
        simp (disch := first | exact hx7 | exact cat_i _ | exact cat_r _ | exact cat_n | omega) only [u168_13, u168_15, u168_18, u168_19, u168_21, u168_23, u168_24, u168_25, u168_28, u168_29, u168_30, u168_32, u168_34, u168_37, u168_39, u168_42, u168_43, u168_46, u168_47, u168_49, u168_51, u168_54, u168_56, u168_59, u168_61, u168_64, u168_67, u168_69, u168_71, u168_73, u168_76, u168_79, u168_80, u168_83, u168_84, u168_86, u168_87, u168_89, u168_92, u168_93, u168_96, u168_97, u168_98, u168_99, u168_102, hT_102, e8, hco, Bool.or_true, Bool.true_or, Bool.true_and, Bool.false_and, if_pos, if_neg, ↓reduceIte, false_and, and_false, false_or, or_false, ite_not, decide_true, decide_false, Bool.true_eq_false, Bool.false_eq_true, decide_eq_true_eq, decide_eq_false_iff_not, hp_I, hp_sI, hp_N, ev_k_s, ev_k_n, true_and, and_true, true_or, or_true, not_true_eq_false, not_false_eq_true, if_true, if_false, ite_self, Option.some.injEq, exists_eq_left', nb_0, nb_1, nb_z, zI_t, zI_f, zI_e, cat_i, cat_r, cat_n, iI_add, iI_sub, iI_mul, iI_neg, iI_lt, iI_le, iI_eq, iI_idx, iI_inT, iI_ne0, ite_false, ite_true, iN_0, iN_1, Int.reduceAdd, Int.reduceSub, Int.reduceMul, Int.reduceNeg, Int.reduceDiv, Int.reduceMod, Int.reduceEq, Int.reduceLT, Int.reduceLE, Int.reduceToNat, Nat.reduceAdd, Nat.reduceSub, Nat.reduceMul, Nat.reduceLT, Nat.reduceLeDiff, Nat.reduceEqDiff, Int.cast_ofNat_Int, Std.le_refl, and_self, Int.toNat_natCast, Int.toNat_zero, Nat.le_refl]
        all_goals rfl
    · cases e with
      | true =>
        cases r
        all_goals
          simp (disch := first | exact hx7 | exact cat_i _ | exact cat_r _ | exact cat_n | omega) only [u168_13, u168_15, u168_18, u168_19, u168_21, u168_23, u168_24, u168_25, u168_28, u168_29, u168_30, u168_32, u168_34, u168_37, u168_39, u168_42, u168_43, u168_46, u168_47, u168_49, u168_51, u168_54, u168_56, u168_59, u168_61, u168_64, u168_67, u168_69, u168_71, u168_73, u168_76, u168_79, u168_80, u168_83, u168_84, u168_86, u168_87, u168_89, u168_92, u168_93, u168_96, u168_97, u168_98, u168_99, u168_102, hT_102, e8, hco, q0, Bool.or_true, Bool.true_or, Bool.true_and, Bool.false_and, Bool.and_false, if_pos, if_neg, ↓reduceIte, false_and, and_false, false_or, or_false, ite_not, decide_true, decide_false, Bool.true_eq_false, Bool.false_eq_true, decide_eq_true_eq, decide_eq_false_iff_not, hp_I, hp_sI, hp_N, ev_k_s, ev_k_n, true_and, and_true, true_or, or_true, not_true_eq_false, not_false_eq_true, if_true, if_false, ite_self, Option.some.injEq, exists_eq_left', nb_0, nb_1, nb_z, zI_t, zI_f, zI_e, cat_i, cat_r, cat_n, iI_add, iI_sub, iI_mul, iI_neg, iI_lt, iI_le, iI_eq, iI_idx, iI_inT, iI_ne0, ite_false, ite_true, iN_0, iN_1, Int.reduceAdd, Int.reduceSub, Int.reduceMul, Int.reduceNeg, Int.reduceDiv, Int.reduceMod, Int.reduceEq, Int.reduceLT, Int.reduceLE, Int.reduceToNat, Nat.reduceAdd, Nat.reduceSub, Nat.reduceMul, Nat.reduceLT, Nat.reduceLeDiff, Nat.reduceEqDiff, Int.cast_ofNat_Int, Std.le_refl, and_self, Int.toNat_natCast, Int.toNat_zero, Nat.le_refl]
          all_goals rfl
      | false =>
        by_cases q1 : 33 ≤ g ∧ g ≤ 126
        · have q2 : 33 ≤ (g : Int) ∧ (g : Int) ≤ 126 := by omega
          cases r
          all_goals
            simp (disch := first | exact hx7 | exact cat_i _ | exact cat_r _ | exact cat_n | omega) only [u168_13, u168_15, u168_18, u168_19, u168_21, u168_23, u168_24, u168_25, u168_28, u168_29, u168_30, u168_32, u168_34, u168_37, u168_39, u168_42, u168_43, u168_46, u168_47, u168_49, u168_51, u168_54, u168_56, u168_59, u168_61, u168_64, u168_67, u168_69, u168_71, u168_73, u168_76, u168_79, u168_80, u168_83, u168_84, u168_86, u168_87, u168_89, u168_92, u168_93, u168_96, u168_97, u168_98, u168_99, u168_102, hT_102, e8, hco, q0, q1, c113, zI_dt q2, Bool.or_false, Bool.false_or, Bool.true_and, Bool.false_and, if_pos, if_neg, ↓reduceIte, false_and, and_false, false_or, or_false, ite_not, decide_true, decide_false, Bool.true_eq_false, Bool.false_eq_true, decide_eq_true_eq, decide_eq_false_iff_not, hp_I, hp_sI, hp_N, ev_k_s, ev_k_n, true_and, and_true, true_or, or_true, not_true_eq_false, not_false_eq_true, if_true, if_false, ite_self, Option.some.injEq, exists_eq_left', nb_0, nb_1, nb_z, zI_t, zI_f, zI_e, cat_i, cat_r, cat_n, iI_add, iI_sub, iI_mul, iI_neg, iI_lt, iI_le, iI_eq, iI_idx, iI_inT, iI_ne0, ite_false, ite_true, iN_0, iN_1, Int.reduceAdd, Int.reduceSub, Int.reduceMul, Int.reduceNeg, Int.reduceDiv, Int.reduceMod, Int.reduceEq, Int.reduceLT, Int.reduceLE, Int.reduceToNat, Nat.reduceAdd, Nat.reduceSub, Nat.reduceMul, Nat.reduceLT, Nat.reduceLeDiff, Nat.reduceEqDiff, Int.cast_ofNat_Int, Std.le_refl, and_self, Int.toNat_natCast, Int.toNat_zero, Nat.le_refl]
            all_goals rfl
        · have q2 : ¬ (33 ≤ (g : Int) ∧ (g : Int) ≤ 126) := by omega
          cases r
          all_goals
            simp (disch := first | exact hx7 | exact cat_i _ | exact cat_r _ | exact cat_n | omega) only [u168_13, u168_15, u168_18, u168_19, u168_21, u168_23, u168_24, u168_25, u168_28, u168_29, u168_30, u168_32, u168_34, u168_37, u168_39, u168_42, u168_43, u168_46, u168_47, u168_49, u168_51, u168_54, u168_56, u168_59, u168_61, u168_64, u168_67, u168_69, u168_71, u168_73, u168_76, u168_79, u168_80, u168_83, u168_84, u168_86, u168_87, u168_89, u168_92, u168_93, u168_96, u168_97, u168_98, u168_99, u168_102, hT_102, e8, hco, q0, q1, c113, zI_df q2, Bool.or_false, Bool.false_or, Bool.true_and, Bool.false_and, if_pos, if_neg, ↓reduceIte, false_and, and_false, false_or, or_false, ite_not, decide_true, decide_false, Bool.true_eq_false, Bool.false_eq_true, decide_eq_true_eq, decide_eq_false_iff_not, hp_I, hp_sI, hp_N, ev_k_s, ev_k_n, true_and, and_true, true_or, or_true, not_true_eq_false, not_false_eq_true, if_true, if_false, ite_self, Option.some.injEq, exists_eq_left', nb_0, nb_1, nb_z, zI_t, zI_f, zI_e, cat_i, cat_r, cat_n, iI_add, iI_sub, iI_mul, iI_neg, iI_lt, iI_le, iI_eq, iI_idx, iI_inT, iI_ne0, ite_false, ite_true, iN_0, iN_1, Int.reduceAdd, Int.reduceSub, Int.reduceMul, Int.reduceNeg, Int.reduceDiv, Int.reduceMod, Int.reduceEq, Int.reduceLT, Int.reduceLE, Int.reduceToNat, Nat.reduceAdd, Nat.reduceSub, Nat.reduceMul, Nat.reduceLT, Nat.reduceLeDiff, Nat.reduceEqDiff, Int.cast_ofNat_Int, Std.le_refl, and_self, Int.toNat_natCast, Int.toNat_zero, Nat.le_refl]
            all_goals rfl
/-- the characters are laid -/
theorem c168l (hT : RepY I T) {m : Nat} (hm : m ≤ 8) (h80 : T.length + m ≤ 80) {x3 x4 x5 x7 : Value} (h3 : x3.category = 1) (h4 : x4.category = 1) (h5 : x5.category = 1) (h7 : x7.category = 1) : ∃ J, (∀ Q : Option Value → fb_H → Prop, ev_w 168 136 [.ref 102, .long z, .null, x3, x4, x5, .int (iI ((m : Int) - 1)), x7] [] (hp L σ I) Q = ev_w 168 136 [.ref 102, .long z, .null, x3, x4, x5, .int (iI (-1)), x7] [] (hp L σ J) Q) ∧ RepY J (T ++ cds z m m) ∧ ∀ i q, ¬ (i = 102 ∧ q = 6) → i ≠ 107 → J i q = I i q := by
  obtain ⟨J, ⟨p1, p2⟩, e⟩ := lx (fun Q (J : Nat → Nat → Int32) (k : Nat) => ev_w 168 136 [.ref 102, .long z, .null, x3, x4, x5, .int (iI ((m : Int) - 1 - (k : Int))), x7] [] (hp L σ J) Q) (fun J k => RepY J (T ++ cds z m k) ∧ ∀ i q, ¬ (i = 102 ∧ q = 6) → i ≠ 107 → J i q = I i q) m (fun B k hk hp' => by
    obtain ⟨j1, j2⟩ := hp'
    have ek : (m : Int) - 1 - (k : Int) = ((m - 1 - k : Nat) : Int) := by omega
    have ek2 : ((m - 1 - k : Nat) : Int) + -1 = (m : Int) - 1 - ((k + 1 : Nat) : Int) := by omega
    have e8 : (8 : Int) * ((m - 1 - k : Nat) : Int) = ((8 * (m - 1 - k) : Nat) : Int) := by omega
    have hlen : (T ++ cds z m k).length = T.length + k := by unfold cds; rw [List.length_append, List.length_map, List.length_range]
    have hl1 := j1.1
    rw [hlen] at hl1
    have hco := co_m z (k := m - 1 - k) (by omega)
    have hsplit : T ++ cds z m (k + 1) = (T ++ cds z m k) ++ [cod z (m - 1 - k)] := by unfold cds; rw [List.range_succ, List.map_append, List.append_assoc]; rfl
    have e50 : fb_u2 B 107 (T.length + k) (iI ((cod z (m - 1 - k) : Nat) : Int)) 102 6 = iI ((T.length + k : Nat) : Int) := (u2_ne (by omega)).trans hl1
    refine ⟨fb_u2 (fb_u2 B 107 (T.length + k) (iI ((cod z (m - 1 - k) : Nat) : Int))) 102 6 (iI (((T.length + k : Nat) : Int) + 1)), ⟨⟨?_, fun q hq => ?_⟩, fun i q a b => (u2_ne (by omega)).trans ((u2_ne (by omega)).trans (j2 i q a b))⟩, fun Q => ?_⟩
    · rw [hsplit, List.length_append, hlen]; exact u2_eq
    · rw [hsplit, List.length_append, hlen] at hq
      have hq2 : q < T.length + k + 1 := hq
      rw [hsplit, u2_ne (by omega), List.getD_eq_getElem?_getD]
      by_cases q1 : q = T.length + k
      · subst q1
        rw [u2_eq, List.getElem?_append_right (by omega), hlen, Nat.sub_self]
        rfl
      · rw [u2_ne (by omega), List.getElem?_append_left (by omega), ← List.getD_eq_getElem?_getD]
        exact j1.2 q (by omega)
    · show ev_w 168 136 [.ref 102, .long z, .null, x3, x4, x5, .int (iI ((m : Int) - 1 - (k : Int))), x7] [] (hp L σ B) Q = _
      rw [ek, u168_136]
      simp (disch := first | exact h3 | exact h4 | exact h5 | exact h7 | exact cat_i _ | exact cat_r _ | exact cat_n | omega) only [u168_138, u168_141, u168_142, u168_145, u168_146, u168_149, u168_150, u168_152, u168_154, u168_155, u168_156, u168_159, u168_160, u168_161, u168_162, u168_163, u168_164, u168_167, u168_168, u168_169, u168_172, u168_175, hT_102, hT_107, hR_102_5, hl1, e8, hco, e50, ek2, if_pos, if_neg, ↓reduceIte, false_and, and_false, false_or, or_false, ite_not, decide_true, decide_false, Bool.true_eq_false, Bool.false_eq_true, decide_eq_true_eq, decide_eq_false_iff_not, hp_I, hp_sI, hp_N, ev_k_s, ev_k_n, true_and, and_true, true_or, or_true, not_true_eq_false, not_false_eq_true, if_true, if_false, ite_self, Option.some.injEq, exists_eq_left', nb_0, nb_1, nb_z, zI_t, zI_f, zI_e, cat_i, cat_r, cat_n, iI_add, iI_sub, iI_mul, iI_neg, iI_lt, iI_le, iI_eq, iI_idx, iI_inT, iI_ne0, ite_false, ite_true, iN_0, iN_1, Int.reduceAdd, Int.reduceSub, Int.reduceMul, Int.reduceNeg, Int.reduceDiv, Int.reduceMod, Int.reduceEq, Int.reduceLT, Int.reduceLE, Int.reduceToNat, Nat.reduceAdd, Nat.reduceSub, Nat.reduceMul, Nat.reduceLT, Nat.reduceLeDiff, Nat.reduceEqDiff, Int.cast_ofNat_Int, Std.le_refl, and_self, Int.toNat_natCast, Int.toNat_zero, Nat.le_refl]) m 0 I (by omega) ⟨by unfold cds; rw [show (List.range 0) = [] from rfl, List.map_nil, List.append_nil]; exact hT, fun _ _ _ _ => rfl⟩
  refine ⟨J, fun Q => ?_, p1, p2⟩
  have e0 := e Q
  rw [show (m : Int) - 1 - ((0 : Nat) : Int) = (m : Int) - 1 by omega, show (m : Int) - 1 - (m : Int) = -1 by omega] at e0
  exact e0
theorem m168 (hM : RepM I A) (hA : AV A) : MR L σ I 168 [.ref 102, .long z] (opPut A z) := by
  obtain ⟨h1, h2, h3, h4⟩ := id hM
  obtain ⟨c1', c2'⟩ := chs_in z
  have h80 := hA.2.2.2.1
  have hb := mpB z 8 0 rfl
  have hle := mp_le z 8 0 (0, true, false) (Nat.le_refl _)
  change _ = chs z at hb
  obtain ⟨y, y1, y2⟩ := c168i (L := L) (σ := σ) (I := I) (z := z) 8 0 rfl (s := (0, true, false)) (Nat.le_refl _) (cat_n)
  generalize hg : mpR z 8 0 (0, true, false) = g at *
  obtain ⟨m, r, e⟩ := g
  dsimp only at hb y2 hle
  unfold opPut
  have hlen := h4.1
  by_cases q0 : r = true ∧ m ≠ 0
  · rw [if_pos q0] at hb
    obtain ⟨q1, q2⟩ := q0
    subst q1
    rw [← hb] at c1' c2' ⊢
    rw [if_neg q2]
    by_cases q3 : 80 < A.2.2.2.length + m
    · rw [if_pos q3]
      refine MR_id hM fun Q => ?_
      have y2' := y2 Q
      clear y2
      simp (disch := first | exact cat_i _ | exact cat_r _ | exact cat_n | omega) only [u168_0, u168_1, u168_2, u168_3, u168_5, u168_6, u168_8, u168_9, e168, hT_102, if_pos, if_neg, ↓reduceIte, false_and, and_false, false_or, or_false, ite_not, decide_true, decide_false, Bool.true_eq_false, Bool.false_eq_true, decide_eq_true_eq, decide_eq_false_iff_not, hp_I, hp_sI, hp_N, ev_k_s, ev_k_n, true_and, and_true, true_or, or_true, not_true_eq_false, not_false_eq_true, if_true, if_false, ite_self, Option.some.injEq, exists_eq_left', nb_0, nb_1, nb_z, zI_t, zI_f, zI_e, cat_i, cat_r, cat_n, iI_add, iI_sub, iI_mul, iI_neg, iI_lt, iI_le, iI_eq, iI_idx, iI_inT, iI_ne0, ite_false, ite_true, iN_0, iN_1, Int.reduceAdd, Int.reduceSub, Int.reduceMul, Int.reduceNeg, Int.reduceDiv, Int.reduceMod, Int.reduceEq, Int.reduceLT, Int.reduceLE, Int.reduceToNat, Nat.reduceAdd, Nat.reduceSub, Nat.reduceMul, Nat.reduceLT, Nat.reduceLeDiff, Nat.reduceEqDiff, Int.cast_ofNat_Int, Std.le_refl, and_self, Int.toNat_natCast, Int.toNat_zero, Nat.le_refl]
      refine Eq.trans y2' ?_
      clear y2'
      simp (disch := first | exact y1 | exact cat_i _ | exact cat_r _ | exact cat_n | omega) only [u168_11, u168_13, u168_15, u168_105, u168_107, u168_110, u168_111, u168_114, u168_116, u168_117, u168_118, u168_121, u168_122, u168_123, u168_125, u168_128, u168_130, hT_102, hlen, if_pos, if_neg, ↓reduceIte, false_and, and_false, false_or, or_false, ite_not, decide_true, decide_false, Bool.true_eq_false, Bool.false_eq_true, decide_eq_true_eq, decide_eq_false_iff_not, hp_I, hp_sI, hp_N, ev_k_s, ev_k_n, true_and, and_true, true_or, or_true, not_true_eq_false, not_false_eq_true, if_true, if_false, ite_self, Option.some.injEq, exists_eq_left', nb_0, nb_1, nb_z, zI_t, zI_f, zI_e, cat_i, cat_r, cat_n, iI_add, iI_sub, iI_mul, iI_neg, iI_lt, iI_le, iI_eq, iI_idx, iI_inT, iI_ne0, ite_false, ite_true, iN_0, iN_1, Int.reduceAdd, Int.reduceSub, Int.reduceMul, Int.reduceNeg, Int.reduceDiv, Int.reduceMod, Int.reduceEq, Int.reduceLT, Int.reduceLE, Int.reduceToNat, Nat.reduceAdd, Nat.reduceSub, Nat.reduceMul, Nat.reduceLT, Nat.reduceLeDiff, Nat.reduceEqDiff, Int.cast_ofNat_Int, Std.le_refl, and_self, Int.toNat_natCast, Int.toNat_zero, Nat.le_refl]
    · rw [if_neg q3]
      obtain ⟨J, j1, j2, j3⟩ := c168l (L := L) (σ := σ) (z := z) h4 c1' (by omega) (cat_i (iI (m : Int))) (cat_i (zI true)) (cat_i (zI e)) y1
      have hl2 : (A.2.2.2 ++ cds z m m).length = A.2.2.2.length + m := by unfold cds; rw [List.length_append, List.length_map, List.length_range]
      have hJ := j2.1
      rw [hl2] at hJ
      refine ⟨J, fun Q => ?_, ⟨RepS_o h1 fun q => j3 _ _ (by omega) (by omega), RepK_o h2 (j3 _ _ (by omega) (by omega)) fun q => j3 _ _ (by omega) (by omega), RepQ_o h3 (fun q => j3 _ _ (by omega) (by omega)) fun q => j3 _ _ (by omega) (by omega), j2⟩, fun i q a => j3 i q (by omega) (by omega)⟩
      have y2' := y2 Q
      have j1' := j1 Q
      clear y2 j1
      simp (disch := first | exact cat_i _ | exact cat_r _ | exact cat_n | omega) only [u168_0, u168_1, u168_2, u168_3, u168_5, u168_6, u168_8, u168_9, e168, hT_102, if_pos, if_neg, ↓reduceIte, false_and, and_false, false_or, or_false, ite_not, decide_true, decide_false, Bool.true_eq_false, Bool.false_eq_true, decide_eq_true_eq, decide_eq_false_iff_not, hp_I, hp_sI, hp_N, ev_k_s, ev_k_n, true_and, and_true, true_or, or_true, not_true_eq_false, not_false_eq_true, if_true, if_false, ite_self, Option.some.injEq, exists_eq_left', nb_0, nb_1, nb_z, zI_t, zI_f, zI_e, cat_i, cat_r, cat_n, iI_add, iI_sub, iI_mul, iI_neg, iI_lt, iI_le, iI_eq, iI_idx, iI_inT, iI_ne0, ite_false, ite_true, iN_0, iN_1, Int.reduceAdd, Int.reduceSub, Int.reduceMul, Int.reduceNeg, Int.reduceDiv, Int.reduceMod, Int.reduceEq, Int.reduceLT, Int.reduceLE, Int.reduceToNat, Nat.reduceAdd, Nat.reduceSub, Nat.reduceMul, Nat.reduceLT, Nat.reduceLeDiff, Nat.reduceEqDiff, Int.cast_ofNat_Int, Std.le_refl, and_self, Int.toNat_natCast, Int.toNat_zero, Nat.le_refl]
      refine Eq.trans y2' ?_
      clear y2'
      simp (disch := first | exact y1 | exact cat_i _ | exact cat_r _ | exact cat_n | omega) only [u168_11, u168_13, u168_15, u168_105, u168_107, u168_110, u168_111, u168_114, u168_116, u168_117, u168_118, u168_121, u168_122, u168_123, u168_125, u168_128, u168_130, u168_131, u168_132, u168_133, u168_134, hT_102, hlen, if_pos, if_neg, ↓reduceIte, false_and, and_false, false_or, or_false, ite_not, decide_true, decide_false, Bool.true_eq_false, Bool.false_eq_true, decide_eq_true_eq, decide_eq_false_iff_not, hp_I, hp_sI, hp_N, ev_k_s, ev_k_n, true_and, and_true, true_or, or_true, not_true_eq_false, not_false_eq_true, if_true, if_false, ite_self, Option.some.injEq, exists_eq_left', nb_0, nb_1, nb_z, zI_t, zI_f, zI_e, cat_i, cat_r, cat_n, iI_add, iI_sub, iI_mul, iI_neg, iI_lt, iI_le, iI_eq, iI_idx, iI_inT, iI_ne0, ite_false, ite_true, iN_0, iN_1, Int.reduceAdd, Int.reduceSub, Int.reduceMul, Int.reduceNeg, Int.reduceDiv, Int.reduceMod, Int.reduceEq, Int.reduceLT, Int.reduceLE, Int.reduceToNat, Nat.reduceAdd, Nat.reduceSub, Nat.reduceMul, Nat.reduceLT, Nat.reduceLeDiff, Nat.reduceEqDiff, Int.cast_ofNat_Int, Std.le_refl, and_self, Int.toNat_natCast, Int.toNat_zero, Nat.le_refl]
      refine Eq.trans j1' ?_
      clear j1'
      simp (disch := first | exact y1 | exact cat_i _ | exact cat_r _ | exact cat_n | omega) only [u168_136, u168_138, u168_178, u168_179, u168_182, hT_102, hJ, if_pos, if_neg, ↓reduceIte, false_and, and_false, false_or, or_false, ite_not, decide_true, decide_false, Bool.true_eq_false, Bool.false_eq_true, decide_eq_true_eq, decide_eq_false_iff_not, hp_I, hp_sI, hp_N, ev_k_s, ev_k_n, true_and, and_true, true_or, or_true, not_true_eq_false, not_false_eq_true, if_true, if_false, ite_self, Option.some.injEq, exists_eq_left', nb_0, nb_1, nb_z, zI_t, zI_f, zI_e, cat_i, cat_r, cat_n, iI_add, iI_sub, iI_mul, iI_neg, iI_lt, iI_le, iI_eq, iI_idx, iI_inT, iI_ne0, ite_false, ite_true, iN_0, iN_1, Int.reduceAdd, Int.reduceSub, Int.reduceMul, Int.reduceNeg, Int.reduceDiv, Int.reduceMod, Int.reduceEq, Int.reduceLT, Int.reduceLE, Int.reduceToNat, Nat.reduceAdd, Nat.reduceSub, Nat.reduceMul, Nat.reduceLT, Nat.reduceLeDiff, Nat.reduceEqDiff, Int.cast_ofNat_Int, Std.le_refl, and_self, Int.toNat_natCast, Int.toNat_zero, Nat.le_refl]
  · rw [if_neg q0] at hb
    rw [if_pos hb.symm]
    refine MR_id hM fun Q => ?_
    have y2' := y2 Q
    clear y2
    simp (disch := first | exact cat_i _ | exact cat_r _ | exact cat_n | omega) only [u168_0, u168_1, u168_2, u168_3, u168_5, u168_6, u168_8, u168_9, e168, hT_102, if_pos, if_neg, ↓reduceIte, false_and, and_false, false_or, or_false, ite_not, decide_true, decide_false, Bool.true_eq_false, Bool.false_eq_true, decide_eq_true_eq, decide_eq_false_iff_not, hp_I, hp_sI, hp_N, ev_k_s, ev_k_n, true_and, and_true, true_or, or_true, not_true_eq_false, not_false_eq_true, if_true, if_false, ite_self, Option.some.injEq, exists_eq_left', nb_0, nb_1, nb_z, zI_t, zI_f, zI_e, cat_i, cat_r, cat_n, iI_add, iI_sub, iI_mul, iI_neg, iI_lt, iI_le, iI_eq, iI_idx, iI_inT, iI_ne0, ite_false, ite_true, iN_0, iN_1, Int.reduceAdd, Int.reduceSub, Int.reduceMul, Int.reduceNeg, Int.reduceDiv, Int.reduceMod, Int.reduceEq, Int.reduceLT, Int.reduceLE, Int.reduceToNat, Nat.reduceAdd, Nat.reduceSub, Nat.reduceMul, Nat.reduceLT, Nat.reduceLeDiff, Nat.reduceEqDiff, Int.cast_ofNat_Int, Std.le_refl, and_self, Int.toNat_natCast, Int.toNat_zero, Nat.le_refl]
    refine Eq.trans y2' ?_
    clear y2'
    cases r with
    | false => simp (disch := first | exact y1 | exact cat_i _ | exact cat_r _ | exact cat_n | omega) only [u168_11, u168_13, u168_15, u168_105, u168_107, u168_110, u168_111, u168_114, u168_116, hT_102, if_pos, if_neg, ↓reduceIte, false_and, and_false, false_or, or_false, ite_not, decide_true, decide_false, Bool.true_eq_false, Bool.false_eq_true, decide_eq_true_eq, decide_eq_false_iff_not, hp_I, hp_sI, hp_N, ev_k_s, ev_k_n, true_and, and_true, true_or, or_true, not_true_eq_false, not_false_eq_true, if_true, if_false, ite_self, Option.some.injEq, exists_eq_left', nb_0, nb_1, nb_z, zI_t, zI_f, zI_e, cat_i, cat_r, cat_n, iI_add, iI_sub, iI_mul, iI_neg, iI_lt, iI_le, iI_eq, iI_idx, iI_inT, iI_ne0, ite_false, ite_true, iN_0, iN_1, Int.reduceAdd, Int.reduceSub, Int.reduceMul, Int.reduceNeg, Int.reduceDiv, Int.reduceMod, Int.reduceEq, Int.reduceLT, Int.reduceLE, Int.reduceToNat, Nat.reduceAdd, Nat.reduceSub, Nat.reduceMul, Nat.reduceLT, Nat.reduceLeDiff, Nat.reduceEqDiff, Int.cast_ofNat_Int, Std.le_refl, and_self, Int.toNat_natCast, Int.toNat_zero, Nat.le_refl]
    | true =>
      have q4 : m = 0 := by
        by_cases q4 : m = 0
        · exact q4
        · exact absurd ⟨rfl, q4⟩ q0
      subst q4
      simp (disch := first | exact y1 | exact cat_i _ | exact cat_r _ | exact cat_n | omega) only [u168_11, u168_13, u168_15, u168_105, u168_107, u168_110, u168_111, u168_114, u168_116, hT_102, Int.cast_ofNat_Int, if_pos, if_neg, ↓reduceIte, false_and, and_false, false_or, or_false, ite_not, decide_true, decide_false, Bool.true_eq_false, Bool.false_eq_true, decide_eq_true_eq, decide_eq_false_iff_not, hp_I, hp_sI, hp_N, ev_k_s, ev_k_n, true_and, and_true, true_or, or_true, not_true_eq_false, not_false_eq_true, if_true, if_false, ite_self, Option.some.injEq, exists_eq_left', nb_0, nb_1, nb_z, zI_t, zI_f, zI_e, cat_i, cat_r, cat_n, iI_add, iI_sub, iI_mul, iI_neg, iI_lt, iI_le, iI_eq, iI_idx, iI_inT, iI_ne0, ite_false, ite_true, iN_0, iN_1, Int.reduceAdd, Int.reduceSub, Int.reduceMul, Int.reduceNeg, Int.reduceDiv, Int.reduceMod, Int.reduceEq, Int.reduceLT, Int.reduceLE, Int.reduceToNat, Nat.reduceAdd, Nat.reduceSub, Nat.reduceMul, Nat.reduceLT, Nat.reduceLeDiff, Nat.reduceEqDiff, Int.cast_ofNat_Int, Std.le_refl, and_self, Int.toNat_natCast, Int.toNat_zero, Nat.le_refl]
/-- wipe -/
theorem m169 (hM : RepM I A) (hA : AV A) : MR L σ I 169 [.ref 102] (opWipe A) := by
  obtain ⟨h1, h2, h3, h4⟩ := id hM
  have hlen := h4.1
  refine ⟨fb_u2 I 102 6 (iI 0), fun Q => ?_, ⟨RepS_o h1 fun q => u2_ne (by omega), RepK_o h2 (u2_ne (by omega)) fun q => u2_ne (by omega), RepQ_o h3 (fun q => u2_ne (by omega)) fun q => u2_ne (by omega), ⟨u2_eq, fun k hk => absurd hk (Nat.not_lt_zero k)⟩⟩, fun i q a => u2_ne (by omega)⟩
  simp (disch := first | exact cat_i _ | exact cat_r _ | exact cat_n | omega) only [e169, u169_0, u169_1, u169_4, u169_5, u169_6, u169_7, u169_10, u169_11, hT_102, hlen, opWipe, ↓reduceIte, false_and, and_false, false_or, or_false, ite_not, decide_true, decide_false, Bool.true_eq_false, Bool.false_eq_true, decide_eq_true_eq, decide_eq_false_iff_not, hp_I, hp_sI, hp_N, ev_k_s, ev_k_n, true_and, and_true, true_or, or_true, not_true_eq_false, not_false_eq_true, if_true, if_false, ite_self, Option.some.injEq, exists_eq_left', nb_0, nb_1, nb_z, zI_t, zI_f, zI_e, cat_i, cat_r, cat_n, iI_add, iI_sub, iI_mul, iI_neg, iI_lt, iI_le, iI_eq, iI_idx, iI_inT, iI_ne0, ite_false, ite_true, iN_0, iN_1, Int.reduceAdd, Int.reduceSub, Int.reduceMul, Int.reduceNeg, Int.reduceDiv, Int.reduceMod, Int.reduceEq, Int.reduceLT, Int.reduceLE, Int.reduceToNat, Nat.reduceAdd, Nat.reduceSub, Nat.reduceMul, Nat.reduceLT, Nat.reduceLeDiff, Nat.reduceEqDiff, Int.cast_ofNat_Int, Std.le_refl, and_self, Int.toNat_natCast, Int.toNat_zero, Nat.le_refl]
end MPP
