/-! realise -/
theorem gv_self {X : Co} {k : Nat} (hk : k < X.2.length) : gv X k (ch X k).2.2 = X := by
  have e : ch X k = X.2[k] := by
    unfold ch
    rw [List.getD_eq_getElem?_getD, List.getElem?_eq_getElem hk, Option.getD_some]
  unfold gv
  rw [e]
  refine Prod.ext rfl ?_
  show X.2.set k X.2[k] = X.2
  exact List.set_getElem_self hk
theorem rel_ch {S : Co} {c : Nat} : ∀ k, k ≤ S.2.length → k ≤ c → ch (rel S k) c = ch S c
  | 0, _, _ => rfl
  | k + 1, hk, h => by
    show ch (match pth S k with
      | some r => gv (rel S k) k (some ((chl S k).getD r (0, 0, 0)))
      | none => rel S k) c = _
    cases pth S k with
    | none => exact rel_ch k (by omega) (by omega)
    | some r =>
      dsimp only
      rw [ch_gv (by rw [rel_len]; omega), if_neg (by omega)]
      exact rel_ch k (by omega) (by omega)
section MH
variable {L : Nat} {σ : Nat → Nat} {I J K : Nat → Nat → Int32} {Q : Option Value → fb_H → Prop} {h : fb_H} {x y z iv : Int} {S : Co} {n m a o a' o' b b' f c r : Nat} {v w : Nat × Nat × Nat} {A : AS} {H : List Co}
theorem m145 (hM : RepM I A) (hA : AV A) : MR L σ I 145 [.ref 102] (lsr A.1, A) := by
  obtain ⟨J, j1, j2⟩ := c145 (L := L) (σ := σ) hM.1 hA.1
  exact MR_v hM j1 j2
/-- what is chosen, chord by chord -/
def chz (S : Co) (c r : Nat) : Int := if (ch S c).2.2.isSome = true then -6 else (r : Int)
theorem c148a (hr : RepS I 103 0 S) (hVS : VS S) (hl6 : (lst S).1 < 1000000) (h0 : 0 < S.2.length) (hL : ∀ c, c < S.2.length → RepL I c (chl S c)) (hG : ∀ c, c < S.2.length → RowM S I c (chl S c).length) {x1 : Value} (hx1 : x1.category = 1) : ∃ J x2 x3 x5, x2.category = 1 ∧ x3.category = 1 ∧ x5.category = 1 ∧ (∀ c r, c < S.2.length → pth S c = some r → J 111 c = iI (chz S c r)) ∧ (∀ i q, i ≠ 108 → i ≠ 109 → i ≠ 111 → J i q = I i q) ∧ ∀ Q : Option Value → fb_H → Prop, ev_w 148 26 [.ref 102, x1, .int (iI ((lst S).1 : Int)), .int (iI (-6)), .int (iI 0), .null] [] (hp L σ I) Q = ev_w 148 26 [.ref 102, x1, x2, x3, .int (iI (S.2.length : Int)), x5] [] (hp L σ J) Q := by
  have hl := hVS.2.2.2.1
  obtain ⟨⟨J, x2, x3, x5⟩, ⟨p1, p2, p3, p4, p5, p6, p7⟩, e⟩ := lx (fun Q (a : (Nat → Nat → Int32) × Int32 × Int32 × Value) (k : Nat) => ev_w 148 26 [.ref 102, x1, .int a.2.1, .int a.2.2.1, .int (iI (k : Int)), a.2.2.2] [] (hp L σ a.1) Q) (fun a k => a.2.2.2.category = 1 ∧ (k = 0 → a.2.1 = iI ((lst S).1 : Int) ∧ a.2.2.1 = iI (-6)) ∧ (∀ j r, k = j + 1 → pth S j = some r → a.2.1 = iI ((tgc S j r).1 : Int) ∧ a.2.2.1 = iI (r : Int)) ∧ (∀ c r, c < k → pth S c = some r → a.1 111 c = iI (chz S c r)) ∧ (∀ c, k ≤ c → a.1 111 c = I 111 c) ∧ (∀ i q, i ≠ 108 → i ≠ 109 → i ≠ 111 → a.1 i q = I i q) ∧ True) S.2.length (fun a k hk hp' => by
    obtain ⟨B, x2, x3, x5⟩ := a
    obtain ⟨p1, p2, p3, p4, p5, p6, _⟩ := hp'
    dsimp only at p1 p2 p3 p4 p5 p6
    have hrB : RepS B 103 0 S := RepS_o hr fun q => p6 _ _ (by omega) (by omega) (by omega)
    obtain ⟨r, hr1, hr2, hr3⟩ := pth_q hl6 k hk
    have hLk : RepL B k (chl S k) := RepL_o (hL k hk) (p5 _ (Nat.le_refl _)) fun q _ _ => p6 _ _ (by omega) (by omega) (by omega)
    have hGk : RowM S B k (chl S k).length := fun r hr => (p6 _ _ (by omega) (by omega) (by omega)).trans (hG k hk r hr)
    have hgr := hGk r hr2
    have h20 := hLk.2.1
    have hne : chz S k r = if (ch S k).2.2.isSome = true then -6 else (r : Int) := rfl
    have f1 : (128 * (k : Int) + (r : Int)).toNat = 128 * k + r := by omega
    have g0 := hrB.1
    -- what firstWith answers
    have fw : ∃ C, OthF B C ∧ ∀ Q : Option Value → fb_H → Prop, ev_c 147 [.ref 102, .int (iI (k : Int)), .int x3, .int x2] (hp L σ B) Q = Q (some (.int (iI (r : Int)))) (hp L σ C) := by
      cases k with
      | zero =>
        obtain ⟨q1, q2⟩ := p2 rfl
        have := fun Q => c147z (L := L) (σ := σ) (Q := Q) hrB hVS hk hLk hGk hr1 hl6
        rw [q1, q2]
        exact ⟨B, fun _ _ _ _ => rfl, this⟩
      | succ j =>
        obtain ⟨p, hp1, hp2, hp3⟩ := pth_q hl6 j (by omega)
        obtain ⟨q1, q2⟩ := p3 j p rfl hp1
        have hE : RepE B j (chl S j) := RepE_o (hL j (by omega)).2 fun q _ _ => p6 _ _ (by omega) (by omega) (by omega)
        have hst : (tgc S j p).2 = some r := by
          have : pth S (j + 1) = (tgc S j p).2 := by
            show (match pth S j with
              | some r => (tgc S j r).2
              | none => none) = _
            rw [hp1]
          rw [← this]
          exact hr1
        obtain ⟨C, c1, c2⟩ := c147s (L := L) (σ := σ) hrB hVS hk hE hLk hGk hp2 hst hp3
        rw [q1, q2]
        exact ⟨C, c2, c1⟩
    obtain ⟨C, c1, c2⟩ := fw
    have hrC : RepS C 103 0 S := RepS_o hrB fun q => c1 _ _ (by omega) (by omega)
    have e118 := fun Q => c118 (L := L) (σ := σ) (Q := Q) hrC hl hk
    have hgC : C 112 (128 * k + r) = iI ((tgc S k r).1 : Int) := (c1 _ _ (by omega) (by omega)).trans hgr
    refine ⟨(fb_u2 C 111 k (iI (chz S k r)), iI ((tgc S k r).1 : Int), iI (r : Int), .int (iI (r : Int))), ⟨cat_i _, fun h => absurd h (by omega), fun j r' hj hr' => ?_, fun c r' hc hr' => ?_, fun c hc => ?_, fun i q a1 a2 a3 => ?_, trivial⟩, fun Q => ?_⟩
    · have : j = k := by omega
      subst this
      rw [hr1] at hr'
      cases hr'
      exact ⟨rfl, rfl⟩
    · by_cases q : c = k
      · subst q
        rw [hr1] at hr'
        cases hr'
        exact u2_eq
      · refine (u2_ne (by omega)).trans ((c1 _ _ (by omega) (by omega)).trans ?_)
        exact p4 c r' (by omega) hr'
    · refine (u2_ne (by omega)).trans ((c1 _ _ (by omega) (by omega)).trans ?_)
      exact p5 c (by omega)
    · refine (u2_ne (by omega)).trans ((c1 _ _ a1 a2).trans ?_)
      exact p6 i q a1 a2 a3
    · show ev_w 148 26 [.ref 102, x1, .int x2, .int x3, .int (iI (k : Int)), x5] [] (hp L σ B) Q = _
      unfold chz
      rw [u148_26]
      cases hs : (ch S k).2.2.isSome <;> rw [hs] at e118
      all_goals
        simp (disch := first | exact hx1 | exact p1 | exact cat_i _ | exact cat_r _ | omega) only [u148_28, u148_29, u148_32, u148_33, u148_34, u148_37, u148_38, u148_40, u148_41, u148_42, u148_45, u148_47, u148_48, u148_51, u148_54, u148_56, u148_57, u148_59, u148_60, u148_61, u148_62, u148_63, u148_66, u148_68, u148_69, u148_71, u148_74, u148_77, u148_79, u148_82, u148_84, u148_85, u148_87, u148_88, u148_91, hT_102, hT_103, hT_111, hT_112, hR_102_0, hR_102_10, hR_102_11, g0, c2, e118, f1, hgC, if_pos, if_neg, ↓reduceIte, false_and, and_false, false_or, or_false, ite_not, decide_true, decide_false, Bool.true_eq_false, Bool.false_eq_true, decide_eq_true_eq, decide_eq_false_iff_not, hp_I, hp_sI, hp_N, ev_k_s, ev_k_n, true_and, and_true, true_or, or_true, not_true_eq_false, not_false_eq_true, if_true, if_false, ite_self, Option.some.injEq, exists_eq_left', nb_0, nb_1, nb_z, zI_t, zI_f, zI_e, cat_i, cat_r, cat_n, iI_add, iI_sub, iI_mul, iI_neg, iI_lt, iI_le, iI_eq, iI_idx, iI_inT, iI_ne0, ite_false, ite_true, iN_0, iN_1, Int.reduceAdd, Int.reduceSub, Int.reduceMul, Int.reduceNeg, Int.reduceDiv, Int.reduceMod, Int.reduceEq, Int.reduceLT, Int.reduceLE, Int.reduceToNat, Nat.reduceAdd, Nat.reduceSub, Nat.reduceMul, Nat.reduceLT, Nat.reduceLeDiff, Nat.reduceEqDiff, Int.cast_ofNat_Int, Std.le_refl, and_self, Int.toNat_natCast, Int.toNat_zero, Nat.le_refl]
        all_goals rfl) S.2.length 0 (I, iI ((lst S).1 : Int), iI (-6), .null) (by omega) ⟨rfl, fun _ => ⟨rfl, rfl⟩, fun j r h => absurd h (by omega), fun c r h => absurd h (Nat.not_lt_zero c), fun _ _ => rfl, fun _ _ _ _ _ => rfl, trivial⟩
  dsimp only at p1 p2 p3 p4 p5 p6
  exact ⟨J, .int x2, .int x3, x5, cat_i _, cat_i _, p1, fun c r hc hr' => p4 c r hc hr', p6, e⟩
theorem c148b (hr : RepS I 103 0 S) (hVS : VS S) (hl6 : (lst S).1 < 1000000) (hE : ∀ c, c < S.2.length → RepE I c (chl S c)) (hz : ∀ c r, c < S.2.length → pth S c = some r → I 111 c = iI (chz S c r)) {x1 x2 x3 x5 : Value} (hx1 : x1.category = 1) (hx2 : x2.category = 1) (hx3 : x3.category = 1) (hx5 : x5.category = 1) : ∃ J, RepS J 103 0 (rel S S.2.length) ∧ (∀ i q, i ≠ 103 → J i q = I i q) ∧ ∀ Q : Option Value → fb_H → Prop, ev_w 148 97 [.ref 102, x1, x2, x3, .int (iI 0), x5] [] (hp L σ I) Q = ev_w 148 97 [.ref 102, x1, x2, x3, .int (iI (S.2.length : Int)), x5] [] (hp L σ J) Q := by
  have hl := hVS.2.2.2.1
  obtain ⟨J, ⟨p1, p2⟩, e⟩ := lx (fun Q (B : Nat → Nat → Int32) (k : Nat) => ev_w 148 97 [.ref 102, x1, x2, x3, .int (iI (k : Int)), x5] [] (hp L σ B) Q) (fun B k => RepS B 103 0 (rel S k) ∧ ∀ i q, i ≠ 103 → B i q = I i q) S.2.length (fun B k hk hp' => by
    obtain ⟨p1, p2⟩ := hp'
    obtain ⟨r, hr1, hr2, hr3⟩ := pth_q hl6 k hk
    have hrl : rel S (k + 1) = gv (rel S k) k (some ((chl S k).getD r (0, 0, 0))) := by
      show (match pth S k with
        | some r => gv (rel S k) k (some ((chl S k).getD r (0, 0, 0)))
        | none => rel S k) = _
      rw [hr1]
    have hlen := rel_len S k
    have hck := rel_ch (S := S) (c := k) k (by omega) (Nat.le_refl _)
    have hEB : RepE B k (chl S k) := RepE_o (hE k hk) fun q _ _ => p2 _ _ (by omega)
    have h20 := hEB.1
    have g0 := p1.1
    rw [hlen] at g0
    have gz : B 111 k = iI (chz S k r) := (p2 _ _ (by omega)).trans (hz k r hk hr1)
    unfold chz at gz
    cases hs : (ch S k).2.2 with
    | some v =>
      rw [hs, Option.isSome_some, if_pos rfl] at gz
      have hch : chl S k = [v] := by unfold chl; rw [hs]
      have hr0 : r = 0 := by rw [hch] at hr2; have : r < 1 := hr2; omega
      have hself : rel S (k + 1) = rel S k := by
        rw [hrl, hch, hr0]
        have := gv_self (X := rel S k) (k := k) (by omega)
        rw [hck, hs] at this
        exact this
      refine ⟨B, ⟨by rw [hself]; exact p1, p2⟩, fun Q => ?_⟩
      show ev_w 148 97 [.ref 102, x1, x2, x3, .int (iI (k : Int)), x5] [] (hp L σ B) Q = _
      rw [u148_97]
      simp (disch := first | exact hx1 | exact hx2 | exact hx3 | exact hx5 | exact cat_i _ | exact cat_r _ | omega) only [u148_99, u148_100, u148_103, u148_104, u148_105, u148_108, u148_109, u148_112, u148_114, u148_115, u148_117, u148_120, u148_121, u148_123, u148_124, u148_127, u148_129, u148_130, u148_133, u148_136, hT_102, hT_103, hT_111, hR_102_0, hR_102_10, g0, gz, if_pos, if_neg, ↓reduceIte, false_and, and_false, false_or, or_false, ite_not, decide_true, decide_false, Bool.true_eq_false, Bool.false_eq_true, decide_eq_true_eq, decide_eq_false_iff_not, hp_I, hp_sI, hp_N, ev_k_s, ev_k_n, true_and, and_true, true_or, or_true, not_true_eq_false, not_false_eq_true, if_true, if_false, ite_self, Option.some.injEq, exists_eq_left', nb_0, nb_1, nb_z, zI_t, zI_f, zI_e, cat_i, cat_r, cat_n, iI_add, iI_sub, iI_mul, iI_neg, iI_lt, iI_le, iI_eq, iI_idx, iI_inT, iI_ne0, ite_false, ite_true, iN_0, iN_1, Int.reduceAdd, Int.reduceSub, Int.reduceMul, Int.reduceNeg, Int.reduceDiv, Int.reduceMod, Int.reduceEq, Int.reduceLT, Int.reduceLE, Int.reduceToNat, Nat.reduceAdd, Nat.reduceSub, Nat.reduceMul, Nat.reduceLT, Nat.reduceLeDiff, Nat.reduceEqDiff, Int.cast_ofNat_Int, Std.le_refl, and_self, Int.toNat_natCast, Int.toNat_zero, Nat.le_refl]
      all_goals rfl
    | none =>
      rw [hs, Option.isSome_none, if_neg (by decide)] at gz
      obtain ⟨K, k1, k2, k3⟩ := c146 (L := L) (σ := σ) p1 (by omega) (n := k) (by omega) hEB hr2
      refine ⟨K, ⟨by rw [hrl]; exact k2, fun i q a => (k3 i q a).trans (p2 i q a)⟩, fun Q => ?_⟩
      show ev_w 148 97 [.ref 102, x1, x2, x3, .int (iI (k : Int)), x5] [] (hp L σ B) Q = _
      rw [u148_97]
      simp (disch := first | exact hx1 | exact hx2 | exact hx3 | exact hx5 | exact cat_i _ | exact cat_r _ | omega) only [u148_99, u148_100, u148_103, u148_104, u148_105, u148_108, u148_109, u148_112, u148_114, u148_115, u148_117, u148_120, u148_121, u148_123, u148_124, u148_127, u148_129, u148_130, u148_133, u148_136, hT_102, hT_103, hT_111, hR_102_0, hR_102_10, g0, gz, k1, if_pos, if_neg, ↓reduceIte, false_and, and_false, false_or, or_false, ite_not, decide_true, decide_false, Bool.true_eq_false, Bool.false_eq_true, decide_eq_true_eq, decide_eq_false_iff_not, hp_I, hp_sI, hp_N, ev_k_s, ev_k_n, true_and, and_true, true_or, or_true, not_true_eq_false, not_false_eq_true, if_true, if_false, ite_self, Option.some.injEq, exists_eq_left', nb_0, nb_1, nb_z, zI_t, zI_f, zI_e, cat_i, cat_r, cat_n, iI_add, iI_sub, iI_mul, iI_neg, iI_lt, iI_le, iI_eq, iI_idx, iI_inT, iI_ne0, ite_false, ite_true, iN_0, iN_1, Int.reduceAdd, Int.reduceSub, Int.reduceMul, Int.reduceNeg, Int.reduceDiv, Int.reduceMod, Int.reduceEq, Int.reduceLT, Int.reduceLE, Int.reduceToNat, Nat.reduceAdd, Nat.reduceSub, Nat.reduceMul, Nat.reduceLT, Nat.reduceLeDiff, Nat.reduceEqDiff, Int.cast_ofNat_Int, Std.le_refl, and_self, Int.toNat_natCast, Int.toNat_zero, Nat.le_refl]
      all_goals rfl) S.2.length 0 I (by omega) ⟨hr, fun _ _ _ => rfl⟩
  exact ⟨J, p1, p2, e⟩
theorem m148 (hM : RepM I A) (hA : AV A) : MR L σ I 148 [.ref 102] (opReal A) := by
  have hl := hA.1.2.2.2.1
  obtain ⟨G, g1, g2, g3, g4⟩ := c144 (L := L) (σ := σ) hM.1 hA.1
  have hMG : RepM G A := RepM_o hM fun i q a b => g4 i q (by omega)
  have hle := lst_le A.1
  unfold opReal
  rcases lsr_in A.1 with e | ⟨e1, e2, e3⟩
  · rw [if_pos (by omega), e]
    refine MR_v hM (fun Q => ?_) g4
    have hv : (if A.1.2.length = 0 then 1000000 else (lst A.1).1) = 1000000 := by
      unfold lsr at e
      by_cases q : A.1.2.length = 0
      · rw [if_pos q]
      · rw [if_neg q] at e ⊢
        by_cases q2 : (lst A.1).1 < 1000000
        · rw [if_pos q2] at e; omega
        · omega
    rw [hv] at g1
    simp (disch := first | exact cat_i _ | exact cat_r _ | exact cat_n | omega) only [u148_0, u148_1, u148_4, u148_5, u148_6, u148_8, u148_11, u148_13, e148, hT_102, g1, Int.cast_ofNat_Int, if_pos, if_neg, ↓reduceIte, false_and, and_false, false_or, or_false, ite_not, decide_true, decide_false, Bool.true_eq_false, Bool.false_eq_true, decide_eq_true_eq, decide_eq_false_iff_not, hp_I, hp_sI, hp_N, ev_k_s, ev_k_n, true_and, and_true, true_or, or_true, not_true_eq_false, not_false_eq_true, if_true, if_false, ite_self, Option.some.injEq, exists_eq_left', nb_0, nb_1, nb_z, zI_t, zI_f, zI_e, cat_i, cat_r, cat_n, iI_add, iI_sub, iI_mul, iI_neg, iI_lt, iI_le, iI_eq, iI_idx, iI_inT, iI_ne0, ite_false, ite_true, iN_0, iN_1, Int.reduceAdd, Int.reduceSub, Int.reduceMul, Int.reduceNeg, Int.reduceDiv, Int.reduceMod, Int.reduceEq, Int.reduceLT, Int.reduceLE, Int.reduceToNat, Nat.reduceAdd, Nat.reduceSub, Nat.reduceMul, Nat.reduceLT, Nat.reduceLeDiff, Nat.reduceEqDiff, Int.cast_ofNat_Int, Std.le_refl, and_self, Int.toNat_natCast, Int.toNat_zero, Nat.le_refl]
  · rw [if_neg (by omega)]
    rw [if_neg (by omega)] at g1
    obtain ⟨J, j1, j2, j3, j4⟩ := mchg (L := L) (σ := σ) hMG hA
    have hLJ : ∀ c, c < A.1.2.length → RepL J c (chl A.1 c) := fun c hc => RepL_o (g2 c hc) (j3 _ _ (by omega) (by omega)) fun q _ _ => j3 _ _ (by omega) (by omega)
    obtain ⟨C, x2, x3, x5, c1, c2, c3, c4, c5, c6⟩ := c148a (L := L) (σ := σ) j2 hA.1 e2 e1 hLJ (fun c hc r hr => (j3 _ _ (by omega) (by omega)).trans (g3 c hc r hr)) (cat_i (iI ((lst A.1).1 : Int)))
    have hrC : RepS C 103 0 A.1 := RepS_o j2 fun q => c5 _ _ (by omega) (by omega) (by omega)
    obtain ⟨K, k1, k2, k3⟩ := c148b (L := L) (σ := σ) hrC hA.1 e2 (fun c hc => RepE_o (hLJ c hc).2 fun q _ _ => c5 _ _ (by omega) (by omega) (by omega)) c4 (cat_i (iI ((lst A.1).1 : Int))) c1 c2 c3
    obtain ⟨r1, r2⟩ := j4 K _ k1 (fun i q a b => (k2 i q a).trans (c5 i q (by omega) (by omega) (by omega)))
    refine ⟨K, fun Q => ?_, r1, fun i q a => (r2 i q a).trans (g4 i q (by omega))⟩
    rw [e3]
    have f6 := c6 Q
    have f3 := k3 Q
    have gC := hrC.1
    have gK := k1.1
    rw [rel_len] at gK
    simp (disch := first | exact cat_i _ | exact cat_r _ | exact cat_n | omega) only [u148_0, u148_1, u148_4, u148_5, u148_6, u148_8, u148_11, u148_13, u148_14, u148_15, u148_18, u148_19, u148_20, u148_22, u148_23, u148_24, e148, hT_102, g1, j1, if_pos, if_neg, ↓reduceIte, false_and, and_false, false_or, or_false, ite_not, decide_true, decide_false, Bool.true_eq_false, Bool.false_eq_true, decide_eq_true_eq, decide_eq_false_iff_not, hp_I, hp_sI, hp_N, ev_k_s, ev_k_n, true_and, and_true, true_or, or_true, not_true_eq_false, not_false_eq_true, if_true, if_false, ite_self, Option.some.injEq, exists_eq_left', nb_0, nb_1, nb_z, zI_t, zI_f, zI_e, cat_i, cat_r, cat_n, iI_add, iI_sub, iI_mul, iI_neg, iI_lt, iI_le, iI_eq, iI_idx, iI_inT, iI_ne0, ite_false, ite_true, iN_0, iN_1, Int.reduceAdd, Int.reduceSub, Int.reduceMul, Int.reduceNeg, Int.reduceDiv, Int.reduceMod, Int.reduceEq, Int.reduceLT, Int.reduceLE, Int.reduceToNat, Nat.reduceAdd, Nat.reduceSub, Nat.reduceMul, Nat.reduceLT, Nat.reduceLeDiff, Nat.reduceEqDiff, Int.cast_ofNat_Int, Std.le_refl, and_self, Int.toNat_natCast, Int.toNat_zero, Nat.le_refl]
    refine Eq.trans f6 ?_
    clear f6 c6 k3
    simp (disch := first | exact c1 | exact c2 | exact c3 | exact cat_i _ | exact cat_r _ | omega) only [u148_26, u148_28, u148_29, u148_32, u148_33, u148_34, u148_94, u148_95, hT_102, hT_103, hR_102_0, gC, if_pos, if_neg, ↓reduceIte, false_and, and_false, false_or, or_false, ite_not, decide_true, decide_false, Bool.true_eq_false, Bool.false_eq_true, decide_eq_true_eq, decide_eq_false_iff_not, hp_I, hp_sI, hp_N, ev_k_s, ev_k_n, true_and, and_true, true_or, or_true, not_true_eq_false, not_false_eq_true, if_true, if_false, ite_self, Option.some.injEq, exists_eq_left', nb_0, nb_1, nb_z, zI_t, zI_f, zI_e, cat_i, cat_r, cat_n, iI_add, iI_sub, iI_mul, iI_neg, iI_lt, iI_le, iI_eq, iI_idx, iI_inT, iI_ne0, ite_false, ite_true, iN_0, iN_1, Int.reduceAdd, Int.reduceSub, Int.reduceMul, Int.reduceNeg, Int.reduceDiv, Int.reduceMod, Int.reduceEq, Int.reduceLT, Int.reduceLE, Int.reduceToNat, Nat.reduceAdd, Nat.reduceSub, Nat.reduceMul, Nat.reduceLT, Nat.reduceLeDiff, Nat.reduceEqDiff, Int.cast_ofNat_Int, Std.le_refl, and_self, Int.toNat_natCast, Int.toNat_zero, Nat.le_refl]
    refine Eq.trans f3 ?_
    clear f3
    simp (disch := first | exact c1 | exact c2 | exact c3 | exact cat_i _ | exact cat_r _ | omega) only [u148_97, u148_99, u148_100, u148_103, u148_104, u148_105, u148_139, u148_140, hT_102, hT_103, hR_102_0, gK, if_pos, if_neg, ↓reduceIte, false_and, and_false, false_or, or_false, ite_not, decide_true, decide_false, Bool.true_eq_false, Bool.false_eq_true, decide_eq_true_eq, decide_eq_false_iff_not, hp_I, hp_sI, hp_N, ev_k_s, ev_k_n, true_and, and_true, true_or, or_true, not_true_eq_false, not_false_eq_true, if_true, if_false, ite_self, Option.some.injEq, exists_eq_left', nb_0, nb_1, nb_z, zI_t, zI_f, zI_e, cat_i, cat_r, cat_n, iI_add, iI_sub, iI_mul, iI_neg, iI_lt, iI_le, iI_eq, iI_idx, iI_inT, iI_ne0, ite_false, ite_true, iN_0, iN_1, Int.reduceAdd, Int.reduceSub, Int.reduceMul, Int.reduceNeg, Int.reduceDiv, Int.reduceMod, Int.reduceEq, Int.reduceLT, Int.reduceLE, Int.reduceToNat, Nat.reduceAdd, Nat.reduceSub, Nat.reduceMul, Nat.reduceLT, Nat.reduceLeDiff, Nat.reduceEqDiff, Int.cast_ofNat_Int, Std.le_refl, and_self, Int.toNat_natCast, Int.toNat_zero, Nat.le_refl]
end MH
