def okv (S : Co) (n : Nat) (v : Nat × Nat × Nat) : Bool := decide (own S.1.1 S.1.2.1 (ch S n).1 v (tn S n) = 0)
def inS (S : Co) (n t a : Nat) : List (Nat × Nat × Nat) := ((List.range 22).map (fun k => (t, a, 58 + k))).filter (okv S n)
def inA (S : Co) (n t : Nat) : List (Nat × Nat × Nat) := (List.range 22).flatMap (fun k => inS S n t (53 + k))
def wys (S : Co) (n : Nat) : List (Nat × Nat × Nat) := (List.range 20).flatMap (fun k => inA S n (48 + k))
theorem len_fm {β : Type} (p : β → Bool) (f : Nat → β) {k N : Nat} (h : k ≤ N) : (((List.range k).map f).filter p).length ≤ (((List.range N).map f).filter p).length := by
  obtain ⟨d, rfl⟩ := Nat.exists_eq_add_of_le h
  rw [List.range_add, List.map_append, List.filter_append, List.length_append]
  omega
theorem len_fl {β : Type} (f : Nat → List β) {k N : Nat} (h : k ≤ N) : ((List.range k).flatMap f).length ≤ ((List.range N).flatMap f).length := by
  obtain ⟨d, rfl⟩ := Nat.exists_eq_add_of_le h
  rw [List.range_add, List.flatMap_append, List.length_append]
  omega
theorem own_stg {key span b m : Nat} {v : Nat × Nat × Nat} (h : stg v m = true) : own key span b v m ≠ 0 := by
  unfold own
  rw [h, if_pos rfl]
  omega
theorem okv_tb {S : Co} {n t a s : Nat} (h : (tn S n).testBit (s % 12) = false) : okv S n (t, a, s) = false := by
  unfold okv
  rw [decide_eq_false_iff_not]
  refine own_stg ?_
  unfold stg
  rw [h]
  simp
theorem inS_nil {S : Co} {n t a : Nat} (h : (tn S n).testBit (a % 12) = false) : inS S n t a = [] := by
  unfold inS
  rw [List.filter_eq_nil_iff]
  intro v hv
  obtain ⟨k, _, rfl⟩ := List.mem_map.mp hv
  unfold okv
  rw [decide_eq_true_eq]
  refine own_stg ?_
  unfold stg
  rw [h]
  simp
theorem inA_nil {S : Co} {n t : Nat} (h : (tn S n).testBit (t % 12) = false) : inA S n t = [] := by
  unfold inA
  rw [List.flatMap_eq_nil_iff]
  intro k _
  unfold inS
  rw [List.filter_eq_nil_iff]
  intro v hv
  obtain ⟨k, _, rfl⟩ := List.mem_map.mp hv
  unfold okv
  rw [decide_eq_true_eq]
  refine own_stg ?_
  unfold stg
  rw [h]
  simp
section FI
variable {Q : Option Value → fb_H → Prop} {n : Nat} {L t y : Nat} {σ : Nat → Nat} {I : Nat → Nat → Int32} {S : Co} {pr : List (Nat × Nat × Nat)}
theorem StI_o {J : Nat → Nat → Int32} (h : StI I) (ho : ∀ i q, 113 ≤ i → J i q = I i q) : StI J := fun k hk q => by rw [ho _ _ (by omega)]; exact h k hk q
theorem isv_b (h : isv y) : 56 ≤ y ∧ y ≤ 100 := by
  unfold isv at h
  omega
theorem c74s (ht : isp t) (hy : isv y) (hr : RepP I t S) (hv : VS S) (hs : StI I) (hn : n < S.2.length) {tt aa : Nat} (h1 : tt ≤ 99) (h2 : aa ≤ 99) {J : Nat → Nat → Int32} {x : Value} (hx : x.category = 1) (hJ : RepV J y pr) (hO : OthV I J y) (hcap : (pr ++ inS S n tt aa).length ≤ 20) : ∃ J' x', (x'.category = 1 ∧ RepV J' y (pr ++ inS S n tt aa) ∧ OthV I J' y) ∧ ∀ Q : Option Value → fb_H → Prop, ev_w 74 76 [.ref y, .ref t, .int (iI (n : Int)), .int (iI ((tn S n : Nat) : Int)), .int (iI (tt : Int)), .int (iI (aa : Int)), .int (iI 58), x] [] (hp L σ J) Q = ev_w 74 133 [.ref y, .ref t, .int (iI (n : Int)), .int (iI ((tn S n : Nat) : Int)), .int (iI (tt : Int)), .int (iI (aa : Int)), .int (iI 80), x'] [] (hp L σ J') Q := by
  have hl := hv.2.2.2.1
  have hy2 := isv_b hy
  have ht2 := isp_lt ht
  have hb := hv.2.2.2.2 n hn
  have hb2 := hb.2.1
  have htn : tn S n < 4096 := tns_lt _ _ _
  obtain ⟨⟨J', x'⟩, p, e⟩ := lx (fun Q (a : (Nat → Nat → Int32) × Value) (k : Nat) => ev_w 74 76 [.ref y, .ref t, .int (iI (n : Int)), .int (iI ((tn S n : Nat) : Int)), .int (iI (tt : Int)), .int (iI (aa : Int)), .int (iI ((58 + k : Nat) : Int)), a.2] [] (hp L σ a.1) Q) (fun a k => a.2.category = 1 ∧ RepV a.1 y (pr ++ ((List.range k).map (fun k => (tt, aa, 58 + k))).filter (okv S n)) ∧ OthV I a.1 y) 22 (fun a k hk hp' => by
    obtain ⟨A, x⟩ := a
    obtain ⟨j1, j2, j3⟩ := hp'
    dsimp only at j1 j2 j3
    have hrA : RepP A t S := RepP_o hr fun i q _ _ => j3 i q (by omega) (by omega)
    have hsA : StI A := StI_o hs fun i q _ => j3 i q (by omega) (by omega)
    have hvv : VV (tt, aa, 58 + k) := ⟨h1, h2, by show 58 + k ≤ 99; omega⟩
    have c109' := fun (Q : Option Value → fb_H → Prop) (h : fb_H) => c109 (Q := Q) (h := h) hvv
    dsimp only at c109'
    have ho := own_lt S.1.1 S.1.2.1 (ch S n).1 (tt, aa, 58 + k) (tn S n)
    have e1 : ((58 + k : Nat) : Int) + 1 = ((58 + (k + 1) : Nat) : Int) := by omega
    have hrange : (List.range (k + 1)).map (fun k => (tt, aa, 58 + k)) = (List.range k).map (fun k => (tt, aa, 58 + k)) ++ [(tt, aa, 58 + k)] := by rw [List.range_succ, List.map_append]; rfl
    cases hq : okv S n (tt, aa, 58 + k) with
    | false =>
      have hq2 : ¬ own S.1.1 S.1.2.1 (ch S n).1 (tt, aa, 58 + k) (tn S n) = 0 := by unfold okv at hq; exact of_decide_eq_false hq
      refine ⟨(A, .int (iI ((pkv (tt, aa, 58 + k) : Nat) : Int))), ⟨cat_i _, ?_, j3⟩, fun Q => ?_⟩
      · rw [hrange, List.filter_append, List.filter_cons_of_neg (by rw [hq]; decide), List.filter_nil, List.append_nil]
        exact j2
      · show ev_w 74 76 [.ref y, .ref t, .int (iI (n : Int)), .int (iI ((tn S n : Nat) : Int)), .int (iI (tt : Int)), .int (iI (aa : Int)), .int (iI ((58 + k : Nat) : Int)), x] [] (hp L σ A) Q = ev_w 74 76 [.ref y, .ref t, .int (iI (n : Int)), .int (iI ((tn S n : Nat) : Int)), .int (iI (tt : Int)), .int (iI (aa : Int)), .int (iI ((58 + (k + 1) : Nat) : Int)), .int (iI ((pkv (tt, aa, 58 + k) : Nat) : Int))] [] (hp L σ A) Q
        rw [u74_76]
        cases hb' : (tn S n).testBit ((58 + k) % 12) with
        | false =>
          simp (disch := first | exact j1 | exact cat_i _ | omega) only [u74_78, u74_81, u74_82, u74_83, u74_86, u74_88, u74_90, u74_92, u74_95, u74_97, u74_98, u74_100, u74_103, u74_127, u74_130, hT_p ht, hT_v hy, hT_1000004, hT_1000005, hsA.l3, hsA.h3, c109', c75 htn (show 58 + k ≤ 99 by omega), hb', e1, if_pos, if_neg, ↓reduceIte, false_and, and_false, false_or, or_false, ite_not, decide_true, decide_false, Bool.true_eq_false, Bool.false_eq_true, decide_eq_true_eq, decide_eq_false_iff_not, hp_I, hp_sI, hp_N, ev_k_s, ev_k_n, true_and, and_true, true_or, or_true, not_true_eq_false, not_false_eq_true, if_true, if_false, ite_self, Option.some.injEq, exists_eq_left', nb_0, nb_1, nb_z, zI_t, zI_f, zI_e, cat_i, cat_r, cat_n, iI_add, iI_sub, iI_mul, iI_neg, iI_lt, iI_le, iI_eq, iI_idx, iI_inT, iI_ne0, ite_false, ite_true, iN_0, iN_1, Int.reduceAdd, Int.reduceSub, Int.reduceMul, Int.reduceNeg, Int.reduceDiv, Int.reduceMod, Int.reduceEq, Int.reduceLT, Int.reduceLE, Int.reduceToNat, Nat.reduceAdd, Nat.reduceSub, Nat.reduceMul, Nat.reduceLT, Nat.reduceLeDiff, Nat.reduceEqDiff, Int.cast_ofNat_Int, Std.le_refl, and_self, Int.toNat_natCast, Int.toNat_zero, Nat.le_refl]
        | true =>
          simp (disch := first | exact j1 | exact cat_i _ | omega) only [u74_78, u74_81, u74_82, u74_83, u74_86, u74_88, u74_90, u74_92, u74_95, u74_97, u74_98, u74_100, u74_103, u74_106, u74_107, u74_108, u74_109, u74_111, u74_114, u74_115, u74_118, u74_121, u74_122, u74_124, u74_127, u74_130, hT_p ht, hT_v hy, hT_1000004, hT_1000005, hsA.l3, hsA.h3, c109', c33 ht hrA hv hn hvv, c56 ht hrA hv hsA (show (ch S n).1 ≤ 99 by omega) hvv htn, c75 htn (show 58 + k ≤ 99 by omega), hb', e1, if_pos, if_neg, ↓reduceIte, false_and, and_false, false_or, or_false, ite_not, decide_true, decide_false, Bool.true_eq_false, Bool.false_eq_true, decide_eq_true_eq, decide_eq_false_iff_not, hp_I, hp_sI, hp_N, ev_k_s, ev_k_n, true_and, and_true, true_or, or_true, not_true_eq_false, not_false_eq_true, if_true, if_false, ite_self, Option.some.injEq, exists_eq_left', nb_0, nb_1, nb_z, zI_t, zI_f, zI_e, cat_i, cat_r, cat_n, iI_add, iI_sub, iI_mul, iI_neg, iI_lt, iI_le, iI_eq, iI_idx, iI_inT, iI_ne0, ite_false, ite_true, iN_0, iN_1, Int.reduceAdd, Int.reduceSub, Int.reduceMul, Int.reduceNeg, Int.reduceDiv, Int.reduceMod, Int.reduceEq, Int.reduceLT, Int.reduceLE, Int.reduceToNat, Nat.reduceAdd, Nat.reduceSub, Nat.reduceMul, Nat.reduceLT, Nat.reduceLeDiff, Nat.reduceEqDiff, Int.cast_ofNat_Int, Std.le_refl, and_self, Int.toNat_natCast, Int.toNat_zero, Nat.le_refl]
    | true =>
      have hq2 : own S.1.1 S.1.2.1 (ch S n).1 (tt, aa, 58 + k) (tn S n) = 0 := by unfold okv at hq; exact of_decide_eq_true hq
      have hqt : (tn S n).testBit ((58 + k) % 12) = true := by
        cases hb' : (tn S n).testBit ((58 + k) % 12) with
        | false => exact absurd hq (by rw [okv_tb hb']; decide)
        | true => rfl
      have hlen : (((List.range (k + 1)).map (fun k => (tt, aa, 58 + k))).filter (okv S n)).length ≤ (inS S n tt aa).length := len_fm (okv S n) (fun k => (tt, aa, 58 + k)) (by omega)
      rw [hrange, List.filter_append, List.filter_cons_of_pos hq, List.filter_nil, List.length_append] at hlen
      have hlen2 : (((List.range k).map (fun k => (tt, aa, 58 + k))).filter (okv S n)).length + 1 ≤ (inS S n tt aa).length := hlen
      rw [List.length_append] at hcap
      obtain ⟨B, b1, b2, b3⟩ := c76 (L := L) (σ := σ) hy j2 (by rw [List.length_append]; omega) hvv
      refine ⟨(B, .int (iI ((pkv (tt, aa, 58 + k) : Nat) : Int))), ⟨cat_i _, ?_, fun i q a b => (b3 i q a b).trans (j3 i q a b)⟩, fun Q => ?_⟩
      · rw [hrange, List.filter_append, List.filter_cons_of_pos hq, List.filter_nil, ← List.append_assoc]
        exact b2
      · show ev_w 74 76 [.ref y, .ref t, .int (iI (n : Int)), .int (iI ((tn S n : Nat) : Int)), .int (iI (tt : Int)), .int (iI (aa : Int)), .int (iI ((58 + k : Nat) : Int)), x] [] (hp L σ A) Q = ev_w 74 76 [.ref y, .ref t, .int (iI (n : Int)), .int (iI ((tn S n : Nat) : Int)), .int (iI (tt : Int)), .int (iI (aa : Int)), .int (iI ((58 + (k + 1) : Nat) : Int)), .int (iI ((pkv (tt, aa, 58 + k) : Nat) : Int))] [] (hp L σ B) Q
        rw [u74_76]
        simp (disch := first | exact j1 | exact cat_i _ | omega) only [u74_78, u74_81, u74_82, u74_83, u74_86, u74_88, u74_90, u74_92, u74_95, u74_97, u74_98, u74_100, u74_103, u74_106, u74_107, u74_108, u74_109, u74_111, u74_114, u74_115, u74_118, u74_121, u74_122, u74_124, u74_127, u74_130, hT_p ht, hT_v hy, hT_1000004, hT_1000005, hsA.l3, hsA.h3, c109', c33 ht hrA hv hn hvv, c56 ht hrA hv hsA (show (ch S n).1 ≤ 99 by omega) hvv htn, c75 htn (show 58 + k ≤ 99 by omega), hqt, hq2, Int.cast_ofNat_Int, b1, e1, if_pos, if_neg, ↓reduceIte, false_and, and_false, false_or, or_false, ite_not, decide_true, decide_false, Bool.true_eq_false, Bool.false_eq_true, decide_eq_true_eq, decide_eq_false_iff_not, hp_I, hp_sI, hp_N, ev_k_s, ev_k_n, true_and, and_true, true_or, or_true, not_true_eq_false, not_false_eq_true, if_true, if_false, ite_self, Option.some.injEq, exists_eq_left', nb_0, nb_1, nb_z, zI_t, zI_f, zI_e, cat_i, cat_r, cat_n, iI_add, iI_sub, iI_mul, iI_neg, iI_lt, iI_le, iI_eq, iI_idx, iI_inT, iI_ne0, ite_false, ite_true, iN_0, iN_1, Int.reduceAdd, Int.reduceSub, Int.reduceMul, Int.reduceNeg, Int.reduceDiv, Int.reduceMod, Int.reduceEq, Int.reduceLT, Int.reduceLE, Int.reduceToNat, Nat.reduceAdd, Nat.reduceSub, Nat.reduceMul, Nat.reduceLT, Nat.reduceLeDiff, Nat.reduceEqDiff, Int.cast_ofNat_Int, Std.le_refl, and_self, Int.toNat_natCast, Int.toNat_zero, Nat.le_refl]) 22 0 (J, x) (by omega) ⟨hx, by rw [show (List.range 0) = [] from rfl, List.map_nil, List.filter_nil, List.append_nil]; exact hJ, hO⟩
  refine ⟨J', x', p, fun Q => (e Q).trans ?_⟩
  have hs' : StI J' := StI_o hs fun i q _ => p.2.2 i q (by omega) (by omega)
  show ev_w 74 76 [.ref y, .ref t, .int (iI (n : Int)), .int (iI ((tn S n : Nat) : Int)), .int (iI (tt : Int)), .int (iI (aa : Int)), .int (iI 80), x'] [] (hp L σ J') Q = _
  clear e
  simp (disch := first | exact cat_i _ | exact cat_r _ | exact cat_n | omega) only [u74_76, u74_78, u74_81, u74_82, u74_83, hT_1000005, hs'.h3, if_pos, if_neg, ↓reduceIte, false_and, and_false, false_or, or_false, ite_not, decide_true, decide_false, Bool.true_eq_false, Bool.false_eq_true, decide_eq_true_eq, decide_eq_false_iff_not, hp_I, hp_sI, hp_N, ev_k_s, ev_k_n, true_and, and_true, true_or, or_true, not_true_eq_false, not_false_eq_true, if_true, if_false, ite_self, Option.some.injEq, exists_eq_left', nb_0, nb_1, nb_z, zI_t, zI_f, zI_e, cat_i, cat_r, cat_n, iI_add, iI_sub, iI_mul, iI_neg, iI_lt, iI_le, iI_eq, iI_idx, iI_inT, iI_ne0, ite_false, ite_true, iN_0, iN_1, Int.reduceAdd, Int.reduceSub, Int.reduceMul, Int.reduceNeg, Int.reduceDiv, Int.reduceMod, Int.reduceEq, Int.reduceLT, Int.reduceLE, Int.reduceToNat, Nat.reduceAdd, Nat.reduceSub, Nat.reduceMul, Nat.reduceLT, Nat.reduceLeDiff, Nat.reduceEqDiff, Int.cast_ofNat_Int, Std.le_refl, and_self, Int.toNat_natCast, Int.toNat_zero, Nat.le_refl]
theorem c74a (ht : isp t) (hy : isv y) (hr : RepP I t S) (hv : VS S) (hs : StI I) (hn : n < S.2.length) {tt : Nat} (h1 : tt ≤ 99) {J : Nat → Nat → Int32} {x x7 : Value} (hx : x.category = 1) (hx7 : x7.category = 1) (hJ : RepV J y pr) (hO : OthV I J y) (hcap : (pr ++ inA S n tt).length ≤ 20) : ∃ J' x' x7', (x'.category = 1 ∧ x7'.category = 1 ∧ RepV J' y (pr ++ inA S n tt) ∧ OthV I J' y) ∧ ∀ Q : Option Value → fb_H → Prop, ev_w 74 47 [.ref y, .ref t, .int (iI (n : Int)), .int (iI ((tn S n : Nat) : Int)), .int (iI (tt : Int)), .int (iI 53), x, x7] [] (hp L σ J) Q = ev_w 74 139 [.ref y, .ref t, .int (iI (n : Int)), .int (iI ((tn S n : Nat) : Int)), .int (iI (tt : Int)), .int (iI 75), x', x7'] [] (hp L σ J') Q := by
  have hl := hv.2.2.2.1
  have hy2 := isv_b hy
  have ht2 := isp_lt ht
  have htn : tn S n < 4096 := tns_lt _ _ _
  obtain ⟨⟨J', x', x7'⟩, p, e⟩ := lx (fun Q (a : (Nat → Nat → Int32) × Value × Value) (k : Nat) => ev_w 74 47 [.ref y, .ref t, .int (iI (n : Int)), .int (iI ((tn S n : Nat) : Int)), .int (iI (tt : Int)), .int (iI ((53 + k : Nat) : Int)), a.2.1, a.2.2] [] (hp L σ a.1) Q) (fun a k => a.2.1.category = 1 ∧ a.2.2.category = 1 ∧ RepV a.1 y (pr ++ (List.range k).flatMap (fun k => inS S n tt (53 + k))) ∧ OthV I a.1 y) 22 (fun a k hk hp' => by
    obtain ⟨A, x, x7⟩ := a
    obtain ⟨j1, j0, j2, j3⟩ := hp'
    dsimp only at j1 j0 j2 j3
    have hsA : StI A := StI_o hs fun i q _ => j3 i q (by omega) (by omega)
    have e1 : ((53 + k : Nat) : Int) + 1 = ((53 + (k + 1) : Nat) : Int) := by omega
    have hrange : (List.range (k + 1)).flatMap (fun k => inS S n tt (53 + k)) = (List.range k).flatMap (fun k => inS S n tt (53 + k)) ++ inS S n tt (53 + k) := by rw [List.range_succ, List.flatMap_append, List.flatMap_singleton]
    have hlen : ((List.range (k + 1)).flatMap (fun k => inS S n tt (53 + k))).length ≤ (inA S n tt).length := len_fl (fun k => inS S n tt (53 + k)) (by omega)
    rw [List.length_append] at hcap
    cases hq : (tn S n).testBit ((53 + k) % 12) with
    | false =>
      refine ⟨(A, x, x7), ⟨j1, j0, by rw [hrange, inS_nil hq, List.append_nil]; exact j2, j3⟩, fun Q => ?_⟩
      show ev_w 74 47 [.ref y, .ref t, .int (iI (n : Int)), .int (iI ((tn S n : Nat) : Int)), .int (iI (tt : Int)), .int (iI ((53 + k : Nat) : Int)), x, x7] [] (hp L σ A) Q = ev_w 74 47 [.ref y, .ref t, .int (iI (n : Int)), .int (iI ((tn S n : Nat) : Int)), .int (iI (tt : Int)), .int (iI ((53 + (k + 1) : Nat) : Int)), x, x7] [] (hp L σ A) Q
      rw [u74_47]
      simp (disch := first | exact j1 | exact j0 | exact cat_i _ | omega) only [u74_49, u74_52, u74_53, u74_54, u74_57, u74_58, u74_60, u74_63, u74_66, u74_133, u74_136, hT_1000005, hsA.h2, c75 htn (show 53 + k ≤ 99 by omega), hq, e1, if_pos, if_neg, ↓reduceIte, false_and, and_false, false_or, or_false, ite_not, decide_true, decide_false, Bool.true_eq_false, Bool.false_eq_true, decide_eq_true_eq, decide_eq_false_iff_not, hp_I, hp_sI, hp_N, ev_k_s, ev_k_n, true_and, and_true, true_or, or_true, not_true_eq_false, not_false_eq_true, if_true, if_false, ite_self, Option.some.injEq, exists_eq_left', nb_0, nb_1, nb_z, zI_t, zI_f, zI_e, cat_i, cat_r, cat_n, iI_add, iI_sub, iI_mul, iI_neg, iI_lt, iI_le, iI_eq, iI_idx, iI_inT, iI_ne0, ite_false, ite_true, iN_0, iN_1, Int.reduceAdd, Int.reduceSub, Int.reduceMul, Int.reduceNeg, Int.reduceDiv, Int.reduceMod, Int.reduceEq, Int.reduceLT, Int.reduceLE, Int.reduceToNat, Nat.reduceAdd, Nat.reduceSub, Nat.reduceMul, Nat.reduceLT, Nat.reduceLeDiff, Nat.reduceEqDiff, Int.cast_ofNat_Int, Std.le_refl, and_self, Int.toNat_natCast, Int.toNat_zero, Nat.le_refl]
    | true =>
      rw [hrange, List.length_append] at hlen
      obtain ⟨B, x', ⟨b1, b2, b3⟩, b4⟩ := c74s (L := L) (σ := σ) ht hy hr hv hs hn h1 (show 53 + k ≤ 99 by omega) j0 j2 j3 (by rw [List.length_append, List.length_append]; omega)
      refine ⟨(B, .int (iI 80), x'), ⟨cat_i _, b1, by rw [hrange, ← List.append_assoc]; exact b2, b3⟩, fun Q => ?_⟩
      show ev_w 74 47 [.ref y, .ref t, .int (iI (n : Int)), .int (iI ((tn S n : Nat) : Int)), .int (iI (tt : Int)), .int (iI ((53 + k : Nat) : Int)), x, x7] [] (hp L σ A) Q = ev_w 74 47 [.ref y, .ref t, .int (iI (n : Int)), .int (iI ((tn S n : Nat) : Int)), .int (iI (tt : Int)), .int (iI ((53 + (k + 1) : Nat) : Int)), .int (iI 80), x'] [] (hp L σ B) Q
      rw [u74_47]
      simp (disch := first | exact j1 | exact j0 | exact cat_i _ | omega) only [u74_49, u74_52, u74_53, u74_54, u74_57, u74_58, u74_60, u74_63, u74_66, u74_69, u74_72, u74_73, u74_74, u74_133, u74_136, hT_1000005, hT_1000004, hsA.h2, hsA.l3, c75 htn (show 53 + k ≤ 99 by omega), hq, b4, e1, if_pos, if_neg, ↓reduceIte, false_and, and_false, false_or, or_false, ite_not, decide_true, decide_false, Bool.true_eq_false, Bool.false_eq_true, decide_eq_true_eq, decide_eq_false_iff_not, hp_I, hp_sI, hp_N, ev_k_s, ev_k_n, true_and, and_true, true_or, or_true, not_true_eq_false, not_false_eq_true, if_true, if_false, ite_self, Option.some.injEq, exists_eq_left', nb_0, nb_1, nb_z, zI_t, zI_f, zI_e, cat_i, cat_r, cat_n, iI_add, iI_sub, iI_mul, iI_neg, iI_lt, iI_le, iI_eq, iI_idx, iI_inT, iI_ne0, ite_false, ite_true, iN_0, iN_1, Int.reduceAdd, Int.reduceSub, Int.reduceMul, Int.reduceNeg, Int.reduceDiv, Int.reduceMod, Int.reduceEq, Int.reduceLT, Int.reduceLE, Int.reduceToNat, Nat.reduceAdd, Nat.reduceSub, Nat.reduceMul, Nat.reduceLT, Nat.reduceLeDiff, Nat.reduceEqDiff, Int.cast_ofNat_Int, Std.le_refl, and_self, Int.toNat_natCast, Int.toNat_zero, Nat.le_refl]) 22 0 (J, x, x7) (by omega) ⟨hx, hx7, by rw [show (List.range 0) = [] from rfl, List.flatMap_nil, List.append_nil]; exact hJ, hO⟩
  refine ⟨J', x', x7', p, fun Q => (e Q).trans ?_⟩
  have hs' : StI J' := StI_o hs fun i q _ => p.2.2.2 i q (by omega) (by omega)
  show ev_w 74 47 [.ref y, .ref t, .int (iI (n : Int)), .int (iI ((tn S n : Nat) : Int)), .int (iI (tt : Int)), .int (iI 75), x', x7'] [] (hp L σ J') Q = _
  clear e
  simp (disch := first | exact cat_i _ | exact cat_r _ | exact cat_n | omega) only [u74_47, u74_49, u74_52, u74_53, u74_54, hT_1000005, hs'.h2, if_pos, if_neg, ↓reduceIte, false_and, and_false, false_or, or_false, ite_not, decide_true, decide_false, Bool.true_eq_false, Bool.false_eq_true, decide_eq_true_eq, decide_eq_false_iff_not, hp_I, hp_sI, hp_N, ev_k_s, ev_k_n, true_and, and_true, true_or, or_true, not_true_eq_false, not_false_eq_true, if_true, if_false, ite_self, Option.some.injEq, exists_eq_left', nb_0, nb_1, nb_z, zI_t, zI_f, zI_e, cat_i, cat_r, cat_n, iI_add, iI_sub, iI_mul, iI_neg, iI_lt, iI_le, iI_eq, iI_idx, iI_inT, iI_ne0, ite_false, ite_true, iN_0, iN_1, Int.reduceAdd, Int.reduceSub, Int.reduceMul, Int.reduceNeg, Int.reduceDiv, Int.reduceMod, Int.reduceEq, Int.reduceLT, Int.reduceLE, Int.reduceToNat, Nat.reduceAdd, Nat.reduceSub, Nat.reduceMul, Nat.reduceLT, Nat.reduceLeDiff, Nat.reduceEqDiff, Int.cast_ofNat_Int, Std.le_refl, and_self, Int.toNat_natCast, Int.toNat_zero, Nat.le_refl]
theorem c74 (ht : isp t) (hy : isv y) (hr : RepP I t S) (hv : VS S) (hs : StI I) (hn : n < S.2.length) (hcap : (wys S n).length ≤ 20) : ∃ J, (∀ Q : Option Value → fb_H → Prop, ev_c 74 [.ref y, .ref t, .int (iI (n : Int))] (hp L σ I) Q = Q none (hp L σ J)) ∧ RepV J y (wys S n) ∧ OthV I J y := by
  have hl := hv.2.2.2.1
  have hy2 := isv_b hy
  have ht2 := isp_lt ht
  have htn : tn S n < 4096 := tns_lt _ _ _
  have h0 : RepV (fb_u2 I y 1 (iI 0)) y [] := ⟨u2_eq, by decide, fun _ h => absurd h List.not_mem_nil, fun k h => absurd h (Nat.not_lt_zero k)⟩
  have hO : OthV I (fb_u2 I y 1 (iI 0)) y := fun i q a b => by rw [u2_ne (by omega)]
  obtain ⟨⟨J', x5, x', x7'⟩, p, e⟩ := lx (fun Q (a : (Nat → Nat → Int32) × Value × Value × Value) (k : Nat) => ev_w 74 18 [.ref y, .ref t, .int (iI (n : Int)), .int (iI ((tn S n : Nat) : Int)), .int (iI ((48 + k : Nat) : Int)), a.2.1, a.2.2.1, a.2.2.2] [] (hp L σ a.1) Q) (fun a k => a.2.1.category = 1 ∧ a.2.2.1.category = 1 ∧ a.2.2.2.category = 1 ∧ RepV a.1 y ((List.range k).flatMap (fun k => inA S n (48 + k))) ∧ OthV I a.1 y) 20 (fun a k hk hp' => by
    obtain ⟨A, x5, x, x7⟩ := a
    obtain ⟨j5, j1, j0, j2, j3⟩ := hp'
    dsimp only at j5 j1 j0 j2 j3
    have hsA : StI A := StI_o hs fun i q _ => j3 i q (by omega) (by omega)
    have e1 : ((48 + k : Nat) : Int) + 1 = ((48 + (k + 1) : Nat) : Int) := by omega
    have hrange : (List.range (k + 1)).flatMap (fun k => inA S n (48 + k)) = (List.range k).flatMap (fun k => inA S n (48 + k)) ++ inA S n (48 + k) := by rw [List.range_succ, List.flatMap_append, List.flatMap_singleton]
    have hlen : ((List.range (k + 1)).flatMap (fun k => inA S n (48 + k))).length ≤ (wys S n).length := len_fl (fun k => inA S n (48 + k)) (by omega)
    cases hq : (tn S n).testBit ((48 + k) % 12) with
    | false =>
      refine ⟨(A, x5, x, x7), ⟨j5, j1, j0, by rw [hrange, inA_nil hq, List.append_nil]; exact j2, j3⟩, fun Q => ?_⟩
      show ev_w 74 18 [.ref y, .ref t, .int (iI (n : Int)), .int (iI ((tn S n : Nat) : Int)), .int (iI ((48 + k : Nat) : Int)), x5, x, x7] [] (hp L σ A) Q = ev_w 74 18 [.ref y, .ref t, .int (iI (n : Int)), .int (iI ((tn S n : Nat) : Int)), .int (iI ((48 + (k + 1) : Nat) : Int)), x5, x, x7] [] (hp L σ A) Q
      rw [u74_18]
      simp (disch := first | exact j5 | exact j1 | exact j0 | exact cat_i _ | omega) only [u74_20, u74_23, u74_24, u74_25, u74_28, u74_29, u74_31, u74_34, u74_37, u74_139, u74_142, hT_1000005, hsA.h1, c75 htn (show 48 + k ≤ 99 by omega), hq, e1, if_pos, if_neg, ↓reduceIte, false_and, and_false, false_or, or_false, ite_not, decide_true, decide_false, Bool.true_eq_false, Bool.false_eq_true, decide_eq_true_eq, decide_eq_false_iff_not, hp_I, hp_sI, hp_N, ev_k_s, ev_k_n, true_and, and_true, true_or, or_true, not_true_eq_false, not_false_eq_true, if_true, if_false, ite_self, Option.some.injEq, exists_eq_left', nb_0, nb_1, nb_z, zI_t, zI_f, zI_e, cat_i, cat_r, cat_n, iI_add, iI_sub, iI_mul, iI_neg, iI_lt, iI_le, iI_eq, iI_idx, iI_inT, iI_ne0, ite_false, ite_true, iN_0, iN_1, Int.reduceAdd, Int.reduceSub, Int.reduceMul, Int.reduceNeg, Int.reduceDiv, Int.reduceMod, Int.reduceEq, Int.reduceLT, Int.reduceLE, Int.reduceToNat, Nat.reduceAdd, Nat.reduceSub, Nat.reduceMul, Nat.reduceLT, Nat.reduceLeDiff, Nat.reduceEqDiff, Int.cast_ofNat_Int, Std.le_refl, and_self, Int.toNat_natCast, Int.toNat_zero, Nat.le_refl]
    | true =>
      rw [hrange, List.length_append] at hlen
      obtain ⟨B, x', x7', ⟨b0, b1, b2, b3⟩, b4⟩ := c74a (L := L) (σ := σ) ht hy hr hv hs hn (show 48 + k ≤ 99 by omega) j1 j0 j2 j3 (by rw [List.length_append]; omega)
      refine ⟨(B, .int (iI 75), x', x7'), ⟨cat_i _, b0, b1, by rw [hrange]; exact b2, b3⟩, fun Q => ?_⟩
      show ev_w 74 18 [.ref y, .ref t, .int (iI (n : Int)), .int (iI ((tn S n : Nat) : Int)), .int (iI ((48 + k : Nat) : Int)), x5, x, x7] [] (hp L σ A) Q = ev_w 74 18 [.ref y, .ref t, .int (iI (n : Int)), .int (iI ((tn S n : Nat) : Int)), .int (iI ((48 + (k + 1) : Nat) : Int)), .int (iI 75), x', x7'] [] (hp L σ B) Q
      rw [u74_18]
      simp (disch := first | exact j5 | exact j1 | exact j0 | exact cat_i _ | omega) only [u74_20, u74_23, u74_24, u74_25, u74_28, u74_29, u74_31, u74_34, u74_37, u74_40, u74_43, u74_44, u74_45, u74_139, u74_142, hT_1000005, hT_1000004, hsA.h1, hsA.l2, c75 htn (show 48 + k ≤ 99 by omega), hq, b4, e1, if_pos, if_neg, ↓reduceIte, false_and, and_false, false_or, or_false, ite_not, decide_true, decide_false, Bool.true_eq_false, Bool.false_eq_true, decide_eq_true_eq, decide_eq_false_iff_not, hp_I, hp_sI, hp_N, ev_k_s, ev_k_n, true_and, and_true, true_or, or_true, not_true_eq_false, not_false_eq_true, if_true, if_false, ite_self, Option.some.injEq, exists_eq_left', nb_0, nb_1, nb_z, zI_t, zI_f, zI_e, cat_i, cat_r, cat_n, iI_add, iI_sub, iI_mul, iI_neg, iI_lt, iI_le, iI_eq, iI_idx, iI_inT, iI_ne0, ite_false, ite_true, iN_0, iN_1, Int.reduceAdd, Int.reduceSub, Int.reduceMul, Int.reduceNeg, Int.reduceDiv, Int.reduceMod, Int.reduceEq, Int.reduceLT, Int.reduceLE, Int.reduceToNat, Nat.reduceAdd, Nat.reduceSub, Nat.reduceMul, Nat.reduceLT, Nat.reduceLeDiff, Nat.reduceEqDiff, Int.cast_ofNat_Int, Std.le_refl, and_self, Int.toNat_natCast, Int.toNat_zero, Nat.le_refl]) 20 0 (fb_u2 I y 1 (iI 0), .null, .null, .null) (by omega) ⟨rfl, rfl, rfl, h0, hO⟩
  refine ⟨J', fun Q => ?_, p.2.2.2.1, p.2.2.2.2⟩
  have hr0 : RepP (fb_u2 I y 1 (iI 0)) t S := RepP_o hr fun i q _ _ => hO i q (by omega) (by omega)
  have hs0 : StI (fb_u2 I y 1 (iI 0)) := StI_o hs fun i q _ => hO i q (by omega) (by omega)
  have hs' : StI J' := StI_o hs fun i q _ => p.2.2.2.2 i q (by omega) (by omega)
  have e0 := e Q
  clear e
  simp (disch := first | exact cat_i _ | exact cat_r _ | exact cat_n | omega) only [u74_0, u74_1, u74_2, u74_5, u74_6, u74_7, u74_10, u74_11, u74_14, u74_15, u74_16, e74, hT_p ht, hT_v hy, hT_1000004, hs0.l1, c37 ht hr0 hv hs0 hn, if_pos, if_neg, ↓reduceIte, false_and, and_false, false_or, or_false, ite_not, decide_true, decide_false, Bool.true_eq_false, Bool.false_eq_true, decide_eq_true_eq, decide_eq_false_iff_not, hp_I, hp_sI, hp_N, ev_k_s, ev_k_n, true_and, and_true, true_or, or_true, not_true_eq_false, not_false_eq_true, if_true, if_false, ite_self, Option.some.injEq, exists_eq_left', nb_0, nb_1, nb_z, zI_t, zI_f, zI_e, cat_i, cat_r, cat_n, iI_add, iI_sub, iI_mul, iI_neg, iI_lt, iI_le, iI_eq, iI_idx, iI_inT, iI_ne0, ite_false, ite_true, iN_0, iN_1, Int.reduceAdd, Int.reduceSub, Int.reduceMul, Int.reduceNeg, Int.reduceDiv, Int.reduceMod, Int.reduceEq, Int.reduceLT, Int.reduceLE, Int.reduceToNat, Nat.reduceAdd, Nat.reduceSub, Nat.reduceMul, Nat.reduceLT, Nat.reduceLeDiff, Nat.reduceEqDiff, Int.cast_ofNat_Int, Std.le_refl, and_self, Int.toNat_natCast, Int.toNat_zero, Nat.le_refl]
  refine Eq.trans e0 ?_
  show ev_w 74 18 [.ref y, .ref t, .int (iI (n : Int)), .int (iI ((tn S n : Nat) : Int)), .int (iI 68), x5, x', x7'] [] (hp L σ J') Q = _
  simp (disch := first | exact cat_i _ | exact cat_r _ | exact cat_n | omega) only [u74_18, u74_20, u74_23, u74_24, u74_25, u74_145, hT_1000005, hs'.h1, if_pos, if_neg, ↓reduceIte, false_and, and_false, false_or, or_false, ite_not, decide_true, decide_false, Bool.true_eq_false, Bool.false_eq_true, decide_eq_true_eq, decide_eq_false_iff_not, hp_I, hp_sI, hp_N, ev_k_s, ev_k_n, true_and, and_true, true_or, or_true, not_true_eq_false, not_false_eq_true, if_true, if_false, ite_self, Option.some.injEq, exists_eq_left', nb_0, nb_1, nb_z, zI_t, zI_f, zI_e, cat_i, cat_r, cat_n, iI_add, iI_sub, iI_mul, iI_neg, iI_lt, iI_le, iI_eq, iI_idx, iI_inT, iI_ne0, ite_false, ite_true, iN_0, iN_1, Int.reduceAdd, Int.reduceSub, Int.reduceMul, Int.reduceNeg, Int.reduceDiv, Int.reduceMod, Int.reduceEq, Int.reduceLT, Int.reduceLE, Int.reduceToNat, Nat.reduceAdd, Nat.reduceSub, Nat.reduceMul, Nat.reduceLT, Nat.reduceLeDiff, Nat.reduceEqDiff, Int.cast_ofNat_Int, Std.le_refl, and_self, Int.toNat_natCast, Int.toNat_zero, Nat.le_refl]
end FI
