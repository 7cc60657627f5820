/-! the model's lists of voicings -/
def vk (k : Nat) : Nat × Nat × Nat := (48 + k / 484, 53 + k / 22 % 22, 58 + k % 22)
theorem range_mul {β : Type} (f : Nat → β) (n : Nat) : ∀ m, (List.range (m * n)).map f = (List.range m).flatMap (fun i => (List.range n).map (fun j => f (i * n + j)))
  | 0 => by rw [Nat.zero_mul]; rfl
  | m + 1 => by
    rw [Nat.succ_mul, List.range_add, List.map_append, range_mul f n m, List.range_succ, List.flatMap_append, List.flatMap_singleton, List.map_map]
    rfl
theorem fm_congr {α β : Type} {l : List α} {f g : α → List β} (h : ∀ a, a ∈ l → f a = g a) : l.flatMap f = l.flatMap g := by
  rw [List.flatMap_def, List.flatMap_def, List.map_congr_left h]
theorem wys_flat (S : Co) (n : Nat) : ((List.range 9680).map vk).filter (okv S n) = wys S n := by
  unfold wys
  rw [show (9680 : Nat) = 20 * 484 from rfl, range_mul, List.filter_flatMap]
  refine fm_congr fun i hi => ?_
  rw [List.mem_range] at hi
  unfold inA
  rw [show (484 : Nat) = 22 * 22 from rfl, range_mul, List.filter_flatMap]
  refine fm_congr fun i2 hi2 => ?_
  rw [List.mem_range] at hi2
  unfold inS
  congr 1
  refine List.map_congr_left fun j hj => ?_
  rw [List.mem_range] at hj
  unfold vk
  refine Prod.ext ?_ (Prod.ext ?_ ?_)
  · show 48 + (i * (22 * 22) + (i2 * 22 + j)) / 484 = 48 + i
    omega
  · show 53 + (i * (22 * 22) + (i2 * 22 + j)) / 22 % 22 = 53 + i2
    omega
  · show 58 + (i * (22 * 22) + (i2 * 22 + j)) % 22 = 58 + j
    omega
def enc (v : Nat × Nat × Nat) : Int := 10000 * (v.1 : Int) + 100 * (v.2.1 : Int) + (v.2.2 : Int)
theorem enc_in {v : Nat × Nat × Nat} (hv : VV v) : 0 ≤ enc v ∧ enc v < 1000000 ∧ enc v / 10000 = (v.1 : Int) ∧ enc v / 100 % 100 = (v.2.1 : Int) ∧ enc v % 100 = (v.2.2 : Int) := by
  obtain ⟨h1, h2, h3⟩ := hv
  unfold enc
  omega
/-- a listing of a chord -/
def RepL (I : Nat → Nat → Int32) (c : Nat) (l : List (Nat × Nat × Nat)) : Prop := I 111 c = iI (l.length : Int) ∧ l.length ≤ 20 ∧ (∀ v, v ∈ l → VV v) ∧ ∀ j, j < l.length → I 110 (128 * c + j) = iI (enc (l.getD j (0, 0, 0)))
/-- the same without how many there are -/
def RepE (I : Nat → Nat → Int32) (c : Nat) (l : List (Nat × Nat × Nat)) : Prop := l.length ≤ 20 ∧ (∀ v, v ∈ l → VV v) ∧ ∀ j, j < l.length → I 110 (128 * c + j) = iI (enc (l.getD j (0, 0, 0)))
theorem RepE_o {I J : Nat → Nat → Int32} {c : Nat} {l : List (Nat × Nat × Nat)} (hr : RepE I c l) (h2 : ∀ q, 128 * c ≤ q → q < 128 * c + 128 → J 110 q = I 110 q) : RepE J c l := by
  obtain ⟨r2, r3, r4⟩ := hr
  exact ⟨r2, r3, fun j hj => (h2 _ (by omega) (by omega)).trans (r4 j hj)⟩
theorem RepE_in {I : Nat → Nat → Int32} {c : Nat} {l : List (Nat × Nat × Nat)} (hr : RepE I c l) {k : Nat} (hk : k < l.length) : VV (l.getD k (0, 0, 0)) := by
  refine hr.2.1 _ ?_
  rw [List.getD_eq_getElem?_getD, List.getElem?_eq_getElem hk]
  exact List.getElem_mem hk
def FrL (I J : Nat → Nat → Int32) (c : Nat) : Prop := ∀ i q, i ≠ 108 → i ≠ 109 → ¬ (i = 110 ∧ 128 * c ≤ q ∧ q < 128 * c + 128) → ¬ (i = 111 ∧ q = c) → J i q = I i q
theorem RepL_o {I J : Nat → Nat → Int32} {c : Nat} {l : List (Nat × Nat × Nat)} (hr : RepL I c l) (h1 : J 111 c = I 111 c) (h2 : ∀ q, 128 * c ≤ q → q < 128 * c + 128 → J 110 q = I 110 q) : RepL J c l := by
  obtain ⟨r1, r2, r3, r4⟩ := hr
  exact ⟨h1.trans r1, r2, r3, fun j hj => (h2 _ (by omega) (by omega)).trans (r4 j hj)⟩
theorem RepL_in {I : Nat → Nat → Int32} {c : Nat} {l : List (Nat × Nat × Nat)} (hr : RepL I c l) {k : Nat} (hk : k < l.length) : VV (l.getD k (0, 0, 0)) := by
  refine hr.2.2.1 _ ?_
  rw [List.getD_eq_getElem?_getD, List.getElem?_eq_getElem hk]
  exact List.getElem_mem hk
theorem oky {S : Co} {n : Nat} {v : Nat × Nat × Nat} (h : okv S n v = true) : own S.1.1 S.1.2.1 (ch S n).1 v (tn S n) = 0 ∧ v.1 < v.2.1 ∧ v.2.1 < v.2.2 := by
  unfold okv at h
  rw [decide_eq_true_eq] at h
  refine ⟨h, ?_⟩
  have h1 := (own_0 h).1
  unfold oop at h1
  rw [decide_eq_false_iff_not] at h1
  omega
section ML
variable {L : Nat} {σ : Nat → Nat} {I J : Nat → Nat → Int32} {Q : Option Value → fb_H → Prop} {h : fb_H} {x y z iv : Int} {S : Co} {n m a o b b' : Nat} {v w : Nat × Nat × Nat}
theorem c138 (hr : RepS I 103 0 S) (hVS : VS S) (hn : n < S.2.length) : ∃ J, (∀ Q : Option Value → fb_H → Prop, ev_c 138 [.ref 102, .int (iI (n : Int))] (hp L σ I) Q = Q none (hp L σ J)) ∧ RepL J n (wys S n) ∧ FrL I J n := by
  have hl := hVS.2.2.2.1
  have hb := bass_le hVS hn
  have hcap := wys_cap hVS hn
  obtain ⟨J, ⟨p1, p2⟩, e⟩ := lx (fun Q (A : Nat → Nat → Int32) (k : Nat) => ev_w 138 9 [.ref 102, .int (iI (n : Int)), .int (iI (k : Int))] [] (hp L σ A) Q) (fun A k => RepL A n (((List.range k).map vk).filter (okv S n)) ∧ FrL I A n) 9680 (fun A k hk hp' => by
    obtain ⟨j1, j2⟩ := hp'
    have hrA : RepS A 103 0 S := RepS_o hr fun q => j2 _ _ (by omega) (by omega) (by omega) (by omega)
    have hvv : VV (vk k) := by
      unfold vk
      refine ⟨?_, ?_, ?_⟩
      · show 48 + k / 484 ≤ 99
        omega
      · show 53 + k / 22 % 22 ≤ 99
        omega
      · show 58 + k % 22 ≤ 99
        omega
    have e130 : ∀ Q : Option Value → fb_H → Prop, ev_c 130 [.ref 102, .int (iI (n : Int)), .int (iI (48 + (k : Int) / 484)), .int (iI (53 + (k : Int) / 22 % 22)), .int (iI (58 + (k : Int) % 22))] (hp L σ A) Q = Q none (hp L σ (w4 A 109 (ch S n).1 (vk k))) := fun Q => c130 (L := L) (σ := σ) (Q := Q) hrA hl hn (vk k)
    have hr2 : RepS (w4 A 109 (ch S n).1 (vk k)) 103 0 S := RepS_o hrA fun q => w4_o (by omega)
    have e126 := fun Q => c126 (L := L) (σ := σ) (Q := Q) hr2 hVS hn w4_R hb hvv
    have ho := own_lt S.1.1 S.1.2.1 (ch S n).1 (vk k) (tn S n)
    have hrange : (List.range (k + 1)).map vk = (List.range k).map vk ++ [vk k] := by rw [List.range_succ, List.map_append]; rfl
    obtain ⟨d0, d1, d2, d3⟩ := w4_R (I := A) (a := 109) (b := (ch S n).1) (v := vk k)
    have e1 : (k : Int) + 1 = ((k + 1 : Nat) : Int) := by omega
    have o1 : ∀ i q, i ≠ 109 → w4 A 109 (ch S n).1 (vk k) i q = A i q := fun i q h => w4_o h
    generalize vk k = v at *
    generalize w4 A 109 (ch S n).1 v = W at *
    cases hq : okv S n v with
    | false =>
      have hq2 : ¬ own S.1.1 S.1.2.1 (ch S n).1 v (tn S n) = 0 := by unfold okv at hq; exact of_decide_eq_false hq
      obtain ⟨v1, v2, v3⟩ := hvv
      refine ⟨W, ⟨?_, fun i q a1 a2 a3 a4 => (o1 _ _ a2).trans (j2 i q a1 a2 a3 a4)⟩, fun Q => ?_⟩
      · rw [hrange, List.filter_append, List.filter_cons_of_neg (by rw [hq]; decide), List.filter_nil, List.append_nil]
        exact RepL_o j1 (o1 _ _ (by omega)) fun q _ _ => o1 _ _ (by omega)
      · show ev_w 138 9 [.ref 102, .int (iI (n : Int)), .int (iI (k : Int))] [] (hp L σ A) Q = ev_w 138 9 [.ref 102, .int (iI (n : Int)), .int (iI ((k + 1 : Nat) : Int))] [] (hp L σ W) Q
        rw [u138_9]
        simp (disch := first | exact cat_i _ | exact cat_r _ | exact cat_n | omega) only [u138_10, u138_13, u138_16, u138_17, u138_18, u138_20, u138_21, u138_24, u138_25, u138_26, u138_28, u138_29, u138_31, u138_32, u138_34, u138_35, u138_36, u138_38, u138_39, u138_41, u138_42, u138_43, u138_46, u138_47, u138_50, u138_51, u138_52, u138_53, u138_56, u138_57, u138_58, u138_61, u138_62, u138_65, u138_66, u138_67, u138_68, u138_71, u138_72, u138_73, u138_76, u138_77, u138_78, u138_81, u138_84, u138_85, u138_88, u138_91, u138_92, u138_93, u138_94, u138_97, u138_98, u138_99, u138_100, u138_103, u138_104, u138_107, u138_108, u138_109, u138_110, u138_112, u138_113, u138_116, u138_117, u138_118, u138_119, u138_120, u138_121, u138_124, u138_125, u138_126, u138_127, u138_128, u138_129, u138_132, u138_133, u138_134, u138_135, u138_136, u138_137, u138_138, u138_141, hT_102, hT_109, hR_102_8, iI_div, iI_rem, e130, e126, d1, d2, d3, e1, if_pos, if_neg, ↓reduceIte, false_and, and_false, false_or, or_false, ite_not, decide_true, decide_false, Bool.true_eq_false, Bool.false_eq_true, decide_eq_true_eq, decide_eq_false_iff_not, hp_I, hp_sI, hp_N, ev_k_s, ev_k_n, true_and, and_true, true_or, or_true, not_true_eq_false, not_false_eq_true, if_true, if_false, ite_self, Option.some.injEq, exists_eq_left', nb_0, nb_1, nb_z, zI_t, zI_f, zI_e, cat_i, cat_r, cat_n, iI_add, iI_sub, iI_mul, iI_neg, iI_lt, iI_le, iI_eq, iI_idx, iI_inT, iI_ne0, ite_false, ite_true, iN_0, iN_1, Int.reduceAdd, Int.reduceSub, Int.reduceMul, Int.reduceNeg, Int.reduceDiv, Int.reduceMod, Int.reduceEq, Int.reduceLT, Int.reduceLE, Int.reduceToNat, Nat.reduceAdd, Nat.reduceSub, Nat.reduceMul, Nat.reduceLT, Nat.reduceLeDiff, Nat.reduceEqDiff, Int.cast_ofNat_Int, Std.le_refl, and_self, Int.toNat_natCast, Int.toNat_zero, Nat.le_refl]
    | true =>
      obtain ⟨q0, q1, q2⟩ := oky hq
      have hlen : (((List.range (k + 1)).map vk).filter (okv S n)).length ≤ (wys S n).length := by
        rw [← wys_flat]
        exact len_fm (okv S n) vk (by omega)
      rw [hrange, List.filter_append, List.filter_cons_of_pos hq, List.filter_nil] at hlen ⊢
      generalize hg : ((List.range k).map vk).filter (okv S n) = g at *
      rw [List.length_append] at hlen
      have hlen2 : g.length + 1 ≤ (wys S n).length := hlen
      obtain ⟨r1, r2, r3, r4⟩ := j1
      have f1 : W 111 n = iI (g.length : Int) := (o1 _ _ (by omega)).trans r1
      have f2 : fb_u2 W 110 (128 * n + g.length) (iI (10000 * (v.1 : Int) + 100 * (v.2.1 : Int) + (v.2.2 : Int))) 111 n = iI (g.length : Int) := (u2_ne (by omega)).trans f1
      have f3 : (128 * (n : Int) + (g.length : Int)).toNat = 128 * n + g.length := by omega
      obtain ⟨v1, v2, v3⟩ := id hvv
      refine ⟨fb_u2 (fb_u2 W 110 (128 * n + g.length) (iI (10000 * (v.1 : Int) + 100 * (v.2.1 : Int) + (v.2.2 : Int)))) 111 n (iI ((g.length : Int) + 1)), ⟨⟨?_, ?_, ?_, fun j hj => ?_⟩, fun i q a1 a2 a3 a4 => ?_⟩, fun Q => ?_⟩
      · rw [u2_eq, List.length_append]; rfl
      · rw [List.length_append]; show g.length + 1 ≤ 20; omega
      · intro x hx
        rcases List.mem_append.mp hx with hx | hx
        · exact r3 x hx
        · rw [List.mem_singleton.mp hx]; exact hvv
      · rw [List.length_append] at hj
        have hj2 : j < g.length + 1 := hj
        rw [u2_ne (by omega), List.getD_eq_getElem?_getD]
        by_cases q : j = g.length
        · subst q
          rw [u2_eq, List.getElem?_append_right (Nat.le_refl _), Nat.sub_self]
          rfl
        · rw [u2_ne (by omega), List.getElem?_append_left (by omega), ← List.getD_eq_getElem?_getD, o1 _ _ (by omega)]
          exact r4 j (by omega)
      · rw [u2_ne (by omega), u2_ne (by omega), o1 _ _ a2]
        exact j2 i q a1 a2 a3 a4
      · show ev_w 138 9 [.ref 102, .int (iI (n : Int)), .int (iI (k : Int))] [] (hp L σ A) Q = _
        rw [u138_9]
        simp (disch := first | exact cat_i _ | exact cat_r _ | exact cat_n | omega) only [u138_10, u138_13, u138_16, u138_17, u138_18, u138_20, u138_21, u138_24, u138_25, u138_26, u138_28, u138_29, u138_31, u138_32, u138_34, u138_35, u138_36, u138_38, u138_39, u138_41, u138_42, u138_43, u138_46, u138_47, u138_50, u138_51, u138_52, u138_53, u138_56, u138_57, u138_58, u138_61, u138_62, u138_65, u138_66, u138_67, u138_68, u138_71, u138_72, u138_73, u138_76, u138_77, u138_78, u138_81, u138_84, u138_85, u138_88, u138_91, u138_92, u138_93, u138_94, u138_97, u138_98, u138_99, u138_100, u138_103, u138_104, u138_107, u138_108, u138_109, u138_110, u138_112, u138_113, u138_116, u138_117, u138_118, u138_119, u138_120, u138_121, u138_124, u138_125, u138_126, u138_127, u138_128, u138_129, u138_132, u138_133, u138_134, u138_135, u138_136, u138_137, u138_138, u138_141, hT_102, hT_109, hT_110, hT_111, hR_102_8, hR_102_9, hR_102_10, iI_div, iI_rem, e130, e126, d1, d2, d3, f1, f2, f3, q0, e1, Int.cast_ofNat_Int, if_pos, if_neg, ↓reduceIte, false_and, and_false, false_or, or_false, ite_not, decide_true, decide_false, Bool.true_eq_false, Bool.false_eq_true, decide_eq_true_eq, decide_eq_false_iff_not, hp_I, hp_sI, hp_N, ev_k_s, ev_k_n, true_and, and_true, true_or, or_true, not_true_eq_false, not_false_eq_true, if_true, if_false, ite_self, Option.some.injEq, exists_eq_left', nb_0, nb_1, nb_z, zI_t, zI_f, zI_e, cat_i, cat_r, cat_n, iI_add, iI_sub, iI_mul, iI_neg, iI_lt, iI_le, iI_eq, iI_idx, iI_inT, iI_ne0, ite_false, ite_true, iN_0, iN_1, Int.reduceAdd, Int.reduceSub, Int.reduceMul, Int.reduceNeg, Int.reduceDiv, Int.reduceMod, Int.reduceEq, Int.reduceLT, Int.reduceLE, Int.reduceToNat, Nat.reduceAdd, Nat.reduceSub, Nat.reduceMul, Nat.reduceLT, Nat.reduceLeDiff, Nat.reduceEqDiff, Int.cast_ofNat_Int, Std.le_refl, and_self, Int.toNat_natCast, Int.toNat_zero, Nat.le_refl]) 9680 0 (fb_u2 I 111 n (iI 0)) (by omega) ⟨⟨u2_eq, Nat.zero_le 20, fun v hv => absurd hv List.not_mem_nil, fun j hj => absurd hj (Nat.not_lt_zero j)⟩, fun i q a1 a2 a3 a4 => u2_ne (by omega)⟩
  rw [wys_flat] at p1
  refine ⟨J, fun Q => ?_, p1, p2⟩
  have e0 := e Q
  clear e
  simp (disch := first | exact cat_i _ | exact cat_r _ | exact cat_n | omega) only [u138_0, u138_1, u138_4, u138_5, u138_6, u138_7, u138_8, e138, hT_102, hT_111, hR_102_10, ↓reduceIte, false_and, and_false, false_or, or_false, ite_not, decide_true, decide_false, Bool.true_eq_false, Bool.false_eq_true, decide_eq_true_eq, decide_eq_false_iff_not, hp_I, hp_sI, hp_N, ev_k_s, ev_k_n, true_and, and_true, true_or, or_true, not_true_eq_false, not_false_eq_true, if_true, if_false, ite_self, Option.some.injEq, exists_eq_left', nb_0, nb_1, nb_z, zI_t, zI_f, zI_e, cat_i, cat_r, cat_n, iI_add, iI_sub, iI_mul, iI_neg, iI_lt, iI_le, iI_eq, iI_idx, iI_inT, iI_ne0, ite_false, ite_true, iN_0, iN_1, Int.reduceAdd, Int.reduceSub, Int.reduceMul, Int.reduceNeg, Int.reduceDiv, Int.reduceMod, Int.reduceEq, Int.reduceLT, Int.reduceLE, Int.reduceToNat, Nat.reduceAdd, Nat.reduceSub, Nat.reduceMul, Nat.reduceLT, Nat.reduceLeDiff, Nat.reduceEqDiff, Int.cast_ofNat_Int, Std.le_refl, and_self, Int.toNat_natCast, Int.toNat_zero, Nat.le_refl]
  refine Eq.trans e0 ?_
  simp (disch := first | exact cat_i _ | exact cat_r _ | exact cat_n | omega) only [u138_9, u138_10, u138_13, u138_144, Int.cast_ofNat_Int, if_pos, if_neg, ↓reduceIte, false_and, and_false, false_or, or_false, ite_not, decide_true, decide_false, Bool.true_eq_false, Bool.false_eq_true, decide_eq_true_eq, decide_eq_false_iff_not, hp_I, hp_sI, hp_N, ev_k_s, ev_k_n, true_and, and_true, true_or, or_true, not_true_eq_false, not_false_eq_true, if_true, if_false, ite_self, Option.some.injEq, exists_eq_left', nb_0, nb_1, nb_z, zI_t, zI_f, zI_e, cat_i, cat_r, cat_n, iI_add, iI_sub, iI_mul, iI_neg, iI_lt, iI_le, iI_eq, iI_idx, iI_inT, iI_ne0, ite_false, ite_true, iN_0, iN_1, Int.reduceAdd, Int.reduceSub, Int.reduceMul, Int.reduceNeg, Int.reduceDiv, Int.reduceMod, Int.reduceEq, Int.reduceLT, Int.reduceLE, Int.reduceToNat, Nat.reduceAdd, Nat.reduceSub, Nat.reduceMul, Nat.reduceLT, Nat.reduceLeDiff, Nat.reduceEqDiff, Int.cast_ofNat_Int, Std.le_refl, and_self, Int.toNat_natCast, Int.toNat_zero, Nat.le_refl]
/-- singsListed, hearsListed -/
theorem c139 {r : Nat} {l : List (Nat × Nat × Nat)} (hr : RepS I 103 0 S) (hl : S.2.length ≤ 10) (hn : n < S.2.length) (hL : RepE I n l) (hrk : r < l.length) : ev_c 139 [.ref 102, .int (iI (n : Int)), .int (iI (r : Int))] (hp L σ I) Q = Q none (hp L σ (w4 I 109 (ch S n).1 (l.getD r (0, 0, 0)))) := by
  have h20 := hL.1
  have e1 : (128 * (n : Int) + (r : Int)).toNat = 128 * n + r := by omega
  have e2 := hL.2.2 r hrk
  have hvv := RepE_in hL hrk
  have e130 := fun Q => c130 (L := L) (σ := σ) (Q := Q) hr hl hn (l.getD r (0, 0, 0))
  generalize l.getD r (0, 0, 0) = v at *
  obtain ⟨g1, g2, g3, g4, g5⟩ := enc_in hvv
  simp (disch := first | exact cat_i _ | exact cat_r _ | exact cat_n | omega) only [e139, u139_0, u139_1, u139_4, u139_7, u139_8, u139_9, u139_10, u139_11, u139_12, u139_13, u139_14, u139_15, u139_16, u139_19, u139_20, u139_21, u139_23, u139_24, u139_26, u139_27, u139_28, u139_30, u139_31, u139_34, hT_102, hT_110, hR_102_9, e1, e2, iI_div, iI_rem, g3, g4, g5, e130, if_pos, if_neg, ↓reduceIte, false_and, and_false, false_or, or_false, ite_not, decide_true, decide_false, Bool.true_eq_false, Bool.false_eq_true, decide_eq_true_eq, decide_eq_false_iff_not, hp_I, hp_sI, hp_N, ev_k_s, ev_k_n, true_and, and_true, true_or, or_true, not_true_eq_false, not_false_eq_true, if_true, if_false, ite_self, Option.some.injEq, exists_eq_left', nb_0, nb_1, nb_z, zI_t, zI_f, zI_e, cat_i, cat_r, cat_n, iI_add, iI_sub, iI_mul, iI_neg, iI_lt, iI_le, iI_eq, iI_idx, iI_inT, iI_ne0, ite_false, ite_true, iN_0, iN_1, Int.reduceAdd, Int.reduceSub, Int.reduceMul, Int.reduceNeg, Int.reduceDiv, Int.reduceMod, Int.reduceEq, Int.reduceLT, Int.reduceLE, Int.reduceToNat, Nat.reduceAdd, Nat.reduceSub, Nat.reduceMul, Nat.reduceLT, Nat.reduceLeDiff, Nat.reduceEqDiff, Int.cast_ofNat_Int, Std.le_refl, and_self, Int.toNat_natCast, Int.toNat_zero, Nat.le_refl]
theorem c140 {r : Nat} {l : List (Nat × Nat × Nat)} (hr : RepS I 103 0 S) (hl : S.2.length ≤ 10) (hn : n < S.2.length) (hL : RepE I n l) (hrk : r < l.length) : ev_c 140 [.ref 102, .int (iI (n : Int)), .int (iI (r : Int))] (hp L σ I) Q = Q none (hp L σ (w4 I 108 (ch S n).1 (l.getD r (0, 0, 0)))) := by
  have h20 := hL.1
  have e1 : (128 * (n : Int) + (r : Int)).toNat = 128 * n + r := by omega
  have e2 := hL.2.2 r hrk
  have hvv := RepE_in hL hrk
  have e131 := fun Q => c131 (L := L) (σ := σ) (Q := Q) hr hl hn (l.getD r (0, 0, 0))
  generalize l.getD r (0, 0, 0) = v at *
  obtain ⟨g1, g2, g3, g4, g5⟩ := enc_in hvv
  simp (disch := first | exact cat_i _ | exact cat_r _ | exact cat_n | omega) only [e140, u140_0, u140_1, u140_4, u140_7, u140_8, u140_9, u140_10, u140_11, u140_12, u140_13, u140_14, u140_15, u140_16, u140_19, u140_20, u140_21, u140_23, u140_24, u140_26, u140_27, u140_28, u140_30, u140_31, u140_34, hT_102, hT_110, hR_102_9, e1, e2, iI_div, iI_rem, g3, g4, g5, e131, if_pos, if_neg, ↓reduceIte, false_and, and_false, false_or, or_false, ite_not, decide_true, decide_false, Bool.true_eq_false, Bool.false_eq_true, decide_eq_true_eq, decide_eq_false_iff_not, hp_I, hp_sI, hp_N, ev_k_s, ev_k_n, true_and, and_true, true_or, or_true, not_true_eq_false, not_false_eq_true, if_true, if_false, ite_self, Option.some.injEq, exists_eq_left', nb_0, nb_1, nb_z, zI_t, zI_f, zI_e, cat_i, cat_r, cat_n, iI_add, iI_sub, iI_mul, iI_neg, iI_lt, iI_le, iI_eq, iI_idx, iI_inT, iI_ne0, ite_false, ite_true, iN_0, iN_1, Int.reduceAdd, Int.reduceSub, Int.reduceMul, Int.reduceNeg, Int.reduceDiv, Int.reduceMod, Int.reduceEq, Int.reduceLT, Int.reduceLE, Int.reduceToNat, Nat.reduceAdd, Nat.reduceSub, Nat.reduceMul, Nat.reduceLT, Nat.reduceLeDiff, Nat.reduceEqDiff, Int.cast_ofNat_Int, Std.le_refl, and_self, Int.toNat_natCast, Int.toNat_zero, Nat.le_refl]
end ML
