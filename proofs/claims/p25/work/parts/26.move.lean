theorem lks {α : Type} (W : α → Nat → Prop) (X : Prop) (c : Nat → Bool) (f : α → Nat → α) (P : α → Prop) (N : Nat) (st : ∀ a k, k < N → P a → P (f a k) ∧ W a k = if c k = true then W (f a k) (k + 1) else X) : ∀ j k a, k + j = N → P a → ∃ a', P a' ∧ W a k = if (List.range' k j).all c = true then W a' N else X := by
  intro j
  induction j with
  | zero =>
    intro k a e p
    cases (show k = N by omega)
    exact ⟨a, p, rfl⟩
  | succ j ih =>
    intro k a e p
    obtain ⟨p2, e2⟩ := st a k (by omega) p
    obtain ⟨a', p3, e3⟩ := ih (k + 1) (f a k) (by omega) p2
    refine ⟨a', p3, ?_⟩
    rw [e2, e3, List.range'_succ, List.all_cons]
    cases c k <;> rfl
def mvk (S : Co) (z : Int) (k : Nat) : Bool := decide (36 ≤ ((ch S k).1 : Int) + z ∧ ((ch S k).1 : Int) + z ≤ 59) && (match (ch S k).2.2 with
  | some v => decide ((0 ≤ (v.1 : Int) + z ∧ (v.1 : Int) + z ≤ 99) ∧ (0 ≤ (v.2.1 : Int) + z ∧ (v.2.1 : Int) + z ≤ 99) ∧ (0 ≤ (v.2.2 : Int) + z ∧ (v.2.2 : Int) + z ≤ 99))
  | none => true)
def mvo (S : Co) (z : Int) : Bool := (List.range S.2.length).all (mvk S z)
def mvv (z : Int) (v : Nat × Nat × Nat) : Nat × Nat × Nat := (((v.1 : Int) + z).toNat, ((v.2.1 : Int) + z).toNat, ((v.2.2 : Int) + z).toNat)
def mvc (z : Int) (x : Ch) : Ch := (((x.1 : Int) + z).toNat, x.2.1, x.2.2.map (mvv z))
def mov (S : Co) (z : Int) : Co := (((((S.1.1 : Int) + z) % 12).toNat, S.1.2.1, S.1.2.2), S.2.map (mvc z))
theorem len_mov {S : Co} {z : Int} : (mov S z).2.length = S.2.length := List.length_map ..
theorem ch_mov {S : Co} {z : Int} {c : Nat} (h : c < S.2.length) : ch (mov S z) c = mvc z (ch S c) := by
  unfold ch mov
  rw [List.getD_eq_getElem?_getD, List.getD_eq_getElem?_getD, List.getElem?_map, List.getElem?_eq_getElem h]
  rfl
theorem mvo_k {S : Co} {z : Int} (hm : mvo S z = true) {k : Nat} (hk : k < S.2.length) : mvk S z k = true := List.all_eq_true.mp hm k (List.mem_range.mpr hk)
theorem mvk_b {S : Co} {z : Int} {k : Nat} (h : mvk S z k = true) : 36 ≤ ((ch S k).1 : Int) + z ∧ ((ch S k).1 : Int) + z ≤ 59 := by
  unfold mvk at h
  rw [Bool.and_eq_true] at h
  exact decide_eq_true_eq.mp h.1
theorem mvk_v {S : Co} {z : Int} {k : Nat} (h : mvk S z k = true) {v : Nat × Nat × Nat} (hw : (ch S k).2.2 = some v) : (0 ≤ (v.1 : Int) + z ∧ (v.1 : Int) + z ≤ 99) ∧ (0 ≤ (v.2.1 : Int) + z ∧ (v.2.1 : Int) + z ≤ 99) ∧ (0 ≤ (v.2.2 : Int) + z ∧ (v.2.2 : Int) + z ≤ 99) := by
  unfold mvk at h
  rw [Bool.and_eq_true, hw] at h
  exact decide_eq_true_eq.mp h.2
theorem VS_mov {S : Co} {z : Int} (hv : VS S) (hm : mvo S z = true) : VS (mov S z) := by
  have hk := hv.1
  refine ⟨by show (((S.1.1 : Int) + z) % 12).toNat < 12; omega, hv.2.1, hv.2.2.1, by rw [len_mov]; exact hv.2.2.2.1, fun c hc => ?_⟩
  rw [len_mov] at hc
  rw [ch_mov hc]
  have h1 := mvk_b (mvo_k hm hc)
  have h2 := hv.2.2.2.2 c hc
  refine ⟨by show 36 ≤ (((ch S c).1 : Int) + z).toNat; omega, by show (((ch S c).1 : Int) + z).toNat ≤ 59; omega, h2.2.2.1, fun v e => ?_⟩
  cases hw : (ch S c).2.2 with
  | none => simp only [mvc, hw, Option.map_none, reduceCtorEq] at e
  | some v0 =>
    simp only [mvc, hw, Option.map_some, Option.some.injEq] at e
    subst e
    obtain ⟨a1, a2, a3⟩ := mvk_v (mvo_k hm hc) hw
    exact ⟨by show ((v0.1 : Int) + z).toNat ≤ 99; omega, by show ((v0.2.1 : Int) + z).toNat ≤ 99; omega, by show ((v0.2.2 : Int) + z).toNat ≤ 99; omega⟩
section MV
variable {Q : Option Value → fb_H → Prop} {c d z : Int} {n m b b' : Nat} {v w : Nat × Nat × Nat} {L t t' : Nat} {σ : Nat → Nat} {I : Nat → Nat → Int32} {S : Co}
theorem c45i (ht : isp t) (hr : RepP I t S) (hv : VS S) (hs : StI I) (hz1 : -12 ≤ z) (hz2 : z ≤ 12) (hn : n < S.2.length) {x : Value} (hx : x.category = 1) : ev_w 45 2 [.ref t, .int (iI z), .int (iI (n : Int)), x] [] (hp L σ I) Q = if mvk S z n = true then ev_w 45 2 [.ref t, .int (iI z), .int (iI ((n : Int) + 1)), .int (if (ch S n).2.2.isSome then iI 4 else iI 1)] [] (hp L σ I) Q else Q (some (.int (iI 0))) (hp L σ I) := by
  have hl := hv.2.2.2.1
  have h4 := hr.2.2.2.1
  have hb := hv.2.2.2.2 n hn
  have hb1 := hb.1
  have hb2 := hb.2.1
  obtain ⟨r1, r2, r3⟩ := hr.2.2.2.2 n hn
  rw [u45_2]
  by_cases q1 : 36 ≤ ((ch S n).1 : Int) + z ∧ ((ch S n).1 : Int) + z ≤ 59
  · cases hw : (ch S n).2.2 with
    | none =>
      simp (disch := first | exact hx | exact cat_i _ | omega) only [u45_3, u45_4, u45_7, u45_10, u45_11, u45_14, u45_15, u45_16, u45_17, u45_18, u45_21, u45_24, u45_25, u45_26, u45_27, u45_28, u45_29, u45_30, u45_33, u45_36, u45_37, u45_38, u45_41, u45_42, u45_45, u45_46, u45_47, u45_48, u45_51, u45_52, u45_53, u45_56, u45_59, u45_60, u45_61, u45_64, u45_67, u45_70, hT_p ht, hT_p2 ht, hR_p1 ht, h4, r1, c103 hs, c32 ht hr hv hn, hw, zI_dt q1, Option.isSome_none, mvk, q1, Bool.and_true, if_pos, if_neg, ↓reduceIte, false_and, and_false, false_or, or_false, ite_not, decide_true, decide_false, Bool.true_eq_false, Bool.false_eq_true, decide_eq_true_eq, decide_eq_false_iff_not, hp_I, hp_sI, hp_N, ev_k_s, ev_k_n, true_and, and_true, true_or, or_true, not_true_eq_false, not_false_eq_true, if_true, if_false, ite_self, Option.some.injEq, exists_eq_left', nb_0, nb_1, nb_z, zI_t, zI_f, zI_e, cat_i, cat_r, cat_n, iI_add, iI_sub, iI_mul, iI_neg, iI_lt, iI_le, iI_eq, iI_idx, iI_inT, iI_ne0, ite_false, ite_true, iN_0, iN_1, Int.reduceAdd, Int.reduceSub, Int.reduceMul, Int.reduceNeg, Int.reduceDiv, Int.reduceMod, Int.reduceEq, Int.reduceLT, Int.reduceLE, Int.reduceToNat, Nat.reduceAdd, Nat.reduceSub, Nat.reduceMul, Nat.reduceLT, Nat.reduceLeDiff, Nat.reduceEqDiff, Int.cast_ofNat_Int, Std.le_refl, and_self, Int.toNat_natCast, Int.toNat_zero, Nat.le_refl]
    | some v =>
      have hvv := hb.2.2.2 v hw
      obtain ⟨v1, v2, v3⟩ := id hvv
      rw [hw] at r3
      simp only [pkO, pk0] at r3
      simp (disch := first | exact hx | exact cat_i _ | omega) only [u45_3, u45_4, u45_7, u45_10, u45_11, u45_14, u45_15, u45_16, u45_17, u45_18, u45_21, u45_24, u45_25, u45_26, u45_27, u45_28, u45_29, u45_30, u45_33, u45_36, u45_37, u45_38, u45_41, u45_42, u45_45, u45_46, u45_47, u45_48, u45_51, u45_52, u45_53, u45_56, u45_59, u45_60, u45_61, u45_64, u45_67, u45_70, hT_p ht, hT_p2 ht, hR_p1 ht, hT_p4 ht, hR_p3 ht, h4, r1, r3, c103 hs, c32 ht hr hv hn, c110_1 (Nat.zero_le 127) hvv, c110_2 (Nat.zero_le 127) hvv, c110_3 (Nat.zero_le 127) hvv, c104, hw, zI_dt q1, Option.isSome_some, mvk, q1, Bool.true_and, if_pos, if_neg, ↓reduceIte, false_and, and_false, false_or, or_false, ite_not, decide_true, decide_false, Bool.true_eq_false, Bool.false_eq_true, decide_eq_true_eq, decide_eq_false_iff_not, hp_I, hp_sI, hp_N, ev_k_s, ev_k_n, true_and, and_true, true_or, or_true, not_true_eq_false, not_false_eq_true, if_true, if_false, ite_self, Option.some.injEq, exists_eq_left', nb_0, nb_1, nb_z, zI_t, zI_f, zI_e, cat_i, cat_r, cat_n, iI_add, iI_sub, iI_mul, iI_neg, iI_lt, iI_le, iI_eq, iI_idx, iI_inT, iI_ne0, ite_false, ite_true, iN_0, iN_1, Int.reduceAdd, Int.reduceSub, Int.reduceMul, Int.reduceNeg, Int.reduceDiv, Int.reduceMod, Int.reduceEq, Int.reduceLT, Int.reduceLE, Int.reduceToNat, Nat.reduceAdd, Nat.reduceSub, Nat.reduceMul, Nat.reduceLT, Nat.reduceLeDiff, Nat.reduceEqDiff, Int.cast_ofNat_Int, Std.le_refl, and_self, Int.toNat_natCast, Int.toNat_zero, Nat.le_refl]
      repeat' split
      all_goals first | rfl | (exfalso; omega)
  · simp (disch := first | exact hx | exact cat_i _ | omega) only [u45_3, u45_4, u45_7, u45_10, u45_11, u45_14, u45_15, u45_16, u45_17, u45_18, u45_21, u45_24, u45_25, hT_p ht, hT_p2 ht, hR_p1 ht, h4, r1, c103 hs, zI_df q1, mvk, q1, Bool.false_and, if_pos, if_neg, ↓reduceIte, false_and, and_false, false_or, or_false, ite_not, decide_true, decide_false, Bool.true_eq_false, Bool.false_eq_true, decide_eq_true_eq, decide_eq_false_iff_not, hp_I, hp_sI, hp_N, ev_k_s, ev_k_n, true_and, and_true, true_or, or_true, not_true_eq_false, not_false_eq_true, if_true, if_false, ite_self, Option.some.injEq, exists_eq_left', nb_0, nb_1, nb_z, zI_t, zI_f, zI_e, cat_i, cat_r, cat_n, iI_add, iI_sub, iI_mul, iI_neg, iI_lt, iI_le, iI_eq, iI_idx, iI_inT, iI_ne0, ite_false, ite_true, iN_0, iN_1, Int.reduceAdd, Int.reduceSub, Int.reduceMul, Int.reduceNeg, Int.reduceDiv, Int.reduceMod, Int.reduceEq, Int.reduceLT, Int.reduceLE, Int.reduceToNat, Nat.reduceAdd, Nat.reduceSub, Nat.reduceMul, Nat.reduceLT, Nat.reduceLeDiff, Nat.reduceEqDiff, Int.cast_ofNat_Int, Std.le_refl, and_self, Int.toNat_natCast, Int.toNat_zero, Nat.le_refl]
theorem c45 (ht : isp t) (hr : RepP I t S) (hv : VS S) (hs : StI I) (hz1 : -12 ≤ z) (hz2 : z ≤ 12) : ev_c 45 [.ref t, .int (iI z)] (hp L σ I) Q = Q (some (.int (zI (mvo S z)))) (hp L σ I) := by
  have hl := hv.2.2.2.1
  have h4 := hr.2.2.2.1
  obtain ⟨x, hx, e⟩ := lks (fun (x : Value) (k : Nat) => ev_w 45 2 [.ref t, .int (iI z), .int (iI (k : Int)), x] [] (hp L σ I) Q) (Q (some (.int (iI 0))) (hp L σ I)) (mvk S z) (fun _ k => .int (if (ch S k).2.2.isSome then iI 4 else iI 1)) (fun x => x.category = 1) S.2.length (fun x k hk hx => ⟨cat_i _, c45i ht hr hv hs hz1 hz2 hk hx⟩) S.2.length 0 .null (by omega) rfl
  rw [e45, u45_0, u45_1 rfl]
  refine e.trans ?_
  unfold mvo
  rw [← List.range_eq_range']
  simp (disch := first | exact cat_i _ | exact cat_r _ | exact cat_n | omega) only [u45_2, u45_3, u45_4, u45_7, u45_73, u45_74, hT_p ht, h4, if_pos, if_neg, ↓reduceIte, false_and, and_false, false_or, or_false, ite_not, decide_true, decide_false, Bool.true_eq_false, Bool.false_eq_true, decide_eq_true_eq, decide_eq_false_iff_not, hp_I, hp_sI, hp_N, ev_k_s, ev_k_n, true_and, and_true, true_or, or_true, not_true_eq_false, not_false_eq_true, if_true, if_false, ite_self, Option.some.injEq, exists_eq_left', nb_0, nb_1, nb_z, zI_t, zI_f, zI_e, cat_i, cat_r, cat_n, iI_add, iI_sub, iI_mul, iI_neg, iI_lt, iI_le, iI_eq, iI_idx, iI_inT, iI_ne0, ite_false, ite_true, iN_0, iN_1, Int.reduceAdd, Int.reduceSub, Int.reduceMul, Int.reduceNeg, Int.reduceDiv, Int.reduceMod, Int.reduceEq, Int.reduceLT, Int.reduceLE, Int.reduceToNat, Nat.reduceAdd, Nat.reduceSub, Nat.reduceMul, Nat.reduceLT, Nat.reduceLeDiff, Nat.reduceEqDiff, Int.cast_ofNat_Int, Std.le_refl, and_self, Int.toNat_natCast, Int.toNat_zero, Nat.le_refl]
  cases (List.range S.2.length).all (mvk S z) <;> rfl
def mvf (S : Co) (t : Nat) (z : Int) (p : (Nat → Nat → Int32) × Value) (k : Nat) : (Nat → Nat → Int32) × Value := match (ch S k).2.2 with
  | none => (fb_u2 p.1 (t + 2) k (iI (((mvc z (ch S k)).1 : Nat) : Int)), p.2)
  | some v => (fb_u2 (fb_u2 p.1 (t + 2) k (iI (((mvc z (ch S k)).1 : Nat) : Int))) (t + 4) k (iI ((pkv (mvv z v) : Nat) : Int)), .int (iI ((pkv v : Nat) : Int)))
theorem c46i (ht : isp t) (hv : VS S) (hz1 : -12 ≤ z) (hz2 : z ≤ 12) (hn : n < S.2.length) (hm : mvk S z n = true) {p : (Nat → Nat → Int32) × Value} (hx : p.2.category = 1) (h4 : p.1 t 4 = iI (S.2.length : Int)) (r1 : p.1 (t + 2) n = iI ((ch S n).1 : Int)) (r3 : p.1 (t + 4) n = iI (pkO (ch S n).2.2)) (hc : ∀ (J : Nat → Nat → Int32) (Q : Option Value → fb_H → Prop), J t 4 = p.1 t 4 → J (t + 4) n = p.1 (t + 4) n → ev_c 32 [.ref t, .int (iI (n : Int))] (hp L σ J) Q = Q (some (.int (zI (ch S n).2.2.isSome))) (hp L σ J)) : ev_w 46 2 [.ref t, .int (iI z), .int (iI (n : Int)), p.2] [] (hp L σ p.1) Q = ev_w 46 2 [.ref t, .int (iI z), .int (iI ((n : Int) + 1)), (mvf S t z p n).2] [] (hp L σ (mvf S t z p n).1) Q := by
  have hl := hv.2.2.2.1
  have hb := hv.2.2.2.2 n hn
  have hb1 := hb.1
  have hb2 := hb.2.1
  have hmb := mvk_b hm
  have e1 : ((ch S n).1 : Int) + z = (((mvc z (ch S n)).1 : Nat) : Int) := by show _ = ((((ch S n).1 : Int) + z).toNat : Int); omega
  have hc' := fun Q => hc (fb_u2 p.1 (t + 2) n (iI (((mvc z (ch S n)).1 : Nat) : Int))) Q (u2_ne (by omega)) (u2_ne (by omega))
  rw [u46_2]
  cases hw : (ch S n).2.2 with
  | none =>
    rw [hw] at hc'
    simp (disch := first | exact hx | exact cat_i _ | omega) only [u46_3, u46_4, u46_7, u46_10, u46_11, u46_14, u46_15, u46_16, u46_17, u46_18, u46_19, u46_20, u46_21, u46_22, u46_25, u46_28, u46_29, u46_32, u46_33, u46_34, u46_35, u46_36, u46_39, u46_40, u46_41, u46_42, u46_45, u46_46, u46_47, u46_48, u46_49, u46_52, u46_53, u46_54, u46_55, u46_56, u46_59, u46_60, u46_61, u46_64, u46_65, u46_68, hT_p ht, hT_p2 ht, hR_p1 ht, h4, r1, e1, hc', Option.isSome_none, mvf, hw, if_pos, if_neg, ↓reduceIte, false_and, and_false, false_or, or_false, ite_not, decide_true, decide_false, Bool.true_eq_false, Bool.false_eq_true, decide_eq_true_eq, decide_eq_false_iff_not, hp_I, hp_sI, hp_N, ev_k_s, ev_k_n, true_and, and_true, true_or, or_true, not_true_eq_false, not_false_eq_true, if_true, if_false, ite_self, Option.some.injEq, exists_eq_left', nb_0, nb_1, nb_z, zI_t, zI_f, zI_e, cat_i, cat_r, cat_n, iI_add, iI_sub, iI_mul, iI_neg, iI_lt, iI_le, iI_eq, iI_idx, iI_inT, iI_ne0, ite_false, ite_true, iN_0, iN_1, Int.reduceAdd, Int.reduceSub, Int.reduceMul, Int.reduceNeg, Int.reduceDiv, Int.reduceMod, Int.reduceEq, Int.reduceLT, Int.reduceLE, Int.reduceToNat, Nat.reduceAdd, Nat.reduceSub, Nat.reduceMul, Nat.reduceLT, Nat.reduceLeDiff, Nat.reduceEqDiff, Int.cast_ofNat_Int, Std.le_refl, and_self, Int.toNat_natCast, Int.toNat_zero, Nat.le_refl]
  | some v =>
    have hvv := hb.2.2.2 v hw
    obtain ⟨v1, v2, v3⟩ := id hvv
    obtain ⟨a1, a2, a3⟩ := mvk_v hm hw
    rw [hw] at r3 hc'
    have r3' : fb_u2 p.1 (t + 2) n (iI (((mvc z (ch S n)).1 : Nat) : Int)) (t + 4) n = iI ((pk4 0 v : Nat) : Int) := (u2_ne (by omega)).trans (r3.trans (congrArg iI (pk0 v)))
    have w1 : (v.1 : Int) + z = (((mvv z v).1 : Nat) : Int) := by show _ = (((v.1 : Int) + z).toNat : Int); omega
    have w2 : (v.2.1 : Int) + z = (((mvv z v).2.1 : Nat) : Int) := by show _ = (((v.2.1 : Int) + z).toNat : Int); omega
    have w3 : (v.2.2 : Int) + z = (((mvv z v).2.2 : Nat) : Int) := by show _ = (((v.2.2 : Int) + z).toNat : Int); omega
    have wv : VV (mvv z v) := ⟨by omega, by omega, by omega⟩
    simp (disch := first | exact hx | exact cat_i _ | omega) only [u46_3, u46_4, u46_7, u46_10, u46_11, u46_14, u46_15, u46_16, u46_17, u46_18, u46_19, u46_20, u46_21, u46_22, u46_25, u46_28, u46_29, u46_32, u46_33, u46_34, u46_35, u46_36, u46_39, u46_40, u46_41, u46_42, u46_45, u46_46, u46_47, u46_48, u46_49, u46_52, u46_53, u46_54, u46_55, u46_56, u46_59, u46_60, u46_61, u46_64, u46_65, u46_68, hT_p ht, hT_p2 ht, hR_p1 ht, hT_p4 ht, hR_p3 ht, h4, r1, r3', e1, hc', c110_1 (Nat.zero_le 127) hvv, c110_2 (Nat.zero_le 127) hvv, c110_3 (Nat.zero_le 127) hvv, w1, w2, w3, c109 wv, Option.isSome_some, mvf, hw, if_pos, if_neg, ↓reduceIte, false_and, and_false, false_or, or_false, ite_not, decide_true, decide_false, Bool.true_eq_false, Bool.false_eq_true, decide_eq_true_eq, decide_eq_false_iff_not, hp_I, hp_sI, hp_N, ev_k_s, ev_k_n, true_and, and_true, true_or, or_true, not_true_eq_false, not_false_eq_true, if_true, if_false, ite_self, Option.some.injEq, exists_eq_left', nb_0, nb_1, nb_z, zI_t, zI_f, zI_e, cat_i, cat_r, cat_n, iI_add, iI_sub, iI_mul, iI_neg, iI_lt, iI_le, iI_eq, iI_idx, iI_inT, iI_ne0, ite_false, ite_true, iN_0, iN_1, Int.reduceAdd, Int.reduceSub, Int.reduceMul, Int.reduceNeg, Int.reduceDiv, Int.reduceMod, Int.reduceEq, Int.reduceLT, Int.reduceLE, Int.reduceToNat, Nat.reduceAdd, Nat.reduceSub, Nat.reduceMul, Nat.reduceLT, Nat.reduceLeDiff, Nat.reduceEqDiff, Int.cast_ofNat_Int, Std.le_refl, and_self, Int.toNat_natCast, Int.toNat_zero, Nat.le_refl]
    rw [pk0 v]
theorem c32J (ht : isp t) {J : Nat → Nat → Int32} (hl : S.2.length ≤ 10) (hn : n < S.2.length) {x : Int} (hx1 : -1 ≤ x) (hx2 : x < 2097152) (h4 : J t 4 = iI (S.2.length : Int)) (h5 : J (t + 4) n = iI x) : ev_c 32 [.ref t, .int (iI (n : Int))] (hp L σ J) Q = Q (some (.int (zI (decide (x ≠ -1))))) (hp L σ J) := by
  have e1 : ∀ Q : Option Value → fb_H → Prop, ev_c 26 [.ref t, .int (iI (n : Int))] (hp L σ J) Q = Q (some (.int (iI 1))) (hp L σ J) := fun Q => by
    simp (disch := first | exact cat_i _ | exact cat_r _ | exact cat_n | omega) only [e26, u26_0, u26_1, u26_4, u26_5, u26_6, u26_9, u26_12, u26_13, u26_16, u26_17, hT_p ht, h4, if_pos, if_neg, ↓reduceIte, false_and, and_false, false_or, or_false, ite_not, decide_true, decide_false, Bool.true_eq_false, Bool.false_eq_true, decide_eq_true_eq, decide_eq_false_iff_not, hp_I, hp_sI, hp_N, ev_k_s, ev_k_n, true_and, and_true, true_or, or_true, not_true_eq_false, not_false_eq_true, if_true, if_false, ite_self, Option.some.injEq, exists_eq_left', nb_0, nb_1, nb_z, zI_t, zI_f, zI_e, cat_i, cat_r, cat_n, iI_add, iI_sub, iI_mul, iI_neg, iI_lt, iI_le, iI_eq, iI_idx, iI_inT, iI_ne0, ite_false, ite_true, iN_0, iN_1, Int.reduceAdd, Int.reduceSub, Int.reduceMul, Int.reduceNeg, Int.reduceDiv, Int.reduceMod, Int.reduceEq, Int.reduceLT, Int.reduceLE, Int.reduceToNat, Nat.reduceAdd, Nat.reduceSub, Nat.reduceMul, Nat.reduceLT, Nat.reduceLeDiff, Nat.reduceEqDiff, Int.cast_ofNat_Int, Std.le_refl, and_self, Int.toNat_natCast, Int.toNat_zero, Nat.le_refl]
  have e2 : ∀ Q : Option Value → fb_H → Prop, ev_c 31 [.ref t, .int (iI (n : Int))] (hp L σ J) Q = Q (some (.int (iI x))) (hp L σ J) := fun Q => by
    simp (disch := first | exact cat_i _ | exact cat_r _ | exact cat_n | omega) only [e31, u31_0, u31_1, u31_2, u31_5, u31_8, u31_9, u31_12, u31_13, u31_14, u31_17, u31_18, hT_p ht, hT_p4 ht, hR_p3 ht, e1, h5, if_pos, if_neg, ↓reduceIte, false_and, and_false, false_or, or_false, ite_not, decide_true, decide_false, Bool.true_eq_false, Bool.false_eq_true, decide_eq_true_eq, decide_eq_false_iff_not, hp_I, hp_sI, hp_N, ev_k_s, ev_k_n, true_and, and_true, true_or, or_true, not_true_eq_false, not_false_eq_true, if_true, if_false, ite_self, Option.some.injEq, exists_eq_left', nb_0, nb_1, nb_z, zI_t, zI_f, zI_e, cat_i, cat_r, cat_n, iI_add, iI_sub, iI_mul, iI_neg, iI_lt, iI_le, iI_eq, iI_idx, iI_inT, iI_ne0, ite_false, ite_true, iN_0, iN_1, Int.reduceAdd, Int.reduceSub, Int.reduceMul, Int.reduceNeg, Int.reduceDiv, Int.reduceMod, Int.reduceEq, Int.reduceLT, Int.reduceLE, Int.reduceToNat, Nat.reduceAdd, Nat.reduceSub, Nat.reduceMul, Nat.reduceLT, Nat.reduceLeDiff, Nat.reduceEqDiff, Int.cast_ofNat_Int, Std.le_refl, and_self, Int.toNat_natCast, Int.toNat_zero, Nat.le_refl]
  simp (disch := first | exact cat_i _ | exact cat_r _ | exact cat_n | omega) only [e32, u32_0, u32_1, u32_2, u32_5, u32_6, u32_9, u32_10, u32_13, u32_14, hT_p ht, e2, ↓reduceIte, false_and, and_false, false_or, or_false, ite_not, decide_true, decide_false, Bool.true_eq_false, Bool.false_eq_true, decide_eq_true_eq, decide_eq_false_iff_not, hp_I, hp_sI, hp_N, ev_k_s, ev_k_n, true_and, and_true, true_or, or_true, not_true_eq_false, not_false_eq_true, if_true, if_false, ite_self, Option.some.injEq, exists_eq_left', nb_0, nb_1, nb_z, zI_t, zI_f, zI_e, cat_i, cat_r, cat_n, iI_add, iI_sub, iI_mul, iI_neg, iI_lt, iI_le, iI_eq, iI_idx, iI_inT, iI_ne0, ite_false, ite_true, iN_0, iN_1, Int.reduceAdd, Int.reduceSub, Int.reduceMul, Int.reduceNeg, Int.reduceDiv, Int.reduceMod, Int.reduceEq, Int.reduceLT, Int.reduceLE, Int.reduceToNat, Nat.reduceAdd, Nat.reduceSub, Nat.reduceMul, Nat.reduceLT, Nat.reduceLeDiff, Nat.reduceEqDiff, Int.cast_ofNat_Int, Std.le_refl, and_self, Int.toNat_natCast, Int.toNat_zero, Nat.le_refl]
  split
  · rw [zI_df (by omega)]
  · rw [zI_dt (by omega)]
theorem c46 (ht : isp t) (hr : RepP I t S) (hv : VS S) (hz1 : -12 ≤ z) (hz2 : z ≤ 12) (hm : mvo S z = true) : ∃ I', (∀ Q : Option Value → fb_H → Prop, ev_c 46 [.ref t, .int (iI z)] (hp L σ I) Q = Q none (hp L σ I')) ∧ RepP I' t (mov S z) ∧ Oth I I' t := by
  have hl := hv.2.2.2.1
  obtain ⟨r0, r1, r2, r3, r4⟩ := hr
  have lp := fun Q : Option Value → fb_H → Prop => lf0 (fun (p : (Nat → Nat → Int32) × Value) (k : Nat) => ev_w 46 2 [.ref t, .int (iI z), .int (iI (k : Int)), p.2] [] (hp L σ p.1) Q) (mvf S t z) (fun p k => p.2.category = 1 ∧ (∀ i q, (i ≠ t + 2 ∧ i ≠ t + 4) → p.1 i q = I i q) ∧ (∀ q, k ≤ q → p.1 (t + 2) q = I (t + 2) q ∧ p.1 (t + 4) q = I (t + 4) q) ∧ ∀ q, q < k → p.1 (t + 2) q = iI (((mvc z (ch S q)).1 : Nat) : Int) ∧ p.1 (t + 4) q = iI (pkO (mvc z (ch S q)).2.2)) S.2.length (fun p k hk hp' => by
    obtain ⟨j1, j2, j3, j4⟩ := hp'
    have e4 : p.1 t 4 = iI (S.2.length : Int) := (j2 _ _ (by omega)).trans r3
    have e2 : p.1 (t + 2) k = iI ((ch S k).1 : Int) := (j3 k (Nat.le_refl k)).1.trans (r4 k hk).1
    have e3 : p.1 (t + 4) k = iI (pkO (ch S k).2.2) := (j3 k (Nat.le_refl k)).2.trans (r4 k hk).2.2
    have hpk := pkO_lt hv hk
    refine ⟨?_, c46i ht hv hz1 hz2 hk (mvo_k hm hk) j1 e4 e2 e3 fun J Q f1 f2 => ?_⟩
    · unfold mvf
      cases hw : (ch S k).2.2 with
      | none =>
        dsimp only
        refine ⟨j1, fun i q hi => ?_, fun q hq => ?_, fun q hq => ?_⟩
        · rw [u2_ne (by omega)]; exact j2 i q hi
        · rw [u2_ne (by omega), u2_ne (by omega)]; exact j3 q (by omega)
        · by_cases q1 : q = k
          · subst q1
            rw [u2_eq, u2_ne (by omega), e3]
            exact ⟨rfl, by simp only [mvc, hw, Option.map_none]⟩
          · rw [u2_ne (by omega), u2_ne (by omega)]; exact j4 q (by omega)
      | some v =>
        dsimp only
        refine ⟨cat_i _, fun i q hi => ?_, fun q hq => ?_, fun q hq => ?_⟩
        · rw [u2_ne (by omega), u2_ne (by omega)]; exact j2 i q hi
        · rw [u2_ne (by omega), u2_ne (by omega), u2_ne (by omega), u2_ne (by omega)]; exact j3 q (by omega)
        · by_cases q1 : q = k
          · subst q1
            rw [u2_ne (by omega), u2_eq, u2_eq]
            exact ⟨rfl, by simp only [mvc, hw, Option.map_some, pkO]⟩
          · rw [u2_ne (by omega), u2_ne (by omega), u2_ne (by omega), u2_ne (by omega)]; exact j4 q (by omega)
    · rw [c32J ht hl hk hpk.1 hpk.2 (f1.trans e4) (f2.trans e3)]
      cases hw : (ch S k).2.2 with
      | none => rfl
      | some v => rw [zI_dt]; · rfl
                  show (pkv v : Int) ≠ -1; omega) (I, .null) ⟨rfl, fun _ _ _ => rfl, fun _ _ => ⟨rfl, rfl⟩, fun q hq => absurd hq (Nat.not_lt_zero q)⟩
  generalize hJ : (List.range S.2.length).foldl (mvf S t z) (I, .null) = p at lp
  obtain ⟨j1, j2, j3, j4⟩ := (lp (fun _ _ => True)).2
  have e4 : p.1 t 4 = iI (S.2.length : Int) := (j2 _ _ (by omega)).trans r3
  have e0 : p.1 (t + 1) 0 = iI (S.1.1 : Int) := (j2 _ _ (by omega)).trans r0
  have hk := hv.1
  refine ⟨fb_u2 p.1 (t + 1) 0 (iI (((S.1.1 : Int) + z) % 12)), fun Q => ?_, ⟨?_, ?_, ?_, ?_, fun q hq => ?_⟩, fun i k hi => ?_⟩
  · have l1 := (lp Q).1
    clear hJ
    rw [e46, u46_0, u46_1 rfl]
    refine Eq.trans l1 ?_
    simp (disch := first | exact j1 | exact cat_i _ | omega) only [u46_2, u46_3, u46_4, u46_7, u46_71, u46_72, u46_75, u46_76, u46_77, u46_80, u46_81, u46_82, u46_83, u46_84, u46_87, u46_88, hT_p ht, hT_p1 ht, hR_p0 ht, e4, e0, c105, if_pos, if_neg, ↓reduceIte, false_and, and_false, false_or, or_false, ite_not, decide_true, decide_false, Bool.true_eq_false, Bool.false_eq_true, decide_eq_true_eq, decide_eq_false_iff_not, hp_I, hp_sI, hp_N, ev_k_s, ev_k_n, true_and, and_true, true_or, or_true, not_true_eq_false, not_false_eq_true, if_true, if_false, ite_self, Option.some.injEq, exists_eq_left', nb_0, nb_1, nb_z, zI_t, zI_f, zI_e, cat_i, cat_r, cat_n, iI_add, iI_sub, iI_mul, iI_neg, iI_lt, iI_le, iI_eq, iI_idx, iI_inT, iI_ne0, ite_false, ite_true, iN_0, iN_1, Int.reduceAdd, Int.reduceSub, Int.reduceMul, Int.reduceNeg, Int.reduceDiv, Int.reduceMod, Int.reduceEq, Int.reduceLT, Int.reduceLE, Int.reduceToNat, Nat.reduceAdd, Nat.reduceSub, Nat.reduceMul, Nat.reduceLT, Nat.reduceLeDiff, Nat.reduceEqDiff, Int.cast_ofNat_Int, Std.le_refl, and_self, Int.toNat_natCast, Int.toNat_zero, Nat.le_refl]
  · rw [u2_eq]; congr 1; show _ = ((((S.1.1 : Int) + z) % 12).toNat : Int); omega
  · rw [u2_ne (by omega), j2 _ _ (by omega)]; exact r1
  · rw [u2_ne (by omega), j2 _ _ (by omega)]; exact r2
  · rw [u2_ne (by omega), e4, len_mov]
  · rw [len_mov] at hq
    rw [u2_ne (by omega), u2_ne (by omega), u2_ne (by omega), ch_mov hq, (j4 q hq).1, (j4 q hq).2, j2 _ _ (by omega)]
    exact ⟨rfl, (r4 q hq).2.1, rfl⟩
  · rw [u2_ne (by omega), j2 _ _ (by omega)]
end MV
