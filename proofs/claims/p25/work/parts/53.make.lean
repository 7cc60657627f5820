/-! the constructors: from the empty heap to the fixed one -/
def nwI (I : Nat → Nat → Int32) (n : Nat) : Nat → Nat → Int32 := fun a b => if a = n then (0 : Int32) else I a b
def cpI (I : Nat → Nat → Int32) (n i : Nat) : Nat → Nat → Int32 := fun a b => if a = n then I i b else I a b
def mnI (I : Nat → Nat → Int32) (n m : Nat) : Nat → Nat → Int32 := fun a b => if n ≤ a ∧ a ≤ n + m then (0 : Int32) else I a b
abbrev AL : Type := List ((Nat × Nat) × Nat)
def hzT (L n i : Nat) : Nat × Nat := match (hTl.take n)[i]? with
  | some p => p
  | none => if 1000000 ≤ i ∧ i < 1000007 then (16, fb_rl L (i - 1000000)) else (99, 0)
def hz (L n : Nat) (al : AL) (Z : Nat) (I : Nat → Nat → Int32) : fb_H := (hzT L n, (n, Z), fun i k => List.lookup (i, k) al, I)
def kle (al : AL) (n : Nat) : Bool := al.all fun e => decide (e.1.1 < n)
theorem lk_none : ∀ (al : AL) (n b : Nat), kle al n = true → ∀ a, n ≤ a → List.lookup (a, b) al = none
  | [], n, b, h, a, ha => rfl
  | ((i, k), v) :: al, n, b, h, a, ha => by
    unfold kle at h
    rw [List.all_cons, Bool.and_eq_true, decide_eq_true_eq] at h
    have h1 : i < n := h.1
    have hne : ((a, b) == (i, k)) = false := by
      rw [beq_eq_false_iff_ne]
      intro e
      have : a = i := congrArg Prod.fst e
      omega
    rw [List.lookup_cons, hne]
    exact lk_none al n b h.2 a ha
section HZ
variable {L n Z : Nat} {al : AL} {I : Nat → Nat → Int32} {Q : Option Value → fb_H → Prop}
theorem hz_N : fb_N (hz L n al Z I) = n := rfl
theorem hz_I : fb_I (hz L n al Z I) = I := rfl
theorem hz_sI (i k : Nat) (v : Int32) : fb_sI (hz L n al Z I) i k v = hz L n al Z (fb_u2 I i k v) := rfl
theorem hz_R (i k : Nat) : fb_R (hz L n al Z I) i k = List.lookup (i, k) al := rfl
theorem hz_sR (i k b : Nat) : fb_sR (hz L n al Z I) i k (some b) = hz L n (((i, k), b) :: al) Z I := by
  unfold fb_sR hz
  refine Prod.ext rfl (Prod.ext rfl (Prod.ext ?_ rfl))
  funext a c
  show fb_u2 (fun i k => List.lookup (i, k) al) i k (some b) a c = List.lookup (a, c) (((i, k), b) :: al)
  rw [List.lookup_cons]
  unfold fb_u2
  by_cases q : a = i ∧ c = k
  · obtain ⟨rfl, rfl⟩ := q
    rw [if_pos ⟨rfl, rfl⟩]
    simp
  · rw [if_neg q]
    have : ((a, c) == (i, k)) = false := by
      rw [beq_eq_false_iff_ne]
      intro e
      exact q ⟨congrArg Prod.fst e, congrArg Prod.snd e⟩
    rw [this]
theorem hz_T {i : Nat} {p : Nat × Nat} (h : hTl[i]? = some p) (hi : i < n) : fb_T (hz L n al Z I) i = p := by
  show hzT L n i = p
  unfold hzT
  rw [List.getElem?_take, if_pos hi, h]
theorem hz_st {k : Nat} (hn : n ≤ 1000000) (hk : k < 7) : fb_T (hz L n al Z I) (1000000 + k) = (16, fb_rl L k) := by
  show hzT L n (1000000 + k) = _
  unfold hzT
  have : (hTl.take n)[1000000 + k]? = none := List.getElem?_eq_none (by rw [List.length_take]; have : hTl.length = 102 := rfl; omega)
  rw [this]
  show (if 1000000 ≤ 1000000 + k ∧ 1000000 + k < 1000007 then (16, fb_rl L (1000000 + k - 1000000)) else (99, 0)) = _
  rw [if_pos (by omega), Nat.add_sub_cancel_left]
theorem hzT_s {p : Nat × Nat} (h : hTl[n]? = some p) : (fun a => if a = n then p else hzT L n a) = hzT L (n + 1) := by
  funext a
  unfold hzT
  rw [List.getElem?_take, List.getElem?_take]
  by_cases q : a = n
  · subst q
    rw [if_pos rfl, if_pos (by omega), h]
  · rw [if_neg q]
    by_cases q2 : a < n
    · rw [if_pos q2, if_pos (show a < n + 1 by omega)]
    · rw [if_neg q2, if_neg (show ¬ a < n + 1 by omega)]
theorem hzR_s (h : kle al n = true) : (fun a b => if a = n then none else List.lookup (a, b) al) = fun a b => List.lookup (a, b) al := by
  funext a b
  by_cases q : a = n
  · rw [if_pos q, lk_none al n b h a (by omega)]
  · rw [if_neg q]
theorem hz_nw {kd len w : Nat} (h1 : hTl[n]? = some (kd, len)) (h2 : kle al n = true) : fb_nw (hz L n al Z I) kd len w = hz L (n + 1) al (Z + w) (nwI I n) := by
  unfold fb_nw
  refine Prod.ext (hzT_s h1) (Prod.ext rfl (Prod.ext (hzR_s h2) rfl))
theorem hz_cp (h1 : hTl[n]? = some (10, 3)) (h2 : kle al n = true) (hn : n < 1000) : fb_cp (hz L n al Z I) 1000001 = hz L (n + 1) al (Z + 3) (cpI I n 1000001) := by
  have e : fb_T (hz L n al Z I) 1000001 = (16, 3) := hz_st (k := 1) (by omega) (by omega)
  unfold fb_cp
  rw [e]
  refine Prod.ext (hzT_s h1) (Prod.ext rfl (Prod.ext (hzR_s h2) rfl))
/-- a piece is made -/
def I24 (I : Nat → Nat → Int32) (t : Nat) : Nat → Nat → Int32 := nwI (nwI (nwI (cpI I (t + 1) 1000001) (t + 1 + 1)) (t + 1 + 1 + 1)) (t + 1 + 1 + 1 + 1)
theorem kle_c {i k v : Nat} (h : kle al n = true) (hi : i < n) : kle (((i, k), v) :: al) n = true := by
  unfold kle at h ⊢
  rw [List.all_cons, h, Bool.and_true]
  exact decide_eq_true hi
theorem kle_m {m : Nat} (h : kle al n = true) (hi : n ≤ m) : kle al m = true := by
  unfold kle at h ⊢
  rw [List.all_eq_true] at h ⊢
  intro e he
  have := h e he
  rw [decide_eq_true_eq] at this ⊢
  omega
theorem iI_n0 {z : Int} (h1 : 0 ≤ z) (h2 : z < 2147483648) : (iI z < 0) = False := by
  rw [show (0 : Int32) = iI 0 from rfl, iI_lt (by omega) h2 (by omega) (by omega)]
  exact eq_false (by omega)
theorem z24 {t : Nat} (ht : t < 900) (h0 : hTl[t]? = some (3, 0)) (h1 : hTl[t + 1]? = some (10, 3)) (h2 : hTl[t + 2]? = some (10, 10)) (h3 : hTl[t + 3]? = some (10, 10)) (h4 : hTl[t + 4]? = some (10, 10)) (hk : kle al (t + 1) = true) : ev_c 24 [.ref t] (hz L (t + 1) al Z I) Q = Q none (hz L (t + 5) (((t, 3), t + 4) :: ((t, 2), t + 3) :: ((t, 1), t + 2) :: ((t, 0), t + 1) :: al) (Z + 33) (I24 I t)) := by
  have T0 : ∀ (n : Nat) (al : AL) (Z : Nat) (I : Nat → Nat → Int32), t < n → fb_T (hz L n al Z I) t = (3, 0) := fun n al Z I hn => hz_T h0 hn
  have T1 : ∀ (n : Nat) (al : AL) (Z : Nat) (I : Nat → Nat → Int32), t + 1 < n → fb_T (hz L n al Z I) (t + 1) = (10, 3) := fun n al Z I hn => hz_T h1 hn
  have TS : ∀ (n : Nat) (al : AL) (Z : Nat) (I : Nat → Nat → Int32), n < 1000 → fb_T (hz L n al Z I) 1000001 = (16, 3) := fun n al Z I hn => hz_st (k := 1) (by omega) (by omega)
  have a1 := hz_cp (L := L) (Z := Z) (I := I) h1 hk (by omega)
  have k1 := kle_c (k := 0) (v := t + 1) (kle_m hk (show t + 1 ≤ t + 2 by omega)) (show t < t + 2 by omega)
  have a2 := hz_nw (L := L) (Z := Z + 3) (I := cpI I (t + 1) 1000001) (w := 10) h2 k1
  have k2 := kle_c (k := 1) (v := t + 2) (kle_m k1 (show t + 2 ≤ t + 3 by omega)) (show t < t + 3 by omega)
  have a3 := hz_nw (L := L) (Z := Z + 3 + 10) (I := nwI (cpI I (t + 1) 1000001) (t + 2)) (w := 10) h3 k2
  have k3 := kle_c (k := 2) (v := t + 3) (kle_m k2 (show t + 3 ≤ t + 4 by omega)) (show t < t + 4 by omega)
  have a4 := hz_nw (L := L) (Z := Z + 3 + 10 + 10) (I := nwI (nwI (cpI I (t + 1) 1000001) (t + 2)) (t + 3)) (w := 10) h4 k3
  have b1 : t + 1 < 900000 := by omega
  have b2 : t + 2 < 900000 := by omega
  have b3 : t + 3 < 900000 := by omega
  have b4 : t + 4 < 900000 := by omega
  have l1 : t + 1 < t + 2 := by omega
  have l2 : t + 2 < t + 3 := by omega
  have l3 : t + 3 < t + 4 := by omega
  have l4 : t + 4 < t + 5 := by omega
  rw [e24, u24_0, u24_1, u24_4, u24_5]
  simp (disch := first | exact cat_i _ | exact cat_r _ | exact cat_n | omega) only [u24_8, u24_11, u24_14, u24_17, u24_18, u24_20, u24_22, u24_25, u24_26, u24_28, u24_30, u24_33, u24_34, u24_36, u24_38, u24_41, T0, T1, TS, hz_N, hz_sR, a1, a2, a3, a4, Nat.add_assoc, iI_n0, b1, b2, b3, b4, l1, l2, l3, l4, if_pos, if_neg, ↓reduceIte, false_and, and_false, false_or, or_false, ite_not, decide_true, decide_false, Bool.true_eq_false, Bool.false_eq_true, decide_eq_true_eq, decide_eq_false_iff_not, hp_I, hp_sI, hp_N, ev_k_s, ev_k_n, true_and, and_true, true_or, or_true, not_true_eq_false, not_false_eq_true, if_true, if_false, ite_self, Option.some.injEq, exists_eq_left', nb_0, nb_1, nb_z, zI_t, zI_f, zI_e, cat_i, cat_r, cat_n, iI_add, iI_sub, iI_mul, iI_neg, iI_lt, iI_le, iI_eq, iI_idx, iI_inT, iI_ne0, ite_false, ite_true, iN_0, iN_1, Int.reduceAdd, Int.reduceSub, Int.reduceMul, Int.reduceNeg, Int.reduceDiv, Int.reduceMod, Int.reduceEq, Int.reduceLT, Int.reduceLE, Int.reduceToNat, Nat.reduceAdd, Nat.reduceSub, Nat.reduceMul, Nat.reduceLT, Nat.reduceLeDiff, Nat.reduceEqDiff, Int.cast_ofNat_Int, Std.le_refl, and_self, Int.toNat_natCast, Int.toNat_zero, Nat.le_refl]
  all_goals rfl
end HZ
