/-! the start as a whole -/
def alF : AL := [((0, 7), 58), ((59, 9), 100), ((100, 0), 101), ((59, 8), 98), ((98, 0), 99), ((59, 7), 96), ((96, 0), 97), ((59, 6), 94), ((94, 0), 95), ((59, 5), 92), ((92, 0), 93), ((59, 4), 90), ((90, 0), 91), ((59, 3), 88), ((88, 0), 89), ((59, 2), 86), ((86, 0), 87), ((59, 1), 84), ((84, 0), 85), ((59, 0), 82), ((82, 0), 83), ((58, 2), 71), ((71, 0), 72), ((71, 1), 73), ((71, 2), 74), ((71, 3), 75), ((71, 4), 76), ((71, 5), 77), ((71, 6), 78), ((71, 7), 79), ((71, 8), 80), ((71, 9), 81), ((58, 1), 60), ((60, 0), 61), ((60, 1), 62), ((60, 2), 63), ((60, 3), 64), ((60, 4), 65), ((60, 5), 66), ((60, 6), 67), ((60, 7), 68), ((60, 8), 69), ((60, 9), 70), ((58, 0), 59), ((0, 6), 56), ((56, 0), 57), ((0, 5), 52), ((52, 2), 55), ((52, 1), 54), ((52, 0), 53), ((0, 4), 50), ((50, 0), 51), ((0, 3), 49), ((0, 2), 38), ((38, 1), 44), ((44, 3), 48), ((44, 2), 47), ((44, 1), 46), ((44, 0), 45), ((38, 0), 39), ((39, 3), 43), ((39, 2), 42), ((39, 1), 41), ((39, 0), 40), ((0, 1), 6), ((7, 5), 33), ((33, 3), 37), ((33, 2), 36), ((33, 1), 35), ((33, 0), 34), ((7, 4), 28), ((28, 3), 32), ((28, 2), 31), ((28, 1), 30), ((28, 0), 29), ((7, 3), 23), ((23, 3), 27), ((23, 2), 26), ((23, 1), 25), ((23, 0), 24), ((7, 2), 18), ((18, 3), 22), ((18, 2), 21), ((18, 1), 20), ((18, 0), 19), ((7, 1), 13), ((13, 3), 17), ((13, 2), 16), ((13, 1), 15), ((13, 0), 14), ((7, 0), 8), ((8, 3), 12), ((8, 2), 11), ((8, 1), 10), ((8, 0), 9), ((6, 0), 7), ((0, 0), 1), ((1, 3), 5), ((1, 2), 4), ((1, 1), 3), ((1, 0), 2)]
theorem kle_F : (alF.all fun e => decide (e.1.1 < 102 ∧ e.1.2 < 12)) = true := by decide +kernel
theorem lk_F : ∀ (al : AL), (al.all fun e => decide (e.1.1 < 102 ∧ e.1.2 < 12)) = true → ∀ i k, (102 ≤ i ∨ 12 ≤ k) → List.lookup (i, k) al = none
  | [], _, _, _, _ => rfl
  | ((a, b), v) :: al, h, i, k, hik => by
    rw [List.all_cons, Bool.and_eq_true, decide_eq_true_eq] at h
    have h1 : a < 102 ∧ b < 12 := h.1
    have hne : ((i, k) == (a, b)) = false := by
      rw [beq_eq_false_iff_ne]
      intro e
      have e1 : i = a := congrArg Prod.fst e
      have e2 : k = b := congrArg Prod.snd e
      omega
    rw [List.lookup_cons, hne]
    exact lk_F al h.2 i k hik
theorem hR_F : ∀ i, i < 102 → ∀ k, k < 12 → hR0 id i k = List.lookup (i, k) alF := by decide +kernel
theorem hRl_k : (hRl.all fun l => l.all fun e => decide (e.1 < 12)) = true := by decide +kernel
theorem lk_l : ∀ (l : List (Nat × Nat)), (l.all fun e => decide (e.1 < 12)) = true → ∀ k, 12 ≤ k → l.lookup k = none
  | [], _, _, _ => rfl
  | (a, b) :: l, h, k, hk => by
    rw [List.all_cons, Bool.and_eq_true, decide_eq_true_eq] at h
    have h1 : a < 12 := h.1
    have hne : (k == a) = false := by
      rw [beq_eq_false_iff_ne]
      omega
    rw [List.lookup_cons, hne]
    exact lk_l l h.2 k hk
theorem hR_o : ∀ i k, (102 ≤ i ∨ 12 ≤ k) → hR0 id i k = none := fun i k h => by
  unfold hR0
  by_cases q : i = 7
  · rw [if_pos q, if_neg (by omega)]
  · rw [if_neg q]
    cases e : hRl[i]? with
    | none => rfl
    | some l =>
      have hlen : hRl.length = 102 := rfl
      have hi : i < hRl.length := (List.getElem?_eq_some_iff.mp e).1
      have hm : l ∈ hRl := List.mem_of_getElem? e
      exact lk_l l (List.all_eq_true.mp hRl_k l hm) k (by omega)
theorem hz_hp {L : Nat} {I : Nat → Nat → Int32} : hz L 102 alF 1155 I = hp L id I := by
  unfold hz hp
  refine Prod.ext ?_ (Prod.ext rfl (Prod.ext ?_ rfl))
  · funext i
    show hzT L 102 i = hT0 L i
    unfold hzT hT0
    rw [show hTl.take 102 = hTl from rfl]
    cases hTl[i]? <;> rfl
  · funext i k
    show List.lookup (i, k) alF = hR0 id i k
    by_cases q : i < 102 ∧ k < 12
    · exact (hR_F i q.1 k q.2).symm
    · rw [hR_o i k (by omega), lk_F alF kle_F i k (by omega)]
def I00 (xs : Nat → Int32) : Nat → Nat → Int32 := fun i q => if 1000000 ≤ i ∧ i < 1000007 then fb_rf xs (i - 1000000) q else 0
theorem h0_hz {L : Nat} {xs : Nat → Int32} : fb_h0 L xs = hz L 0 [] 0 (I00 xs) := by
  unfold fb_h0 hz
  refine Prod.ext ?_ (Prod.ext rfl (Prod.ext ?_ rfl))
  · funext i
    show _ = hzT L 0 i
    unfold hzT
    rw [List.take_zero, List.getElem?_nil]
  · funext i k
    rfl
def IF (xs : Nat → Int32) : Nat → Nat → Int32 := K78_0 (nwI (I00 xs) 0)
theorem begin_ev {L : Nat} {xs : Nat → Int32} {Q : Option Value → fb_H → Prop} : ev_w 188 0 [.ref 1000006, .null, .null, .null, .null, .null] [] (fb_h0 L xs) Q = ev_w 188 8 [.ref 1000006, .ref 0, .null, .null, .null, .null] [] (hp L id (IF xs)) Q := by
  rw [h0_hz, ← hz_hp]
  have a1 := hz_nw (L := L) (n := 0) (Z := 0) (al := []) (I := I00 xs) (kd := 6) (len := 0) (w := 8) rfl rfl
  simp (disch := first | exact cat_i _ | exact cat_r _ | exact cat_n | omega | decide) only [u188_0, u188_3, u188_4, u188_7, hz_N, a1, z78_0, if_pos, if_neg, ↓reduceIte, false_and, and_false, false_or, or_false, ite_not, decide_true, decide_false, Bool.true_eq_false, Bool.false_eq_true, decide_eq_true_eq, decide_eq_false_iff_not, hp_I, hp_sI, hp_N, ev_k_s, ev_k_n, true_and, and_true, true_or, or_true, not_true_eq_false, not_false_eq_true, if_true, if_false, ite_self, Option.some.injEq, exists_eq_left', nb_0, nb_1, nb_z, zI_t, zI_f, zI_e, cat_i, cat_r, cat_n, iI_add, iI_sub, iI_mul, iI_neg, iI_lt, iI_le, iI_eq, iI_idx, iI_inT, iI_ne0, ite_false, ite_true, iN_0, iN_1, Int.reduceAdd, Int.reduceSub, Int.reduceMul, Int.reduceNeg, Int.reduceDiv, Int.reduceMod, Int.reduceEq, Int.reduceLT, Int.reduceLE, Int.reduceToNat, Nat.reduceAdd, Nat.reduceSub, Nat.reduceMul, Nat.reduceLT, Nat.reduceLeDiff, Nat.reduceEqDiff, Int.cast_ofNat_Int, Std.le_refl, and_self, Int.toNat_natCast, Int.toNat_zero, Nat.le_refl]
  all_goals rfl
section BG
variable {L : Nat} {xs : Nat → Int32}
theorem VS_0 : VS A0.1 := ⟨by decide, ⟨by decide, by decide⟩, ⟨by decide, by decide⟩, Nat.zero_le _, fun c h => absurd h (Nat.not_lt_zero c)⟩
theorem F_St : StI (IF xs) := fun k hk q => match k, hk with
  | 0, _ => rfl | 1, _ => rfl | 2, _ => rfl | 3, _ => rfl | 4, _ => rfl | 5, _ => rfl
theorem F_X : RepX id (IF xs) A0 := ⟨⟨rfl, rfl, rfl, rfl, fun c h => absurd h (Nat.not_lt_zero c)⟩, VS_0, ⟨fun k h => h, fun j k _ _ h => h⟩, ⟨rfl, Nat.zero_le _, fun S h => absurd h List.not_mem_nil, fun k h => absurd h (Nat.not_lt_zero k)⟩, ⟨rfl, rfl, fun S e => (by cases e), fun S e => (by cases e)⟩, ⟨rfl, Nat.zero_le _, fun c h => absurd h List.not_mem_nil, fun k h => absurd h (Nat.not_lt_zero k)⟩⟩
theorem begin_all (hL : L ≤ 260) : ∃ f h', fb_ev f 188 0 [.ref 1000006, .null, .null, .null, .null, .null] [] (fb_h0 L xs) = some (some (.int 1), h') ∧ fb_N h' ≤ 600000 ∧ fb_Z h' ≤ 7302250 := by
  obtain ⟨τ, K, e⟩ := l_all hL id (IF xs) F_X F_St
  have h : ev_w 188 0 [.ref 1000006, .null, .null, .null, .null, .null] [] (fb_h0 L xs) (fun r h => r = some (.int 1) ∧ fb_N h ≤ 600000 ∧ fb_Z h ≤ 7302250) := by
    rw [begin_ev]
    refine (e (fun r h => r = some (.int 1) ∧ fb_N h ≤ 600000 ∧ fb_Z h ≤ 7302250)).mpr ⟨rfl, ?_, ?_⟩
    · show 102 ≤ 600000
      decide
    · show 1155 ≤ 7302250
      decide
  obtain ⟨f, r, h', e1, e2, e3, e4⟩ := h
  subst e2
  exact ⟨f, h', e1, e3, e4⟩
end BG
theorem whole_start {p : Program} {e : Env} {s : State} {m : MethodId} {below : List Frame} {meth : Method} {c : Code} (l : Launch) (hflags : l.flags = flags0) {b L : Nat} {xs : Nat → Int32} (hL : L ≤ 260) (C0 : lw_At p s m meth c b L xs) : W p l e room_1 s m #[Value.ref b] below meth c s.heap [] 0 0 (lw_Z below #[Value.ref b] s) (entryFrame m ([Value.ref b] : List Value).toArray 6) := by
  obtain ⟨f, h', e1, e2, e3⟩ := begin_all (xs := xs) hL
  exact fb_start l C0 e1 e2 e3
