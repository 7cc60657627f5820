theorem qAll_k {key : Nat} : ∀ {N : Nat}, qAll N = true → key < N → qB key 5 24 = true ∧ qB key 6 24 = true ∧ qB key 64 24 = true ∧ qB key 7 24 = true
  | 0, _, h => absurd h (Nat.not_lt_zero _)
  | N + 1, e, h => by
    unfold qAll at e
    simp only [Bool.and_eq_true] at e
    obtain ⟨⟨⟨⟨e0, e1⟩, e2⟩, e3⟩, e4⟩ := e
    by_cases q : key = N
    · subst q; exact ⟨e1, e2, e3, e4⟩
    · exact qAll_k e0 (by omega)
theorem qB_k {key fig j : Nat} : ∀ {N : Nat}, qB key fig N = true → j < N → qK key (36 + j) fig ≤ 20
  | 0, _, h => absurd h (Nat.not_lt_zero _)
  | N + 1, e, h => by
    unfold qB at e
    simp only [Bool.and_eq_true] at e
    by_cases q : j = N
    · subst q; exact Nat.le_of_ble_eq_true e.2
    · exact qB_k e.1 (by omega)
theorem qK_le {key b fig : Nat} (h1 : key < 12) (h2 : 36 ≤ b) (h3 : b ≤ 59) (hf : isFig fig) : qK key b fig ≤ 20 := by
  obtain ⟨e1, e2, e3, e4⟩ := qAll_k q_all h1
  have eb : b = 36 + (b - 36) := by omega
  rw [eb]
  rcases hf with rfl | rfl | rfl | rfl
  · exact qB_k e1 (by omega)
  · exact qB_k e2 (by omega)
  · exact qB_k e3 (by omega)
  · exact qB_k e4 (by omega)
theorem lck_q {b m : Nat} {v : Nat × Nat × Nat} (h : lck b v m = false) : (2 ^ (b % 12) ||| 2 ^ (v.1 % 12) ||| 2 ^ (v.2.1 % 12) ||| 2 ^ (v.2.2 % 12)) &&& m = m := by
  unfold lck at h
  rw [decide_eq_false_iff_not, Classical.not_not, dif_dif, dif_dif, dif_dif] at h
  apply Nat.eq_of_testBit_eq
  intro k
  have hk := dif_bit m (2 ^ (b % 12) ||| (2 ^ (v.1 % 12) ||| (2 ^ (v.2.1 % 12) ||| 2 ^ (v.2.2 % 12)))) k
  rw [← Nat.or_assoc, ← Nat.or_assoc] at h hk
  rw [h, Nat.zero_testBit] at hk
  rw [Nat.testBit_and]
  revert hk
  cases m.testBit k <;> cases (2 ^ (b % 12) ||| 2 ^ (v.1 % 12) ||| 2 ^ (v.2.1 % 12) ||| 2 ^ (v.2.2 % 12)).testBit k <;> decide
theorem own_0 {key span b m : Nat} {v : Nat × Nat × Nat} (h : own key span b v m = 0) : oop b v = false ∧ wid v span = false ∧ stg v m = false ∧ lck b v m = false ∧ dbl b v (((key : Int) + 11) % 12) = false := by
  unfold own at h
  cases q1 : oop b v <;> cases q2 : wid v span <;> cases q3 : stg v m <;> cases q4 : lck b v m <;> cases q5 : dbl b v (((key : Int) + 11) % 12)
  all_goals first | exact ⟨rfl, rfl, rfl, rfl, rfl⟩ | (exfalso; simp [q1, q2, q3, q4, q5] at h)
theorem wys_cap {S : Co} {n : Nat} (hv : VS S) (hn : n < S.2.length) : (wys S n).length ≤ 20 := by
  have hb := hv.2.2.2.2 n hn
  refine Nat.le_trans ?_ (qK_le hv.1 hb.1 hb.2.1 hb.2.2.1)
  show _ ≤ qC (tn S n) ((S.1.1 + 11) % 12) (ch S n).1
  generalize hm : tn S n = m
  refine len_sm _ (fun k => qT m ((S.1.1 + 11) % 12) (ch S n).1 (48 + k)) (fun k => ?_) 20
  generalize 48 + k = t
  have key : ∀ a s : Nat, okv S n (t, a, s) = true → (¬ t ≤ (ch S n).1 ∧ m.testBit (t % 12) = true) ∧ (¬ a ≤ t ∧ ¬ t + 12 < a ∧ m.testBit (a % 12) = true) ∧ 1 ≤ qS m ((S.1.1 + 11) % 12) (ch S n).1 t a s := fun a s h => by
    unfold okv at h
    rw [decide_eq_true_eq, hm] at h
    obtain ⟨h1, h2, h3, h4, h5⟩ := own_0 h
    have h4' := lck_q h4
    unfold oop at h1
    unfold wid at h2
    unfold stg at h3
    unfold dbl at h5
    rw [decide_eq_false_iff_not] at h1 h2 h5
    simp only [Bool.not_eq_false', Bool.and_eq_true] at h3
    dsimp only at h1 h2 h3 h4' h5
    obtain ⟨⟨h31, h32⟩, h33⟩ := h3
    refine ⟨⟨by omega, h31⟩, ⟨by omega, by omega, h32⟩, ?_⟩
    have e : ∀ x : Nat, ((x : Int) % 12 = ((S.1.1 : Int) + 11) % 12) = (x % 12 = (S.1.1 + 11) % 12) := fun x => by
      apply propext; omega
    simp only [e] at h5
    unfold qS
    rw [if_neg (by omega), if_neg (by omega), if_pos h33, if_pos h4', if_pos (by omega)]
    exact Nat.le_refl 1
  by_cases q0 : ¬ t ≤ (ch S n).1 ∧ m.testBit (t % 12) = true
  · unfold qT
    rw [if_neg q0.1, if_pos q0.2]
    refine len_sm _ (fun k => qA m ((S.1.1 + 11) % 12) (ch S n).1 t (53 + k)) (fun k => ?_) 22
    generalize 53 + k = a
    by_cases q1 : ¬ a ≤ t ∧ ¬ t + 12 < a ∧ m.testBit (a % 12) = true
    · unfold qA
      rw [if_neg q1.1, if_neg q1.2.1, if_pos q1.2.2]
      exact len_sm1 _ _ (fun k => qS m ((S.1.1 + 11) % 12) (ch S n).1 t a (58 + k)) (fun k h => (key a (58 + k) h).2.2) 22
    · have : inS S n t a = [] := by
        unfold inS
        rw [List.filter_eq_nil_iff]
        intro v hv2
        obtain ⟨k, _, rfl⟩ := List.mem_map.mp hv2
        exact fun h => q1 (key a (58 + k) h).2.1
      rw [this]
      exact Nat.zero_le _
  · have : inA S n t = [] := by
      unfold inA
      rw [List.flatMap_eq_nil_iff]
      intro k _
      unfold inS
      rw [List.filter_eq_nil_iff]
      intro v hv2
      obtain ⟨j, _, rfl⟩ := List.mem_map.mp hv2
      exact fun h => q0 (key (53 + k) (58 + j) h).1
    rw [this]
    exact Nat.zero_le _
