/-! what the answers are, and what holds of them -/
section PF
variable {S : Co} {c n k : Nat} {A : AS} {v w : Nat × Nat × Nat}
def vn (S : Co) (c j : Nat) : Int := match (ch S c).2.2 with
  | some v => (nt 0 v j : Int)
  | none => -6
theorem vn_s {j : Nat} (h : (ch S c).2.2 = some v) : vn S c j = (nt 0 v j : Int) := by unfold vn; rw [h]
theorem vn_n {j : Nat} (h : (ch S c).2.2 = none) : vn S c j = -6 := by unfold vn; rw [h]
theorem of_x {w : Int} (h : c < A.1.2.length) : ¬ ¬ (0 ≤ (c : Int) ∧ (c : Int) < A.1.2.length) := by omega
theorem of_0 (h : c < A.1.2.length) : opOf A (c : Int) 0 = ((ch A.1 c).1 : Int) := by
  unfold opOf
  rw [if_neg (of_x (w := 0) h)]
  rfl
theorem of_1 (h : c < A.1.2.length) : opOf A (c : Int) 1 = ((ch A.1 c).2.1 : Int) := by
  unfold opOf
  rw [if_neg (of_x (w := 0) h)]
  rfl
theorem of_2 (h : c < A.1.2.length) : opOf A (c : Int) 2 = vn A.1 c 1 := by
  unfold opOf
  rw [if_neg (of_x (w := 0) h)]
  rfl
theorem of_3 (h : c < A.1.2.length) : opOf A (c : Int) 3 = vn A.1 c 2 := by
  unfold opOf
  rw [if_neg (of_x (w := 0) h)]
  rfl
theorem of_4 (h : c < A.1.2.length) : opOf A (c : Int) 4 = vn A.1 c 3 := by
  unfold opOf
  rw [if_neg (of_x (w := 0) h)]
  rfl
theorem of_5 (h : c < A.1.2.length) : opOf A (c : Int) 5 = (tn A.1 c : Int) := by
  unfold opOf
  rw [if_neg (of_x (w := 0) h)]
  rfl
theorem of_6 (h : c < A.1.2.length) : opOf A (c : Int) 6 = (flt A.1 c : Int) := by
  unfold opOf
  rw [if_neg (of_x (w := 0) h)]
  rfl
theorem of_7 (h : c < A.1.2.length) : opOf A (c : Int) 7 = (cst A.1 c : Int) := by
  unfold opOf
  rw [if_neg (of_x (w := 0) h)]
  rfl
theorem of_8 (h : c < A.1.2.length) : opOf A (c : Int) 8 = ((wys A.1 c).length : Int) := by
  unfold opOf
  rw [if_neg (of_x (w := 0) h)]
  rfl
theorem of_9 (h : c < A.1.2.length) : opOf A (c : Int) 9 = stepD ((((ch A.1 c).1 : Int) - A.1.1.1) % 12) := by
  unfold opOf
  rw [if_neg (of_x (w := 0) h)]
  rfl
theorem of_o {x w : Int} (h : ¬ (0 ≤ x ∧ x < A.1.2.length)) : opOf A x w = -1 := by
  unfold opOf
  rw [if_pos h]
theorem ct_0 : opCount A 0 = (A.1.2.length : Int) := rfl
theorem ct_1 : opCount A 1 = (vcs A.1 : Int) := rfl
theorem ct_2 : opCount A 2 = (fcs A.1 : Int) := rfl
theorem ct_3 : opCount A 3 = (fas A.1 : Int) := rfl
theorem ct_4 : opCount A 4 = (cstA A.1 : Int) := rfl
theorem ct_5 : opCount A 5 = (A.1.1.1 : Int) := rfl
theorem ct_6 : opCount A 6 = (A.1.1.2.1 : Int) := rfl
theorem ct_7 : opCount A 7 = (A.1.1.2.2 : Int) := rfl
theorem ct_8 : opCount A 8 = hso A.1 := rfl
theorem vg_0 (h : c < A.1.2.length) (hk : k < (wys A.1 c).length) : opVcg A (c : Int) (k : Int) 0 = (((wys A.1 c).getD k (0, 0, 0)).1 : Int) := by
  unfold opVcg
  rw [if_neg (of_x (w := 0) h), if_neg (by rw [Int.toNat_natCast]; omega)]
  rfl
theorem vg_1 (h : c < A.1.2.length) (hk : k < (wys A.1 c).length) : opVcg A (c : Int) (k : Int) 1 = (((wys A.1 c).getD k (0, 0, 0)).2.1 : Int) := by
  unfold opVcg
  rw [if_neg (of_x (w := 0) h), if_neg (by rw [Int.toNat_natCast]; omega)]
  rfl
theorem vg_2 (h : c < A.1.2.length) (hk : k < (wys A.1 c).length) : opVcg A (c : Int) (k : Int) 2 = (((wys A.1 c).getD k (0, 0, 0)).2.2 : Int) := by
  unfold opVcg
  rw [if_neg (of_x (w := 0) h), if_neg (by rw [Int.toNat_natCast]; omega)]
  rfl
theorem vg_o (h : c < A.1.2.length) {w : Int} (hk : (wys A.1 c).length ≤ k) : opVcg A (c : Int) (k : Int) w = -1 := by
  unfold opVcg
  rw [if_neg (of_x (w := 0) h), if_pos (by rw [Int.toNat_natCast]; omega)]
theorem vg_3 (h : c < A.1.2.length) (hk : k < (wys A.1 c).length) : opVcg A (c : Int) (k : Int) 3 = -2 := by
  unfold opVcg
  rw [if_neg (of_x (w := 0) h), if_neg (by rw [Int.toNat_natCast]; omega)]
  rfl
theorem iv_s (h : c < A.1.2.length) (hv : VV v) : opIfv A (c : Int) (v.1 : Int) (v.2.1 : Int) (v.2.2 : Int) = (flw A.1 c v : Int) := by
  obtain ⟨h1, h2, h3⟩ := hv
  unfold opIfv
  rw [if_neg (of_x (w := 0) h), if_neg (by omega)]
  rfl
theorem pa_s {p : Nat × Nat × Nat} {x : Int} (h : c < A.1.2.length) (hx : x = 5 ∨ x = 6) (h1 : (ch A.1 c).2.2 = some v) (h2 : pre A.1 c = some p) : opPar A (c : Int) x = par (ch A.1 (c - 1)).1 p (ch A.1 c).1 v (if x = 5 then 7 else 0) := by
  unfold opPar
  rw [if_neg (of_x (w := 0) h), if_neg (by omega), Int.toNat_natCast, h1, h2]
theorem pa_n {x : Int} (h : c < A.1.2.length) (hx : x = 5 ∨ x = 6) (h1 : (ch A.1 c).2.2 = none ∨ pre A.1 c = none) : opPar A (c : Int) x = -6 := by
  unfold opPar
  rw [if_neg (of_x (w := 0) h), if_neg (by omega), Int.toNat_natCast]
  rcases h1 with h1 | h1 <;> rw [h1]
  cases (ch A.1 c).2.2 <;> rfl
theorem par_c (b : Nat) (v : Nat × Nat × Nat) (b' : Nat) (w : Nat × Nat × Nat) (iv : Int) : par b v b' w iv = -6 ∨ 0 ≤ par b v b' w iv := by
  unfold par
  repeat' split
  all_goals omega
theorem sb (m k : Nat) : m >>> k &&& 1 = m / 2 ^ k % 2 := by rw [Nat.shiftRight_eq_div_pow, Nat.and_one_is_mod]
theorem a31 (m : Nat) : m &&& 31 = m % 32 := Nat.and_two_pow_sub_one_eq_mod m 5
theorem flw_n (h : pre S c = none) : flw S c v = own S.1.1 S.1.2.1 (ch S c).1 v (tn S c) := by
  unfold flw
  rw [h]
  rfl
theorem flw_s {p : Nat × Nat × Nat} (h : pre S c = some p) : flw S c v = own S.1.1 S.1.2.1 (ch S c).1 v (tn S c) + bhd S.1.1 S.1.2.2 (ch S (c - 1)).1 p (ch S c).1 v (tn S c) := by
  unfold flw
  rw [h]
theorem flw_m (S : Co) (c : Nat) (v : Nat × Nat × Nat) : flw S c v % 32 = own S.1.1 S.1.2.1 (ch S c).1 v (tn S c) := by
  have h1 := own_lt S.1.1 S.1.2.1 (ch S c).1 v (tn S c)
  cases h : pre S c with
  | none => rw [flw_n h]; omega
  | some p =>
    obtain ⟨k, _, h3⟩ := bhd_in S.1.1 S.1.2.2 (ch S (c - 1)).1 p (ch S c).1 v (tn S c)
    rw [flw_s h]
    omega
theorem flw_d {p : Nat × Nat × Nat} (h : pre S c = some p) : flw S c v / 32 = bhd S.1.1 S.1.2.2 (ch S (c - 1)).1 p (ch S c).1 v (tn S c) / 32 := by
  have h1 := own_lt S.1.1 S.1.2.1 (ch S c).1 v (tn S c)
  obtain ⟨k, _, h3⟩ := bhd_in S.1.1 S.1.2.2 (ch S (c - 1)).1 p (ch S c).1 v (tn S c)
  rw [flw_s h]
  omega
theorem bhd_5 (key leap b : Nat) (v : Nat × Nat × Nat) (b' : Nat) (w : Nat × Nat × Nat) (m : Nat) : (bhd key leap b v b' w m / 32 % 2 = 1 ↔ ¬ par b v b' w 7 = -6) ∧ (bhd key leap b v b' w m / 64 % 2 = 1 ↔ ¬ par b v b' w 0 = -6) := by
  unfold bhd
  by_cases q1 : par b v b' w 7 = -6 <;> by_cases q2 : par b v b' w 0 = -6 <;> cases q3 : lps v w leap <;> by_cases q4 : m.testBit key = true ∧ hbk v w (((key : Int) + 11) % 12) = true
  all_goals simp [q1, q2, q4]
theorem flw_5 {p : Nat × Nat × Nat} (h : pre S c = some p) : (flw S c v / 32 % 2 = 1 ↔ ¬ par (ch S (c - 1)).1 p (ch S c).1 v 7 = -6) ∧ (flw S c v / 64 % 2 = 1 ↔ ¬ par (ch S (c - 1)).1 p (ch S c).1 v 0 = -6) := by
  have h1 := bhd_5 S.1.1 S.1.2.2 (ch S (c - 1)).1 p (ch S c).1 v (tn S c)
  have h2 := flw_d (v := v) h
  refine ⟨?_, ?_⟩
  · rw [h2]; exact h1.1
  · rw [show flw S c v / 64 = flw S c v / 32 / 2 by omega, h2, show bhd S.1.1 S.1.2.2 (ch S (c - 1)).1 p (ch S c).1 v (tn S c) / 32 / 2 = bhd S.1.1 S.1.2.2 (ch S (c - 1)).1 p (ch S c).1 v (tn S c) / 64 by omega]; exact h1.2
/-- bits of those with voices -/
theorem vcs_f (S : Co) (k : Nat) : ∀ n, ((List.range n).foldl (vst S) 0).testBit k = (decide (k < n) && (ch S k).2.2.isSome)
  | 0 => by simp
  | n + 1 => by
    rw [List.range_succ, List.foldl_append, List.foldl_cons, List.foldl_nil]
    have ih := vcs_f S k n
    generalize (List.range n).foldl (vst S) 0 = a at ih
    unfold vst
    cases h : (ch S n).2.2.isSome with
    | false =>
      rw [if_neg (by decide), ih]
      by_cases q : k = n
      · subst q; rw [h]; simp
      · congr 1; exact decide_eq_decide.mpr (by omega)
    | true =>
      rw [if_pos rfl, Nat.testBit_or, ih, Nat.testBit_two_pow]
      by_cases q : k = n
      · subst q; rw [h]; simp
      · rw [show decide (n = k) = false from decide_eq_false (by omega), Bool.or_false]
        congr 1; exact decide_eq_decide.mpr (by omega)
theorem vcs_t (S : Co) (k : Nat) : (vcs S).testBit k = (decide (k < S.2.length) && (ch S k).2.2.isSome) := vcs_f S k _
theorem vcs_all (h : ∀ k, k < S.2.length → (ch S k).2.2.isSome = true) : vcs S = 2 ^ S.2.length - 1 := by
  apply Nat.eq_of_testBit_eq
  intro k
  rw [vcs_t, Nat.testBit_two_pow_sub_one]
  by_cases q : k < S.2.length
  · rw [h k q, Bool.and_true]
  · rw [decide_eq_false q, Bool.false_and]
theorem all_vcs (h : vcs S = 2 ^ S.2.length - 1) (hk : k < S.2.length) : (ch S k).2.2.isSome = true := by
  have h1 := vcs_t S k
  rw [h, Nat.testBit_two_pow_sub_one, decide_eq_true hk, Bool.true_and] at h1
  exact h1.symm
theorem vcs_b (hk : k < S.2.length) : vcs S / 2 ^ k % 2 = if (ch S k).2.2.isSome = true then 1 else 0 := by
  have h1 := vcs_t S k
  rw [decide_eq_true hk, Bool.true_and, Nat.testBit_eq_decide_div_mod_eq] at h1
  have h2 : vcs S / 2 ^ k % 2 < 2 := Nat.mod_lt _ (by omega)
  split
  · rename_i q
    rw [q] at h1
    exact of_decide_eq_true h1
  · rename_i q
    rw [Bool.not_eq_true] at q
    rw [q] at h1
    have := of_decide_eq_false h1
    omega
end PF
