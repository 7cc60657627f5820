/-! ints as integers: iI z -/
theorem iI_add (a b : Int) : iI a + iI b = iI (a + b) := (Int32.ofInt_add a b).symm
theorem iI_sub (a b : Int) : iI a - iI b = iI (a - b) := (Int32.ofInt_sub a b).symm
theorem iI_mul (a b : Int) : iI a * iI b = iI (a * b) := (Int32.ofInt_mul a b).symm
theorem iI_neg (a : Int) : -iI a = iI (-a) := (Int32.ofInt_neg a).symm
theorem iI_toInt {a : Int} (h1 : -2147483648 ≤ a) (h2 : a < 2147483648) : (iI a).toInt = a := Int32.toInt_ofInt_of_le (by simpa using h1) (by simpa using h2)
theorem iI_of (x : Int32) : ∃ z : Int, -2147483648 ≤ z ∧ z < 2147483648 ∧ x = iI z := ⟨x.toInt, by have := Int32.le_toInt x; simpa using this, by have := Int32.toInt_lt x; simpa using this, (Int32.ofInt_toInt x).symm⟩
theorem iI_lt {a b : Int} (h1 : -2147483648 ≤ a) (h2 : a < 2147483648) (h3 : -2147483648 ≤ b) (h4 : b < 2147483648) : (iI a < iI b) = (a < b) := by
  rw [Int32.lt_iff_toInt_lt, iI_toInt h1 h2, iI_toInt h3 h4]
theorem iI_le {a b : Int} (h1 : -2147483648 ≤ a) (h2 : a < 2147483648) (h3 : -2147483648 ≤ b) (h4 : b < 2147483648) : (iI a ≤ iI b) = (a ≤ b) := by
  rw [Int32.le_iff_toInt_le, iI_toInt h1 h2, iI_toInt h3 h4]
theorem iI_eq {a b : Int} (h1 : -2147483648 ≤ a) (h2 : a < 2147483648) (h3 : -2147483648 ≤ b) (h4 : b < 2147483648) : (iI a = iI b) = (a = b) := by
  apply propext
  constructor
  · intro h
    have := congrArg Int32.toInt h
    rwa [iI_toInt h1 h2, iI_toInt h3 h4] at this
  · rintro rfl
    rfl
theorem iI_nI (n : Nat) : iI (n : Int) = nI n := Int32.ofInt_eq_ofNat
theorem iI_idx {a : Int} (h1 : 0 ≤ a) (h2 : a < 2147483648) : (iI a).toNatClampNeg = a.toNat := by
  unfold Int32.toNatClampNeg
  rw [iI_toInt (by omega) h2]
theorem iI_in {a : Int} {n : Nat} (h1 : -2147483648 ≤ a) (h2 : a < 2147483648) : (fb_in (iI a) n = true) = (0 ≤ a ∧ a < n) := by
  unfold fb_in Int32.toNatClampNeg
  rw [iI_toInt h1 h2, show (0 : Int32) = iI 0 from rfl]
  apply propext
  simp only [Bool.and_eq_true, Bool.not_eq_true', decide_eq_false_iff_not, decide_eq_true_eq]
  rw [iI_lt h1 h2 (by omega) (by omega)]
  omega
theorem iI_div {a b : Int} (h1 : 0 ≤ a) (h2 : a < 2147483648) (h3 : 0 < b) (h4 : b < 2147483648) : iI a / iI b = iI (a / b) := by
  have e : (iI a / iI b).toInt = a / b := by
    rw [Int32.toInt_div, iI_toInt (by omega) h2, iI_toInt (by omega) h4, Int.tdiv_eq_ediv_of_nonneg h1]
    have g1 : 0 ≤ a / b := Int.ediv_nonneg h1 (by omega)
    have g2 : a / b ≤ a := Int.ediv_le_self b h1
    rw [Int.bmod_eq_of_le (by omega) (by omega)]
  have g1 : 0 ≤ a / b := Int.ediv_nonneg h1 (by omega)
  have g2 : a / b ≤ a := Int.ediv_le_self b h1
  exact Int32.toInt_inj.mp (by rw [e, iI_toInt (by omega) (by omega)])
theorem iI_rem {a b : Int} (h1 : 0 ≤ a) (h2 : a < 2147483648) (h3 : 0 < b) (h4 : b < 2147483648) : j_rem (iI a) (iI b) = iI (a % b) := by
  unfold j_rem
  rw [iI_div h1 h2 h3 h4, iI_mul, iI_sub]
  congr 1
  have := Int.emod_add_mul_ediv a b
  rw [Int.mul_comm] at this
  omega
/-- of an integer below 0, too: what is left over goes with its sign -/
theorem iI_remN {a b : Int} (h1 : -2147483648 < a) (h2 : a < 0) (h3 : 0 < b) (h4 : b < 2147483648) : j_rem (iI a) (iI b) = iI (-((-a) % b)) := by
  have e : (iI a / iI b).toInt = -((-a) / b) := by
    rw [Int32.toInt_div, iI_toInt (by omega) (by omega), iI_toInt (by omega) h4]
    have e1 : a.tdiv b = -((-a) / b) := by
      have h5 : (-a).tdiv b = (-a) / b := Int.tdiv_eq_ediv_of_nonneg (by omega)
      have h6 : (- -a).tdiv b = -((-a).tdiv b) := Int.neg_tdiv (-a) b
      rw [Int.neg_neg] at h6
      rw [h6, h5]
    rw [e1]
    have g1 : 0 ≤ (-a) / b := Int.ediv_nonneg (by omega) (by omega)
    have g2 : (-a) / b ≤ -a := Int.ediv_le_self b (by omega)
    rw [Int.bmod_eq_of_le (by omega) (by omega)]
  have g1 : 0 ≤ (-a) / b := Int.ediv_nonneg (by omega) (by omega)
  have g2 : (-a) / b ≤ -a := Int.ediv_le_self b (by omega)
  have e2 : iI a / iI b = iI (-((-a) / b)) := Int32.toInt_inj.mp (by rw [e, iI_toInt (by omega) (by omega)])
  unfold j_rem
  rw [e2, iI_mul, iI_sub]
  congr 1
  have := Int.emod_add_mul_ediv (-a) b
  rw [Int.mul_comm] at this
  have e3 : -(-a / b) * b = -((-a) / b * b) := Int.neg_mul _ _
  omega
theorem iI_or (a b : Nat) : iI (a : Int) ||| iI (b : Int) = iI ((a ||| b : Nat) : Int) := by
  rw [iI_nI, iI_nI, iI_nI]
  apply Int32.toBitVec_inj.mp
  show (BitVec.ofNat 32 a) ||| (BitVec.ofNat 32 b) = BitVec.ofNat 32 (a ||| b)
  exact BitVec.ofNat_or.symm
theorem iI_and (a b : Nat) : iI (a : Int) &&& iI (b : Int) = iI ((a &&& b : Nat) : Int) := by
  rw [iI_nI, iI_nI, iI_nI]
  apply Int32.toBitVec_inj.mp
  show (BitVec.ofNat 32 a) &&& (BitVec.ofNat 32 b) = BitVec.ofNat 32 (a &&& b)
  exact BitVec.ofNat_and.symm
theorem iI_31 : ∀ k : Nat, k < 32 → (((iI (k : Int)) &&& 31).toBitVec.smod 32).toNat = k := by decide +kernel
theorem iI_shl {a : Int} {k : Nat} (h1 : 0 ≤ a) (hk : k < 32) (h2 : a * 2 ^ k < 2147483648) : j_shl (iI a) (iI (k : Int)) = iI (a * 2 ^ k) := by
  obtain ⟨n, rfl⟩ := Int.eq_ofNat_of_zero_le h1
  unfold j_shl
  have e : ((n : Int) * 2 ^ k) = ((n * 2 ^ k : Nat) : Int) := by push_cast; rfl
  rw [e] at h2 ⊢
  rw [iI_nI n, iI_nI (n * 2 ^ k)]
  exact pk_shlN _ k (iI_31 k hk) (by omega)
theorem iI_shr {a : Int} {k : Nat} (h1 : 0 ≤ a) (h2 : a < 2147483648) (hk : k < 32) : j_shr (iI a) (iI (k : Int)) = iI (a / 2 ^ k) := by
  obtain ⟨n, rfl⟩ := Int.eq_ofNat_of_zero_le h1
  unfold j_shr
  have e : ((n : Int) / 2 ^ k) = ((n / 2 ^ k : Nat) : Int) := by push_cast; rfl
  rw [e, iI_nI n, iI_nI (n / 2 ^ k)]
  exact pk_shrN (by omega) _ k (iI_31 k hk)
theorem iI_ne0 {b : Int} (h1 : b ≠ 0) (h2 : -2147483648 ≤ b) (h3 : b < 2147483648) : (iI b = 0) = False := by
  rw [show (0 : Int32) = iI 0 from rfl, iI_eq h2 h3 (by omega) (by omega)]
  exact eq_false h1
theorem cat_i (x : Int32) : (Value.int x).category = 1 := rfl
theorem cat_r (x : Nat) : (Value.ref x).category = 1 := rfl
theorem cat_n : Value.null.category = 1 := rfl
theorem nb_0 : narrow .boolean (.int (iI 0)) = .int (iI 0) := rfl
theorem nb_1 : narrow .boolean (.int (iI 1)) = .int (iI 1) := rfl
/-- two ways that come to one place -/
theorem ev_mg {c : Prop} {d : Decidable c} {j p : Nat} {l1 l2 s1 s2 : List Value} {h : fb_H} {Q : Option Value → fb_H → Prop} : (if c then ev_w j p l1 s1 h Q else ev_w j p l2 s2 h Q) = ev_w j p (if c then l1 else l2) (if c then s1 else s2) h Q := by split <;> rfl
theorem ite_cc {c : Prop} {d : Decidable c} {a b : Value} {l1 l2 : List Value} : (if c then a :: l1 else b :: l2) = (if c then a else b) :: (if c then l1 else l2) := by split <;> rfl
theorem ite_vi {c : Prop} {d : Decidable c} {a b : Int32} : (if c then Value.int a else Value.int b) = Value.int (if c then a else b) := by split <;> rfl
theorem ite_ii {c : Prop} {d : Decidable c} {a b : Int} : (if c then iI a else iI b) = iI (if c then a else b) := by split <;> rfl
theorem iI_inT {a : Int} {n : Nat} (h1 : 0 ≤ a) (h2 : a < n) (h3 : a < 2147483648) : (fb_in (iI a) n = true) = True := by
  rw [iI_in (by omega) h3]
  exact eq_true ⟨h1, h2⟩
theorem iN_0 : (iI 0 = 0) = True := eq_true rfl
theorem iN_1 : (iI 1 = iI 0) = False := eq_false (by decide)
