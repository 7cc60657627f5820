/-! AN ABSTRACT MACHINE: a heap of numbered cells, an interpreter over the methods by number; part 03 shows that what it answers the machine answers -/
/-- kinds and lengths; how many cells, how many slots; references; ints -/
abbrev fb_H : Type := (Nat → Nat × Nat) × (Nat × Nat) × (Nat → Nat → Option Nat) × (Nat → Nat → Int32)
def fb_T (h : fb_H) : Nat → Nat × Nat := h.1
def fb_N (h : fb_H) : Nat := h.2.1.1
def fb_Z (h : fb_H) : Nat := h.2.1.2
def fb_R (h : fb_H) : Nat → Nat → Option Nat := h.2.2.1
def fb_I (h : fb_H) : Nat → Nat → Int32 := h.2.2.2
def fb_u2 {α : Type} (f : Nat → Nat → α) (i k : Nat) (v : α) : Nat → Nat → α := fun a b => if a = i ∧ b = k then v else f a b
def fb_sI (h : fb_H) (i k : Nat) (v : Int32) : fb_H := (h.1, h.2.1, h.2.2.1, fb_u2 h.2.2.2 i k v)
def fb_sR (h : fb_H) (i k : Nat) (v : Option Nat) : fb_H := (h.1, h.2.1, fb_u2 h.2.2.1 i k v, h.2.2.2)
def fb_nw (h : fb_H) (kd len w : Nat) : fb_H := (fun a => if a = fb_N h then (kd, len) else fb_T h a, (fb_N h + 1, fb_Z h + w), fun a b => if a = fb_N h then none else fb_R h a b, fun a b => if a = fb_N h then 0 else fb_I h a b)
def fb_cp (h : fb_H) (i : Nat) : fb_H := (fun a => if a = fb_N h then (10, (fb_T h i).2) else fb_T h a, (fb_N h + 1, fb_Z h + (fb_T h i).2), fun a b => if a = fb_N h then none else fb_R h a b, fun a b => if a = fb_N h then fb_I h i b else fb_I h a b)
def fb_mn (h : fb_H) (n k : Nat) : fb_H := (fun a => if a = fb_N h then (15, n) else if fb_N h < a ∧ a ≤ fb_N h + n then (10, k) else fb_T h a, (fb_N h + 1 + n, fb_Z h + n + n * k), fun a b => if a = fb_N h then (if b < n then some (fb_N h + 1 + b) else none) else if fb_N h < a ∧ a ≤ fb_N h + n then none else fb_R h a b, fun a b => if fb_N h ≤ a ∧ a ≤ fb_N h + n then 0 else fb_I h a b)
/-- the classes with objects -/
def cX (c : Nat) : String := match c with
  | 0 => RX0 | 1 => RX1 | 2 => RX2 | 3 => RX3 | 4 => RX4 | 5 => RX6 | 6 => RX7 | _ => RX8
def cT (c : Nat) : u_T := match c with
  | 0 => TX0 | 1 => TX1 | 2 => TX2 | 3 => TX3 | 4 => TX4 | 5 => TX6 | 6 => TX7 | _ => TX8
def cY (c : Nat) : Nat → FieldType := match c with
  | 0 => tyX0 | 1 => tyX1 | 2 => tyX2 | 3 => tyX3 | 4 => tyX4 | 5 => tyX6 | 6 => tyX7 | _ => tyX8
theorem cX_at : ∀ c, c < 7 → vwCl[c]? = some (cX c, cT c, cN c) := fun c h => match c, h with
  | 0, _ => rfl | 1, _ => rfl | 2, _ => rfl | 3, _ => rfl | 4, _ => rfl | 5, _ => rfl | 6, _ => rfl
  | n + 7, h => absurd h (by omega)
theorem cT_nm : ∀ c, c < 7 → ∀ a, a < cN c → ∀ b, b < cN c → a ≠ b → (cT c a).2.1 ≠ (cT c b).2.1 := by decide +kernel
theorem cY_ok : ∀ c, c < 7 → ∀ k, k < cN c → parseFieldDescriptor (cT c k).2.2.1 = some (cY c k) := by decide +kernel
theorem cO_ok : ∀ c, c < 7 → ∀ k, k < cN c → (cT c k).1 = cX c := by decide +kernel
theorem cK_ok : ∀ c, c < 7 → ∀ k, k < cN c → (cK c k = false → cY c k = .int) ∧ (cK c k = true → (∃ t, cY c k = .array t) ∨ ∃ t, cY c k = .object t) := by
  have h : ∀ c, c < 7 → ∀ k, k < cN c → (if cK c k then (match cY c k with | .array _ => true | .object _ => true | _ => false) else decide (cY c k = .int)) = true := by decide +kernel
  intro c hc k hk
  have h1 := h c hc k hk
  refine ⟨fun e => ?_, fun e => ?_⟩
  · rw [e] at h1
    exact of_decide_eq_true h1
  · rw [e, if_pos rfl] at h1
    cases hy : cY c k <;> rw [hy] at h1 <;> first | exact Or.inl ⟨_, rfl⟩ | exact Or.inr ⟨_, rfl⟩ | cases h1
set_option maxRecDepth 100000 in
theorem cW_in : ∀ c, c < 7 → ∀ w ∈ u_ws (cX c) (cT c) (cN c), w ∈ lw_tbl := by decide +kernel
set_option maxRecDepth 100000 in
theorem cI_ok : ∀ c, c < 7 → lw_tbl[cI c]? = some (.instantiable (cX c) (cN c)) ∧ lw_tbl[oP (cO c)]? = some (.initialized (cX c)) := by decide +kernel
/-- the links -/
def fb_fd (l : List (Nat × Nat × Nat × Nat)) (key : Nat) : Option (Nat × Nat) := (l.find? (fun e => e.1 == key)).map (fun e => (e.2.1, e.2.2.1))
def fb_ki (key : Nat) : Option Int32 := (fb_kl.find? (fun e => e.1 == key)).map (fun e => e.2.1)
def fb_kj (key : Nat) : Option Int64 := (fb_jl.find? (fun e => e.1 == key)).map (fun e => e.2.1)
theorem fb_fd_of {l : List (Nat × Nat × Nat × Nat)} {key a b : Nat} (h : fb_fd l key = some (a, b)) : ∃ q, (key, a, b, q) ∈ l := by
  unfold fb_fd at h
  obtain ⟨⟨k, x, y, z⟩, h1, h2⟩ := Option.map_eq_some_iff.mp h
  have h3 := List.find?_some h1
  cases h2
  rw [beq_iff_eq] at h3
  cases h3
  exact ⟨z, List.mem_of_find?_eq_some h1⟩
theorem fb_ki_of {key : Nat} {v : Int32} (h : fb_ki key = some v) : ∃ a q, (key, v, a, q) ∈ fb_kl := by
  unfold fb_ki at h
  obtain ⟨⟨k, x, y, z⟩, h1, h2⟩ := Option.map_eq_some_iff.mp h
  have h3 := List.find?_some h1
  cases h2
  rw [beq_iff_eq] at h3
  cases h3
  exact ⟨y, z, List.mem_of_find?_eq_some h1⟩
theorem fb_kj_of {key : Nat} {v : Int64} (h : fb_kj key = some v) : ∃ a q, (key, v, a, q) ∈ fb_jl := by
  unfold fb_kj at h
  obtain ⟨⟨k, x, y, z⟩, h1, h2⟩ := Option.map_eq_some_iff.mp h
  have h3 := List.find?_some h1
  cases h2
  rw [beq_iff_eq] at h3
  cases h3
  exact ⟨y, z, List.mem_of_find?_eq_some h1⟩
def fb_own (key : Nat) : String := oN (key / 1000)
set_option maxRecDepth 100000 in
theorem fb_fl_ok : ∀ x ∈ fb_fl, x.2.1 < 7 ∧ x.2.2.1 < cN x.2.1 ∧ lw_tbl[x.2.2.2]? = some (.fieldLink (fb_own x.1) (x.1 % 1000) (cX x.2.1) (cT x.2.1 x.2.2.1).2.1 (cT x.2.1 x.2.2.1).2.2.1) := by decide +kernel
set_option maxRecDepth 100000 in
theorem fb_sl_ok : ∀ x ∈ fb_sl, x.2.1 < 6 ∧ lw_tbl[x.2.2.2]? = some (if x.2.2.1 = 0 then .fieldLink (fb_own x.1) (x.1 % 1000) "FiguredBasses" (fb_sn x.2.1) "[I" else .fieldLinkNest (fb_own x.1) (x.1 % 1000) "FiguredBasses" (fb_sn x.2.1) "[I" "FiguredBasses") := by decide +kernel
def fb_cln : MethodName := ⟨"[I", "clone", "()Ljava/lang/Object;"⟩
set_option maxRecDepth 100000 in
theorem fb_il_ok : ∀ x ∈ fb_il, x.2.2.1 < 188 ∧ (x.2.1 < 3 → lw_tbl[x.2.2.2]? = some (.methodLink (fb_own x.1) (x.1 % 1000) (mY x.2.2.1))) ∧ (3 ≤ x.2.1 → x.2.1 < 6 → lw_tbl[x.2.2.2]? = some (.methodLinkNest (fb_own x.1) (x.1 % 1000) (mY x.2.2.1) "FiguredBasses"))
    ∧ (x.2.1 = 6 → lw_tbl[x.2.2.2]? = some (.methodLink (fb_own x.1) (x.1 % 1000) objectInit)) ∧ (x.2.1 = 9 → lw_tbl[x.2.2.2]? = some (.methodLink (fb_own x.1) (x.1 % 1000) fb_cln))
    ∧ (x.2.1 = 0 ∨ x.2.1 = 3 → mS x.2.2.1 = false ∧ (mY x.2.2.1).name ≠ "<init>" ∧ cX (oC (mO x.2.2.1)) = (mY x.2.2.1).cls ∧ oC (mO x.2.2.1) < 7) ∧ (x.2.1 = 1 ∨ x.2.1 = 4 → mS x.2.2.1 = true) ∧ (x.2.1 = 2 ∨ x.2.1 = 5 → mS x.2.2.1 = false ∧ (mY x.2.2.1).name = "<init>" ∧ mR x.2.2.1 = none) := by decide +kernel
set_option maxRecDepth 100000 in
theorem fb_cl_ok : ∀ x ∈ fb_cl, lw_tbl[x.2.2.2]? = some (.classLink (fb_own x.1) (x.1 % 1000) (if x.2.1 < 7 then cX x.2.1 else if x.2.1 = 10 then "[I" else if x.2.1 = 13 then "FiguredBasses$Piece" else if x.2.1 = 14 then "FiguredBasses$Voicings" else "[[I")) := by decide +kernel
set_option maxRecDepth 100000 in
theorem fb_nl_ok : ∀ x ∈ fb_nl, x.2.1 < 7 ∧ lw_tbl[x.2.2.2]? = some (.classLink (fb_own x.1) (x.1 % 1000) (cX x.2.1)) := by decide +kernel
set_option maxRecDepth 100000 in
theorem fb_kl_ok : ∀ x ∈ fb_kl, lw_tbl[x.2.2.2]? = some (.constant (fb_own x.1) (x.1 % 1000) x.2.1) := by decide +kernel
set_option maxRecDepth 100000 in
theorem fb_jl_ok : ∀ x ∈ fb_jl, lw_tbl[x.2.2.2]? = some (.constantLong (fb_own x.1) (x.1 % 1000) x.2.1) := by decide +kernel
set_option maxRecDepth 100000 in
theorem fb_sp_ok : ∀ k, k < 6 → lw_tbl[fb_sp k]? = some (.laysStatic "FiguredBasses" (fb_sn k) "[I") := by decide +kernel
/-- comparisons and jumps -/
def fb_ky (j i : Nat) : Nat := if i < 1000 then mO j * 1000 + i else 999999999
set_option maxRecDepth 100000 in
theorem fb_ky_ok : (∀ x ∈ fb_fl, x.1 < 100000) ∧ (∀ x ∈ fb_sl, x.1 < 100000) ∧ (∀ x ∈ fb_il, x.1 < 100000) ∧ (∀ x ∈ fb_cl, x.1 < 100000) ∧ (∀ x ∈ fb_kl, x.1 < 100000) ∧ (∀ x ∈ fb_jl, x.1 < 100000) := by decide +kernel
set_option maxRecDepth 100000 in
theorem fb_kn_ok : ∀ x ∈ fb_nl, x.1 < 100000 := by decide +kernel
theorem fb_ky_of {j i : Nat} (h : fb_ky j i < 100000) : fb_own (fb_ky j i) = oN (mO j) ∧ fb_ky j i % 1000 = i := by
  unfold fb_own
  unfold fb_ky at h ⊢
  split at h
  · rename_i hi
    rw [if_pos hi, show (mO j * 1000 + i) / 1000 = mO j by omega, show (mO j * 1000 + i) % 1000 = i by omega]
    exact ⟨rfl, rfl⟩
  · omega

def fb_c (k : Jvm.ClassFile.Cond) (x y : Int32) : Bool := match k with
  | .eq => decide (x = y)
  | .ne => !decide (x = y)
  | .lt => decide (x < y)
  | .ge => decide (y ≤ x)
  | .gt => decide (y < x)
  | .le => decide (x ≤ y)
def fb_to (pc : Nat) (off : Int) : Nat := ((pc : Int) + off).toNat
def fb_in (x : Int32) (n : Nat) : Bool := !decide (x < 0) && decide (x.toNatClampNeg < n)
abbrev fb_O : Type := Option (Nat × List Value × List Value × fb_H)
def fb_j (pc : Nat) (off : Int) (ls st : List Value) (h : fb_H) : fb_O := if 0 ≤ (pc : Int) + off then some (fb_to pc off, ls, st, h) else none
def fb_p1 (ls : List Value) (i : Nat) (v : Value) : Option (List Value) := if i < ls.length ∧ (i = 0 ∨ (ls.getD (i - 1) .null).category = 1) then some (ls.set i v) else none
def fb_b2 (f : Int32 → Int32 → Int32) (pc : Nat) (ls st : List Value) (h : fb_H) : fb_O := match st with
  | .int y :: .int x :: r => some (pc + 1, ls, .int (f x y) :: r, h)
  | _ => none
def fb_l2 (f : Int64 → Int64 → Value) (pc : Nat) (ls st : List Value) (h : fb_H) : fb_O := match st with
  | .long y :: .long x :: r => some (pc + 1, ls, f x y :: r, h)
  | _ => none
def fb_ls (f : Int64 → Int32 → Int64) (pc : Nat) (ls st : List Value) (h : fb_H) : fb_O := match st with
  | .int y :: .long x :: r => some (pc + 1, ls, .long (f x y) :: r, h)
  | _ => none
def fb_sto (i n pc : Nat) (ls st : List Value) (h : fb_H) : fb_O := match st with
  | .int x :: r => (fb_p1 ls i (.int x)).map (fun l => (pc + n, l, r, h))
  | _ => none
def fb_sta (i n pc : Nat) (ls st : List Value) (h : fb_H) : fb_O := match st with
  | .ref x :: r => (fb_p1 ls i (.ref x)).map (fun l => (pc + n, l, r, h))
  | _ => none
def fb_ldi (i n pc : Nat) (ls st : List Value) (h : fb_H) : fb_O := match ls[i]? with
  | some (.int x) => some (pc + n, ls, .int x :: st, h)
  | _ => none
def fb_lda (i n pc : Nat) (ls st : List Value) (h : fb_H) : fb_O := match ls[i]? with
  | some (.ref x) => some (pc + n, ls, .ref x :: st, h)
  | _ => none
def fb_ldl (i n pc : Nat) (ls st : List Value) (h : fb_H) : fb_O := match ls[i]? with
  | some (.long x) => some (pc + n, ls, .long x :: st, h)
  | _ => none
/-- an element of an array of one of two kinds -/
def fb_el (k1 k2 pc : Nat) (ls st : List Value) (h : fb_H) : fb_O := match st with
  | .int x :: .ref a :: r => if ((fb_T h a).1 = k1 ∨ (fb_T h a).1 = k2) ∧ fb_in x (fb_T h a).2 = true then some (pc + 1, ls, .int (fb_I h a x.toNatClampNeg) :: r, h) else none
  | _ => none
def fb_es (k : Nat) (f : Int32 → Int32) (pc : Nat) (ls st : List Value) (h : fb_H) : fb_O := match st with
  | .int v :: .int x :: .ref a :: r => if (fb_T h a).1 = k ∧ fb_in x (fb_T h a).2 = true then some (pc + 1, ls, r, fb_sI h a x.toNatClampNeg (f v)) else none
  | _ => none
def fb_gf (f : Option (Nat × Nat)) (pc : Nat) (ls st : List Value) (h : fb_H) : fb_O := match st, f with
  | .ref a :: r, some (c, k) => if (fb_T h a).1 = c then (if cK c k = true then (match fb_R h a k with
    | some b => some (pc + 3, ls, .ref b :: r, h)
    | none => none) else some (pc + 3, ls, .int (fb_I h a k) :: r, h)) else none
  | _, _ => none
def fb_pf (j : Nat) (f : Option (Nat × Nat)) (pc : Nat) (ls st : List Value) (h : fb_H) : fb_O := match st, f with
  | .int v :: .ref a :: r, some (c, k) => if (fb_T h a).1 = c ∧ cK c k = false ∧ (cT c k).2.2.2 = false then some (pc + 3, ls, r, fb_sI h a k v) else none
  | .ref b :: .ref a :: r, some (c, k) => if (fb_T h a).1 = c ∧ cK c k = true ∧ b < fb_N h ∧ (cT c k).2.2.2 = true ∧ (mY j).name = "<init>" ∧ cX c = oN (mO j) then some (pc + 3, ls, r, fb_sR h a k (some b)) else none
  | _, _ => none
def fb_na (kd n : Nat) (x : Int32) (pc : Nat) (ls r : List Value) (h : fb_H) : fb_O :=
  if ¬ x < 0 ∧ x.toNatClampNeg ≤ 10000 ∧ fb_N h < 900000 then some (pc + n, ls, .ref (fb_N h) :: r, fb_nw h kd x.toNatClampNeg x.toNatClampNeg) else none
def fb_st (j : Nat) (ins : Instr) (len pc : Nat) (ls st : List Value) (h : fb_H) : fb_O :=
  match ins, len with
  | .iconst n, 1 => some (pc + 1, ls, .int (Int32.ofInt n) :: st, h)
  | .bipush n, 2 => some (pc + 2, ls, .int (Int8.ofInt n).toInt32 :: st, h)
  | .sipush n, 3 => some (pc + 3, ls, .int (Int16.ofInt n).toInt32 :: st, h)
  | .lconst n, 1 => some (pc + 1, ls, .long (Int64.ofNat (n : Nat)) :: st, h)
  | .ldc i, 2 => (fb_ki (fb_ky j i)).map (fun v => (pc + 2, ls, .int v :: st, h))
  | .ldc_w i, 3 => (fb_ki (fb_ky j i)).map (fun v => (pc + 3, ls, .int v :: st, h))
  | .ldc2_w i, 3 => (fb_kj (fb_ky j i)).map (fun v => (pc + 3, ls, .long v :: st, h))
  | .iload_n k, 1 => fb_ldi (k : Nat) 1 pc ls st h
  | .iload i, 2 => fb_ldi i 2 pc ls st h
  | .lload_n k, 1 => fb_ldl (k : Nat) 1 pc ls st h
  | .aload_n k, 1 => fb_lda (k : Nat) 1 pc ls st h
  | .aload i, 2 => fb_lda i 2 pc ls st h
  | .istore_n k, 1 => fb_sto (k : Nat) 1 pc ls st h
  | .istore i, 2 => fb_sto i 2 pc ls st h
  | .astore_n k, 1 => fb_sta (k : Nat) 1 pc ls st h
  | .astore i, 2 => fb_sta i 2 pc ls st h
  | .iinc i n, 3 => (match ls[i]? with
    | some (.int x) => (fb_p1 ls i (.int (x + Int32.ofInt n))).map (fun l => (pc + 3, l, st, h))
    | _ => none)
  | .iadd, 1 => fb_b2 (fun x y => x + y) pc ls st h
  | .isub, 1 => fb_b2 (fun x y => x - y) pc ls st h
  | .imul, 1 => fb_b2 (fun x y => x * y) pc ls st h
  | .iand, 1 => fb_b2 (fun x y => x &&& y) pc ls st h
  | .ior, 1 => fb_b2 (fun x y => x ||| y) pc ls st h
  | .ixor, 1 => fb_b2 (fun x y => x ^^^ y) pc ls st h
  | .ishl, 1 => fb_b2 (fun x y => x <<< (y &&& 31)) pc ls st h
  | .ishr, 1 => fb_b2 (fun x y => x >>> (y &&& 31)) pc ls st h
  | .iushr, 1 => fb_b2 (fun x y => (x.toUInt32 >>> (y.toUInt32 &&& Int32.toUInt32 31)).toInt32) pc ls st h
  | .idiv, 1 => (match st with
    | .int y :: .int x :: r => if y = 0 then none else some (pc + 1, ls, .int (x / y) :: r, h)
    | _ => none)
  | .irem, 1 => (match st with
    | .int y :: .int x :: r => if y = 0 then none else some (pc + 1, ls, .int (x - x / y * y) :: r, h)
    | _ => none)
  | .ineg, 1 => (match st with
    | .int x :: r => some (pc + 1, ls, .int (-x) :: r, h)
    | _ => none)
  | .land, 1 => fb_l2 (fun x y => .long (x &&& y)) pc ls st h
  | .lor, 1 => fb_l2 (fun x y => .long (x ||| y)) pc ls st h
  | .lcmp, 1 => fb_l2 (fun x y => .int (lg_cmp x y)) pc ls st h
  | .lshl, 1 => fb_ls (fun x y => x <<< (y.toInt64 &&& 63)) pc ls st h
  | .lshr, 1 => fb_ls (fun x y => x >>> (y.toInt64 &&& 63)) pc ls st h
  | .lushr, 1 => fb_ls (fun x y => (x.toUInt64 >>> (y.toInt64.toUInt64 &&& Int64.toUInt64 63)).toInt64) pc ls st h
  | .i2l, 1 => (match st with
    | .int x :: r => some (pc + 1, ls, .long x.toInt64 :: r, h)
    | _ => none)
  | .l2i, 1 => (match st with
    | .long x :: r => some (pc + 1, ls, .int x.toInt32 :: r, h)
    | _ => none)
  | .i2c, 1 => (match st with
    | .int x :: r => some (pc + 1, ls, .int (x.toUInt32 % 65536).toInt32 :: r, h)
    | _ => none)
  | .dup, 1 => (match st with
    | v :: r => if v.category = 1 then some (pc + 1, ls, v :: v :: r, h) else none
    | _ => none)
  | .dup2, 1 => (match st with
    | v :: w :: r => if v.category = 1 ∧ w.category = 1 then some (pc + 1, ls, v :: w :: v :: w :: r, h) else none
    | _ => none)
  | .goto off, 3 => fb_j pc off ls st h
  | .ifCond k off, 3 => (match st with
    | .int x :: r => if 0 ≤ (pc : Int) + off then (if fb_c k x 0 = true then some (fb_to pc off, ls, r, h) else some (pc + 3, ls, r, h)) else none
    | _ => none)
  | .if_icmp k off, 3 => (match st with
    | .int y :: .int x :: r => if 0 ≤ (pc : Int) + off then (if fb_c k x y = true then some (fb_to pc off, ls, r, h) else some (pc + 3, ls, r, h)) else none
    | _ => none)
  | .tableswitch d lo hi offs, _ => (match st with
    | .int x :: r => if x.toInt < lo ∨ hi < x.toInt then fb_j pc d ls r h else (match offs[(x.toInt - lo).toNat]? with
      | some off => fb_j pc off ls r h
      | none => none)
    | _ => none)
  | .lookupswitch d ps, _ => (match st with
    | .int x :: r => if (ps.toList.zip (ps.toList.drop 1)).all (fun (a, next) => a.1 < next.1) = true then fb_j pc (Op.lookupswitch.offset ps.toList d x.toInt) ls r h else none
    | _ => none)
  | .getfield i, 3 => fb_gf (fb_fd fb_fl (fb_ky j i)) pc ls st h
  | .putfield i, 3 => fb_pf j (fb_fd fb_fl (fb_ky j i)) pc ls st h
  | .getstatic i, 3 => (fb_fd fb_sl (fb_ky j i)).map (fun x => (pc + 3, ls, .ref (1000000 + x.1) :: st, h))
  | .iaload, 1 => fb_el 10 16 pc ls st h
  | .baload, 1 => fb_el 11 11 pc ls st h
  | .caload, 1 => fb_el 12 12 pc ls st h
  | .aaload, 1 => (match st with
    | .int x :: .ref a :: r => if ((fb_T h a).1 = 13 ∨ (fb_T h a).1 = 14 ∨ (fb_T h a).1 = 15) ∧ fb_in x (fb_T h a).2 = true then (fb_R h a x.toNatClampNeg).map (fun b => (pc + 1, ls, .ref b :: r, h)) else none
    | _ => none)
  | .iastore, 1 => fb_es 10 (fun v => v) pc ls st h
  | .bastore, 1 => fb_es 11 (fun v => vp_nar .boolean v) pc ls st h
  | .castore, 1 => fb_es 12 (fun v => vp_nar .char v) pc ls st h
  | .aastore, 1 => (match st with
    | .ref b :: .int x :: .ref a :: r => if ((fb_T h a).1 = 13 ∧ (fb_T h b).1 = 3 ∨ (fb_T h a).1 = 14 ∧ (fb_T h b).1 = 5) ∧ fb_in x (fb_T h a).2 = true then some (pc + 1, ls, r, fb_sR h a x.toNatClampNeg (some b)) else none
    | _ => none)
  | .arraylength, 1 => (match st with
    | .ref a :: r => if 10 ≤ (fb_T h a).1 ∧ (fb_T h a).1 ≤ 16 then some (pc + 1, ls, .int (Int32.ofNat (fb_T h a).2) :: r, h) else none
    | _ => none)
  | .new i, 3 => (match fb_fd fb_nl (fb_ky j i) with
    | some (c, _) => if c < 7 ∧ fb_N h < 900000 then some (pc + 3, ls, .ref (fb_N h) :: st, fb_nw h c 0 (cN c)) else none
    | none => none)
  | .newarray ty, 2 => (match st with
    | .int x :: r => (match ty with
      | .int => fb_na 10 2 x pc ls r h
      | .boolean => fb_na 11 2 x pc ls r h
      | .char => fb_na 12 2 x pc ls r h
      | _ => none)
    | _ => none)
  | .anewarray i, 3 => (match st with
    | .int x :: r => (match fb_fd fb_cl (fb_ky j i) with
      | some (13, _) => fb_na 13 3 x pc ls r h
      | some (14, _) => fb_na 14 3 x pc ls r h
      | _ => none)
    | _ => none)
  | .multianewarray i 2, 4 => (match st with
    | .int k :: .int n :: r => (match fb_fd fb_cl (fb_ky j i) with
      | some (15, _) => if ¬ n < 0 ∧ ¬ k < 0 ∧ n.toNatClampNeg ≤ 1000 ∧ k.toNatClampNeg ≤ 1000 ∧ fb_N h < 900000 then some (pc + 4, ls, .ref (fb_N h) :: r, fb_mn h n.toNatClampNeg k.toNatClampNeg) else none
      | _ => none)
    | _ => none)
  | .checkcast i, 3 => (match st with
    | .ref a :: r => (match fb_fd fb_cl (fb_ky j i) with
      | some (10, _) => if (fb_T h a).1 = 10 then some (pc + 3, ls, .ref a :: r, h) else none
      | _ => none)
    | _ => none)
  | .invokespecial i, 3 => (match st with
    | .ref a :: r => (match fb_fd fb_il (fb_ky j i) with
      | some (6, _) => if 1 ≤ mD j ∧ r.length ≤ 4 then some (pc + 3, ls, r, h) else none
      | _ => none)
    | _ => none)
  | .invokevirtual i, 3 => (match st with
    | .ref a :: r => (match fb_fd fb_il (fb_ky j i) with
      | some (9, _) => if (fb_T h a).1 = 16 ∧ 1000000 ≤ a ∧ a < 1000006 ∧ fb_N h < 900000 ∧ 1 ≤ mD j ∧ r.length ≤ 4 then some (pc + 3, ls, .ref (fb_N h) :: r, fb_cp h a) else none
      | _ => none)
    | _ => none)
  | _, _ => none
def fb_xp : List Value → List Value
  | [] => []
  | v :: r => if v.category = 2 then v :: .null :: fb_xp r else v :: fb_xp r
/-- a method's locals at its entry -/
def fb_en (as : List Value) (n : Nat) : List Value := fb_xp as ++ List.replicate (n - (fb_xp as).length) .null
def fb_as (y : Nat) (st : List Value) : List Value := (st.take (mN y)).reverse
def fb_ck (j y : Nat) (st : List Value) : Bool := decide (mN y ≤ st.length) && decide (mD y < mD j) && (decide ((st.drop (mN y)).length ≤ 4) || decide (((st.drop (mN y)).map fun v => v.category).sum ≤ 8)) && decide ((fb_xp (fb_as y st)).length ≤ mL y)
/-- a call: the method, its arguments, what stays on the stack -/
def fb_ca (j : Nat) (ins : Instr) (len : Nat) (st : List Value) (h : fb_H) : Option (Nat × List Value × List Value) :=
  match ins, len with
  | .invokevirtual i, 3 => (match fb_fd fb_il (fb_ky j i) with
    | some (k, y) => if k = 0 ∨ k = 3 then (match fb_as y st with
      | .ref b :: As => if fb_ck j y st = true ∧ (fb_T h b).1 = oC (mO y) then some (y, .ref b :: As, st.drop (mN y)) else none
      | _ => none) else none
    | none => none)
  | .invokestatic i, 3 => (match fb_fd fb_il (fb_ky j i) with
    | some (k, y) => if (k = 1 ∨ k = 4) ∧ fb_ck j y st = true then some (y, fb_as y st, st.drop (mN y)) else none
    | none => none)
  | .invokespecial i, 3 => (match fb_fd fb_il (fb_ky j i) with
    | some (k, y) => if k = 2 ∨ k = 5 then (match fb_as y st with
      | .ref b :: As => if fb_ck j y st = true then some (y, .ref b :: As, st.drop (mN y)) else none
      | _ => none) else none
    | none => none)
  | _, _ => none
/-- an end -/
def fb_rt (j : Nat) (ins : Instr) (len : Nat) (st : List Value) : Option (Option Value) :=
  match ins, len with
  | .ireturn, 1 => (match st with
    | [.int v] => (match mR j with
      | some ty => if narrow ty (.int v) = .int v then some (some (.int v)) else none
      | none => none)
    | _ => none)
  | .return_, 1 => (match st with
    | [] => if mR j = none then some none else none
    | _ => none)
  | _, _ => none
def fb_dec (j pc : Nat) : Option (Instr × Nat) := match decode (mB j) pc with
  | .ok x => some x
  | .error _ => none
/-- one turn of the interpreter -/
def fb_bd (ev : Nat → Nat → List Value → List Value → fb_H → Option (Option Value × fb_H)) (j pc : Nat) (ls st : List Value) (h : fb_H) : Option (Option Value × fb_H) :=
  match fb_dec j pc with
    | none => none
    | some (ins, len) => match fb_ca j ins len st h with
      | some (y, as, rest) => (match ev y 0 (fb_en as (mL y)) [] h with
        | some (r, h') => ev j (pc + 3) ls (r.toList ++ rest) h'
        | none => none)
      | none => match fb_rt j ins len st with
        | some r => some (r, h)
        | none => match fb_st j ins len pc ls st h with
          | some (pc', ls', st', h') => ev j pc' ls' st' h'
          | none => none
def fb_ev : Nat → Nat → Nat → List Value → List Value → fb_H → Option (Option Value × fb_H)
  | 0 => fun _ _ _ _ _ => none
  | f + 1 => fb_bd (fb_ev f)
theorem fb_ev_s (f j pc : Nat) (ls st : List Value) (h : fb_H) : fb_ev (f + 1) j pc ls st h = fb_bd (fb_ev f) j pc ls st h := rfl
/-- what one turn of the interpreter is -/
theorem fb_ev_cases {f j pc : Nat} {ls st : List Value} {h : fb_H} {r : Option Value × fb_H} (e : fb_ev (f + 1) j pc ls st h = some r) : ∃ ins len, fb_dec j pc = some (ins, len) ∧
    ((∃ y as rest r1 h1, fb_ca j ins len st h = some (y, as, rest) ∧ fb_ev f y 0 (fb_en as (mL y)) [] h = some (r1, h1) ∧ fb_ev f j (pc + 3) ls (r1.toList ++ rest) h1 = some r) ∨
     (fb_ca j ins len st h = none ∧ ∃ r1, fb_rt j ins len st = some r1 ∧ r = (r1, h)) ∨
     (fb_ca j ins len st h = none ∧ fb_rt j ins len st = none ∧ ∃ pc' ls' st' h', fb_st j ins len pc ls st h = some (pc', ls', st', h') ∧ fb_ev f j pc' ls' st' h' = some r)) := by
  rw [fb_ev_s] at e
  unfold fb_bd at e
  cases hd : fb_dec j pc with
  | none => rw [hd] at e; cases e
  | some x =>
    obtain ⟨ins, len⟩ := x
    rw [hd] at e
    refine ⟨ins, len, rfl, ?_⟩
    dsimp only at e
    cases hc : fb_ca j ins len st h with
    | some z =>
      obtain ⟨y, as, rest⟩ := z
      rw [hc] at e
      dsimp only at e
      cases he : fb_ev f y 0 (fb_en as (mL y)) [] h with
      | none => rw [he] at e; cases e
      | some z =>
        obtain ⟨r1, h1⟩ := z
        rw [he] at e
        exact Or.inl ⟨y, as, rest, r1, h1, rfl, he, e⟩
    | none =>
      rw [hc] at e
      dsimp only at e
      cases hr : fb_rt j ins len st with
      | some r1 =>
        rw [hr] at e
        cases e
        exact Or.inr (Or.inl ⟨rfl, r1, rfl, rfl⟩)
      | none =>
        rw [hr] at e
        dsimp only at e
        cases hs : fb_st j ins len pc ls st h with
        | none => rw [hs] at e; cases e
        | some z =>
          obtain ⟨pc', ls', st', h'⟩ := z
          rw [hs] at e
          exact Or.inr (Or.inr ⟨rfl, rfl, pc', ls', st', h', rfl, e⟩)
theorem fb_ev_call {f j pc : Nat} {ls st : List Value} {h : fb_H} {r : Option Value × fb_H} {ins : Instr} {len : Nat} {y : Nat} {as rest : List Value} {r1 : Option Value} {h1 : fb_H} (hd : fb_dec j pc = some (ins, len)) (hc : fb_ca j ins len st h = some (y, as, rest)) (he : fb_ev f y 0 (fb_en as (mL y)) [] h = some (r1, h1)) (e : fb_ev f j (pc + 3) ls (r1.toList ++ rest) h1 = some r) : fb_ev (f + 1) j pc ls st h = some r := by
  rw [fb_ev_s]
  unfold fb_bd
  rw [hd]
  dsimp only
  rw [hc]
  dsimp only
  rw [he]
  exact e
theorem fb_ev_end {f j pc : Nat} {ls st : List Value} {h : fb_H} {ins : Instr} {len : Nat} {r1 : Option Value} (hd : fb_dec j pc = some (ins, len)) (hc : fb_ca j ins len st h = none) (hr : fb_rt j ins len st = some r1) : fb_ev (f + 1) j pc ls st h = some (r1, h) := by
  rw [fb_ev_s]
  unfold fb_bd
  rw [hd]
  dsimp only
  rw [hc]
  dsimp only
  rw [hr]
theorem fb_ev_step {f j pc : Nat} {ls st : List Value} {h : fb_H} {r : Option Value × fb_H} {ins : Instr} {len pc' : Nat} {ls' st' : List Value} {h' : fb_H} (hd : fb_dec j pc = some (ins, len)) (hc : fb_ca j ins len st h = none) (hr : fb_rt j ins len st = none) (hs : fb_st j ins len pc ls st h = some (pc', ls', st', h')) (e : fb_ev f j pc' ls' st' h' = some r) : fb_ev (f + 1) j pc ls st h = some r := by
  rw [fb_ev_s]
  unfold fb_bd
  rw [hd]
  dsimp only
  rw [hc]
  dsimp only
  rw [hr]
  dsimp only
  rw [hs]
  exact e
theorem fb_mono : ∀ (f j pc : Nat) (ls st : List Value) (h : fb_H) (r : Option Value × fb_H), fb_ev f j pc ls st h = some r → fb_ev (f + 1) j pc ls st h = some r := by
  intro f
  induction f with
  | zero => intro j pc ls st h r e; simp [fb_ev] at e
  | succ f ih =>
    intro j pc ls st h r e
    obtain ⟨ins, len, hd, ⟨y, as, rest, r1, h1, hc, he, e2⟩ | ⟨hc, r1, hr, rfl⟩ | ⟨hc, hr, pc', ls', st', h', hs, e2⟩⟩ := fb_ev_cases e
    · exact fb_ev_call hd hc (ih _ _ _ _ _ _ he) (ih _ _ _ _ _ _ e2)
    · exact fb_ev_end hd hc hr
    · exact fb_ev_step hd hc hr hs (ih _ _ _ _ _ _ e2)
theorem fb_mono_le {f g j pc : Nat} {ls st : List Value} {h : fb_H} {r : Option Value × fb_H} (hfg : f ≤ g) (e : fb_ev f j pc ls st h = some r) : fb_ev g j pc ls st h = some r := by
  obtain ⟨k, rfl⟩ := Nat.exists_eq_add_of_le hfg
  clear hfg
  induction k with
  | zero => exact e
  | succ k ih => exact fb_mono _ _ _ _ _ _ _ ih
