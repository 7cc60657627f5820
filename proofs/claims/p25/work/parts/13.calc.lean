/-! THE INTERPRETER'S CALCULUS: what comes of a place, a call, a rest -/
def iI (z : Int) : Int32 := Int32.ofInt z
def ev_w (j pc : Nat) (ls st : List Value) (h : fb_H) (Q : Option Value → fb_H → Prop) : Prop := ∃ f r h', fb_ev f j pc ls st h = some (r, h') ∧ Q r h'
def ev_c (y : Nat) (as : List Value) (h : fb_H) (Q : Option Value → fb_H → Prop) : Prop := ev_w y 0 (fb_en as (mL y)) [] h Q
def ev_k (j pc : Nat) (ls st : List Value) (Q : Option Value → fb_H → Prop) (r : Option Value) (h : fb_H) : Prop := ev_w j pc ls (r.toList ++ st) h Q
theorem ev_k_s {j pc : Nat} {ls st : List Value} {Q : Option Value → fb_H → Prop} {v : Value} {h : fb_H} : ev_k j pc ls st Q (some v) h = ev_w j pc ls (v :: st) h Q := rfl
theorem ev_k_n {j pc : Nat} {ls st : List Value} {Q : Option Value → fb_H → Prop} {h : fb_H} : ev_k j pc ls st Q none h = ev_w j pc ls st h Q := rfl
theorem fb_dd {j pc : Nat} {x : Instr × Nat} (h : decode (mB j) pc = .ok x) : fb_dec j pc = some x := by
  unfold fb_dec
  rw [h]
section EVL
variable {j pc len pc' i : Nat} {ins : Instr} {ls st ls' st' : List Value} {h h' : fb_H} {Q : Option Value → fb_H → Prop}
theorem ev_step (hd : fb_dec j pc = some (ins, len)) (hc : fb_ca j ins len st h = none) (hr : fb_rt j ins len st = none) (hs : fb_st j ins len pc ls st h = some (pc', ls', st', h')) : ev_w j pc ls st h Q = ev_w j pc' ls' st' h' Q := by
  apply propext
  constructor
  · rintro ⟨f, r, h2, e, q⟩
    cases f with
    | zero => simp [fb_ev] at e
    | succ f =>
      rw [fb_ev_s] at e
      unfold fb_bd at e
      rw [hd] at e
      dsimp only at e
      rw [hc] at e
      dsimp only at e
      rw [hr] at e
      dsimp only at e
      rw [hs] at e
      exact ⟨f, r, h2, e, q⟩
  · rintro ⟨f, r, h2, e, q⟩
    exact ⟨f + 1, r, h2, fb_ev_step hd hc hr hs e, q⟩
theorem ev_fail (hd : fb_dec j pc = some (ins, len)) (hc : fb_ca j ins len st h = none) (hr : fb_rt j ins len st = none) (hs : fb_st j ins len pc ls st h = none) : ev_w j pc ls st h Q = False := by
  apply propext
  refine ⟨?_, fun h => h.elim⟩
  rintro ⟨f, r, h2, e, q⟩
  cases f with
  | zero => simp [fb_ev] at e
  | succ f =>
    rw [fb_ev_s] at e
    unfold fb_bd at e
    rw [hd] at e
    dsimp only at e
    rw [hc] at e
    dsimp only at e
    rw [hr] at e
    dsimp only at e
    rw [hs] at e
    cases e
theorem ev_if {P : Prop} (hd : fb_dec j pc = some (ins, len)) (hc : fb_ca j ins len st h = none) (hr : fb_rt j ins len st = none) (hs : P → fb_st j ins len pc ls st h = some (pc', ls', st', h')) (hn : ¬ P → fb_st j ins len pc ls st h = none) : ev_w j pc ls st h Q = (P ∧ ev_w j pc' ls' st' h' Q) := by
  apply propext
  by_cases hP : P
  · rw [ev_step hd hc hr (hs hP)]
    exact ⟨fun q => ⟨hP, q⟩, fun q => q.2⟩
  · rw [ev_fail hd hc hr (hn hP)]
    exact ⟨fun q => q.elim, fun q => hP q.1⟩
theorem ev_br {P : Prop} {inst : Decidable P} {p1 p2 : Nat} (hd : fb_dec j pc = some (ins, len)) (hc : fb_ca j ins len st h = none) (hr : fb_rt j ins len st = none) (hs : P → fb_st j ins len pc ls st h = some (p1, ls, st', h)) (hn : ¬ P → fb_st j ins len pc ls st h = some (p2, ls, st', h)) : ev_w j pc ls st h Q = if P then ev_w j p1 ls st' h Q else ev_w j p2 ls st' h Q := by
  by_cases hP : P
  · rw [ev_step hd hc hr (hs hP), if_pos hP]
  · rw [ev_step hd hc hr (hn hP), if_neg hP]
theorem ev_ret {r : Option Value} (hd : fb_dec j pc = some (ins, len)) (hc : fb_ca j ins len st h = none) (hr : fb_rt j ins len st = some r) : ev_w j pc ls st h Q = Q r h := by
  apply propext
  constructor
  · rintro ⟨f, r2, h2, e, q⟩
    cases f with
    | zero => simp [fb_ev] at e
    | succ f =>
      rw [fb_ev_s] at e
      unfold fb_bd at e
      rw [hd] at e
      dsimp only at e
      rw [hc] at e
      dsimp only at e
      rw [hr] at e
      cases e
      exact q
  · intro q
    exact ⟨1, r, h, fb_ev_end hd hc hr, q⟩
theorem ev_call {y : Nat} {as rest : List Value} (hd : fb_dec j pc = some (ins, len)) (hc : fb_ca j ins len st h = some (y, as, rest)) : ev_w j pc ls st h Q = ev_c y as h (ev_k j (pc + 3) ls rest Q) := by
  apply propext
  constructor
  · rintro ⟨f, r2, h2, e, q⟩
    cases f with
    | zero => simp [fb_ev] at e
    | succ f =>
      rw [fb_ev_s] at e
      unfold fb_bd at e
      rw [hd] at e
      dsimp only at e
      rw [hc] at e
      dsimp only at e
      cases he : fb_ev f y 0 (fb_en as (mL y)) [] h with
      | none => rw [he] at e; cases e
      | some z =>
        obtain ⟨r1, h1⟩ := z
        rw [he] at e
        exact ⟨f, r1, h1, he, f, r2, h2, e, q⟩
  · rintro ⟨f, r1, h1, e1, g, r2, h2, e2, q⟩
    exact ⟨max f g + 1, r2, h2, fb_ev_call hd hc (fb_mono_le (Nat.le_max_left f g) e1) (fb_mono_le (Nat.le_max_right f g) e2), q⟩
/-- a call whose end is known whatever comes behind it -/
theorem ev_c_eq {y : Nat} {as : List Value} {r : Option Value} (H : ev_c y as h (fun r2 h2 => r2 = r ∧ h2 = h')) : ev_c y as h Q = Q r h' := by
  obtain ⟨f, r2, h2, e, rfl, rfl⟩ := H
  apply propext
  constructor
  · rintro ⟨g, r3, h3, e3, q⟩
    have a := fb_mono_le (Nat.le_max_left f g) e
    have b := fb_mono_le (Nat.le_max_right f g) e3
    cases a.symm.trans b
    exact q
  · intro q
    exact ⟨f, r2, h2, e, q⟩
theorem ev_w_mono {Q2 : Option Value → fb_H → Prop} (H : ev_w j pc ls st h Q) (hq : ∀ r h2, Q r h2 → Q2 r h2) : ev_w j pc ls st h Q2 := by
  obtain ⟨f, r, h2, e, q⟩ := H
  exact ⟨f, r, h2, e, hq _ _ q⟩
theorem ev_c_mono {y : Nat} {as : List Value} {Q2 : Option Value → fb_H → Prop} (H : ev_c y as h Q) (hq : ∀ r h2, Q r h2 → Q2 r h2) : ev_c y as h Q2 := ev_w_mono H hq
/-- a call's end, and what it says -/
theorem ev_c_ex {y : Nat} {as : List Value} (H : ev_c y as h Q) : ∃ r h2, Q r h2 ∧ ∀ Q2 : Option Value → fb_H → Prop, ev_c y as h Q2 = Q2 r h2 := by
  obtain ⟨f, r, h2, e, q⟩ := H
  exact ⟨r, h2, q, fun Q2 => ev_c_eq ⟨f, r, h2, e, rfl, rfl⟩⟩
/-! calls -/
theorem fb_ca_V : fb_ca j (.invokevirtual i) 3 st h = (match fb_fd fb_il (fb_ky j i) with
    | some (k, y) => if k = 0 ∨ k = 3 then (match fb_as y st with
      | .ref b :: As => if fb_ck j y st = true ∧ (fb_T h b).1 = oC (mO y) then some (y, .ref b :: As, st.drop (mN y)) else none
      | _ => none) else none
    | none => none) := rfl
theorem fb_ca_S : fb_ca j (.invokestatic i) 3 st h = (match fb_fd fb_il (fb_ky j i) with
    | some (k, y) => if (k = 1 ∨ k = 4) ∧ fb_ck j y st = true then some (y, fb_as y st, st.drop (mN y)) else none
    | none => none) := rfl
theorem fb_ca_I : fb_ca j (.invokespecial i) 3 st h = (match fb_fd fb_il (fb_ky j i) with
    | some (k, y) => if k = 2 ∨ k = 5 then (match fb_as y st with
      | .ref b :: As => if fb_ck j y st = true then some (y, .ref b :: As, st.drop (mN y)) else none
      | _ => none) else none
    | none => none) := rfl
theorem fb_st_V : fb_st j (.invokevirtual i) 3 pc ls st h = (match st with
    | .ref a :: r => (match fb_fd fb_il (fb_ky j i) with
      | some (9, _) => if (fb_T h a).1 = 16 ∧ 1000000 ≤ a ∧ a < 1000006 ∧ fb_N h < 900000 ∧ 1 ≤ mD j ∧ r.length ≤ 4 then some (pc + 3, ls, .ref (fb_N h) :: r, fb_cp h a) else none
      | _ => none)
    | _ => none) := rfl
theorem fb_st_I : fb_st j (.invokespecial i) 3 pc ls st h = (match st with
    | .ref a :: r => (match fb_fd fb_il (fb_ky j i) with
      | some (6, _) => if 1 ≤ mD j ∧ r.length ≤ 4 then some (pc + 3, ls, r, h) else none
      | _ => none)
    | _ => none) := rfl
theorem fb_rt_i {v : Int32} : fb_rt j .ireturn 1 [.int v] = (match mR j with
      | some ty => if narrow ty (.int v) = .int v then some (some (.int v)) else none
      | none => none) := rfl
theorem fb_rt_v : fb_rt j .return_ 1 [] = (if mR j = none then some none else none) := rfl
theorem ev_callS {y k : Nat} {as rest : List Value} (hd : fb_dec j pc = some (.invokestatic i, 3)) (hf : fb_fd fb_il (fb_ky j i) = some (k, y)) (hk : k = 1 ∨ k = 4) (hck : fb_ck j y st = true) (ha : fb_as y st = as) (hrest : st.drop (mN y) = rest) : ev_w j pc ls st h Q = ev_c y as h (ev_k j (pc + 3) ls rest Q) := by
  refine ev_call hd ?_
  rw [fb_ca_S, hf]
  dsimp only
  rw [if_pos ⟨hk, hck⟩, ha, hrest]
theorem ev_callI {y k b : Nat} {As rest : List Value} (hd : fb_dec j pc = some (.invokespecial i, 3)) (hf : fb_fd fb_il (fb_ky j i) = some (k, y)) (hk : k = 2 ∨ k = 5) (hck : fb_ck j y st = true) (ha : fb_as y st = .ref b :: As) (hrest : st.drop (mN y) = rest) : ev_w j pc ls st h Q = ev_c y (.ref b :: As) h (ev_k j (pc + 3) ls rest Q) := by
  refine ev_call hd ?_
  rw [fb_ca_I, hf]
  dsimp only
  rw [if_pos hk, ha]
  dsimp only
  rw [if_pos hck, hrest]
theorem ev_callV {y k b c1 : Nat} {As rest : List Value} (hd : fb_dec j pc = some (.invokevirtual i, 3)) (hf : fb_fd fb_il (fb_ky j i) = some (k, y)) (hk : k = 0 ∨ k = 3) (hck : fb_ck j y st = true) (ha : fb_as y st = .ref b :: As) (hrest : st.drop (mN y) = rest) (hc1 : oC (mO y) = c1) : ev_w j pc ls st h Q = ((fb_T h b).1 = c1 ∧ ev_c y (.ref b :: As) h (ev_k j (pc + 3) ls rest Q)) := by
  subst hc1
  apply propext
  by_cases hT : (fb_T h b).1 = oC (mO y)
  · rw [ev_call (y := y) (as := .ref b :: As) (rest := rest) hd (by
      rw [fb_ca_V, hf]
      dsimp only
      rw [if_pos hk, ha]
      dsimp only
      rw [if_pos ⟨hck, hT⟩, hrest])]
    exact ⟨fun q => ⟨hT, q⟩, fun q => q.2⟩
  · refine ⟨fun q => ?_, fun q => absurd q.1 hT⟩
    have hca : fb_ca j (.invokevirtual i) 3 st h = none := by
      rw [fb_ca_V, hf]
      dsimp only
      rw [if_pos hk, ha]
      dsimp only
      rw [if_neg (fun w => hT w.2)]
    have hst : fb_st j (.invokevirtual i) 3 pc ls st h = none := by
      rw [fb_st_V]
      split
      · rw [hf]
        rcases hk with rfl | rfl <;> rfl
      · rfl
    rw [ev_fail hd hca rfl hst] at q
    exact q.elim
/-! instructions with a condition -/
theorem ev_gfI {a c k : Nat} (hd : fb_dec j pc = some (.getfield i, 3)) (hf : fb_fd fb_fl (fb_ky j i) = some (c, k)) (hK : cK c k = false) : ev_w j pc ls (.ref a :: st) h Q = ((fb_T h a).1 = c ∧ ev_w j (pc + 3) ls (.int (fb_I h a k) :: st) h Q) :=
  ev_if hd rfl rfl (fun w => by show fb_gf _ _ _ _ _ = _; rw [hf]; unfold fb_gf; (try dsimp only); rw [if_pos w, if_neg (by rw [hK]; decide)]) (fun w => by show fb_gf _ _ _ _ _ = _; rw [hf]; unfold fb_gf; (try dsimp only); rw [if_neg w])
theorem ev_gfR {a c k : Nat} (hd : fb_dec j pc = some (.getfield i, 3)) (hf : fb_fd fb_fl (fb_ky j i) = some (c, k)) (hK : cK c k = true) : ev_w j pc ls (.ref a :: st) h Q = ((fb_T h a).1 = c ∧ ∃ b, fb_R h a k = some b ∧ ev_w j (pc + 3) ls (.ref b :: st) h Q) := by
  have e1 : fb_st j (.getfield i) 3 pc ls (.ref a :: st) h = if (fb_T h a).1 = c then (match fb_R h a k with
    | some b => some (pc + 3, ls, .ref b :: st, h)
    | none => none) else none := by
    show fb_gf _ _ _ _ _ = _
    rw [hf]
    unfold fb_gf
    try dsimp only
    rw [if_pos hK]
    rfl
  apply propext
  by_cases hT : (fb_T h a).1 = c
  · rw [if_pos hT] at e1
    cases hR : fb_R h a k with
    | none =>
      rw [hR] at e1
      rw [ev_fail hd rfl rfl e1]
      exact ⟨fun q => q.elim, fun ⟨_, b, w, _⟩ => by cases w⟩
    | some b =>
      rw [hR] at e1
      rw [ev_step hd rfl rfl e1]
      exact ⟨fun q => ⟨hT, b, rfl, q⟩, fun ⟨_, b2, w, q⟩ => by cases w; exact q⟩
  · rw [if_neg hT] at e1
    rw [ev_fail hd rfl rfl e1]
    exact ⟨fun q => q.elim, fun q => absurd q.1 hT⟩
theorem ev_pfI {a c k : Nat} {v : Int32} (hd : fb_dec j pc = some (.putfield i, 3)) (hf : fb_fd fb_fl (fb_ky j i) = some (c, k)) (hK : cK c k = false) (hF : (cT c k).2.2.2 = false) : ev_w j pc ls (.int v :: .ref a :: st) h Q = ((fb_T h a).1 = c ∧ ev_w j (pc + 3) ls st (fb_sI h a k v) Q) :=
  ev_if hd rfl rfl (fun w => by show fb_pf _ _ _ _ _ _ = _; rw [hf]; unfold fb_pf; (try dsimp only); rw [if_pos ⟨w, hK, hF⟩]) (fun w => by show fb_pf _ _ _ _ _ _ = _; rw [hf]; unfold fb_pf; (try dsimp only); rw [if_neg (fun z => w z.1)])
theorem ev_pfR {a b c k : Nat} (hd : fb_dec j pc = some (.putfield i, 3)) (hf : fb_fd fb_fl (fb_ky j i) = some (c, k)) (hK : cK c k = true) (hF : (cT c k).2.2.2 = true) (hi : (mY j).name = "<init>") (ho : cX c = oN (mO j)) : ev_w j pc ls (.ref b :: .ref a :: st) h Q = ((fb_T h a).1 = c ∧ b < fb_N h ∧ ev_w j (pc + 3) ls st (fb_sR h a k (some b)) Q) := by
  rw [← and_assoc]
  exact ev_if hd rfl rfl (fun w => by show fb_pf _ _ _ _ _ _ = _; rw [hf]; unfold fb_pf; (try dsimp only); rw [if_pos ⟨w.1, hK, w.2, hF, hi, ho⟩]) (fun w => by show fb_pf _ _ _ _ _ _ = _; rw [hf]; unfold fb_pf; (try dsimp only); rw [if_neg (fun z => w ⟨z.1, z.2.2.1⟩)])
theorem ev_el {a k1 k2 : Nat} {x : Int32} (hd : fb_dec j pc = some (ins, len)) (hc : fb_ca j ins len (.int x :: .ref a :: st) h = none) (hr : fb_rt j ins len (.int x :: .ref a :: st) = none) (hs : fb_st j ins len pc ls (.int x :: .ref a :: st) h = fb_el k1 k2 pc ls (.int x :: .ref a :: st) h) : ev_w j pc ls (.int x :: .ref a :: st) h Q = (((fb_T h a).1 = k1 ∨ (fb_T h a).1 = k2) ∧ fb_in x (fb_T h a).2 = true ∧ ev_w j (pc + 1) ls (.int (fb_I h a x.toNatClampNeg) :: st) h Q) := by
  rw [← and_assoc]
  refine ev_if hd hc hr (fun w => ?_) (fun w => ?_) <;> rw [hs] <;> unfold fb_el <;> dsimp only
  · rw [if_pos w]
  · rw [if_neg w]
theorem ev_es {a k1 : Nat} {x v : Int32} {f : Int32 → Int32} (hd : fb_dec j pc = some (ins, len)) (hc : fb_ca j ins len (.int v :: .int x :: .ref a :: st) h = none) (hr : fb_rt j ins len (.int v :: .int x :: .ref a :: st) = none) (hs : fb_st j ins len pc ls (.int v :: .int x :: .ref a :: st) h = fb_es k1 f pc ls (.int v :: .int x :: .ref a :: st) h) : ev_w j pc ls (.int v :: .int x :: .ref a :: st) h Q = ((fb_T h a).1 = k1 ∧ fb_in x (fb_T h a).2 = true ∧ ev_w j (pc + 1) ls st (fb_sI h a x.toNatClampNeg (f v)) Q) := by
  rw [← and_assoc]
  refine ev_if hd hc hr (fun w => ?_) (fun w => ?_) <;> rw [hs] <;> unfold fb_es <;> dsimp only
  · rw [if_pos w]
  · rw [if_neg w]
theorem ev_aald {a : Nat} {x : Int32} (hd : fb_dec j pc = some (.aaload, 1)) : ev_w j pc ls (.int x :: .ref a :: st) h Q = (((fb_T h a).1 = 13 ∨ (fb_T h a).1 = 14 ∨ (fb_T h a).1 = 15) ∧ fb_in x (fb_T h a).2 = true ∧ ∃ b, fb_R h a x.toNatClampNeg = some b ∧ ev_w j (pc + 1) ls (.ref b :: st) h Q) := by
  have e1 : fb_st j .aaload 1 pc ls (.int x :: .ref a :: st) h = if ((fb_T h a).1 = 13 ∨ (fb_T h a).1 = 14 ∨ (fb_T h a).1 = 15) ∧ fb_in x (fb_T h a).2 = true then (fb_R h a x.toNatClampNeg).map (fun b => (pc + 1, ls, .ref b :: st, h)) else none := rfl
  apply propext
  by_cases hT : ((fb_T h a).1 = 13 ∨ (fb_T h a).1 = 14 ∨ (fb_T h a).1 = 15) ∧ fb_in x (fb_T h a).2 = true
  · rw [if_pos hT] at e1
    cases hR : fb_R h a x.toNatClampNeg with
    | none =>
      rw [hR] at e1
      rw [ev_fail hd rfl rfl e1]
      exact ⟨fun q => q.elim, fun ⟨_, _, b, w, _⟩ => by cases w⟩
    | some b =>
      rw [hR] at e1
      rw [ev_step hd rfl rfl e1]
      exact ⟨fun q => ⟨hT.1, hT.2, b, rfl, q⟩, fun ⟨_, _, b2, w, q⟩ => by cases w; exact q⟩
  · rw [if_neg hT] at e1
    rw [ev_fail hd rfl rfl e1]
    exact ⟨fun q => q.elim, fun q => absurd ⟨q.1, q.2.1⟩ hT⟩
theorem ev_aast {a b : Nat} {x : Int32} (hd : fb_dec j pc = some (.aastore, 1)) : ev_w j pc ls (.ref b :: .int x :: .ref a :: st) h Q = (((fb_T h a).1 = 13 ∧ (fb_T h b).1 = 3 ∨ (fb_T h a).1 = 14 ∧ (fb_T h b).1 = 5) ∧ fb_in x (fb_T h a).2 = true ∧ ev_w j (pc + 1) ls st (fb_sR h a x.toNatClampNeg (some b)) Q) := by
  rw [← and_assoc]
  refine ev_if hd rfl rfl (fun w => ?_) (fun w => ?_)
  · show (if _ then _ else _) = _
    rw [if_pos w]
  · show (if _ then _ else _) = _
    rw [if_neg w]
theorem ev_alen {a : Nat} (hd : fb_dec j pc = some (.arraylength, 1)) : ev_w j pc ls (.ref a :: st) h Q = ((10 ≤ (fb_T h a).1 ∧ (fb_T h a).1 ≤ 16) ∧ ev_w j (pc + 1) ls (.int (iI (fb_T h a).2) :: st) h Q) :=
  ev_if hd rfl rfl (fun w => by show (if _ then _ else _) = _; rw [if_pos w]; rfl) (fun w => by show (if _ then _ else _) = _; rw [if_neg w])
theorem ev_div {x y : Int32} (hd : fb_dec j pc = some (.idiv, 1)) : ev_w j pc ls (.int y :: .int x :: st) h Q = (¬ y = 0 ∧ ev_w j (pc + 1) ls (.int (x / y) :: st) h Q) :=
  ev_if hd rfl rfl (fun w => by show (if _ then _ else _) = _; rw [if_neg w]) (fun w => by show (if _ then _ else _) = _; rw [if_pos (Classical.not_not.mp w)])
theorem ev_rem {x y : Int32} (hd : fb_dec j pc = some (.irem, 1)) : ev_w j pc ls (.int y :: .int x :: st) h Q = (¬ y = 0 ∧ ev_w j (pc + 1) ls (.int (x - x / y * y) :: st) h Q) :=
  ev_if hd rfl rfl (fun w => by show (if _ then _ else _) = _; rw [if_neg w]) (fun w => by show (if _ then _ else _) = _; rw [if_pos (Classical.not_not.mp w)])
theorem ev_new {c k : Nat} (hd : fb_dec j pc = some (.new i, 3)) (hf : fb_fd fb_nl (fb_ky j i) = some (c, k)) (hc : c < 7) : ev_w j pc ls st h Q = (fb_N h < 900000 ∧ ev_w j (pc + 3) ls (.ref (fb_N h) :: st) (fb_nw h c 0 (cN c)) Q) :=
  ev_if hd rfl rfl (fun w => by show (match fb_fd fb_nl (fb_ky j i) with | some (c, _) => _ | none => _) = _; rw [hf]; (try dsimp only); rw [if_pos ⟨hc, w⟩]) (fun w => by show (match fb_fd fb_nl (fb_ky j i) with | some (c, _) => _ | none => _) = _; rw [hf]; (try dsimp only); rw [if_neg (fun z => w z.2)])
theorem ev_na {kd n : Nat} {x : Int32} (hd : fb_dec j pc = some (ins, len)) (hc : fb_ca j ins len (.int x :: st) h = none) (hr : fb_rt j ins len (.int x :: st) = none) (hs : fb_st j ins len pc ls (.int x :: st) h = fb_na kd n x pc ls st h) : ev_w j pc ls (.int x :: st) h Q = ((¬ x < 0 ∧ x.toNatClampNeg ≤ 10000 ∧ fb_N h < 900000) ∧ ev_w j (pc + n) ls (.ref (fb_N h) :: st) (fb_nw h kd x.toNatClampNeg x.toNatClampNeg) Q) := by
  refine ev_if hd hc hr (fun w => ?_) (fun w => ?_) <;> rw [hs] <;> unfold fb_na
  · rw [if_pos w]
  · rw [if_neg w]
theorem ev_nq {kd q : Nat} {x : Int32} (hd : fb_dec j pc = some (.anewarray i, 3)) (hf : fb_fd fb_cl (fb_ky j i) = some (kd, q)) (hk : kd = 13 ∨ kd = 14) : ev_w j pc ls (.int x :: st) h Q = ((¬ x < 0 ∧ x.toNatClampNeg ≤ 10000 ∧ fb_N h < 900000) ∧ ev_w j (pc + 3) ls (.ref (fb_N h) :: st) (fb_nw h kd x.toNatClampNeg x.toNatClampNeg) Q) := by
  refine ev_na hd rfl rfl ?_
  show (match fb_fd fb_cl (fb_ky j i) with
      | some (13, _) => fb_na 13 3 x pc ls st h
      | some (14, _) => fb_na 14 3 x pc ls st h
      | _ => none) = _
  rw [hf]
  rcases hk with rfl | rfl <;> rfl
theorem ev_mn {q : Nat} {n k : Int32} (hd : fb_dec j pc = some (.multianewarray i 2, 4)) (hf : fb_fd fb_cl (fb_ky j i) = some (15, q)) : ev_w j pc ls (.int k :: .int n :: st) h Q = ((¬ n < 0 ∧ ¬ k < 0 ∧ n.toNatClampNeg ≤ 1000 ∧ k.toNatClampNeg ≤ 1000 ∧ fb_N h < 900000) ∧ ev_w j (pc + 4) ls (.ref (fb_N h) :: st) (fb_mn h n.toNatClampNeg k.toNatClampNeg) Q) := by
  have e1 : fb_st j (.multianewarray i 2) 4 pc ls (.int k :: .int n :: st) h = if ¬ n < 0 ∧ ¬ k < 0 ∧ n.toNatClampNeg ≤ 1000 ∧ k.toNatClampNeg ≤ 1000 ∧ fb_N h < 900000 then some (pc + 4, ls, .ref (fb_N h) :: st, fb_mn h n.toNatClampNeg k.toNatClampNeg) else none := by
    show (match fb_fd fb_cl (fb_ky j i) with
      | some (15, _) => _
      | _ => none) = _
    rw [hf]
    rfl
  refine ev_if hd rfl rfl (fun w => ?_) (fun w => ?_)
  · rw [e1, if_pos w]
  · rw [e1, if_neg w]
theorem ev_cc {a q : Nat} (hd : fb_dec j pc = some (.checkcast i, 3)) (hf : fb_fd fb_cl (fb_ky j i) = some (10, q)) : ev_w j pc ls (.ref a :: st) h Q = ((fb_T h a).1 = 10 ∧ ev_w j (pc + 3) ls (.ref a :: st) h Q) := by
  have e1 : fb_st j (.checkcast i) 3 pc ls (.ref a :: st) h = if (fb_T h a).1 = 10 then some (pc + 3, ls, .ref a :: st, h) else none := by
    show (match fb_fd fb_cl (fb_ky j i) with
      | some (10, _) => _
      | _ => none) = _
    rw [hf]
    rfl
  refine ev_if hd rfl rfl (fun w => ?_) (fun w => ?_)
  · rw [e1, if_pos w]
  · rw [e1, if_neg w]
theorem ev_oi {a q : Nat} (hd : fb_dec j pc = some (.invokespecial i, 3)) (hf : fb_fd fb_il (fb_ky j i) = some (6, q)) (h1 : 1 ≤ mD j) (h4 : st.length ≤ 4) : ev_w j pc ls (.ref a :: st) h Q = ev_w j (pc + 3) ls st h Q := by
  refine ev_step hd ?_ rfl ?_
  · rw [fb_ca_I, hf]
    rfl
  · rw [fb_st_I]
    show (match fb_fd fb_il (fb_ky j i) with
      | some (6, _) => _
      | _ => none) = _
    rw [hf]
    show (if 1 ≤ mD j ∧ st.length ≤ 4 then some (pc + 3, ls, st, h) else none) = _
    rw [if_pos ⟨h1, h4⟩]
theorem ev_cl {a q : Nat} (hd : fb_dec j pc = some (.invokevirtual i, 3)) (hf : fb_fd fb_il (fb_ky j i) = some (9, q)) (h1 : 1 ≤ mD j) (h4 : st.length ≤ 4) : ev_w j pc ls (.ref a :: st) h Q = (((fb_T h a).1 = 16 ∧ 1000000 ≤ a ∧ a < 1000006 ∧ fb_N h < 900000) ∧ ev_w j (pc + 3) ls (.ref (fb_N h) :: st) (fb_cp h a) Q) := by
  have hc : fb_ca j (.invokevirtual i) 3 (.ref a :: st) h = none := by
    rw [fb_ca_V, hf]
    rfl
  have e1 : fb_st j (.invokevirtual i) 3 pc ls (.ref a :: st) h = if (fb_T h a).1 = 16 ∧ 1000000 ≤ a ∧ a < 1000006 ∧ fb_N h < 900000 ∧ 1 ≤ mD j ∧ st.length ≤ 4 then some (pc + 3, ls, .ref (fb_N h) :: st, fb_cp h a) else none := by
    show (match fb_fd fb_il (fb_ky j i) with
      | some (9, _) => _
      | _ => none) = _
    rw [hf]
    rfl
  refine ev_if hd hc rfl (fun w => ?_) (fun w => ?_)
  · rw [e1, if_pos ⟨w.1, w.2.1, w.2.2.1, w.2.2.2, h1, h4⟩]
  · rw [e1, if_neg (fun z => w ⟨z.1, z.2.1, z.2.2.1, z.2.2.2.1⟩)]
theorem ev_iret {v : Int32} {ty : FieldType} (hd : fb_dec j pc = some (.ireturn, 1)) (hr : mR j = some ty) (hn : narrow ty (.int v) = .int v) : ev_w j pc ls [.int v] h Q = Q (some (.int v)) h := by
  refine ev_ret hd rfl ?_
  rw [fb_rt_i, hr]
  dsimp only
  rw [if_pos hn]
theorem ev_zret {v : Int32} {ty : FieldType} (hd : fb_dec j pc = some (.ireturn, 1)) (hr : mR j = some ty) : ev_w j pc ls [.int v] h Q = (narrow ty (.int v) = .int v ∧ Q (some (.int v)) h) := by
  apply propext
  by_cases hn : narrow ty (.int v) = .int v
  · rw [ev_iret hd hr hn]
    exact ⟨fun q => ⟨hn, q⟩, fun q => q.2⟩
  · rw [ev_fail hd rfl (by rw [fb_rt_i, hr]; dsimp only; rw [if_neg hn]) rfl]
    exact ⟨fun q => q.elim, fun q => absurd q.1 hn⟩
theorem ev_vret (hd : fb_dec j pc = some (.return_, 1)) (hr : mR j = none) : ev_w j pc ls [] h Q = Q none h := by
  refine ev_ret hd rfl ?_
  rw [fb_rt_v, if_pos hr]
theorem ev_p1 {k : Nat} {v : Value} (h1 : k < ls.length) (h2 : k = 0 ∨ (ls.getD (k - 1) .null).category = 1) : fb_p1 ls k v = some (ls.set k v) := if_pos ⟨h1, h2⟩
theorem ev_ic {k : Jvm.ClassFile.Cond} {off : Int} {x y : Int32} {P : Prop} {inst : Decidable P} (hd : fb_dec j pc = some (.if_icmp k off, 3)) (ht : 0 ≤ (pc : Int) + off) (hp : fb_to pc off = pc') (hP : fb_c k x y = true ↔ P) : ev_w j pc ls (.int y :: .int x :: st) h Q = if P then ev_w j pc' ls st h Q else ev_w j (pc + 3) ls st h Q := by
  subst hp
  refine ev_br hd rfl rfl (fun w => ?_) (fun w => ?_)
  · show (if _ then (if _ then _ else _) else _) = _
    rw [if_pos ht, if_pos (hP.mpr w)]
  · show (if _ then (if _ then _ else _) else _) = _
    rw [if_pos ht, if_neg (fun z => w (hP.mp z))]
theorem ev_i0 {k : Jvm.ClassFile.Cond} {off : Int} {x : Int32} {P : Prop} {inst : Decidable P} (hd : fb_dec j pc = some (.ifCond k off, 3)) (ht : 0 ≤ (pc : Int) + off) (hp : fb_to pc off = pc') (hP : fb_c k x 0 = true ↔ P) : ev_w j pc ls (.int x :: st) h Q = if P then ev_w j pc' ls st h Q else ev_w j (pc + 3) ls st h Q := by
  subst hp
  refine ev_br hd rfl rfl (fun w => ?_) (fun w => ?_)
  · show (if _ then (if _ then _ else _) else _) = _
    rw [if_pos ht, if_pos (hP.mpr w)]
  · show (if _ then (if _ then _ else _) else _) = _
    rw [if_pos ht, if_neg (fun z => w (hP.mp z))]
theorem ev_lt (x y : Int32) : fb_c .lt x y = true ↔ x < y := decide_eq_true_iff
theorem ev_le (x y : Int32) : fb_c .le x y = true ↔ x ≤ y := decide_eq_true_iff
theorem ev_gt (x y : Int32) : fb_c .gt x y = true ↔ y < x := decide_eq_true_iff
theorem ev_ge (x y : Int32) : fb_c .ge x y = true ↔ y ≤ x := decide_eq_true_iff
theorem ev_eq (x y : Int32) : fb_c .eq x y = true ↔ x = y := decide_eq_true_iff
theorem ev_ne (x y : Int32) : fb_c .ne x y = true ↔ ¬ x = y := by unfold fb_c; simp
theorem ev_go {off : Int} (hd : fb_dec j pc = some (.goto off, 3)) (ht : 0 ≤ (pc : Int) + off) (hp : fb_to pc off = pc') : ev_w j pc ls st h Q = ev_w j pc' ls st h Q := by
  subst hp
  refine ev_step hd rfl rfl ?_
  show fb_j pc off ls st h = _
  unfold fb_j
  rw [if_pos ht]
theorem ev_tsO {d lo hi : Int} {offs : Array Int} {x : Int32} (hd : fb_dec j pc = some (.tableswitch d lo hi offs, len)) (ht : 0 ≤ (pc : Int) + d) (hp : fb_to pc d = pc') (hx : x.toInt < lo ∨ hi < x.toInt) : ev_w j pc ls (.int x :: st) h Q = ev_w j pc' ls st h Q := by
  subst hp
  refine ev_step hd (by unfold fb_ca; split <;> first | rfl | simp_all) (by unfold fb_rt; split <;> first | rfl | simp_all) ?_
  show (if _ then _ else _) = _
  rw [if_pos hx]
  unfold fb_j
  rw [if_pos ht]
theorem ev_tsI {d lo hi off : Int} {offs : Array Int} {x : Int32} (hd : fb_dec j pc = some (.tableswitch d lo hi offs, len)) (hx : ¬ (x.toInt < lo ∨ hi < x.toInt)) (ho : offs[(x.toInt - lo).toNat]? = some off) (ht : 0 ≤ (pc : Int) + off) (hp : fb_to pc off = pc') : ev_w j pc ls (.int x :: st) h Q = ev_w j pc' ls st h Q := by
  subst hp
  refine ev_step hd (by unfold fb_ca; split <;> first | rfl | simp_all) (by unfold fb_rt; split <;> first | rfl | simp_all) ?_
  show (if _ then _ else (match offs[(x.toInt - lo).toNat]? with
      | some off => _
      | none => none)) = _
  rw [if_neg hx, ho]
  show fb_j _ _ _ _ _ = _
  unfold fb_j
  rw [if_pos ht]
theorem ev_lk {d off : Int} {ps : Array (Int × Int)} {x : Int32} (hd : fb_dec j pc = some (.lookupswitch d ps, len)) (hs : (ps.toList.zip (ps.toList.drop 1)).all (fun (a, next) => a.1 < next.1) = true) (ho : Op.lookupswitch.offset ps.toList d x.toInt = off) (ht : 0 ≤ (pc : Int) + off) (hp : fb_to pc off = pc') : ev_w j pc ls (.int x :: st) h Q = ev_w j pc' ls st h Q := by
  subst hp
  subst ho
  refine ev_step hd (by unfold fb_ca; split <;> first | rfl | simp_all) (by unfold fb_rt; split <;> first | rfl | simp_all) ?_
  show (if _ then _ else _) = _
  rw [if_pos hs]
  unfold fb_j
  rw [if_pos ht]
end EVL
/-! operations by name -/
def j_rem (x y : Int32) : Int32 := x - x / y * y
def j_shl (x y : Int32) : Int32 := x <<< (y &&& 31)
def j_shr (x y : Int32) : Int32 := x >>> (y &&& 31)
def j_ushr (x y : Int32) : Int32 := (x.toUInt32 >>> (y.toUInt32 &&& Int32.toUInt32 31)).toInt32
def j_lshl (x : Int64) (y : Int32) : Int64 := x <<< (y.toInt64 &&& 63)
def j_lshr (x : Int64) (y : Int32) : Int64 := x >>> (y.toInt64 &&& 63)
def j_lushr (x : Int64) (y : Int32) : Int64 := (x.toUInt64 >>> (y.toInt64.toUInt64 &&& Int64.toUInt64 63)).toInt64
def j_i2c (x : Int32) : Int32 := (x.toUInt32 % 65536).toInt32
section EVM
variable {j pc len pc' i : Nat} {ins : Instr} {ls st ls' st' : List Value} {h h' : fb_H} {Q : Option Value → fb_H → Prop}
theorem ev_bip {n m : Int} (hd : fb_dec j pc = some (.bipush n, 2)) (hv : (Int8.ofInt n).toInt32 = iI m) : ev_w j pc ls st h Q = ev_w j (pc + 2) ls (.int (iI m) :: st) h Q := by
  rw [← hv]
  exact ev_step hd rfl rfl rfl
theorem ev_sip {n m : Int} (hd : fb_dec j pc = some (.sipush n, 3)) (hv : (Int16.ofInt n).toInt32 = iI m) : ev_w j pc ls st h Q = ev_w j (pc + 3) ls (.int (iI m) :: st) h Q := by
  rw [← hv]
  exact ev_step hd rfl rfl rfl
theorem ev_ldc {m : Int} (hd : fb_dec j pc = some (.ldc i, 2)) (hv : fb_ki (fb_ky j i) = some (iI m)) : ev_w j pc ls st h Q = ev_w j (pc + 2) ls (.int (iI m) :: st) h Q := by
  refine ev_step hd rfl rfl ?_
  show (fb_ki (fb_ky j i)).map _ = _
  rw [hv]
  rfl
theorem ev_ldw {m : Int} (hd : fb_dec j pc = some (.ldc_w i, 3)) (hv : fb_ki (fb_ky j i) = some (iI m)) : ev_w j pc ls st h Q = ev_w j (pc + 3) ls (.int (iI m) :: st) h Q := by
  refine ev_step hd rfl rfl ?_
  show (fb_ki (fb_ky j i)).map _ = _
  rw [hv]
  rfl
theorem ev_sto {k n : Nat} {v : Int32} (hd : fb_dec j pc = some (ins, len)) (hc : fb_ca j ins len (.int v :: st) h = none) (hr : fb_rt j ins len (.int v :: st) = none) (hs : fb_st j ins len pc ls (.int v :: st) h = fb_sto k n pc ls (.int v :: st) h) (h1 : k < ls.length) (h2 : k = 0 ∨ (ls.getD (k - 1) .null).category = 1) : ev_w j pc ls (.int v :: st) h Q = ev_w j (pc + n) (ls.set k (.int v)) st h Q := by
  refine ev_step hd hc hr (hs.trans ?_)
  unfold fb_sto
  show (fb_p1 _ _ _).map _ = _
  rw [ev_p1 h1 h2]
  rfl
theorem ev_sta {k n t : Nat} (hd : fb_dec j pc = some (ins, len)) (hc : fb_ca j ins len (.ref t :: st) h = none) (hr : fb_rt j ins len (.ref t :: st) = none) (hs : fb_st j ins len pc ls (.ref t :: st) h = fb_sta k n pc ls (.ref t :: st) h) (h1 : k < ls.length) (h2 : k = 0 ∨ (ls.getD (k - 1) .null).category = 1) : ev_w j pc ls (.ref t :: st) h Q = ev_w j (pc + n) (ls.set k (.ref t)) st h Q := by
  refine ev_step hd hc hr (hs.trans ?_)
  unfold fb_sta
  show (fb_p1 _ _ _).map _ = _
  rw [ev_p1 h1 h2]
  rfl
theorem ev_inc {k : Nat} {n : Int} {v : Int32} (hd : fb_dec j pc = some (.iinc k n, 3)) (hk : ls[k]? = some (.int v)) (h1 : k < ls.length) (h2 : k = 0 ∨ (ls.getD (k - 1) .null).category = 1) : ev_w j pc ls st h Q = ev_w j (pc + 3) (ls.set k (.int (v + iI n))) st h Q := by
  refine ev_step hd rfl rfl ?_
  show (match ls[k]? with
    | some (.int x) => (fb_p1 ls k (.int (x + Int32.ofInt n))).map (fun l => (pc + 3, l, st, h))
    | _ => none) = _
  rw [hk]
  show (fb_p1 _ _ _).map _ = _
  rw [ev_p1 h1 h2]
  rfl
theorem ev_gs {k q : Nat} (hd : fb_dec j pc = some (.getstatic i, 3)) (hf : fb_fd fb_sl (fb_ky j i) = some (k, q)) : ev_w j pc ls st h Q = ev_w j (pc + 3) ls (.ref (1000000 + k) :: st) h Q := by
  refine ev_step hd rfl rfl ?_
  show (fb_fd fb_sl (fb_ky j i)).map _ = _
  rw [hf]
  rfl
theorem iI_0 : iI 0 = 0 := rfl
theorem ev0_lt (x : Int32) : fb_c .lt x 0 = true ↔ x < iI 0 := by rw [iI_0]; exact ev_lt x 0
theorem ev0_le (x : Int32) : fb_c .le x 0 = true ↔ x ≤ iI 0 := by rw [iI_0]; exact ev_le x 0
theorem ev0_gt (x : Int32) : fb_c .gt x 0 = true ↔ iI 0 < x := by rw [iI_0]; exact ev_gt x 0
theorem ev0_ge (x : Int32) : fb_c .ge x 0 = true ↔ iI 0 ≤ x := by rw [iI_0]; exact ev_ge x 0
theorem ev0_eq (x : Int32) : fb_c .eq x 0 = true ↔ x = iI 0 := by rw [iI_0]; exact ev_eq x 0
theorem ev0_ne (x : Int32) : fb_c .ne x 0 = true ↔ ¬ x = iI 0 := by rw [iI_0]; exact ev_ne x 0
end EVM
