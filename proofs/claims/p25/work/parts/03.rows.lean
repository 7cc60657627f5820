/-! THE ABSTRACT MACHINE AND THE MACHINE: the cells that a heap stands for, and a row an instruction -/
def fb_W : List Cond := lw_tbl.filter goodWord
theorem fb_inW {w : Cond} {i : Nat} (h : lw_tbl[i]? = some w) (hg : goodWord w = true) : w ∈ fb_W := List.mem_filter.mpr ⟨List.mem_of_getElem? h, hg⟩
def fb_wd (j : Nat) : List Cond := .code (mY j) (mB j) (mL j) (mR j) :: fb_W
theorem fb_good (j : Nat) (hj : j < 188) : GoodIn fb_W (fb_wd j) := by
  intro w hw
  rcases List.mem_cons.mp hw with rfl | hw
  · exact ⟨fb_inW (mP0_ok j hj) rfl, good_of_word rfl⟩
  · exact ⟨hw, good_of_word (List.mem_filter.mp hw).2⟩
theorem fb_uin : ∀ c, c < 7 → ∀ w ∈ u_ws (cX c) (cT c) (cN c), w ∈ fb_W := by
  intro c hc w hw
  refine List.mem_filter.mpr ⟨cW_in c hc w hw, ?_⟩
  obtain ⟨k, -, rfl⟩ := List.mem_map.mp hw
  unfold u_lay
  split <;> rfl
def fb_isN : Cond → Bool
  | .methodLinkNest .. => true
  | .fieldLinkNest .. => true
  | _ => false
def fb_ty (aC : Nat → ClassId) : List (ClassId × FieldType) := [(aC 10, .int), (aC 11, .boolean), (aC 12, .char), (aC 13, .object "FiguredBasses$Piece"), (aC 14, .object "FiguredBasses$Voicings"), (aC 15, .array .int)]
/-- a static array, or the script -/
def fb_ro (sa rl : Nat → Nat) (rf : Nat → Nat → Int32) (k : Nat) (U : State) (H : Heap) : Prop := ∃ cell : Cell, H[sa k]? = some cell ∧ U.isArrayOf cell .int ∧ cell.vm ≠ .unknown ∧ cell.slots.size = rl k ∧ (∀ q : Nat, q < rl k → cell.slots[q]? = some (.int (rf k q))) ∧ (k < 6 → U.vm.findClass "[I" = some cell.cls)
def fb_E (D : va_G) (aC : Nat → ClassId) (B : Nat) (sa rl : Nat → Nat) (rf : Nat → Nat → Int32) (U : State) (H : Heap) : Prop :=
  va_K D vwCl (fb_ty aC) U ∧ (∀ w ∈ lw_tbl, fb_isN w = true → va_Nw w U) ∧ va_Nw (.castable "[I" "java/lang/Cloneable") U ∧ va_AO "FiguredBasses$Piece" U ∧ va_AO "FiguredBasses$Voicings" U ∧ (Cond.arrayOver (.array .int)).before #[] U = true ∧
  (∀ k, k < 6 → va_Z "FiguredBasses" (fb_sn k) "[I" (.ref (sa k)) (fun q => B ≤ q) U H) ∧ (∀ k, k < 7 → sa k < B ∧ fb_ro sa rl rf k U H)
theorem fb_over {u U : State} (hvm : u.vm.Alike U.vm) (h : (Cond.arrayOver (.array .int)).before #[] u = true) : (Cond.arrayOver (.array .int)).before #[] U = true := by
  obtain ⟨comp, c, k, h1, h2, h3, h4, h5⟩ : ∃ comp c k, u.vm.findClass (FieldType.array .int).toString = some comp ∧ (u.vm.classes.findIdx? fun (x : Class) => match x.kind with | .array component _ => component == comp | _ => false) = some c ∧ u.vm.classes[c]? = some k ∧ k.kind = .array comp (.array .int) ∧ u.vm.findClass ("[" ++ (FieldType.array .int).toString) = some c := by
    unfold Cond.before Cond.holds at h
    simp only [Cond.value, beq_iff_eq] at h
    cases hc : u.vm.findClass (FieldType.array .int).toString with
    | none => simp [hc] at h
    | some comp =>
      simp only [hc, Option.bind_some, Option.bind_eq_some_iff, Option.map_eq_some_iff] at h
      obtain ⟨c, hi, k, hk, hb⟩ := h
      obtain ⟨hlt, hp, -⟩ := Array.findIdx?_eq_some_iff_getElem.mp hi
      have hkk : u.vm.classes[c] = k := (Array.getElem?_eq_some_iff.mp hk).2
      rw [hkk] at hp
      cases hkind : k.kind with
      | array component ty =>
        rw [hkind] at hb hp
        simp at hb hp
        exact ⟨comp, c, k, rfl, hi, hk, by rw [hkind, hp, hb.1], hb.2⟩
      | _ => rw [hkind] at hb; simp at hb
  obtain ⟨k', hk', he⟩ := hvm.2.2 _ _ h3
  have hi : (U.vm.classes.findIdx? fun (x : Class) => match x.kind with | .array component _ => component == comp | _ => false) = some c := by
    have hb : U.vm.bare = u.vm.bare := by first | exact hvm.bare_eq | exact hvm.bare_eq.symm
    exact (va_idx_bare U.vm comp).symm.trans ((congrArg (fun v : Vm => v.classes.findIdx? fun (x : Class) => match x.kind with | .array component _ => component == comp | _ => false) hb).trans ((va_idx_bare u.vm comp).trans h2))
  have hkind : k'.kind = .array comp (.array .int) := by rw [he]; exact h4
  have f1 : U.vm.findClass (FieldType.array .int).toString = some comp := by rw [hvm.findClass]; exact h1
  have f2 : U.vm.findClass ("[" ++ (FieldType.array .int).toString) = some c := by rw [hvm.findClass]; exact h5
  unfold Cond.before Cond.holds
  simp only [Cond.value, beq_iff_eq]
  rw [f1, Option.bind_some]
  refine (congrArg (fun o : Option Nat => (o.bind (fun c => (U.vm.classes[c]?).map fun (k : Class) => match k.kind with | .array _ ty => decide (ty = FieldType.array .int) && decide (U.vm.findClass ("[" ++ (FieldType.array .int).toString) = some c) | _ => false))) hi).trans ?_
  simp [hk', hkind, f2]
theorem fb_E.moved {D : va_G} {aC : Nat → ClassId} {B : Nat} {sa rl : Nat → Nat} {rf : Nat → Nat → Int32} {u U : State} {H H1 : Heap} (hW : u.WarmedH U.vm) (h : fb_E D aC B sa rl rf u H) (hq : ∀ a : Nat, a < B → H1[a]? = H[a]?) : fb_E D aC B sa rl rf U H1 := by
  obtain ⟨h1, h2, h3, h4, h5, h6, h7, h8⟩ := h
  refine ⟨va_K.moved hW.alike h1, fun w hw hn => ?_, ?_, va_AO.moved hW.alike h4, va_AO.moved hW.alike h5, fb_over hW.alike h6, fun k hk => ?_, fun k hk => ?_⟩
  · have hz := h2 w hw hn
    cases w <;> first | (simp [fb_isN] at hn; done) | exact va_Nw.warmM hW hz | exact va_Nw.warmF hW hz
  · exact va_Nw.warmC hW h3
  · exact ((h7 k hk).kept (H1 := H1) (fun a _ ha => hq a (Nat.not_le.mp ha))).moved hW.alike
  · obtain ⟨g1, cell, g2, g3, g4, g5, g6, g7⟩ := h8 k hk
    exact ⟨g1, cell, by rw [hq _ g1]; exact g2, State.isArrayOf_alike hW.alike g3, g4, g5, g6, fun h => by rw [hW.alike.findClass]; exact g7 h⟩
def fb_ad (B : Nat) (sa : Nat → Nat) (i : Nat) : Nat := if i < 1000000 then B + i else sa (i - 1000000)
def fb_cv (B : Nat) (sa : Nat → Nat) : Value → Value
  | .ref i => .ref (fb_ad B sa i)
  | v => v
theorem fb_cat (B : Nat) (sa : Nat → Nat) (v : Value) : (fb_cv B sa v).category = v.category := by cases v <;> rfl
theorem fb_ad_lo {B : Nat} {sa : Nat → Nat} {i : Nat} (h : i < 1000000) : fb_ad B sa i = B + i := if_pos h
theorem fb_ad_hi {B : Nat} {sa : Nat → Nat} {k : Nat} : fb_ad B sa (1000000 + k) = sa k := by
  unfold fb_ad
  rw [if_neg (by omega), show 1000000 + k - 1000000 = k by omega]
def fb_cell (aC : Nat → ClassId) (B : Nat) (h : fb_H) (i : Nat) : va_E :=
  if (fb_T h i).1 < 10 then .inr ((fb_T h i).1, (List.range (cN (fb_T h i).1)).map (fun k => if cK (fb_T h i).1 k = true then va_rf ((fb_R h i k).map (fun a => B + a)) else .int (fb_I h i k)))
  else if (fb_T h i).1 < 13 then .inl (aC (fb_T h i).1, (fb_T h i).2, .inl (fb_I h i))
  else .inl (aC (fb_T h i).1, (fb_T h i).2, .inr (.inr (.inr (.inr (fun k => (fb_R h i k).map (fun a => B + a))))))
def fb_ws (aC : Nat → ClassId) (B : Nat) (h : fb_H) : va_W := (List.range (fb_N h)).map (fun i => (B + i, fb_cell aC B h i))
theorem fb_ws_len (aC : Nat → ClassId) (B : Nat) (h : fb_H) : (fb_ws aC B h).length = fb_N h := by simp [fb_ws]
theorem fb_ws_at {aC : Nat → ClassId} {B : Nat} {h : fb_H} {i : Nat} (hi : i < fb_N h) : (fb_ws aC B h)[i]? = some (B + i, fb_cell aC B h i) := by
  simp [fb_ws, List.getElem?_map, List.getElem?_range hi]
theorem fb_ws_some {aC : Nat → ClassId} {B : Nat} {h : fb_H} {k : Nat} {q : Nat × va_E} (e : (fb_ws aC B h)[k]? = some q) : k < fb_N h ∧ q = (B + k, fb_cell aC B h k) := by
  have hl := (List.getElem?_eq_some_iff.mp e).1
  rw [fb_ws_len] at hl
  rw [fb_ws_at hl] at e
  cases e
  exact ⟨hl, rfl⟩
theorem fb_ws_D (aC : Nat → ClassId) (B : Nat) (h : fb_H) : va_D (fun q => B ≤ q) (fb_ws aC B h) := by
  refine ⟨fun i j p q hp hq e => ?_, fun k q hq => ?_⟩
  · obtain ⟨-, rfl⟩ := fb_ws_some hp
    obtain ⟨-, rfl⟩ := fb_ws_some hq
    have e : B + i = B + j := e
    omega
  · obtain ⟨-, rfl⟩ := fb_ws_some hq
    exact Nat.le_add_right B k
theorem fb_ws_set {aC : Nat → ClassId} {B : Nat} {h h' : fb_H} {a : Nat} {e : va_E} (hN : fb_N h' = fb_N h) (hc : fb_cell aC B h' a = e) (ho : ∀ i, i ≠ a → fb_cell aC B h' i = fb_cell aC B h i) : (fb_ws aC B h).set a (B + a, e) = fb_ws aC B h' := by
  apply List.ext_getElem?
  intro k
  by_cases hk : k < fb_N h
  · rw [fb_ws_at (h := h') (by rw [hN]; exact hk), List.getElem?_set]
    by_cases ha : a = k
    · subst ha
      rw [if_pos rfl, if_pos (by rw [fb_ws_len]; exact hk), hc]
    · rw [if_neg ha, fb_ws_at hk, ho k (Ne.symm ha)]
  · rw [List.getElem?_eq_none (by rw [List.length_set, fb_ws_len]; omega), List.getElem?_eq_none (by rw [fb_ws_len]; omega)]
/-- what a heap must be -/
def fb_G (rl : Nat → Nat) (rf : Nat → Nat → Int32) (h : fb_H) : Prop := fb_N h < 1000000 ∧ (∀ i k a, fb_R h i k = some a → a < fb_N h) ∧ (∀ i, (fb_T h i).1 < 16 → i < fb_N h) ∧ (∀ i, (fb_T h i).1 = 16 → ∃ k, k < 7 ∧ i = 1000000 + k ∧ (fb_T h i).2 = rl k ∧ ∀ q, fb_I h i q = rf k q) ∧ (∀ i, i < fb_N h → (fb_T h i).1 < 7 ∨ (10 ≤ (fb_T h i).1 ∧ (fb_T h i).1 < 16))
def fb_L (B : Nat) (sa : Nat → Nat) (n : Nat) (ls : List Value) (lsr : Array Slot) : Prop := ls.length = n ∧ ∃ l, lv_has lsr n l ∧ ∀ (i : Nat) (v : Value), ls[i]? = some v → v ≠ .null → (i, fb_cv B sa v) ∈ l
theorem fb_L.at {B : Nat} {sa : Nat → Nat} {n : Nat} {ls : List Value} {lsr : Array Slot} (h : fb_L B sa n ls lsr) {i : Nat} {v : Value} (hi : ls[i]? = some v) (hv : v ≠ .null) : lsr[i]? = some (.val (fb_cv B sa v)) := by
  obtain ⟨-, l, hl, hm⟩ := h
  exact hl.2.2 _ (hm i v hi hv)
theorem fb_put {B : Nat} {sa : Nat → Nat} {ls ls' : List Value} {i n : Nat} {v : Value} {l : List (Nat × Value)} (e : fb_p1 ls i v = some ls') (hl : ls.length = n) (hm : ∀ (i : Nat) (v : Value), ls[i]? = some v → v ≠ .null → (i, fb_cv B sa v) ∈ l) : i < n ∧ ∀ lsr' : Array Slot, lv_has lsr' n ((i, fb_cv B sa v) :: l.filter (fun q => !(q.1 == i) && !(q.1 + 1 == i && q.2.category == 2))) → fb_L B sa n ls' lsr' := by
  unfold fb_p1 at e
  split at e
  · rename_i hc
    cases e
    refine ⟨by rw [← hl]; exact hc.1, fun lsr' h' => ⟨by rw [List.length_set]; exact hl, _, h', fun q w hq hw => ?_⟩⟩
    by_cases hqi : q = i
    · subst hqi
      rw [List.getElem?_set_self hc.1] at hq
      cases hq
      exact List.mem_cons_self
    · rw [List.getElem?_set_ne (Ne.symm hqi)] at hq
      refine List.mem_cons_of_mem _ (List.mem_filter.mpr ⟨hm q w hq hw, ?_⟩)
      have h2 : ¬ (q + 1 = i ∧ (fb_cv B sa w).category = 2) := by
        rintro ⟨h3, h4⟩
        rw [fb_cat] at h4
        rcases hc.2 with h5 | h5
        · omega
        · rw [show i - 1 = q by omega, List.getD_eq_getElem?_getD, hq] at h5
          have h5 : w.category = 1 := h5
          omega
      simp only [Bool.and_eq_true, Bool.not_eq_true', beq_eq_false_iff_ne, ne_eq, Bool.and_eq_false_imp, beq_iff_eq]
      exact ⟨hqi, fun h3 h4 => h2 ⟨h3, h4⟩⟩
  · cases e
theorem fb_xp_len (B : Nat) (sa : Nat → Nat) (as : List Value) : (lg_sl (as.map (fb_cv B sa))).length = (fb_xp as).length := by
  induction as with
  | nil => rfl
  | cons v r ih =>
    simp only [lg_sl, List.map_cons, List.flatMap_cons, List.length_append, fb_cat] at ih ⊢
    unfold fb_xp
    split <;> simp_all <;> omega
theorem fb_xp_at (B : Nat) (sa : Nat → Nat) : ∀ (as : List Value) (k i : Nat) (v : Value), (fb_xp as)[i]? = some v → v ≠ .null → (k + i, fb_cv B sa v) ∈ lv_args k (as.map (fb_cv B sa))
  | [], k, i, v, h, _ => by simp [fb_xp] at h
  | w :: r, k, i, v, h, hv => by
    unfold fb_xp at h
    simp only [List.map_cons, lv_args, fb_cat]
    split at h
    · rename_i hc
      rw [if_pos hc]
      match i, h with
      | 0, h => cases h; exact List.mem_cons_self
      | 1, h => cases h; exact absurd rfl hv
      | i + 2, h =>
        have := fb_xp_at B sa r (k + 2) i v h hv
        rw [show k + (i + 2) = k + 2 + i by omega]
        exact List.mem_cons_of_mem _ this
    · rename_i hc
      rw [if_neg hc]
      match i, h with
      | 0, h => cases h; exact List.mem_cons_self
      | i + 1, h =>
        have := fb_xp_at B sa r (k + 1) i v h hv
        rw [show k + (i + 1) = k + 1 + i by omega]
        exact List.mem_cons_of_mem _ this
theorem fb_L.entry (B : Nat) (sa : Nat → Nat) {as : List Value} {n : Nat} (h : (fb_xp as).length ≤ n) : fb_L B sa n (fb_en as n) ((lg_sl (as.map (fb_cv B sa)) ++ List.replicate (n - (lg_sl (as.map (fb_cv B sa))).length) Slot.unset).toArray) := by
  refine ⟨by simp [fb_en]; omega, _, lv_entry (as.map (fb_cv B sa)) (by rw [fb_xp_len]; exact h), fun i v hi hv => ?_⟩
  unfold fb_en at hi
  by_cases hl : i < (fb_xp as).length
  · rw [List.getElem?_append_left hl] at hi
    have := fb_xp_at B sa as 0 i v hi hv
    rwa [Nat.zero_add] at this
  · rw [List.getElem?_append_right (by omega)] at hi
    have := List.mem_of_getElem? hi
    exact absurd (List.eq_of_mem_replicate this) hv
