/-! voicings: without own faults, sorted; the nearest -/
section PG
variable {S : Co} {c n k : Nat} {A : AS} {v w p : Nat × Nat × Nat}
def cd3 (v : Nat × Nat × Nat) : Nat := 10000 * v.1 + 100 * v.2.1 + v.2.2
theorem inS_m {t a : Nat} (h : v ∈ inS S n t a) : okv S n v = true ∧ v.1 = t ∧ v.2.1 = a ∧ 58 ≤ v.2.2 ∧ v.2.2 ≤ 79 := by
  unfold inS at h
  obtain ⟨h1, h2⟩ := List.mem_filter.mp h
  obtain ⟨k, hk, rfl⟩ := List.mem_map.mp h1
  have := List.mem_range.mp hk
  exact ⟨h2, rfl, rfl, by show 58 ≤ 58 + k; omega, by show 58 + k ≤ 79; omega⟩
theorem inA_m {t : Nat} (h : v ∈ inA S n t) : okv S n v = true ∧ v.1 = t ∧ (53 ≤ v.2.1 ∧ v.2.1 ≤ 74) ∧ 58 ≤ v.2.2 ∧ v.2.2 ≤ 79 := by
  unfold inA at h
  obtain ⟨k, hk, h1⟩ := List.mem_flatMap.mp h
  have := List.mem_range.mp hk
  obtain ⟨a1, a2, a3, a4, a5⟩ := inS_m h1
  exact ⟨a1, a2, by omega, a4, a5⟩
theorem wys_m (h : v ∈ wys S n) : okv S n v = true ∧ (48 ≤ v.1 ∧ v.1 ≤ 67) ∧ (53 ≤ v.2.1 ∧ v.2.1 ≤ 74) ∧ 58 ≤ v.2.2 ∧ v.2.2 ≤ 79 := by
  unfold wys at h
  obtain ⟨k, hk, h1⟩ := List.mem_flatMap.mp h
  have := List.mem_range.mp hk
  obtain ⟨a1, a2, a3, a4, a5⟩ := inA_m h1
  exact ⟨a1, by omega, a3, a4, a5⟩
theorem wys_V (h : v ∈ wys S n) : VV v := by
  obtain ⟨_, a2, a3, a4⟩ := wys_m h
  exact ⟨by omega, by omega, by omega⟩
theorem wys_o (h : v ∈ wys S n) : own S.1.1 S.1.2.1 (ch S n).1 v (tn S n) = 0 := by
  have := (wys_m h).1
  unfold okv at this
  exact of_decide_eq_true this
theorem getD_m {l : List (Nat × Nat × Nat)} (h : k < l.length) : l.getD k (0, 0, 0) ∈ l := by
  rw [List.getD_eq_getElem?_getD, List.getElem?_eq_getElem h, Option.getD_some]
  exact List.getElem_mem h
theorem inS_p (S : Co) (n t a : Nat) : (inS S n t a).Pairwise (fun v w => cd3 v < cd3 w) := by
  unfold inS
  refine List.Pairwise.filter _ ?_
  rw [List.pairwise_map]
  refine List.Pairwise.imp ?_ List.pairwise_lt_range
  intro i j h
  unfold cd3
  dsimp only
  omega
theorem inA_p (S : Co) (n t : Nat) : (inA S n t).Pairwise (fun v w => cd3 v < cd3 w) := by
  unfold inA
  rw [List.pairwise_flatMap]
  refine ⟨fun k _ => inS_p S n t _, ?_⟩
  refine List.Pairwise.imp ?_ List.pairwise_lt_range
  intro i j h v hv w hw
  obtain ⟨_, a1, a2, a3, a4⟩ := inS_m hv
  obtain ⟨_, b1, b2, b3, b4⟩ := inS_m hw
  unfold cd3
  omega
theorem wys_p (S : Co) (n : Nat) : (wys S n).Pairwise (fun v w => cd3 v < cd3 w) := by
  unfold wys
  rw [List.pairwise_flatMap]
  refine ⟨fun k _ => inA_p S n _, ?_⟩
  refine List.Pairwise.imp ?_ List.pairwise_lt_range
  intro i j h v hv w hw
  obtain ⟨_, a1, a2, a3, a4⟩ := inA_m hv
  obtain ⟨_, b1, b2, b3, b4⟩ := inA_m hw
  unfold cd3
  omega
theorem wys_lt (h : k + 1 < (wys S n).length) : cd3 ((wys S n).getD k (0, 0, 0)) < cd3 ((wys S n).getD (k + 1) (0, 0, 0)) := by
  have g := List.pairwise_iff_getElem.mp (wys_p S n) k (k + 1) (by omega) h (by omega)
  rw [List.getD_eq_getElem?_getD, List.getElem?_eq_getElem (by omega), Option.getD_some, List.getD_eq_getElem?_getD, List.getElem?_eq_getElem h, Option.getD_some]
  exact g
theorem wys_no (h : tn S n = 0) : wys S n = [] := by
  unfold wys
  rw [List.flatMap_eq_nil_iff]
  intro k _
  exact inA_nil (by rw [h]; exact Nat.zero_testBit _)
/-- the fold of the nearest, so far -/
def nrs (S : Co) (n : Nat) (p : Nat × Nat × Nat) (l : List (Nat × Nat × Nat)) (k : Nat) : Option (Nat × Nat × Nat) × Nat := (List.range k).foldl (fun acc k => nst S n p acc (l.getD k (0, 0, 0))) (none, 1000000)
theorem nrs_s {l : List (Nat × Nat × Nat)} : nrs S n p l (k + 1) = nst S n p (nrs S n p l k) (l.getD k (0, 0, 0)) := by
  unfold nrs
  rw [List.range_succ, List.foldl_append]
  rfl
theorem nrs_i {l : List (Nat × Nat × Nat)} : ∀ k, k ≤ l.length → ((nrs S n p l k).1 = none → (nrs S n p l k).2 = 1000000) ∧ ∀ v, (nrs S n p l k).1 = some v → v ∈ l ∧ (nrs S n p l k).2 = dst p v ∧ bhd S.1.1 S.1.2.2 (ch S (n - 1)).1 p (ch S n).1 v (tn S n) = 0
  | 0, _ => ⟨fun _ => rfl, fun v h => by cases h⟩
  | k + 1, hk => by
    have ih := nrs_i (l := l) k (by omega)
    rw [nrs_s]
    unfold nst
    split
    · rename_i h
      refine ⟨fun e => (by cases e), fun v e => ?_⟩
      cases e
      exact ⟨getD_m (by omega), rfl, h.2⟩
    · exact ih
def nrl (a : Option (Nat × Nat × Nat) × Nat) : Int := match a.1 with
  | none => 1000
  | some _ => (a.2 : Int)
def nrf (a : Option (Nat × Nat × Nat) × Nat) : Int := match a.1 with
  | none => -1
  | some v => (cd3 v : Int)
/-- the voicing told by the nearest has no fault -/
theorem nr_v (h : c < A.1.2.length) (hp : pre A.1 c = some p) : (∀ v, (near A.1 c p (wys A.1 c)).1 = some v → v ∈ wys A.1 c ∧ (near A.1 c p (wys A.1 c)).2 = dst p v ∧ flw A.1 c v = 0) := by
  intro v e
  have g := (nrs_i (S := A.1) (n := c) (p := p) (l := wys A.1 c) _ (Nat.le_refl _)).2 v e
  refine ⟨g.1, g.2.1, ?_⟩
  rw [flw_s hp, wys_o g.1, g.2.2]
theorem ne_o {w : Int} (h : c < A.1.2.length) (hw : 0 ≤ w ∧ w ≤ 3) (hp : pre A.1 c = none) : opNear A (c : Int) w = -5 := by
  unfold opNear
  rw [if_neg (of_x (w := 0) h), if_neg (by omega), Int.toNat_natCast, hp]
theorem ne_n {w : Int} (h : c < A.1.2.length) (hw : 0 ≤ w ∧ w ≤ 3) (hp : pre A.1 c = some p) (hn : (near A.1 c p (wys A.1 c)).1 = none) : opNear A (c : Int) w = -6 := by
  unfold opNear
  rw [if_neg (of_x (w := 0) h), if_neg (by omega), Int.toNat_natCast, hp]
  dsimp only
  rw [hn]
theorem ne_3 (h : c < A.1.2.length) (hp : pre A.1 c = some p) (hn : (near A.1 c p (wys A.1 c)).1 = some v) : opNear A (c : Int) 3 = (dst p v : Int) := by
  unfold opNear
  rw [if_neg (of_x (w := 0) h), if_neg (by omega), Int.toNat_natCast, hp]
  dsimp only
  rw [hn]
  rfl
theorem ne_w {w : Int} (h : c < A.1.2.length) (hw : 0 ≤ w ∧ w ≤ 2) (hp : pre A.1 c = some p) (hn : (near A.1 c p (wys A.1 c)).1 = some v) : opNear A (c : Int) w = (nt 0 v (w.toNat + 1) : Int) := by
  unfold opNear
  rw [if_neg (of_x (w := 0) h), if_neg (by omega), Int.toNat_natCast, hp]
  dsimp only
  rw [hn]
  dsimp only
  rw [if_neg (by omega)]
end PG
/-! what realise gives -/
section PR
variable {S : Co} {c n k : Nat} {A : AS} {v w p : Nat × Nat × Nat}
theorem wgh_v (S : Co) (c : Nat) (v : Nat × Nat × Nat) (g : Nat → Nat) : ∀ q, (wgh S c v g).2 = some q → (wgh S c v g).1 = dst v ((chl S (c + 1)).getD q (0, 0, 0)) + g q ∧ jok S c v ((chl S (c + 1)).getD q (0, 0, 0)) = true := by
  have h := (lf0 (fun _ _ => True) (wst S c v g) (fun a k => ∀ q, a.2 = some q → a.1 = dst v ((chl S (c + 1)).getD q (0, 0, 0)) + g q ∧ jok S c v ((chl S (c + 1)).getD q (0, 0, 0)) = true) (chl S (c + 1)).length (fun a k _ h => ⟨?_, rfl⟩) (1000000, none) (fun q h => by cases h)).2
  · exact h
  · unfold wst
    split
    · rename_i w
      intro q e
      cases e
      exact ⟨rfl, w.2⟩
    · exact h
theorem lst_v (S : Co) : ∀ q, (lst S).2 = some q → (lst S).1 = (tgc S 0 q).1 := by
  have h := (lf0 (fun _ _ => True) (lsf S) (fun a k => ∀ q, a.2 = some q → a.1 = (tgc S 0 q).1) (chl S 0).length (fun a k _ h => ⟨?_, rfl⟩) (1000000, none) (fun q h => by cases h)).2
  · exact h
  · unfold lsf
    split
    · intro q e
      cases e
      rfl
    · exact h
/-- the voices that a chord gets -/
def vw (S : Co) (c : Nat) : Nat × Nat × Nat := (chl S c).getD ((pth S c).getD 0) (0, 0, 0)
theorem rel_1 (S : Co) : ∀ k, (rel S k).1 = S.1
  | 0 => rfl
  | k + 1 => by
    show (match pth S k with
      | some r => gv (rel S k) k (some ((chl S k).getD r (0, 0, 0)))
      | none => rel S k).1 = _
    cases pth S k with
    | none => exact rel_1 S k
    | some r => exact rel_1 S k
theorem ch_rel (h : (lst S).1 < 1000000) : ∀ k, k ≤ S.2.length → ∀ c, ch (rel S k) c = if c < k then ((ch S c).1, (ch S c).2.1, some (vw S c)) else ch S c
  | 0, _, c => rfl
  | k + 1, hk, c => by
    obtain ⟨r, e1, e2, e3⟩ := rel_s h (show k < S.2.length by omega)
    have ih := ch_rel h k (by omega)
    rw [e3, ch_gv (by rw [rel_len]; omega), ih k, ih c, if_neg (Nat.lt_irrefl k)]
    by_cases q : c = k
    · subst q
      rw [if_pos rfl, if_pos (Nat.lt_succ_self c)]
      unfold vw
      rw [e1]
      rfl
    · rw [if_neg q]
      by_cases q2 : c < k
      · rw [if_pos q2, if_pos (by omega)]
      · rw [if_neg q2, if_neg (by omega)]
theorem ch_re (h : (lst S).1 < 1000000) (hc : c < S.2.length) : ch (rel S S.2.length) c = ((ch S c).1, (ch S c).2.1, some (vw S c)) := by
  rw [ch_rel h _ (Nat.le_refl _), if_pos hc]
theorem tn_re (h : (lst S).1 < 1000000) (hc : c < S.2.length) : tn (rel S S.2.length) c = tn S c := by
  unfold tn
  rw [rel_1, ch_re h hc]
theorem vw_own (hv : (ch S c).2.2 = some v) (h : (lst S).1 < 1000000) (hc : c < S.2.length) : vw S c = v := by
  obtain ⟨r, e1, e2, _⟩ := pth_q h c hc
  unfold vw
  rw [e1]
  have : chl S c = [v] := by unfold chl; rw [hv]
  rw [this] at e2 ⊢
  have : r = 0 := by simp at e2; omega
  subst this
  rfl
theorem vw_wys (hv : (ch S c).2.2 = none) (h : (lst S).1 < 1000000) (hc : c < S.2.length) : vw S c ∈ wys S c := by
  obtain ⟨r, e1, e2, _⟩ := pth_q h c hc
  unfold vw
  rw [e1]
  have : chl S c = wys S c := by unfold chl; rw [hv]
  rw [this] at e2 ⊢
  exact getD_m e2
/-- each join is good, and the costs left to go -/
theorem vw_go (h : (lst S).1 < 1000000) (hc : c + 1 < S.2.length) : ∃ r q, pth S c = some r ∧ pth S (c + 1) = some q ∧ (tgc S c r).1 = dst (vw S c) (vw S (c + 1)) + (tgc S (c + 1) q).1 ∧ jok S c (vw S c) (vw S (c + 1)) = true := by
  obtain ⟨r, e1, e2, e3⟩ := pth_q h c (by omega)
  obtain ⟨q, f1, f2, f3⟩ := pth_q h (c + 1) hc
  have e4 : (tgc S c r).2 = some q := by
    have : (match pth S c with
      | some r => (tgc S c r).2
      | none => none) = some q := f1
    rw [e1] at this
    exact this
  have t := tgc_step (r := r) hc
  have g := wgh_v S c ((chl S c).getD r (0, 0, 0)) (fun q => (tgc S (c + 1) q).1) q (by rw [← t]; exact e4)
  rw [← t] at g
  refine ⟨r, q, e1, f1, ?_, ?_⟩
  · unfold vw
    rw [e1, f1]
    exact g.1
  · unfold vw
    rw [e1, f1]
    exact g.2
/-- the cost of a chord then -/
def cw (S : Co) : Nat → Nat
  | 0 => 0
  | c + 1 => dst (vw S c) (vw S (c + 1))
def cws (S : Co) (k : Nat) : Nat := (List.range k).foldl (fun a c => a + cw S c) 0
theorem cws_s : cws S (k + 1) = cws S k + cw S k := by
  unfold cws
  rw [List.range_succ, List.foldl_append]
  rfl
theorem lst_c (h : (lst S).1 < 1000000) : ∀ c, c < S.2.length → ∃ r, pth S c = some r ∧ (lst S).1 = cws S (c + 1) + (tgc S c r).1
  | 0, hc => by
    obtain ⟨r, e1, e2, e3⟩ := pth_q h 0 hc
    have : cws S (0 + 1) = 0 := rfl
    exact ⟨r, e1, by rw [this, lst_v S r e1]; omega⟩
  | c + 1, hc => by
    obtain ⟨r, e1, e2⟩ := lst_c h c (by omega)
    obtain ⟨r', q, f1, f2, f3, f4⟩ := vw_go h hc
    rw [e1] at f1
    cases f1
    refine ⟨q, f2, ?_⟩
    rw [e2, f3, cws_s (k := c + 1)]
    show _ = cws S (c + 1) + dst (vw S c) (vw S (c + 1)) + _
    omega
theorem lst_e (h : (lst S).1 < 1000000) (hn : 0 < S.2.length) : (lst S).1 = cws S S.2.length := by
  obtain ⟨r, e1, e2⟩ := lst_c h (S.2.length - 1) (by omega)
  rw [e2, tgc_last (by omega), show S.2.length - 1 + 1 = S.2.length by omega]
  rfl
theorem pre_re (h : (lst S).1 < 1000000) (hc : c < S.2.length) : pre (rel S S.2.length) c = match c with
    | 0 => none
    | k + 1 => some (vw S k) := by
  cases c with
  | zero => rfl
  | succ k =>
    show (ch (rel S S.2.length) k).2.2 = some (vw S k)
    rw [ch_re h (by omega)]
theorem cst_re (h : (lst S).1 < 1000000) (hc : c < S.2.length) : cst (rel S S.2.length) c = cw S c := by
  unfold cst
  rw [pre_re h hc, ch_re h hc]
  cases c <;> rfl
theorem fold_e {f g : Nat → Nat} : ∀ n, (∀ c, c < n → f c = g c) → (List.range n).foldl (fun a c => a + f c) 0 = (List.range n).foldl (fun a c => a + g c) 0
  | 0, _ => rfl
  | n + 1, h => by
    rw [List.range_succ, List.foldl_append, List.foldl_append, fold_e n fun c hc => h c (by omega)]
    show _ + f n = _ + g n
    rw [h n (by omega)]
theorem fold_l {f g : Nat → Nat} : ∀ n, (∀ c, c < n → f c ≤ g c) → (List.range n).foldl (fun a c => a + f c) 0 ≤ (List.range n).foldl (fun a c => a + g c) 0
  | 0, _ => Nat.le_refl _
  | n + 1, h => by
    rw [List.range_succ, List.foldl_append, List.foldl_append]
    have ih := fold_l n fun c hc => h c (by omega)
    have h1 := h n (by omega)
    show _ + f n ≤ _ + g n
    omega
theorem cstA_re (h : (lst S).1 < 1000000) (hn : 0 < S.2.length) : cstA (rel S S.2.length) = (lst S).1 := by
  unfold cstA
  rw [rel_len, lst_e h hn]
  exact fold_e _ fun c hc => cst_re h hc
theorem cstA_le (h : (lst S).1 < 1000000) (hn : 0 < S.2.length) : cstA S ≤ (lst S).1 := by
  rw [lst_e h hn]
  unfold cstA cws
  refine fold_l _ fun c hc => ?_
  unfold cst
  cases c with
  | zero => exact Nat.zero_le _
  | succ k =>
    show (match (ch S k).2.2, (ch S (k + 1)).2.2 with
      | some p, some v => dst p v
      | _, _ => 0) ≤ dst (vw S k) (vw S (k + 1))
    cases h1 : (ch S k).2.2 with
    | none => exact Nat.zero_le _
    | some p =>
      cases h2 : (ch S (k + 1)).2.2 with
      | none => exact Nat.zero_le _
      | some v =>
        rw [vw_own h1 h (by omega), vw_own h2 h hc]
        exact Nat.le_refl _
theorem vcs_re (h : (lst S).1 < 1000000) : vcs (rel S S.2.length) = 2 ^ S.2.length - 1 := by
  have g := vcs_all (S := rel S S.2.length) fun k hk => by
    rw [rel_len] at hk
    rw [ch_re h hk]
    rfl
  rw [rel_len] at g
  exact g
theorem flt_re (h : (lst S).1 < 1000000) (hc : c < S.2.length) : flt (rel S S.2.length) c = flw (rel S S.2.length) c (vw S c) := by
  unfold flt
  rw [ch_re h hc]
/-- a voicing that was given has no own faults -/
theorem fl_own (h : (lst S).1 < 1000000) (hc : c < S.2.length) (hn : (ch S c).2.2 = none) : flt (rel S S.2.length) c % 32 = 0 := by
  rw [flt_re h hc, flw_m, tn_re h hc, rel_1, ch_re h hc]
  exact wys_o (vw_wys hn h hc)
theorem fl_bhd (h : (lst S).1 < 1000000) (hc : c < S.2.length) (hn : c = 0 ∨ (ch S c).2.2 = none ∨ (ch S (c - 1)).2.2 = none) : flt (rel S S.2.length) c / 32 = 0 := by
  rw [flt_re h hc]
  cases c with
  | zero =>
    rw [flw_n (by rw [pre_re h hc])]
    have := own_lt (rel S S.2.length).1.1 (rel S S.2.length).1.2.1 (ch (rel S S.2.length) 0).1 (vw S 0) (tn (rel S S.2.length) 0)
    omega
  | succ k =>
    rw [flw_d (p := vw S k) (by rw [pre_re h hc]), tn_re h hc, rel_1, ch_re h hc, Nat.add_sub_cancel, ch_re h (show k < S.2.length by omega)]
    obtain ⟨r, q, _, _, _, j⟩ := vw_go h hc
    unfold jok at j
    have hn2 : ((ch S k).2.2.isSome && (ch S (k + 1)).2.2.isSome) = false := by
      rcases hn with hn | hn | hn
      · exact absurd hn (by omega)
      · rw [hn]; exact Bool.and_false _
      · rw [Nat.add_sub_cancel] at hn; rw [hn]; rfl
    rw [hn2, Bool.false_or] at j
    dsimp only
    rw [of_decide_eq_true j]
/-- if all have voices it can be done -/
theorem tgc_all (hv : VS S) (h : ∀ k, k < S.2.length → (ch S k).2.2.isSome = true) : ∀ d c, c + d + 1 = S.2.length → (tgc S c 0).1 ≤ 300 * d
  | 0, c, e => by rw [tgc_last (by omega)]; exact Nat.zero_le _
  | d + 1, c, e => by
    have ih := tgc_all hv h d (c + 1) (by omega)
    rw [tgc_step (by omega)]
    have h1 := h (c + 1) (by omega)
    have h0 := h c (by omega)
    obtain ⟨w, hw⟩ := Option.isSome_iff_exists.mp h1
    obtain ⟨v, hv0⟩ := Option.isSome_iff_exists.mp h0
    have e1 : chl S (c + 1) = [w] := by unfold chl; rw [hw]
    have e0 : chl S c = [v] := by unfold chl; rw [hv0]
    have hl := hv.2.2.2.1
    have d1 := dst_lt ((hv.2.2.2.2 c (by omega)).2.2.2 v hv0) ((hv.2.2.2.2 (c + 1) (by omega)).2.2.2 w hw)
    unfold wgh
    rw [e1, e0]
    show (wst S c v (fun q => (tgc S (c + 1) q).1) (1000000, none) 0).1 ≤ _
    unfold wst jok
    rw [e1, h1, h0, if_pos ⟨by show dst v w + (tgc S (c + 1) 0).1 < 1000000; omega, rfl⟩]
    show dst v w + (tgc S (c + 1) 0).1 ≤ _
    omega
theorem lsr_all (hv : VS S) (hn : 0 < S.2.length) (h : ∀ k, k < S.2.length → (ch S k).2.2.isSome = true) : 0 ≤ lsr S := by
  have hl := hv.2.2.2.1
  have g := tgc_all hv h (S.2.length - 1) 0 (by omega)
  obtain ⟨v, hv0⟩ := Option.isSome_iff_exists.mp (h 0 hn)
  have e0 : chl S 0 = [v] := by unfold chl; rw [hv0]
  have e : (lst S).1 < 1000000 := by
    unfold lst
    rw [e0]
    show (lsf S (1000000, none) 0).1 < 1000000
    unfold lsf
    rw [if_pos (by show (tgc S 0 0).1 < 1000000; omega)]
    show (tgc S 0 0).1 < 1000000
    omega
  unfold lsr
  rw [if_neg (by omega), if_pos e]
  omega
end PR
