section FBV
variable {p : Program} {l : Launch} {e : Env} {R : Room} {s : State} {m : MethodId} {args : Array Value} {below : List Frame} {meth : Method} {c : Code} {Q : State → Prop}
variable {D : va_G} {aC : Nat → ClassId} {B : Nat} {sa rl : Nat → Nat} {rf : Nat → Nat → Int32} {n0 z0 j pc : Nat} {ls st : List Value} {h : fb_H}
theorem fb_as_of {y : Nat} {st : List Value} (h : mN y ≤ st.length) : st = (fb_as y st).reverse ++ st.drop (mN y) ∧ (fb_as y st).length = mN y := by
  unfold fb_as
  rw [List.reverse_reverse, List.take_append_drop, List.length_reverse, List.length_take]
  exact ⟨rfl, by omega⟩
theorem fb_ca_of {ins : Instr} {len y : Nat} {as rest : List Value} (hc : fb_ca j ins len st h = some (y, as, rest)) : ∃ (i k1 : Nat), fb_fd fb_il (fb_ky j i) = some (k1, y) ∧ fb_ck j y st = true ∧ st = as.reverse ++ rest ∧ as.length = mN y ∧ rest = st.drop (mN y) ∧ as = fb_as y st ∧
    ((ins = .invokevirtual i ∧ len = 3 ∧ (k1 = 0 ∨ k1 = 3) ∧ ∃ (b : Nat) (As : List Value), as = .ref b :: As ∧ (fb_T h b).1 = oC (mO y)) ∨ (ins = .invokestatic i ∧ len = 3 ∧ (k1 = 1 ∨ k1 = 4)) ∨ (ins = .invokespecial i ∧ len = 3 ∧ (k1 = 2 ∨ k1 = 5) ∧ ∃ (b : Nat) (As : List Value), as = .ref b :: As)) := by
  unfold fb_ca at hc
  split at hc
  · rename_i i
    split at hc
    · rename_i k1 y1 hf
      split at hc
      · rename_i hk
        split at hc
        · rename_i b As ha
          split at hc
          · rename_i hcc
            cases hc
            have hl : mN y ≤ st.length := by
              have := hcc.1
              unfold fb_ck at this
              simp only [Bool.and_eq_true, decide_eq_true_eq] at this
              exact this.1.1.1
            obtain ⟨q1, q2⟩ := fb_as_of hl
            rw [ha] at q1 q2
            exact ⟨i, k1, hf, hcc.1, q1, q2, rfl, ha.symm, Or.inl ⟨rfl, rfl, hk, b, As, rfl, hcc.2⟩⟩
          · cases hc
        · cases hc
      · cases hc
    · cases hc
  · rename_i i
    split at hc
    · rename_i k1 y1 hf
      split at hc
      · rename_i hcc
        cases hc
        have hl : mN y ≤ st.length := by
          have := hcc.2
          unfold fb_ck at this
          simp only [Bool.and_eq_true, decide_eq_true_eq] at this
          exact this.1.1.1
        obtain ⟨q1, q2⟩ := fb_as_of hl
        exact ⟨i, k1, hf, hcc.2, q1, q2, rfl, rfl, Or.inr (Or.inl ⟨rfl, rfl, hcc.1⟩)⟩
      · cases hc
    · cases hc
  · rename_i i
    split at hc
    · rename_i k1 y1 hf
      split at hc
      · rename_i hk
        split at hc
        · rename_i b As ha
          split at hc
          · rename_i hcc
            cases hc
            have hl : mN y ≤ st.length := by
              have := hcc
              unfold fb_ck at this
              simp only [Bool.and_eq_true, decide_eq_true_eq] at this
              exact this.1.1.1
            obtain ⟨q1, q2⟩ := fb_as_of hl
            rw [ha] at q1 q2
            exact ⟨i, k1, hf, hcc, q1, q2, rfl, ha.symm, Or.inr (Or.inr ⟨rfl, rfl, hk, b, As, rfl⟩)⟩
          · cases hc
        · cases hc
      · cases hc
    · cases hc
  · cases hc
theorem fb_cb {y i k n : Nat} (X : fb_X p R s m args meth c D aC B sa rl rf n0 j) (hy : y < 188) (hD : mD y < mD j) (hl : Cond.methodLink (oN (mO j)) i (mY y) ∈ fb_W) : CallB R s args (oN (mO j)) i (mY y) (mB y) (mL y) (mR y) (fb_wd y) (fb_rm y k n) k n (if mS y then mN y else mN y - 1) := by
  obtain ⟨hx, hb, hml, hown, hts, hE, hsz, hnm, hfr, hlo⟩ := X
  obtain ⟨h1, h2, h3, h4, h5⟩ := mN_ok y hy
  refine callB_of (ws' := fb_W) _ hts (fb_good y hy) rfl rfl rfl (hts _ (fb_inW (oP_ok y hy).1 rfl)) (hts _ hl) ⟨h2.1, h2.2, h3⟩ ⟨?_, ?_⟩
  · show mD y + 1 ≤ R.frames; omega
  · show 8 + (mL y + 11) + 40 * mD y ≤ R.locals; omega
theorem fb_cn {y i k n : Nat} (X : fb_X p R s m args meth c D aC B sa rl rf n0 j) (hy : y < 188) (hD : mD y < mD j) (hl : Cond.methodLinkNest (oN (mO j)) i (mY y) "FiguredBasses" ∈ lw_tbl) : va_CN R s args (oN (mO j)) i (mY y) "FiguredBasses" (mB y) (mL y) (mR y) (fb_wd y) (fb_rm y k n) k n (if mS y then mN y else mN y - 1) := by
  obtain ⟨hx, hb, hml, hown, hts, hE, hsz, hnm, hfr, hlo⟩ := X
  obtain ⟨h1, h2, h3, h4, h5⟩ := mN_ok y hy
  refine va_cnB (ws' := fb_W) _ hts (fb_good y hy) rfl rfl rfl (hE.2.1 _ hl rfl) (hts _ (fb_inW (oP_ok y hy).1 rfl)) ⟨h2.1, h2.2, h3⟩ ⟨?_, ?_⟩
  · show mD y + 1 ≤ R.frames; omega
  · show 8 + (mL y + 11) + 40 * mD y ≤ R.locals; omega
theorem fb_il_at {i k1 y : Nat} (hf : fb_fd fb_il (fb_ky j i) = some (k1, y)) : y < 188 ∧ (k1 < 3 → Cond.methodLink (oN (mO j)) i (mY y) ∈ fb_W) ∧ (3 ≤ k1 → k1 < 6 → Cond.methodLinkNest (oN (mO j)) i (mY y) "FiguredBasses" ∈ lw_tbl)
    ∧ (k1 = 0 ∨ k1 = 3 → mS y = false ∧ (mY y).name ≠ "<init>" ∧ cX (oC (mO y)) = (mY y).cls ∧ oC (mO y) < 7) ∧ (k1 = 1 ∨ k1 = 4 → mS y = true) ∧ (k1 = 2 ∨ k1 = 5 → mS y = false ∧ (mY y).name = "<init>" ∧ mR y = none) := by
  obtain ⟨q, hq, e1, e2⟩ := fb_cls hf
  obtain ⟨g1, g2, g3, g4, g5, g6, g7, g8⟩ := fb_il_ok _ hq
  dsimp only at g1 g2 g3 g6 g7 g8
  rw [e1, e2] at g2 g3
  exact ⟨g1, fun w => fb_inW (g2 w) rfl, fun w w2 => List.mem_of_getElem? (g3 w w2), g6, g7, g8⟩
theorem fb_pre {as : List Value} {H : Heap} {locs : List Loc} (X : fb_X p R s m args meth c D aC B sa rl rf n0 j) (hP : va_P D vwCl (fb_ws aC B h) H) (hS : va_S (fun q => B ≤ q) s.heap H locs) (hH : H.size = B + fb_N h) : ∀ U : State, U.heap = H → s.WarmedH U.vm → fb_P D aC B sa rl rf as h (as.map (fb_cv B sa)).toArray U := by
  intro U hU hW
  obtain ⟨hx, hb, hml, hown, hts, hE, hsz, hnm, hfr, hlo⟩ := X
  refine ⟨rfl, fb_E.moved hW hE (fun a ha => ?_), by rw [hU]; exact hP, by rw [hU]; exact hH⟩
  rw [hU]
  exact hS.2.1 a (by omega) (by show ¬ B ≤ a; omega)
/-- the run of a call -/
theorem fb_run {f y len : Nat} {ins : Instr} {as rest : List Value} {r1 : Option Value} {h1 : fb_H} {H : Heap} {locs : List Loc} {lsr : Array Slot} (S : fb_S l f) (X : fb_X p R s m args meth c D aC B sa rl rf n0 j) (G : fb_G rl rf h) (hd : decode (mB j) pc = .ok (ins, len)) (hc : fb_ca j ins len st h = some (y, as, rest)) (he : fb_ev f y 0 (fb_en as (mL y)) [] h = some (r1, h1))
    (hP : va_P D vwCl (fb_ws aC B h) H) (hS : va_S (fun q => B ≤ q) s.heap H locs) (hL : fb_L B sa (mL j) ls lsr) (hH : H.size = B + fb_N h) (hf1 : fb_N h - n0 + (fb_N h1 - fb_N h) ≤ R.cells) (hf2 : fb_Z h - z0 + (fb_Z h1 - fb_Z h) ≤ R.slots) :
    va_Run p l e R s m args below meth c H locs (fb_N h - n0) (fb_Z h - z0) (fb_N h1 - fb_N h) (fb_Z h1 - fb_Z h) (F0 m pc lsr (st.map (fb_cv B sa))) (rest.map (fb_cv B sa)) (fb_Q D aC B sa r1 h1 (as.map (fb_cv B sa)).toArray) (fun q => B ≤ q) := by
  obtain ⟨i, k1, hf, hck, hst, hal, hrest, hasE, hcase⟩ := fb_ca_of hc
  obtain ⟨hy, g2, g3, g6, g7, g8⟩ := fb_il_at hf
  have hck' := hck
  unfold fb_ck at hck'
  simp only [Bool.and_eq_true, Bool.or_eq_true, decide_eq_true_eq] at hck'
  obtain ⟨⟨⟨hlen, hD⟩, hr4⟩, hxl⟩ := hck'
  rw [← hasE] at hxl
  rw [← hrest] at hr4
  have hM := fb_met (D := D) (aC := aC) (B := B) (sa := sa) S hy he G hxl
  have X' := X
  obtain ⟨hx, hb, hml, hown, hts, hE, hsz, hnm, hfr, hlo⟩ := X
  have hfix : CallFix p m c (mB j) (mL j) s args fb_W (oN (mO j)) := ⟨hx, hb, hml, hown, hts⟩
  have hls : lsr.size = mL j := hL.2.choose_spec.1.1
  have hroom := lv_room (pc := pc) (m := m) (ls := lsr) (rest := st.map (fb_cv B sa)) (st := rest.map (fb_cv B sa)) (by rw [fb_sum_cv]; have := fb_sum_le rest; rcases hr4 with w | w <;> omega)
  have hstk : st.map (fb_cv B sa) = (as.map (fb_cv B sa)).reverse ++ rest.map (fb_cv B sa) := by rw [hst, List.map_append, List.map_reverse]
  rcases hcase with ⟨rfl, rfl, hk, b, As, has, hTb⟩ | ⟨rfl, rfl, hk⟩ | ⟨rfl, rfl, hk, b, As, has⟩
  · obtain ⟨i1, i2, i3, i4⟩ := g6 hk
    have hb : b < fb_N h := G.2.2.1 b (by omega)
    have hb6 : b < 1000000 := by have := G.1; omega
    have hrecv : ∃ cell : Cell, H[fb_ad B sa b]? = some cell ∧ cell.vm.isStatics = false ∧ s.vm.findClass (mY y).cls = some cell.cls := by
      rw [← i3, fb_ad_lo hb6]
      exact va_recv hE.1 hP (cX_at _ i4) (by rw [fb_ws_at hb, fb_cell_o hTb (by omega)])
    have hpre := fb_pre (as := as) X' hP hS hH
    have hsel : (Cond.selects (mY y).cls (mY y) (mY y)).before args s = true := hts _ (fb_inW (mP2_ok y hy i1 i2) rfl)
    have hinst : (Cond.instanceMethod (mY y)).before args s = true := by
      have h1 := mP1_ok y hy
      rw [i1] at h1
      exact hts _ (fb_inW h1 rfl)
    have hAs : (As.map (fb_cv B sa)).length = (if mS y then mN y else mN y - 1) := by
      rw [i1, List.length_map, ← hal, has]
      rfl
    have harr : (as.map (fb_cv B sa)) = Value.ref (fb_ad B sa b) :: As.map (fb_cv B sa) := by rw [has]; rfl
    have hstk2 : st.map (fb_cv B sa) = (As.map (fb_cv B sa)).reverse ++ .ref (fb_ad B sa b) :: rest.map (fb_cv B sa) := by rw [hstk, harr]; simp
    have hpv : PreV s H (mY y).cls (fb_ad B sa b) (fb_P D aC B sa rl rf as h) (As.map (fb_cv B sa)) := ⟨fb_P_blind, hrecv, fun U hU hW => by rw [← harr]; exact hpre U hU hW⟩
    rcases hk with rfl | rfl
    · exact va_runV hfix hM ⟨fb_cb X' hy hD (g2 (by omega)), hinst, hsel⟩ hpv rfl hAs hls hstk2 hroom hd ⟨hf1, hf2⟩
    · exact va_runVN hfix hM ⟨fb_cn X' hy hD (g3 (by omega) (by omega)), hinst, hsel⟩ hpv rfl hAs hls hstk2 hroom hd ⟨hf1, hf2⟩
  · have i1 := g7 hk
    have hstat : (Cond.static (mY y)).before args s = true := by
      have h1 := mP1_ok y hy
      rw [i1] at h1
      exact hts _ (fb_inW h1 rfl)
    have hAs : (as.map (fb_cv B sa)).length = (if mS y then mN y else mN y - 1) := by rw [i1, List.length_map]; exact hal
    have hps : PreS s H (fb_P D aC B sa rl rf as h) (as.map (fb_cv B sa)) := ⟨fb_P_blind, fb_pre X' hP hS hH⟩
    rcases hk with rfl | rfl
    · exact va_runS hfix hM ⟨fb_cb X' hy hD (g2 (by omega)), hstat⟩ hps rfl hAs hls hstk hroom hd ⟨hf1, hf2⟩
    · exact va_runSN hfix hM ⟨fb_cn X' hy hD (g3 (by omega) (by omega)), hstat, trivial⟩ hps rfl hAs hls hstk hroom hd ⟨hf1, hf2⟩
  · obtain ⟨i1, i2, i3⟩ := g8 hk
    have hinst : (Cond.instanceMethod (mY y)).before args s = true := by
      have h1 := mP1_ok y hy
      rw [i1] at h1
      exact hts _ (fb_inW h1 rfl)
    have hAs : (As.map (fb_cv B sa)).length = (if mS y then mN y else mN y - 1) := by
      rw [i1, List.length_map, ← hal, has]
      rfl
    have harr : (as.map (fb_cv B sa)) = Value.ref (fb_ad B sa b) :: As.map (fb_cv B sa) := by rw [has]; rfl
    have hstk2 : st.map (fb_cv B sa) = (As.map (fb_cv B sa)).reverse ++ .ref (fb_ad B sa b) :: rest.map (fb_cv B sa) := by rw [hstk, harr]; simp
    have hps : PreS s H (fb_P D aC B sa rl rf as h) (.ref (fb_ad B sa b) :: As.map (fb_cv B sa)) := ⟨fb_P_blind, fun U hU hW => by rw [← harr]; exact fb_pre X' hP hS hH U hU hW⟩
    rcases hk with rfl | rfl
    · have cb := fb_cb (k := fb_N h1 - fb_N h) (n := fb_Z h1 - fb_Z h) X' hy hD (g2 (by omega))
      rw [i3] at cb
      exact va_runI hfix hM ⟨cb, i2, hinst⟩ hps rfl hAs hls hstk2 hroom hd ⟨hf1, hf2⟩
    · have cb := fb_cn (k := fb_N h1 - fb_N h) (n := fb_Z h1 - fb_Z h) X' hy hD (g3 (by omega) (by omega))
      rw [i3] at cb
      exact va_runIN hfix hM ⟨cb, i2, hinst⟩ hps rfl hAs hls hstk2 hroom hd ⟨hf1, hf2⟩
end FBV
theorem fb_sound (l : Launch) : ∀ f, fb_S l f := by
  intro f
  induction f with
  | zero => intro j pc ls st h r h' e; simp [fb_ev] at e
  | succ f ih =>
    intro j pc ls st h r h' ev D aC B sa rl rf G
    obtain ⟨ins, len, hd0, ⟨y, as, rest, r1, h1, hc, he, e2⟩ | ⟨hc, r1, hr, hz⟩ | ⟨hc, hr, pc', ls', st', h1, hs, e2⟩⟩ := fb_ev_cases ev
    · have hd := fb_dec_of hd0
      obtain ⟨GN1, -⟩ := ih _ _ _ _ _ _ _ he D aC B sa rl rf G
      obtain ⟨GN2, K2⟩ := ih _ _ _ _ _ _ _ e2 D aC B sa rl rf GN1.1
      refine ⟨⟨GN2.1, Nat.le_trans GN1.2.1 GN2.2.1, Nat.le_trans GN1.2.2 GN2.2.2⟩, ?_⟩
      intro p e R s m args below meth c Q n0 z0 X hn hz0 hcel hslo hret
      have hg1 := GN1.2.1
      have hg2 := GN1.2.2
      have hg3 := GN2.2.1
      have hg4 := GN2.2.2
      have k := K2 p e R s m args below meth c Q n0 z0 X (by omega) (by omega) hcel hslo hret
      intro H locs lsr hP hS hL
      refine fb_wsize fun hle => ?_
      have hH := fb_hsz X.2.2.2.2.2.2.1 hn hP hS hle
      exact fb_back (y := y) GN1 hn hz0 hS hL (fb_run ih X G hd hc he hP hS hL hH (by omega) (by omega)) k
    · have hd := fb_dec_of hd0
      have hz1 : r = r1 := (Prod.mk.inj hz).1
      have hz2 : h' = h := (Prod.mk.inj hz).2
      subst hz1
      subst hz2
      refine ⟨fb_same G, ?_⟩
      intro p e R s m args below meth c Q n0 z0 X hn hz0 hcel hslo hret H locs lsr hP hS hL
      exact hret pc len ins st H locs lsr hd hr hP hS hL.2.choose_spec.1.1
    · have hd := fb_dec_of hd0
      have GN1 := fb_pres G hs
      obtain ⟨GN2, K2⟩ := ih _ _ _ _ _ _ _ e2 D aC B sa rl rf GN1.1
      refine ⟨⟨GN2.1, Nat.le_trans GN1.2.1 GN2.2.1, Nat.le_trans GN1.2.2 GN2.2.2⟩, ?_⟩
      intro p e R s m args below meth c Q n0 z0 X hn hz0 hcel hslo hret
      have hg1 : fb_N h ≤ fb_N h1 := GN1.2.1
      have hg2 : fb_Z h ≤ fb_Z h1 := GN1.2.2
      have hg3 := GN2.2.1
      have hg4 := GN2.2.2
      have k := K2 p e R s m args below meth c Q n0 z0 X (by omega) (by omega) hcel hslo hret
      exact fb_row X G hn hz0 hd hs (by show fb_N h1 - n0 ≤ _; omega) (by show fb_Z h1 - z0 ≤ _; omega) k
