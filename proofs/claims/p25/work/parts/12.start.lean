-- begun from the given skeleton (kit/laws/SKELETON.whole of p25's task): the law's own end and entry
/-! THE CLAIM OUT OF ONE WALK OF THE LAW'S BODY. Your part is whole_start (and what it stands on); all else here is the same for every law, but numbers. -/
def R_law : String := "FiguredBassesLaw"
def lw_P (b : Addr) (xs : List Int32) (args : Array Value) (s : State) : Prop := args = #[.ref b] ∧ s.IntsAt b xs ∧ xs.length ≤ 260 ∧ (Jvm.Cond.and given_1 narrow_1).before args s = true
def lw_Q (_ : Array Value) (s : State) (o : Outcome) (t : State) : Prop := o = .returned (some (.int 1)) ∧ Framed s o t [] 600000 7302250
def lw_Z (below : List Frame) (a : Array Value) (s : State) : State → Prop := fun t => ∃ o, t.status = .running ∧ Ended t below o ∧ lw_Q a s o t
/-- the law's own end, with 1 on the stack, nothing written that was there before, its room as the claim has it -/
theorem lw_ret {p : Program} {l : Launch} {e : Env} {s : State} {m : MethodId} {below : List Frame} {meth : Method} {c : Code} {b : Nat} (hx : p.tables.exec = Jvm.exec) (hb : c.code = code) (hr : meth.sig.returnType = ret) (hlocks : meth.locks = false) {pc : Nat} {H : Heap} {ls : Array Slot} (hdg : decode code pc = .ok (.ireturn, 1)) : W p l e room_1 s m #[Value.ref b] below meth c H [] 600000 7302250 (lw_Z below #[Value.ref b] s) (F0 m pc ls [.int 1]) := by
  intro T hT X
  obtain ⟨fs, hret, hrun, hended, hW, hframe⟩ := X.leave (v := some (.int 1)) (hlocks := hlocks) (fun h => by rw [hr] at h; cases h)
  have hmeth' : T.vm.method? m = some meth := X.method'
  refine ⟨T.setFrames fs, ?_, .returned (some (.int 1)), hrun, hended, rfl, ⟨_, rfl⟩, hW, hframe⟩
  jvm_step X.here [X.here.top, hx, hb, hdg, hmeth', hr, ret, narrow_b1]
  (try refine ⟨rfl, ?_⟩); (try refine ⟨rfl, ?_⟩)
  first | (intro acts; rw [hret _ acts rfl rfl rfl]) | rw [hret _ _ rfl rfl rfl]
  exact Steps.refl _
/-- what holds at the law's entry: the machine, the code, the tables' words (any of lw_tbl by 'hts w (by decide +kernel)'), the script of L ints xs at the cell b, what the Statement gives of the start (any of its parts by flat_of_before) -/
def lw_At (p : Program) (s : State) (m : MethodId) (meth : Method) (c : Code) (b L : Nat) (xs : Nat → Int32) : Prop :=
  p.tables.exec = Jvm.exec ∧ c.code = code ∧ meth.sig.returnType = ret ∧ c.maxLocals = 6 ∧ s.vm.findClass R_law = some m.cls ∧ (∀ w ∈ lw_tbl, w.before #[Value.ref b] s = true) ∧ va_X b L xs s s.heap ∧ b < s.heap.size ∧ meth.locks = false ∧ (Jvm.Cond.and given_1 narrow_1).before #[Value.ref b] s = true

/-! the start: the static arrays, the script, the tables -/
def fb_tm (k : Nat) : Term := .static "FiguredBasses" (fb_sn k) "[I"
def fb_va (k : Nat) : List Int32 := match k with
  | 0 => [0, 2, 4, 5, 7, 9, 11]
  | 1 => [0, 16, 7]
  | 2 => [0, 7, 1]
  | 3 => [11, 24, 12]
  | 4 => [36, 48, 53, 58]
  | _ => [59, 67, 74, 79]
set_option maxRecDepth 100000 in
theorem fb_flat_ok : ∀ k, k < 6 → Cond.arrayOf (fb_tm k) .int ∈ flatC (Jvm.Cond.and given_1 narrow_1) ∧ Cond.eq (.length (fb_tm k)) (.int (Int32.ofNat (fb_va k).length)) ∈ flatC (Jvm.Cond.and given_1 narrow_1) ∧ Cond.exactly (fb_tm k) "[I" ∈ flatC (Jvm.Cond.and given_1 narrow_1) ∧ ∀ i, i < (fb_va k).length → Cond.eq (.elem (fb_tm k) (.int (Int32.ofNat i))) (.int ((fb_va k).getD i 0)) ∈ flatC (Jvm.Cond.and given_1 narrow_1) := by decide +kernel
def fb_rl (L : Nat) (k : Nat) : Nat := if k < 6 then (fb_va k).length else L
def fb_rf (xs : Nat → Int32) (k q : Nat) : Int32 := if k < 6 then (fb_va k).getD q 0 else xs q
theorem fb_stat {args : Array Value} {s : State} (hgv : (Jvm.Cond.and given_1 narrow_1).before args s = true) (hts : ∀ w ∈ lw_tbl, w.before args s = true) (k : Nat) (hk : k < 6) : ∃ t : Nat, t < s.heap.size ∧ va_Z "FiguredBasses" (fb_sn k) "[I" (.ref t) (fun q => s.heap.size ≤ q) s s.heap ∧
    ∃ cell : Cell, s.heap[t]? = some cell ∧ s.isArrayOf cell .int ∧ cell.vm ≠ .unknown ∧ cell.slots.size = (fb_va k).length ∧ (∀ q : Nat, q < (fb_va k).length → cell.slots[q]? = some (.int ((fb_va k).getD q 0))) ∧ s.vm.findClass "[I" = some cell.cls := by
  obtain ⟨w1, w2, w3, w4⟩ := fb_flat_ok k hk
  have hf := flat_of_before _ hgv
  have harr := hf _ w1
  have hlen := va_eqt (hf _ w2)
  have hA : ∀ a : Nat, a < s.heap.size → ¬ (fun q : Nat => s.heap.size ≤ q) a := fun a h => Nat.not_le.mpr h
  have h31 : (fb_va k).length < 2 ^ 31 := by
    rcases (show k = 0 ∨ k = 1 ∨ k = 2 ∨ k = 3 ∨ k = 4 ∨ k = 5 by omega) with rfl | rfl | rfl | rfl | rfl | rfl <;> decide
  obtain ⟨t, ht, cell, q1, q2, q3, -, -, q6, -⟩ := va_Tof (N := (fb_va k).length) (f := fun q => .int ((fb_va k).getD q 0)) (A := fun q => s.heap.size ≤ q) h31 harr hlen (fun i hi => va_eqt (hf _ (w4 i hi))) hA
  obtain ⟨t', cell', e1, e2, e3⟩ := Term.length_spec hlen
  cases ht.symm.trans e1
  obtain ⟨e4, -, -, -⟩ := State.arrayAt?_spec e2
  cases q1.symm.trans e4
  have hsz : cell.slots.size = (fb_va k).length := by
    have hl := hlen
    simp only [Term.eval] at hl
    have ht' : (fb_tm k).eval args s none [] s = some (.ref t) := ht
    simp [ht', e2] at hl
    obtain ⟨h1, h2⟩ := hl
    have g1 := Int32.toNatClampNeg_ofNat_of_lt h1
    have g2 := Int32.toNatClampNeg_ofNat_of_lt h31
    have h2 : Int32.ofNat cell.slots.size = Int32.ofNat (fb_va k).length := h2
    rw [h2, g2] at g1
    exact g1.symm
  obtain ⟨a, c0, cell2, k0, r1, r2, r3, r4, r5, r6, -⟩ := Cond.exactly_spec (hf _ w3)
  cases ht.symm.trans r1
  cases q1.symm.trans r3
  refine ⟨t, (Array.getElem?_eq_some_iff.mp q1).1, va_Zref (hts _ (List.mem_of_getElem? (fb_sp_ok k hk))) (hts _ (by decide +kernel)) ht hA, cell, q1, q2, q3, hsz, q6, by rw [r6]; exact r2⟩
/-- the heap that the law begins with: the static arrays, and the script -/
def fb_h0 (L : Nat) (xs : Nat → Int32) : fb_H := (fun i => if 1000000 ≤ i ∧ i < 1000007 then (16, fb_rl L (i - 1000000)) else (99, 0), (0, 0), fun _ _ => none, fun i q => if 1000000 ≤ i ∧ i < 1000007 then fb_rf xs (i - 1000000) q else 0)
theorem fb_G0 (L : Nat) (xs : Nat → Int32) : fb_G (fb_rl L) (fb_rf xs) (fb_h0 L xs) := by
  have eT : ∀ i, fb_T (fb_h0 L xs) i = if 1000000 ≤ i ∧ i < 1000007 then (16, fb_rl L (i - 1000000)) else (99, 0) := fun _ => rfl
  have eI : ∀ i q, fb_I (fb_h0 L xs) i q = if 1000000 ≤ i ∧ i < 1000007 then fb_rf xs (i - 1000000) q else 0 := fun _ _ => rfl
  refine ⟨by show 0 < 1000000; omega, fun i k a h => (by cases h), fun i h => ?_, fun i h => ?_, fun i h => absurd h (Nat.not_lt_zero i)⟩
  · rw [eT] at h
    split at h <;> simp at h
  · rw [eT] at h
    split at h
    · rename_i hc
      refine ⟨i - 1000000, by omega, by omega, by rw [eT, if_pos hc], fun q => by rw [eI, if_pos hc]⟩
    · simp at h
set_option maxRecDepth 100000 in
theorem fb_tab : ∀ c, c < 7 → ∀ w ∈ u_ws (cX c) (cT c) (cN c), w ∈ lw_tbl := cW_in
theorem fb_D {args : Array Value} {s : State} (hts : ∀ w ∈ lw_tbl, w.before args s = true) : ∃ D : va_G, ∀ (k : Nat) (q : vw_C), vwCl[k]? = some q → u_Kn s q.1 q.2.1 q.2.2 (D.1 k) (D.2 k) := by
  have h : ∀ k, k < 7 → ∃ (cC : ClassId) (iS : Nat → Nat), u_Kn s (cX k) (cT k) (cN k) cC iS := fun k hk => u_known hts (cW_in k hk) (hts _ (List.mem_of_getElem? (cI_ok k hk).1))
  refine ⟨(fun k => if hk : k < 7 then Classical.choose (h k hk) else 0, fun k => if hk : k < 7 then Classical.choose (Classical.choose_spec (h k hk)) else fun _ => 0), fun k q hq => ?_⟩
  have hk : k < 7 := (List.getElem?_eq_some_iff.mp hq).1
  rw [cX_at k hk] at hq
  cases hq
  simp only [dif_pos hk]
  exact Classical.choose_spec (Classical.choose_spec (h k hk))
theorem fb_acls {args : Array Value} {s : State} {t : FieldType} (h : (Cond.arrayClass t).before args s = true) (ho : ∀ C, t ≠ .object C) : ∃ c : ClassId, ArrOfT s c t ∧ va_RA s c t := by
  obtain ⟨c, k, comp, h1, h2, h3⟩ := Cond.arrayClass_spec h
  refine ⟨c, fun N z => ⟨(fun q hq => by cases hq), k, h2, comp, h3⟩, ?_⟩
  cases t <;> first | exact h1 | exact absurd rfl (ho _)
theorem fb_aover {args : Array Value} {s : State} {C : String} (h : (Cond.arrayOver (.object C)).before args s = true) : ∃ c : ClassId, ArrOfT s c (.object C) ∧ va_RA s c (.object C) := by
  obtain ⟨comp, c, k, h1, h2, h3, h4, h5⟩ := Cond.arrayOver_spec h
  exact ⟨c, fun N z => ⟨(fun q hq => by cases hq), k, h3, comp, h4⟩, k, comp, h3, h4, h1, h5⟩
theorem fb_agrid {args : Array Value} {s : State} (h : (Cond.arrayOver (.array .int)).before args s = true) : ∃ c : ClassId, ArrOfT s c (.array .int) ∧ va_RA s c (.array .int) := by
  obtain ⟨comp, c, k, h1, h2, h3, h4⟩ := Cond.arrayOver_specA h
  exact ⟨c, fun N z => ⟨(fun q hq => by cases hq), k, h2, comp, h3⟩, h4⟩
/-- from the interpreter's answer over the law to the machine's -/
theorem fb_start {p : Program} {e : Env} {s : State} {m : MethodId} {below : List Frame} {meth : Method} {c : Code} (l : Launch) {b L : Nat} {xs : Nat → Int32} (C0 : lw_At p s m meth c b L xs) {f : Nat} {h' : fb_H} (hev : fb_ev f 188 0 [.ref 1000006, .null, .null, .null, .null, .null] [] (fb_h0 L xs) = some (some (.int 1), h')) (hN : fb_N h' ≤ 600000) (hZ : fb_Z h' ≤ 7302250) :
    W p l e room_1 s m #[Value.ref b] below meth c s.heap [] 0 0 (lw_Z below #[Value.ref b] s) (entryFrame m ([Value.ref b] : List Value).toArray 6) := by
  obtain ⟨hx, hb, hr, hml, hown, hts, hX, hbl, hlocks, hgv⟩ := id C0
  obtain ⟨t0, a0, b0, c0⟩ := fb_stat hgv hts 0 (by omega)
  obtain ⟨t1, a1, b1, c1⟩ := fb_stat hgv hts 1 (by omega)
  obtain ⟨t2, a2, b2, c2⟩ := fb_stat hgv hts 2 (by omega)
  obtain ⟨t3, a3, b3, c3⟩ := fb_stat hgv hts 3 (by omega)
  obtain ⟨t4, a4, b4, c4⟩ := fb_stat hgv hts 4 (by omega)
  obtain ⟨t5, a5, b5, c5⟩ := fb_stat hgv hts 5 (by omega)
  obtain ⟨D, hD⟩ := fb_D hts
  obtain ⟨d0, k0⟩ := fb_acls (hts _ (fb_inT 55 (by decide +kernel) : Cond.arrayClass .int ∈ lw_tbl)) (fun C h => by cases h)
  obtain ⟨d1, k1⟩ := fb_acls (hts _ (fb_inT 85 (by decide +kernel) : Cond.arrayClass .boolean ∈ lw_tbl)) (fun C h => by cases h)
  obtain ⟨d2, k2⟩ := fb_acls (hts _ (fb_inT 86 (by decide +kernel) : Cond.arrayClass .char ∈ lw_tbl)) (fun C h => by cases h)
  have ho3 := hts _ (fb_inT 63 (by decide +kernel) : Cond.arrayOver (.object "FiguredBasses$Piece") ∈ lw_tbl)
  have ho4 := hts _ (fb_inT 127 (by decide +kernel) : Cond.arrayOver (.object "FiguredBasses$Voicings") ∈ lw_tbl)
  have ho5 := hts _ (fb_inT 129 (by decide +kernel) : Cond.arrayOver (.array .int) ∈ lw_tbl)
  obtain ⟨d3, k3⟩ := fb_aover ho3
  obtain ⟨d4, k4⟩ := fb_aover ho4
  obtain ⟨d5, k5⟩ := fb_agrid ho5
  let aC : Nat → ClassId := fun q => match q with | 10 => d0 | 11 => d1 | 12 => d2 | 13 => d3 | 14 => d4 | _ => d5
  let sa : Nat → Nat := fun q => match q with | 0 => t0 | 1 => t1 | 2 => t2 | 3 => t3 | 4 => t4 | 5 => t5 | _ => b
  have hE : fb_E D aC s.heap.size sa (fb_rl L) (fb_rf xs) s s.heap := by
    refine ⟨⟨hD, fun k q hq => ?_⟩, fun w hw hn => ?_, va_Nw.of rfl (hts _ (fb_inT 37 (by decide +kernel) : Cond.castable "[I" "java/lang/Cloneable" ∈ lw_tbl)), va_AO.of ho3, va_AO.of ho4, ho5, fun k hk => ?_, fun k hk => ?_⟩
    · match k, hq with
      | 0, hq => cases hq; exact k0
      | 1, hq => cases hq; exact k1
      | 2, hq => cases hq; exact k2
      | 3, hq => cases hq; exact k3
      | 4, hq => cases hq; exact k4
      | 5, hq => cases hq; exact k5
      | k + 6, hq => simp [fb_ty] at hq
    · have hz := hts w hw
      cases w <;> first | (simp [fb_isN] at hn; done) | exact va_Nw.of rfl hz
    · rcases (show k = 0 ∨ k = 1 ∨ k = 2 ∨ k = 3 ∨ k = 4 ∨ k = 5 by omega) with rfl | rfl | rfl | rfl | rfl | rfl
      · exact b0
      · exact b1
      · exact b2
      · exact b3
      · exact b4
      · exact b5
    · rcases (show k = 0 ∨ k = 1 ∨ k = 2 ∨ k = 3 ∨ k = 4 ∨ k = 5 ∨ k = 6 by omega) with rfl | rfl | rfl | rfl | rfl | rfl | rfl
      · obtain ⟨cell, q1, q2, q3, q4, q5, q6⟩ := c0; exact ⟨a0, cell, q1, q2, q3, q4, q5, fun _ => q6⟩
      · obtain ⟨cell, q1, q2, q3, q4, q5, q6⟩ := c1; exact ⟨a1, cell, q1, q2, q3, q4, q5, fun _ => q6⟩
      · obtain ⟨cell, q1, q2, q3, q4, q5, q6⟩ := c2; exact ⟨a2, cell, q1, q2, q3, q4, q5, fun _ => q6⟩
      · obtain ⟨cell, q1, q2, q3, q4, q5, q6⟩ := c3; exact ⟨a3, cell, q1, q2, q3, q4, q5, fun _ => q6⟩
      · obtain ⟨cell, q1, q2, q3, q4, q5, q6⟩ := c4; exact ⟨a4, cell, q1, q2, q3, q4, q5, fun _ => q6⟩
      · obtain ⟨cell, q1, q2, q3, q4, q5, q6⟩ := c5; exact ⟨a5, cell, q1, q2, q3, q4, q5, fun _ => q6⟩
      · obtain ⟨cell, q1, q2, q3, q4, q5⟩ := hX; exact ⟨hbl, cell, q1, q2, q3, q4, q5, fun h => absurd h (by omega)⟩
  have X : fb_X p room_1 s m #[Value.ref b] meth c D aC s.heap.size sa (fb_rl L) (fb_rf xs) 0 188 :=
    ⟨hx, hb, hml, hown, fun w hw => hts w (List.mem_filter.mp hw).1, hE, rfl, fun h => absurd h (by decide), by decide, by decide⟩
  obtain ⟨GN, K⟩ := fb_sound l f 188 0 _ _ _ _ _ hev D aC s.heap.size sa (fb_rl L) (fb_rf xs) (fb_G0 L xs)
  have k := K p e room_1 s m #[Value.ref b] below meth c (lw_Z below #[Value.ref b] s) 0 0 X (Nat.zero_le _) (Nat.zero_le _) (by show fb_N h' - 0 ≤ 600000; omega) (by show fb_Z h' - 0 ≤ 7302250; omega)
    (fun pc len ins st H locs lsr hd hrt hP hS _ => by
      refine va_forget (fun q hq => hS.2.2 q hq) (W.widen (k := 600000) (n := 7302250) (by omega) (by omega) ?_)
      unfold fb_rt at hrt
      split at hrt
      · split at hrt
        · split at hrt
          · split at hrt
            · cases hrt
              exact lw_ret hx hb hr hlocks hd
            · cases hrt
          · cases hrt
        · cases hrt
      · split at hrt
        · split at hrt <;> cases hrt
        · cases hrt
      · cases hrt)
  have hl := lv_entry ([.ref b]) (n := 6) (Nat.le_of_ble_eq_true rfl)
  rw [lg_entry_eq]
  have hLL := fb_L.entry s.heap.size sa (as := [.ref 1000006]) (n := 6) (by decide)
  have k2 := k s.heap [] _ (fun k q hq => by simp [fb_ws, fb_N, fb_h0] at hq) va_S.rf hLL
  exact k2
