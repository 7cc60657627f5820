/-! THE ABSTRACT MACHINE IS SOUND -/
section FBT
variable {p : Program} {l : Launch} {e : Env} {R : Room} {s : State} {m : MethodId} {args : Array Value} {below : List Frame} {meth : Method} {c : Code} {Q : State → Prop}
variable {D : va_G} {aC : Nat → ClassId} {B : Nat} {sa rl : Nat → Nat} {rf : Nat → Nat → Int32} {n0 z0 j pc : Nat} {ls st : List Value} {h : fb_H}
def fb_rm (y k n : Nat) : Room := { frames := mD y, cells := k, slots := n, locals := 40 * mD y }
/-- what a method finds -/
def fb_P (D : va_G) (aC : Nat → ClassId) (B : Nat) (sa rl : Nat → Nat) (rf : Nat → Nat → Int32) (as : List Value) (h : fb_H) : Array Value → State → Prop := fun v U => v = (as.map (fb_cv B sa)).toArray ∧ fb_E D aC B sa rl rf U U.heap ∧ va_P D vwCl (fb_ws aC B h) U.heap ∧ U.heap.size = B + fb_N h
/-- what it leaves -/
def fb_Q (D : va_G) (aC : Nat → ClassId) (B : Nat) (sa : Nat → Nat) (r : Option Value) (h' : fb_H) : Array Value → State → Outcome → State → Prop := fun _ st0 oc t => oc = .returned (r.map (fb_cv B sa)) ∧ va_P D vwCl (fb_ws aC B h') t.heap ∧ va_F (fun q => B ≤ q) st0 t
/-- what the interpreter's answer is worth -/
def fb_S (l : Launch) (f : Nat) : Prop := ∀ (j pc : Nat) (ls st : List Value) (h : fb_H) (r : Option Value) (h' : fb_H), fb_ev f j pc ls st h = some (r, h') → ∀ (D : va_G) (aC : Nat → ClassId) (B : Nat) (sa rl : Nat → Nat) (rf : Nat → Nat → Int32), fb_G rl rf h → fb_GN rl rf h h' ∧
  ∀ (p : Program) (e : Env) (R : Room) (s : State) (m : MethodId) (args : Array Value) (below : List Frame) (meth : Method) (c : Code) (Q : State → Prop) (n0 z0 : Nat), fb_X p R s m args meth c D aC B sa rl rf n0 j → n0 ≤ fb_N h → z0 ≤ fb_Z h → fb_N h' - n0 ≤ R.cells → fb_Z h' - z0 ≤ R.slots →
    (∀ (pc len : Nat) (ins : Instr) (st : List Value) (H : Heap) (locs : List Loc) (lsr : Array Slot), decode (mB j) pc = .ok (ins, len) → fb_rt j ins len st = some r → va_P D vwCl (fb_ws aC B h') H → va_S (fun q => B ≤ q) s.heap H locs → lsr.size = mL j → W p l e R s m args below meth c H locs (fb_N h' - n0) (fb_Z h' - z0) Q (F0 m pc lsr (st.map (fb_cv B sa)))) →
    fb_Nx p l e R s m args below meth c Q D aC B sa n0 z0 j h pc ls st
theorem fb_dec_of {ins : Instr} {len : Nat} (h : fb_dec j pc = some (ins, len)) : decode (mB j) pc = .ok (ins, len) := by
  unfold fb_dec at h
  split at h
  · rename_i x hx
    cases h
    exact hx
  · cases h
/-- an end as the machine's -/
theorem fb_ret {y : Nat} {r : Option Value} {h' : fb_H} {n0 z0 : Nat} (hx : p.tables.exec = Jvm.exec) (hb : c.code = mB y) (hr : meth.sig.returnType = mR y) (hlk : meth.locks = false) {pc len : Nat} {ins : Instr} {st : List Value} {H : Heap} {locs : List Loc} {lsr : Array Slot} (hd : decode (mB y) pc = .ok (ins, len)) (hrt : fb_rt y ins len st = some r) (hP : va_P D vwCl (fb_ws aC B h') H) (hS : va_S (fun q => B ≤ q) s.heap H locs) :
    W p l e R s m args below meth c H locs (fb_N h' - n0) (fb_Z h' - z0) (MQ below (fb_Q D aC B sa r h') args s (fb_N h' - n0) (fb_Z h' - z0) (fun q => B ≤ q)) (F0 m pc lsr (st.map (fb_cv B sa))) := by
  unfold fb_rt at hrt
  split at hrt
  · split at hrt
    · split at hrt
      · rename_i ty hty
        split at hrt
        · rename_i hn
          cases hrt
          exact W.zret (ty := ty) hx hb (by rw [hr]; exact hty) hn (fun t ht hw => ⟨rfl, by rw [ht]; exact hP, hS.F ht⟩) hS.2.2 hd hlk
        · cases hrt
      · cases hrt
    · cases hrt
  · split at hrt
    · split at hrt
      · rename_i hty
        cases hrt
        exact W.vret hx hb (by rw [hr]; exact hty) (fun t ht hw => ⟨rfl, by rw [ht]; exact hP, hS.F ht⟩) hS.2.2 hd hlk
      · cases hrt
    · cases hrt
  · cases hrt
/-- a method's contract -/
theorem fb_met {f y : Nat} (S : fb_S l f) (hy : y < 188) {as : List Value} {r : Option Value} {h h' : fb_H} (he : fb_ev f y 0 (fb_en as (mL y)) [] h = some (r, h')) (G : fb_G rl rf h) (hlen : (fb_xp as).length ≤ mL y) :
    Met l (mY y) (fb_wd y) (fb_rm y (fb_N h' - fb_N h) (fb_Z h' - fb_Z h)) (fb_P D aC B sa rl rf as h) (fb_Q D aC B sa r h') (fb_N h' - fb_N h) (fb_Z h' - fb_Z h) (fun q => B ≤ q) := by
  refine va_MetF (cc := mB y) (maxL := mL y) (ret := mR y) (mN_ok y hy).1 rfl ?_
  intro p e s m args below meth c s₁ Bd hml hv
  obtain ⟨rfl, hE, hP, hsz⟩ := hv
  have hts0 := atoms_spec (ws := fb_wd y) Bd.pre
  have hown : s.vm.findClass (mY y).cls = some m.cls := findClass_of_methodNamed Bd.named
  have X : fb_X p (headSpec (fb_wd y) (fb_rm y (fb_N h' - fb_N h) (fb_Z h' - fb_Z h))).room s m (as.map (fb_cv B sa)).toArray meth c D aC B sa rl rf (fb_N h) y :=
    ⟨Bd.exec, Bd.bytes, hml, by rw [← (oP_ok y hy).2]; exact hown, fun w hw => hts0 w (List.mem_cons_of_mem _ hw), hE, hsz, fun hh => (name_of_methodNamed Bd.named Bd.method).1.trans hh, Nat.le_refl _, Nat.le_refl _⟩
  have k := (S y 0 (fb_en as (mL y)) [] h r h' he D aC B sa rl rf G).2 p e _ s m _ below meth c (MQ below (fb_Q D aC B sa r h') (as.map (fb_cv B sa)).toArray s (fb_N h' - fb_N h) (fb_Z h' - fb_Z h) (fun q => B ≤ q)) (fb_N h) (fb_Z h) X (Nat.le_refl _) (Nat.le_refl _) (Nat.le_refl _) (Nat.le_refl _)
    (fun pc len ins st H locs lsr hd hrt hP hS _ => fb_ret Bd.exec Bd.bytes Bd.returns Bd.notSynchronized hd hrt hP hS)
  rw [lg_entry_eq]
  have k1 := k s.heap [] _ hP va_S.rf (fb_L.entry B sa hlen)
  rw [Nat.sub_self, Nat.sub_self] at k1
  exact k1
theorem fb_P_blind {as : List Value} : FrameBlind (fb_P D aC B sa rl rf as h) := by
  intro a U g mk q
  obtain ⟨h1, h2, h3, h4⟩ := q
  exact ⟨h1, fb_E.moved (u := U) (U := U.calling g mk a) (State.WarmedH.refl U) h2 (fun _ _ => rfl), h3, h4⟩
/-- behind a call -/
theorem fb_back {y : Nat} {as rest : List Value} {r1 : Option Value} {h1 : fb_H} {H : Heap} {locs : List Loc} {lsr : Array Slot} (G1 : fb_GN rl rf h h1) (hn : n0 ≤ fb_N h) (hz0 : z0 ≤ fb_Z h) (hS : va_S (fun q => B ≤ q) s.heap H locs) (hL : fb_L B sa (mL j) ls lsr)
    (hr : va_Run p l e R s m args below meth c H locs (fb_N h - n0) (fb_Z h - z0) (fb_N h1 - fb_N h) (fb_Z h1 - fb_Z h) (F0 m pc lsr (st.map (fb_cv B sa))) (rest.map (fb_cv B sa)) (fb_Q D aC B sa r1 h1 (as.map (fb_cv B sa)).toArray) (fun q => B ≤ q))
    (k : fb_Nx p l e R s m args below meth c Q D aC B sa n0 z0 j h1 (pc + 3) ls (r1.toList ++ rest)) : W p l e R s m args below meth c H locs (fb_N h - n0) (fb_Z h - z0) Q (F0 m pc lsr (st.map (fb_cv B sa))) := by
  intro T hT Xs
  obtain ⟨v, st₀, t, T', L, h0, X', hL', e1, e2, ⟨hv, hP1, hF⟩, step⟩ := hr T hT Xs
  have hv : v = r1.map (fb_cv B sa) := by cases hv; rfl
  subst hv
  obtain ⟨hF1, hF2⟩ := hF
  rw [h0] at hF1 hF2
  have hS1 : va_S (fun q => B ≤ q) s.heap T'.heap (locs ++ L) := by
    refine ⟨Nat.le_trans hS.1 (by rw [e1]; exact hF1), fun q h1 h2 => ?_, fun q hq => ?_⟩
    · rw [e1, hF2 q (Nat.lt_of_lt_of_le h1 hS.1) h2]
      exact hS.2.1 q h1 h2
    · rcases List.mem_append.mp hq with hq | hq
      · exact hS.2.2 q hq
      · exact hL' q hq
  obtain ⟨-, g2, g3⟩ := G1
  rw [show fb_N h - n0 + (fb_N h1 - fb_N h) = fb_N h1 - n0 by omega, show fb_Z h - z0 + (fb_Z h1 - fb_Z h) = fb_Z h1 - z0 by omega] at X'
  have k1 := k T'.heap (locs ++ L) lsr (by rw [e1]; exact hP1) hS1 hL
  rw [show (r1.toList ++ rest).map (fb_cv B sa) = (r1.map (fb_cv B sa)).toList ++ rest.map (fb_cv B sa) by cases r1 <;> simp] at k1
  obtain ⟨t2, a1, b1⟩ := k1 T' rfl X'
  exact ⟨t2, step t2 a1, b1⟩
end FBT
