section FBM
variable {p : Program} {l : Launch} {e : Env} {R : Room} {s : State} {m : MethodId} {args : Array Value} {below : List Frame} {meth : Method} {c : Code} {Q : State → Prop}
variable {D : va_G} {aC : Nat → ClassId} {B : Nat} {sa rl : Nat → Nat} {rf : Nat → Nat → Int32} {n0 z0 j pc : Nat} {ls st : List Value} {h : fb_H} {z : Nat × List Value × List Value × fb_H}
theorem fb_wsize {H : Heap} {locs : List Loc} {cells slots : Nat} {g : JFrame} (kk : H.size ≤ s.heap.size + cells → W p l e R s m args below meth c H locs cells slots Q g) : W p l e R s m args below meth c H locs cells slots Q g :=
  fun T hT X => kk (by rw [← hT]; exact X.heapSize) T hT X
theorem fb_hsz {H : Heap} {locs : List Loc} (hsz : s.heap.size = B + n0) (hn : n0 ≤ fb_N h) (hP : va_P D vwCl (fb_ws aC B h) H) (hS : va_S (fun q => B ≤ q) s.heap H locs) (hle : H.size ≤ s.heap.size + (fb_N h - n0)) : H.size = B + fb_N h := by
  have h1 := hS.1
  by_cases h0 : fb_N h = 0
  · omega
  · have h2 := (hP (fb_N h - 1) _ (fb_ws_at (by omega))).lt
    have h2 : B + (fb_N h - 1) < H.size := h2
    omega
theorem fb_grow {h' : fb_H} {H H1 : Heap} (hP : va_P D vwCl (fb_ws aC B h) H) (hold : ∀ i, i < fb_N h → fb_cell aC B h' i = fb_cell aC B h i) (o1 : ∀ q : Nat, q < B + fb_N h → H1[q]? = H[q]?) (hnew : ∀ i, fb_N h ≤ i → i < fb_N h' → va_at D vwCl (B + i, fb_cell aC B h' i) H1) : va_P D vwCl (fb_ws aC B h') H1 := by
  intro k q hq
  obtain ⟨hk, rfl⟩ := fb_ws_some hq
  by_cases hl : k < fb_N h
  · rw [hold k hl]
    exact (hP k _ (fb_ws_at hl)).kept (o1 (B + k) (by omega))
  · exact hnew k (by omega) hk
theorem fb_growS {H H1 : Heap} {locs : List Loc} (hS : va_S (fun q => B ≤ q) s.heap H locs) (hz : H.size = B + fb_N h) (z1 : H.size ≤ H1.size) (o1 : ∀ q : Nat, q < B + fb_N h → H1[q]? = H[q]?) : va_S (fun q => B ≤ q) s.heap H1 locs :=
  ⟨Nat.le_trans hS.1 z1, fun q h1 h2 => (o1 q (by have := hS.1; omega)).trans (hS.2.1 q h1 h2), hS.2.2⟩
theorem fb_nw_cell {kd n w : Nat} {i : Nat} (hi : i < fb_N h) : fb_cell aC B (fb_nw h kd n w) i = fb_cell aC B h i := by
  have hne : i ≠ fb_N h := Nat.ne_of_lt hi
  exact fb_cell_eq (if_neg hne) (fun _ => if_neg hne) (fun _ => if_neg hne)
theorem fb_nw_T (kd n w : Nat) : fb_T (fb_nw h kd n w) (fb_N h) = (kd, n) := if_pos rfl
theorem fb_nw_I (kd n w : Nat) (q : Nat) : fb_I (fb_nw h kd n w) (fb_N h) q = 0 := if_pos rfl
theorem fb_nw_R (kd n w : Nat) (q : Nat) : fb_R (fb_nw h kd n w) (fb_N h) q = none := if_pos rfl
theorem fb_g_new {i c1 q1 : Nat} (X : fb_X p R s m args meth c D aC B sa rl rf n0 j) (hn : n0 ≤ fb_N h) (hz0 : z0 ≤ fb_Z h) (hd : decode (mB j) pc = .ok (.new i, 3)) (hf : fb_fd fb_nl (fb_ky j i) = some (c1, q1)) (h8 : c1 < 7) (hbig : fb_N h < 900000) (hc : fb_N h + 1 - n0 ≤ R.cells) (hz' : fb_Z h + cN c1 - z0 ≤ R.slots)
    (k : fb_Nx p l e R s m args below meth c Q D aC B sa n0 z0 j (fb_nw h c1 0 (cN c1)) (pc + 3) ls (.ref (fb_N h) :: st)) : fb_Nx p l e R s m args below meth c Q D aC B sa n0 z0 j h pc ls st := by
  have hw := fb_lk_n hf
  intro H locs lsr hP hS hL
  obtain ⟨hx, hb, hml, hown, hts, hE, hsz, -⟩ := X
  refine fb_wsize fun hle => ?_
  have hH := fb_hsz hsz hn hP hS hle
  obtain ⟨w1, w2⟩ := cI_ok c1 h8
  have hKn := hE.1.1 c1 _ (cX_at c1 h8)
  refine W.newcK hx hb hown (hts _ hw) (hts _ (fb_inW w1 rfl)) (hts _ (fb_inW w2 rfl)) rfl hd (by omega) (by omega) hKn.2.1 hH fun H1 kC hkC e1 z1 o1 => ?_
  have k1 := k H1 locs lsr (fb_grow hP (fun i hi => fb_nw_cell hi) o1 (fun i h1 h2 => ?_)) (fb_growS hS hH (by omega) o1) hL
  · rw [fb_ref_lo (by omega)] at k1
    rw [show fb_N h - n0 + 1 = fb_N (fb_nw h c1 0 (cN c1)) - n0 by show _ = fb_N h + 1 - n0; omega, show fb_Z h - z0 + cN c1 = fb_Z (fb_nw h c1 0 (cN c1)) - z0 by show _ = fb_Z h + cN c1 - z0; omega]
    exact k1
  · have h2 : i < fb_N h + 1 := h2
    have hi : i = fb_N h := by omega
    subst hi
    rw [fb_cell_o (h := fb_nw h c1 0 (cN c1)) (c := c1) (by rw [fb_nw_T]) (by omega)]
    refine ⟨_, cX_at c1 h8, (u_born (cY c1) hts (fb_uin c1 h8) hKn hkC e1 (cY_ok c1 h8)).to (fun q hq => ?_)⟩
    show defaultValue (cY c1 q) = vp_V _ q
    unfold vp_V
    rw [List.getD_eq_getElem?_getD, fb_mt_o (k := 0) hq]
    show defaultValue (cY c1 q) = if cK c1 q = true then _ else _
    by_cases hK : cK c1 q = true
    · rw [if_pos hK, fb_nw_R]
      rcases (cK_ok c1 h8 q hq).2 hK with ⟨t, ht⟩ | ⟨t, ht⟩ <;> rw [ht] <;> rfl
    · rw [if_neg hK, fb_nw_I, (cK_ok c1 h8 q hq).1 (by simpa using hK)]
      rfl
theorem fb_inT {w : Cond} (i : Nat) (h : lw_tbl[i]? = some w) : w ∈ lw_tbl := List.mem_of_getElem? h
theorem fb_wac : Cond.arrayClass .int ∈ fb_W ∧ Cond.arrayClass .boolean ∈ fb_W ∧ Cond.arrayClass .char ∈ fb_W := ⟨fb_inW (i := 55) (by decide +kernel) rfl, fb_inW (i := 85) (by decide +kernel) rfl, fb_inW (i := 86) (by decide +kernel) rfl⟩
theorem fb_g_na {ty : ArrayType} {kd t0 : Nat} {x : Int32} {r : List Value} (hty : (newarray.typeOf ty = .int ∧ kd = 10 ∧ t0 = 0) ∨ (newarray.typeOf ty = .boolean ∧ kd = 11 ∧ t0 = 1) ∨ (newarray.typeOf ty = .char ∧ kd = 12 ∧ t0 = 2)) (X : fb_X p R s m args meth c D aC B sa rl rf n0 j) (hn : n0 ≤ fb_N h) (hz0 : z0 ≤ fb_Z h) (hd : decode (mB j) pc = .ok (.newarray ty, 2)) (hx0 : ¬ x < 0) (hx1 : x.toNatClampNeg ≤ 10000) (hbig : fb_N h < 900000) (hc : fb_N h + 1 - n0 ≤ R.cells) (hz' : fb_Z h + x.toNatClampNeg - z0 ≤ R.slots)
    (k : fb_Nx p l e R s m args below meth c Q D aC B sa n0 z0 j (fb_nw h kd x.toNatClampNeg x.toNatClampNeg) (pc + 2) ls (.ref (fb_N h) :: r)) : fb_Nx p l e R s m args below meth c Q D aC B sa n0 z0 j h pc ls (.int x :: r) := by
  intro H locs lsr hP hS hL
  obtain ⟨hx, hb, hml, hown, hts, hE, hsz, -⟩ := X
  refine fb_wsize fun hle => ?_
  have hH := fb_hsz hsz hn hP hS hle
  have harr : (Cond.arrayClass (newarray.typeOf ty)).before args s = true := by
    rcases hty with ⟨h1, -⟩ | ⟨h1, -⟩ | ⟨h1, -⟩ <;> rw [h1]
    · exact hts _ fb_wac.1
    · exact hts _ fb_wac.2.1
    · exact hts _ fb_wac.2.2
  have hbytes : x.toNatClampNeg * componentBytes (newarray.typeOf ty) ≤ 536870912 := by
    rcases hty with ⟨h1, -⟩ | ⟨h1, -⟩ | ⟨h1, -⟩ <;> rw [h1]
    · show x.toNatClampNeg * 4 ≤ _; omega
    · show x.toNatClampNeg * 1 ≤ _; omega
    · show x.toNatClampNeg * 2 ≤ _; omega
  rw [fb_i_cons]
  refine va_newaK hx hb harr rfl hd rfl hx0 rfl hbytes (by omega) (by omega) hH fun H1 cA e1 z1 o1 hAr hNm => ?_
  have hcA : cA = aC kd := by
    rcases hty with ⟨h1, rfl, -⟩ | ⟨h1, rfl, -⟩ | ⟨h1, rfl, -⟩ <;> rw [h1] at hNm
    · have g : s.vm.findClass ("[" ++ (FieldType.int).toString) = some (aC 10) := (hE.1.2 0 _ rfl).2
      exact Option.some.inj (hNm.symm.trans g)
    · have g : s.vm.findClass ("[" ++ (FieldType.boolean).toString) = some (aC 11) := (hE.1.2 1 _ rfl).2
      exact Option.some.inj (hNm.symm.trans g)
    · have g : s.vm.findClass ("[" ++ (FieldType.char).toString) = some (aC 12) := (hE.1.2 2 _ rfl).2
      exact Option.some.inj (hNm.symm.trans g)
  have k1 := k H1 locs lsr (fb_grow hP (fun i hi => fb_nw_cell hi) o1 (fun i h1 h2 => ?_)) (fb_growS hS hH (by omega) o1) hL
  · rw [fb_ref_lo (by omega)] at k1
    rw [show fb_N h - n0 + 1 = fb_N (fb_nw h kd x.toNatClampNeg x.toNatClampNeg) - n0 by show _ = fb_N h + 1 - n0; omega, show fb_Z h - z0 + x.toNatClampNeg = fb_Z (fb_nw h kd x.toNatClampNeg x.toNatClampNeg) - z0 by show _ = fb_Z h + x.toNatClampNeg - z0; omega]
    exact k1
  · have h2 : i < fb_N h + 1 := h2
    have hi : i = fb_N h := by omega
    subst hi
    rw [fb_cell_i (h := fb_nw h kd x.toNatClampNeg x.toNatClampNeg) (c := kd) (by rw [fb_nw_T]) (by omega) (by omega)]
    show H1[B + fb_N h]? = some (vp_cell _ _)
    rw [e1, hcA, fb_nw_T, vp_cell_i]
    refine congrArg (fun f => some (arrV (aC kd) x.toNatClampNeg f)) (funext fun q => ?_)
    rw [fb_nw_I]
    rcases hty with ⟨h1, -⟩ | ⟨h1, -⟩ | ⟨h1, -⟩ <;> rw [h1] <;> rfl
theorem fb_g_nq {i kd q1 : Nat} {x : Int32} {r : List Value} {C : String} {t0 : Nat} (hkd : (C = "FiguredBasses$Piece" ∧ kd = 13 ∧ t0 = 3) ∨ (C = "FiguredBasses$Voicings" ∧ kd = 14 ∧ t0 = 4)) (X : fb_X p R s m args meth c D aC B sa rl rf n0 j) (hn : n0 ≤ fb_N h) (hz0 : z0 ≤ fb_Z h) (hd : decode (mB j) pc = .ok (.anewarray i, 3)) (hf : fb_fd fb_cl (fb_ky j i) = some (kd, q1)) (hx0 : ¬ x < 0) (hx1 : x.toNatClampNeg ≤ 10000) (hbig : fb_N h < 900000) (hc : fb_N h + 1 - n0 ≤ R.cells) (hz' : fb_Z h + x.toNatClampNeg - z0 ≤ R.slots)
    (k : fb_Nx p l e R s m args below meth c Q D aC B sa n0 z0 j (fb_nw h kd x.toNatClampNeg x.toNatClampNeg) (pc + 3) ls (.ref (fb_N h) :: r)) : fb_Nx p l e R s m args below meth c Q D aC B sa n0 z0 j h pc ls (.int x :: r) := by
  have hw : Cond.classLink (oN (mO j)) i C ∈ fb_W := by
    have hw := fb_lk_c hf
    rcases hkd with ⟨rfl, rfl, -⟩ | ⟨rfl, rfl, -⟩ <;> exact hw
  intro H locs lsr hP hS hL
  obtain ⟨hx, hb, hml, hown, hts, hE, hsz, -⟩ := X
  have hover : (Cond.arrayOver (.object C)).before args s = true := by
    rcases hkd with ⟨rfl, -⟩ | ⟨rfl, -⟩
    · exact va_AO.use hE.2.2.2.1
    · exact va_AO.use hE.2.2.2.2.1
  refine fb_wsize fun hle => ?_
  have hH := fb_hsz hsz hn hP hS hle
  rw [fb_i_cons]
  refine W.anew hx hb hown (hts _ hw) hover rfl hd rfl hx0 (by omega) (by omega) (by omega) fun cA kA comp f1 f2 f3 f4 => ?_
  generalize hH1 : H.push ({ cls := cA, slots := Array.replicate x.toNatClampNeg .null, vm := .none } : Cell) = H1
  have z1 : H1.size = H.size + 1 := by rw [← hH1, Array.size_push]
  have e1 : H1[B + fb_N h]? = some (arrV cA x.toNatClampNeg (fun _ => .null)) := by rw [← hH1, ← hH, Array.getElem?_push_size, ← arrV_new]
  have o1 : ∀ q : Nat, q < B + fb_N h → H1[q]? = H[q]? := fun q hq => by rw [← hH1, Array.getElem?_push, if_neg (by omega)]
  have hcA : cA = aC kd := by
    rcases hkd with ⟨rfl, rfl, -⟩ | ⟨rfl, rfl, -⟩
    · obtain ⟨-, -, -, -, -, g⟩ := (hE.1.2 3 _ rfl).2
      exact Option.some.inj (f1.symm.trans g)
    · obtain ⟨-, -, -, -, -, g⟩ := (hE.1.2 4 _ rfl).2
      exact Option.some.inj (f1.symm.trans g)
  have k1 := k H1 locs lsr (fb_grow hP (fun i hi => fb_nw_cell hi) o1 (fun i h1 h2 => ?_)) (fb_growS hS hH (by omega) o1) hL
  · rw [fb_ref_lo (by omega)] at k1
    rw [hH, show fb_N h - n0 + 1 = fb_N (fb_nw h kd x.toNatClampNeg x.toNatClampNeg) - n0 by show _ = fb_N h + 1 - n0; omega, show fb_Z h - z0 + x.toNatClampNeg = fb_Z (fb_nw h kd x.toNatClampNeg x.toNatClampNeg) - z0 by show _ = fb_Z h + x.toNatClampNeg - z0; omega]
    exact k1
  · have h2 : i < fb_N h + 1 := h2
    have hi : i = fb_N h := by omega
    subst hi
    rw [fb_cell_q (h := fb_nw h kd x.toNatClampNeg x.toNatClampNeg) (c := kd) (by rw [fb_nw_T]) (by omega)]
    show H1[B + fb_N h]? = some (vp_cell _ _)
    rw [e1, hcA, fb_nw_T, vp_cell_q]
    refine congrArg (fun f => some (arrV (aC kd) x.toNatClampNeg f)) (funext fun q => ?_)
    rw [fb_nw_R]
    rfl
theorem fb_sum_le (r : List Value) : (r.map fun v => v.category).sum ≤ 2 * r.length := by
  induction r with
  | nil => simp
  | cons v r ih =>
    have : v.category ≤ 2 := by cases v <;> simp [Value.category]
    simp only [List.map_cons, List.sum_cons, List.length_cons]
    omega
theorem fb_sum_cv (r : List Value) : ((r.map (fb_cv B sa)).map fun v => v.category).sum = (r.map fun v => v.category).sum := by
  rw [List.map_map]
  congr 2
  funext v
  exact fb_cat B sa v
theorem fb_cls {i q1 k1 : Nat} (hf : fb_fd fb_il (fb_ky j i) = some (k1, q1)) : ∃ q, (fb_ky j i, k1, q1, q) ∈ fb_il ∧ fb_own (fb_ky j i) = oN (mO j) ∧ fb_ky j i % 1000 = i := by
  obtain ⟨q, hq⟩ := fb_fd_of hf
  obtain ⟨e1, e2⟩ := fb_ky_of (fb_ky_ok.2.2.1 _ hq)
  exact ⟨q, hq, e1, e2⟩
theorem fb_wob : Cond.instanceMethod objectInit ∈ fb_W ∧ Cond.code objectInit ⟨#[0xb1]⟩ 1 none ∈ fb_W := ⟨fb_inW (i := 22) (by decide +kernel) rfl, fb_inW (i := 23) rfl rfl⟩
theorem fb_g_oi {i q1 a : Nat} {r : List Value} (X : fb_X p R s m args meth c D aC B sa rl rf n0 j) (hd : decode (mB j) pc = .ok (.invokespecial i, 3)) (hf : fb_fd fb_il (fb_ky j i) = some (6, q1)) (h1 : 1 ≤ mD j) (h4 : r.length ≤ 4)
    (k : fb_Nx p l e R s m args below meth c Q D aC B sa n0 z0 j h (pc + 3) ls r) : fb_Nx p l e R s m args below meth c Q D aC B sa n0 z0 j h pc ls (.ref a :: r) := by
  obtain ⟨q, hq, e1, e2⟩ := fb_cls hf
  obtain ⟨-, -, -, hw, -⟩ := fb_il_ok _ hq
  dsimp only at hw
  rw [e1, e2] at hw
  intro H locs lsr hP hS hL
  obtain ⟨hx, hb, hml, hown, hts, hE, hsz, hnm, hfr, hlo⟩ := X
  have hs1 := lv_room (pc := pc) (m := m) (ls := lsr) (rest := (Value.ref a :: r).map (fb_cv B sa)) (st := r.map (fb_cv B sa)) (by rw [fb_sum_cv]; have := fb_sum_le r; omega)
  refine W.objInit hx hb hown (hts _ (fb_inW (hw rfl) rfl)) (hts _ fb_wob.1) (hts _ fb_wob.2) rfl (by rw [hml]; exact hL.2.choose_spec.1.1) (a := fb_ad B sa a) (rest := r.map (fb_cv B sa)) rfl hd (by omega) (by omega) ?_
  exact k H locs lsr hP hS hL
theorem fb_g_cc {i q1 a : Nat} {r : List Value} (X : fb_X p R s m args meth c D aC B sa rl rf n0 j) (G : fb_G rl rf h) (hd : decode (mB j) pc = .ok (.checkcast i, 3)) (hf : fb_fd fb_cl (fb_ky j i) = some (10, q1)) (hT : (fb_T h a).1 = 10)
    (k : fb_Nx p l e R s m args below meth c Q D aC B sa n0 z0 j h (pc + 3) ls (.ref a :: r)) : fb_Nx p l e R s m args below meth c Q D aC B sa n0 z0 j h pc ls (.ref a :: r) := by
  have hw := fb_lk_c hf
  intro H locs lsr hP hS hL
  obtain ⟨hx, hb, hml, hown, hts, hE, hsz, -⟩ := X
  have ha : a < fb_N h := G.2.2.1 a (by omega)
  have k1 := k H locs lsr hP hS hL
  rw [fb_ref_lo (by have := G.1; omega)] at k1 ⊢
  have g : s.vm.findClass ("[" ++ (FieldType.int).toString) = some (aC 10) := (hE.1.2 0 _ rfl).2
  exact va_castA (nm := "[I") hx hb hown (hts _ hw) hP a (by rw [fb_ws_at ha, fb_cell_i hT (by omega) (by omega)]) g hd k1
theorem fb_wcl : (Cond.sameMethod "[I" "java/lang/Object" "clone" "()Ljava/lang/Object;" ∈ fb_W ∧ Cond.native ⟨"java/lang/Object", "clone", "()Ljava/lang/Object;"⟩ ∈ fb_W) ∧ Cond.instanceMethod ⟨"java/lang/Object", "clone", "()Ljava/lang/Object;"⟩ ∈ fb_W ∧ Cond.selects "[I" ⟨"[I", "clone", "()Ljava/lang/Object;"⟩ ⟨"java/lang/Object", "clone", "()Ljava/lang/Object;"⟩ ∈ fb_W :=
  ⟨⟨fb_inW (i := 33) (by decide +kernel) rfl, fb_inW (i := 34) (by decide +kernel) rfl⟩, fb_inW (i := 35) (by decide +kernel) rfl, fb_inW (i := 36) (by decide +kernel) rfl⟩
theorem fb_cp_cell {a i : Nat} (hi : i < fb_N h) : fb_cell aC B (fb_cp h a) i = fb_cell aC B h i := by
  have hne : i ≠ fb_N h := Nat.ne_of_lt hi
  exact fb_cell_eq (if_neg hne) (fun _ => if_neg hne) (fun _ => if_neg hne)
theorem fb_g_cl {i q1 a : Nat} {r : List Value} (X : fb_X p R s m args meth c D aC B sa rl rf n0 j) (G : fb_G rl rf h) (hn : n0 ≤ fb_N h) (hz0 : z0 ≤ fb_Z h) (hd : decode (mB j) pc = .ok (.invokevirtual i, 3)) (hf : fb_fd fb_il (fb_ky j i) = some (9, q1)) (hT : (fb_T h a).1 = 16) (ha1 : 1000000 ≤ a) (ha2 : a < 1000006) (hbig : fb_N h < 900000) (h1 : 1 ≤ mD j) (h4 : r.length ≤ 4) (hc : fb_N h + 1 - n0 ≤ R.cells) (hz' : fb_Z h + (fb_T h a).2 - z0 ≤ R.slots)
    (k : fb_Nx p l e R s m args below meth c Q D aC B sa n0 z0 j (fb_cp h a) (pc + 3) ls (.ref (fb_N h) :: r)) : fb_Nx p l e R s m args below meth c Q D aC B sa n0 z0 j h pc ls (.ref a :: r) := by
  obtain ⟨q, hq, e1, e2⟩ := fb_cls hf
  obtain ⟨-, -, -, -, hw, -⟩ := fb_il_ok _ hq
  dsimp only at hw
  rw [e1, e2] at hw
  have hw := fb_inW (hw rfl) rfl
  intro H locs lsr hP hS hL
  have X' := X
  obtain ⟨hx, hb, hml, hown, hts, hE, hsz, hnm, hfr, hlo⟩ := X
  refine fb_wsize fun hle => ?_
  have hH := fb_hsz hsz hn hP hS hle
  obtain ⟨t, ht7, rfl, hlen, hfv⟩ := G.2.2.2.1 a hT
  obtain ⟨cell, g1, g2, g3, g4, g5, g6⟩ := fb_ro_at (a := 0) X' ht7 hS
  have g6 := g6 (by omega)
  have gI : s.vm.findClass ("[" ++ (FieldType.int).toString) = some (aC 10) := (hE.1.2 0 _ rfl).2
  have hcls : cell.cls = aC 10 := Option.some.inj (g6.symm.trans gI)
  obtain ⟨c0, t0', f1, f2, f3⟩ := Cond.castable_spec (va_Nw.use (A := args) rfl hE.2.2.1)
  have hc0 : c0 = cell.cls := Option.some.inj (f1.symm.trans g6)
  subst hc0
  rw [fb_ref_hi]
  have hcellE : ({ cls := cell.cls, slots := cell.slots } : Cell) = vp_cell (aC 10) (rl t, .inl (rf t)) := by
    rw [vp_cell_i]
    unfold arrV
    rw [hcls]
    have : cell.slots = Array.ofFn (n := rl t) fun j => .int (rf t j.val) := by
      apply Array.ext_getElem?
      intro q
      by_cases hq : q < rl t
      · rw [g5 q hq]
        simp [Array.getElem?_ofFn, hq]
      · rw [Array.getElem?_eq_none (by omega), Array.getElem?_eq_none (by simp; omega)]
    rw [this]
  have hs1 := lv_room (pc := pc) (m := m) (ls := lsr) (rest := .ref (sa t) :: r.map (fb_cv B sa)) (st := r.map (fb_cv B sa)) (by rw [fb_sum_cv]; have := fb_sum_le r; omega)
  intro T hTT Xs
  obtain ⟨-, kA, hkA, comp, hkind⟩ := State.isArrayOf_alike Xs.warmed.alike g2
  obtain ⟨hst, kS, hkS, compS, hkindS⟩ := g2
  obtain ⟨vm', X1, st1⟩ := Xs.cloneArray hx hown (hts _ hw) (hts _ fb_wcl.1.1) (hts _ fb_wcl.1.2) (hts _ fb_wcl.2.1) (hts _ fb_wcl.2.2) (a := sa t) (cell := cell) (by rw [hTT]; exact g1) hst g3 g6 f2 f3
    (fun i v hv => by
      have hk' : T.vm.classes[cell.cls]? = some kA := hkA
      have hi : i < rl t := by rw [← g4]; exact (Array.getElem?_eq_some_iff.mp hv).1
      rw [g5 i hi] at hv
      cases hv
      simp [State.fitsSlot, State.slotType?, hk', hkind]
      rfl)
    (g := F0 m pc lsr (.ref (sa t) :: r.map (fb_cv B sa))) rfl (by rw [hml]; exact hL.2.choose_spec.1.1) rfl (by rw [hb]; exact hd) (by omega) (by omega) (by omega) (by rw [g4, ← hlen]; omega) (hloader := Vm.clonesLoader_of_array hkS hkindS)
  rw [hcellE, g4] at X1
  rw [hcellE] at st1
  generalize hH1 : H.push (vp_cell (aC 10) (rl t, .inl (rf t))) = H1
  have z1 : H1.size = H.size + 1 := by rw [← hH1, Array.size_push]
  have e1 : H1[B + fb_N h]? = some (vp_cell (aC 10) (rl t, .inl (rf t))) := by rw [← hH1, ← hH, Array.getElem?_push_size]
  have o1 : ∀ q : Nat, q < B + fb_N h → H1[q]? = H[q]? := fun q hq => by rw [← hH1, Array.getElem?_push, if_neg (by omega)]
  have k1 := k H1 locs lsr (fb_grow hP (fun i hi => fb_cp_cell hi) o1 (fun i h1 h2 => ?_)) (fb_growS hS hH (by omega) o1) hL
  · rw [fb_ref_lo (by omega)] at k1
    rw [show fb_N (fb_cp h (1000000 + t)) - n0 = fb_N h - n0 + 1 by show fb_N h + 1 - n0 = _; omega, show fb_Z (fb_cp h (1000000 + t)) - z0 = fb_Z h - z0 + rl t by show fb_Z h + (fb_T h (1000000 + t)).2 - z0 = _; omega] at k1
    obtain ⟨t2, a1, b1⟩ := k1 ((T.setVm vm').pushCell (vp_cell (aC 10) (rl t, .inl (rf t)))) (by rw [← hH1, ← hTT]; rfl) X1
    refine ⟨t2, st1 t2 ?_, b1⟩
    rw [show T.heap.size = B + fb_N h by rw [hTT, hH]]
    exact a1
  · have h2 : i < fb_N h + 1 := h2
    have hi : i = fb_N h := by omega
    subst hi
    have hT' : fb_T (fb_cp h (1000000 + t)) (fb_N h) = (10, (fb_T h (1000000 + t)).2) := if_pos rfl
    have hI' : fb_I (fb_cp h (1000000 + t)) (fb_N h) = rf t := by
      funext q
      exact (if_pos rfl).trans (hfv q)
    rw [fb_cell_i (h := fb_cp h (1000000 + t)) (c := 10) (by rw [hT']) (by omega) (by omega), hT', hI', hlen]
    exact e1
end FBM
