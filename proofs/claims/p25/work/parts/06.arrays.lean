section FBA
variable {p : Program} {l : Launch} {e : Env} {R : Room} {s : State} {m : MethodId} {args : Array Value} {below : List Frame} {meth : Method} {c : Code} {Q : State → Prop}
variable {D : va_G} {aC : Nat → ClassId} {B : Nat} {sa rl : Nat → Nat} {rf : Nat → Nat → Int32} {n0 z0 j pc : Nat} {ls st : List Value} {h : fb_H} {z : Nat × List Value × List Value × fb_H}
/-- the read-only arrays, in any heap that the method has come to -/
theorem fb_ro_at {k a : Nat} {H : Heap} {locs : List Loc} (X : fb_X p R s m args meth c D aC B sa rl rf n0 j) (hk : k < 7) (hS : va_S (fun q => B ≤ q) s.heap H locs) : fb_ro sa rl rf k s H := by
  obtain ⟨-, -, -, -, -, hE, hsz, -⟩ := X
  obtain ⟨h1, cell, h2, h3⟩ := hE.2.2.2.2.2.2.2 k hk
  exact ⟨cell, by rw [hS.2.1 _ (by omega) (by show ¬ B ≤ sa k; omega)]; exact h2, h3⟩
theorem fb_ref_lo {a : Nat} {r : List Value} (h : a < 1000000) : (Value.ref a :: r).map (fb_cv B sa) = .ref (B + a) :: r.map (fb_cv B sa) := by
  rw [List.map_cons]
  show Value.ref (fb_ad B sa a) :: _ = _
  rw [fb_ad_lo h]
theorem fb_ref_hi {k : Nat} {r : List Value} : (Value.ref (1000000 + k) :: r).map (fb_cv B sa) = .ref (sa k) :: r.map (fb_cv B sa) := by
  rw [List.map_cons]
  show Value.ref (fb_ad B sa (1000000 + k)) :: _ = _
  rw [fb_ad_hi]
theorem fb_i_cons {x : Int32} {r : List Value} : (Value.int x :: r).map (fb_cv B sa) = .int x :: r.map (fb_cv B sa) := rfl
theorem fb_g_iald (X : fb_X p R s m args meth c D aC B sa rl rf n0 j) (G : fb_G rl rf h) (hd : decode (mB j) pc = .ok (.iaload, 1)) (hs : fb_el 10 16 pc ls st h = some z)
    (k : fb_Nx p l e R s m args below meth c Q D aC B sa n0 z0 j z.2.2.2 z.1 z.2.1 z.2.2.1) : fb_Nx p l e R s m args below meth c Q D aC B sa n0 z0 j h pc ls st := by
  obtain ⟨x, a, r, rfl, hT, hin, rfl⟩ := fb_el_of hs
  intro H locs lsr hP hS hL
  have X' := X
  obtain ⟨hx, hb, hml, hown, hts, hE, hsz, -⟩ := X
  rw [fb_i_cons]
  rcases hT with hT | hT
  · have ha : a < fb_N h := G.2.2.1 a (by omega)
    rw [fb_ref_lo (by have := G.1; omega)]
    exact va_iald hx hb hE.1 hP a 0 (by rw [fb_ws_at ha, fb_cell_i hT (by omega) (by omega)]) rfl hin hd (k H locs lsr hP hS hL)
  · obtain ⟨q, hq, rfl, hlen, hf⟩ := G.2.2.2.1 a hT
    rw [fb_ref_hi]
    obtain ⟨cell, g1, g2, g3, g4, g5, -⟩ := fb_ro_at (a := 0) X' hq hS
    rw [hlen] at hin
    have hlt : x.toNatClampNeg < rl q := Nat.not_le.mp fun w => hin (Or.inr w)
    have k1 := k H locs lsr hP hS hL
    rw [hf] at k1
    exact W.iald hx hb g1 g2 g3 (by rw [g4]; exact hin) (g5 _ hlt) rfl rfl hd k1
theorem fb_g_zald (X : fb_X p R s m args meth c D aC B sa rl rf n0 j) (G : fb_G rl rf h) (hd : decode (mB j) pc = .ok (.baload, 1)) (hs : fb_el 11 11 pc ls st h = some z)
    (k : fb_Nx p l e R s m args below meth c Q D aC B sa n0 z0 j z.2.2.2 z.1 z.2.1 z.2.2.1) : fb_Nx p l e R s m args below meth c Q D aC B sa n0 z0 j h pc ls st := by
  obtain ⟨x, a, r, rfl, hT, hin, rfl⟩ := fb_el_of hs
  have hT : (fb_T h a).1 = 11 := by omega
  intro H locs lsr hP hS hL
  obtain ⟨hx, hb, hml, hown, hts, hE, hsz, -⟩ := X
  rw [fb_i_cons]
  have ha : a < fb_N h := G.2.2.1 a (by omega)
  rw [fb_ref_lo (by have := G.1; omega)]
  exact va_zald hx hb hE.1 hP a 1 (by rw [fb_ws_at ha, fb_cell_i hT (by omega) (by omega)]) rfl hin hd (k H locs lsr hP hS hL)
theorem fb_g_cald (X : fb_X p R s m args meth c D aC B sa rl rf n0 j) (G : fb_G rl rf h) (hd : decode (mB j) pc = .ok (.caload, 1)) (hs : fb_el 12 12 pc ls st h = some z)
    (k : fb_Nx p l e R s m args below meth c Q D aC B sa n0 z0 j z.2.2.2 z.1 z.2.1 z.2.2.1) : fb_Nx p l e R s m args below meth c Q D aC B sa n0 z0 j h pc ls st := by
  obtain ⟨x, a, r, rfl, hT, hin, rfl⟩ := fb_el_of hs
  have hT : (fb_T h a).1 = 12 := by omega
  intro H locs lsr hP hS hL
  obtain ⟨hx, hb, hml, hown, hts, hE, hsz, -⟩ := X
  rw [fb_i_cons]
  have ha : a < fb_N h := G.2.2.1 a (by omega)
  rw [fb_ref_lo (by have := G.1; omega)]
  exact va_cald hx hb hE.1 hP a 2 (by rw [fb_ws_at ha, fb_cell_i hT (by omega) (by omega)]) rfl hin hd (k H locs lsr hP hS hL)
theorem fb_set_I {k : Nat} {v : Int32} {a : Nat} (hT1 : 10 ≤ (fb_T h a).1) (hT2 : (fb_T h a).1 < 13) : (fb_ws aC B h).set a (B + a, .inl (aC (fb_T h a).1, (fb_T h a).2, .inl (upd (fb_I h a) k v))) = fb_ws aC B (fb_sI h a k v) := by
  refine fb_ws_set rfl ?_ (fun i hi => fb_cell_eq rfl (fun _ => rfl) (fun q => by rw [fb_sI_I, if_neg (fun hh => hi hh.1)]))
  rw [fb_cell_i (h := fb_sI h a k v) rfl (by rw [fb_sI_T]; exact hT1) (by rw [fb_sI_T]; exact hT2)]
  have e1 : fb_I (fb_sI h a k v) a = upd (fb_I h a) k v := by
    funext q
    rw [fb_sI_I]
    unfold upd
    simp
  rw [e1, fb_sI_T]
theorem fb_set_R {k b : Nat} {a : Nat} (hT1 : 13 ≤ (fb_T h a).1) : (fb_ws aC B h).set a (B + a, .inl (aC (fb_T h a).1, (fb_T h a).2, .inr (.inr (.inr (.inr (va_up (fun k => (fb_R h a k).map (fun a => B + a)) k (some (B + b)))))))) = fb_ws aC B (fb_sR h a k (some b)) := by
  refine fb_ws_set rfl ?_ (fun i hi => fb_cell_eq rfl (fun q => by rw [fb_sR_R, if_neg (fun hh => hi hh.1)]) (fun _ => rfl))
  rw [fb_cell_q (h := fb_sR h a k (some b)) rfl (by rw [fb_sR_T]; exact hT1)]
  have e1 : (fun q => (fb_R (fb_sR h a k (some b)) a q).map (fun a => B + a)) = va_up (fun k => (fb_R h a k).map (fun a => B + a)) k (some (B + b)) := by
    funext q
    rw [fb_sR_R]
    unfold va_up
    by_cases hq : q = k <;> simp [hq]
  rw [e1, fb_sR_T]
theorem fb_g_iast (X : fb_X p R s m args meth c D aC B sa rl rf n0 j) (G : fb_G rl rf h) (hd : decode (mB j) pc = .ok (.iastore, 1)) (hs : fb_es 10 (fun v => v) pc ls st h = some z)
    (k : fb_Nx p l e R s m args below meth c Q D aC B sa n0 z0 j z.2.2.2 z.1 z.2.1 z.2.2.1) : fb_Nx p l e R s m args below meth c Q D aC B sa n0 z0 j h pc ls st := by
  obtain ⟨v, x, a, r, rfl, hT, hin, rfl⟩ := fb_es_of hs
  intro H locs lsr hP hS hL
  obtain ⟨hx, hb, hml, hown, hts, hE, hsz, -⟩ := X
  have ha : a < fb_N h := G.2.2.1 a (by omega)
  rw [fb_i_cons, fb_i_cons, fb_ref_lo (by have := G.1; omega)]
  refine va_iast hx hb hE.1 hP (fb_ws_D aC B h) hS a 0 (by rw [fb_ws_at ha, fb_cell_i hT (by omega) (by omega)]) rfl hin hd (fun H1 locs1 hP1 _ hS1 => ?_)
  have e1 := fb_set_I (aC := aC) (B := B) (h := h) (k := x.toNatClampNeg) (v := v) (a := a) (by omega) (by omega)
  rw [hT] at e1
  rw [e1] at hP1
  exact k H1 locs1 lsr hP1 hS1 hL
theorem fb_g_zast (X : fb_X p R s m args meth c D aC B sa rl rf n0 j) (G : fb_G rl rf h) (hd : decode (mB j) pc = .ok (.bastore, 1)) (hs : fb_es 11 (fun v => vp_nar .boolean v) pc ls st h = some z)
    (k : fb_Nx p l e R s m args below meth c Q D aC B sa n0 z0 j z.2.2.2 z.1 z.2.1 z.2.2.1) : fb_Nx p l e R s m args below meth c Q D aC B sa n0 z0 j h pc ls st := by
  obtain ⟨v, x, a, r, rfl, hT, hin, rfl⟩ := fb_es_of hs
  intro H locs lsr hP hS hL
  obtain ⟨hx, hb, hml, hown, hts, hE, hsz, -⟩ := X
  have ha : a < fb_N h := G.2.2.1 a (by omega)
  rw [fb_i_cons, fb_i_cons, fb_ref_lo (by have := G.1; omega)]
  refine va_zast hx hb hE.1 hP (fb_ws_D aC B h) hS a 1 (by rw [fb_ws_at ha, fb_cell_i hT (by omega) (by omega)]) rfl hin hd (fun H1 locs1 hP1 _ hS1 => ?_)
  have e1 := fb_set_I (aC := aC) (B := B) (h := h) (k := x.toNatClampNeg) (v := vp_nar .boolean v) (a := a) (by omega) (by omega)
  rw [hT] at e1
  rw [e1] at hP1
  exact k H1 locs1 lsr hP1 hS1 hL
theorem fb_g_cast (X : fb_X p R s m args meth c D aC B sa rl rf n0 j) (G : fb_G rl rf h) (hd : decode (mB j) pc = .ok (.castore, 1)) (hs : fb_es 12 (fun v => vp_nar .char v) pc ls st h = some z)
    (k : fb_Nx p l e R s m args below meth c Q D aC B sa n0 z0 j z.2.2.2 z.1 z.2.1 z.2.2.1) : fb_Nx p l e R s m args below meth c Q D aC B sa n0 z0 j h pc ls st := by
  obtain ⟨v, x, a, r, rfl, hT, hin, rfl⟩ := fb_es_of hs
  intro H locs lsr hP hS hL
  obtain ⟨hx, hb, hml, hown, hts, hE, hsz, -⟩ := X
  have ha : a < fb_N h := G.2.2.1 a (by omega)
  rw [fb_i_cons, fb_i_cons, fb_ref_lo (by have := G.1; omega)]
  refine va_cast hx hb hE.1 hP (fb_ws_D aC B h) hS a 2 (by rw [fb_ws_at ha, fb_cell_i hT (by omega) (by omega)]) rfl hin hd (fun H1 locs1 hP1 _ hS1 => ?_)
  have e1 := fb_set_I (aC := aC) (B := B) (h := h) (k := x.toNatClampNeg) (v := vp_nar .char v) (a := a) (by omega) (by omega)
  rw [hT] at e1
  rw [e1] at hP1
  exact k H1 locs1 lsr hP1 hS1 hL
theorem fb_g_aald {x : Int32} {a : Nat} {r : List Value} {b : Nat} (X : fb_X p R s m args meth c D aC B sa rl rf n0 j) (G : fb_G rl rf h) (hd : decode (mB j) pc = .ok (.aaload, 1)) (hT : (fb_T h a).1 = 13 ∨ (fb_T h a).1 = 14 ∨ (fb_T h a).1 = 15) (hin : vp_in x (fb_T h a).2) (hb' : fb_R h a x.toNatClampNeg = some b)
    (k : fb_Nx p l e R s m args below meth c Q D aC B sa n0 z0 j h (pc + 1) ls (.ref b :: r)) : fb_Nx p l e R s m args below meth c Q D aC B sa n0 z0 j h pc ls (.int x :: .ref a :: r) := by
  intro H locs lsr hP hS hL
  obtain ⟨hx, hb, hml, hown, hts, hE, hsz, -⟩ := X
  have ha : a < fb_N h := G.2.2.1 a (by omega)
  have hb6 : b < 1000000 := by have := G.2.1 _ _ _ hb'; have := G.1; omega
  have k1 := k H locs lsr hP hS hL
  rw [fb_ref_lo hb6] at k1
  rw [fb_i_cons, fb_ref_lo (by have := G.1; omega)]
  have hlt : x.toNatClampNeg < (fb_T h a).2 := Nat.not_le.mp fun w => hin (Or.inr w)
  have hc := hP a _ (fb_ws_at ha)
  rw [fb_cell_q rfl (by omega)] at hc
  have hc : H[B + a]? = some (arrV (aC (fb_T h a).1) (fb_T h a).2 (fun q => va_rf ((fb_R h a q).map (fun a => B + a)))) := hc
  have hval : (arrV (aC (fb_T h a).1) (fb_T h a).2 (fun q => va_rf ((fb_R h a q).map (fun a => B + a)))).slots[x.toNatClampNeg]? = some (.ref (B + b)) := by
    rw [arrV_read _ _ hlt, hb']
    rfl
  have hin' : ¬ (x < 0 ∨ (arrV (aC (fb_T h a).1) (fb_T h a).2 (fun q => va_rf ((fb_R h a q).map (fun a => B + a)))).slots.size ≤ x.toNatClampNeg) := by rw [arrV_size]; exact hin
  rcases hT with hT | hT | hT
  · exact W.aald (ty := .object "FiguredBasses$Piece") hx hb hc (by rw [hT]; exact (hE.1.2 3 _ rfl).1 _ _) rfl (fun q => by cases q) hin' hval rfl rfl hd k1
  · exact W.aald (ty := .object "FiguredBasses$Voicings") hx hb hc (by rw [hT]; exact (hE.1.2 4 _ rfl).1 _ _) rfl (fun q => by cases q) hin' hval rfl rfl hd k1
  · exact W.aald (ty := .array .int) hx hb hc (by rw [hT]; exact (hE.1.2 5 _ rfl).1 _ _) rfl (fun q => by cases q) hin' hval rfl rfl hd k1
theorem fb_g_aast {x : Int32} {a b : Nat} {r : List Value} (X : fb_X p R s m args meth c D aC B sa rl rf n0 j) (G : fb_G rl rf h) (hd : decode (mB j) pc = .ok (.aastore, 1)) (hT : (fb_T h a).1 = 13 ∧ (fb_T h b).1 = 3 ∨ (fb_T h a).1 = 14 ∧ (fb_T h b).1 = 5) (hin : vp_in x (fb_T h a).2)
    (k : fb_Nx p l e R s m args below meth c Q D aC B sa n0 z0 j (fb_sR h a x.toNatClampNeg (some b)) (pc + 1) ls r) : fb_Nx p l e R s m args below meth c Q D aC B sa n0 z0 j h pc ls (.ref b :: .int x :: .ref a :: r) := by
  intro H locs lsr hP hS hL
  obtain ⟨hx, hb, hml, hown, hts, hE, hsz, -⟩ := X
  have ha : a < fb_N h := G.2.2.1 a (by omega)
  have hbN : b < fb_N h := G.2.2.1 b (by omega)
  have hN := G.1
  rw [fb_ref_lo (by omega), fb_i_cons, fb_ref_lo (by omega)]
  have e1 := fb_set_R (aC := aC) (B := B) (h := h) (k := x.toNatClampNeg) (b := b) (a := a) (by omega)
  rcases hT with ⟨hT, hTb⟩ | ⟨hT, hTb⟩
  · rw [hT] at e1
    refine va_astq (r := (RX3, TX3, 5)) hx hb hE.1 hP (fb_ws_D aC B h) hS a 3 b 3 (by rw [fb_ws_at ha, fb_cell_q hT (by omega)]) rfl (by rw [fb_ws_at hbN, fb_cell_o hTb (by omega)]) rfl hin hd (fun H1 locs1 hP1 _ hS1 => ?_)
    rw [e1] at hP1
    exact k H1 locs1 lsr hP1 hS1 hL
  · rw [hT] at e1
    refine va_astq (r := (RX6, TX6, 2)) hx hb hE.1 hP (fb_ws_D aC B h) hS a 4 b 5 (by rw [fb_ws_at ha, fb_cell_q hT (by omega)]) rfl (by rw [fb_ws_at hbN, fb_cell_o hTb (by omega)]) rfl hin hd (fun H1 locs1 hP1 _ hS1 => ?_)
    rw [e1] at hP1
    exact k H1 locs1 lsr hP1 hS1 hL
theorem fb_g_alen {a : Nat} {r : List Value} (X : fb_X p R s m args meth c D aC B sa rl rf n0 j) (G : fb_G rl rf h) (hd : decode (mB j) pc = .ok (.arraylength, 1)) (h1 : 10 ≤ (fb_T h a).1) (h2 : (fb_T h a).1 ≤ 16)
    (k : fb_Nx p l e R s m args below meth c Q D aC B sa n0 z0 j h (pc + 1) ls (.int (Int32.ofNat (fb_T h a).2) :: r)) : fb_Nx p l e R s m args below meth c Q D aC B sa n0 z0 j h pc ls (.ref a :: r) := by
  intro H locs lsr hP hS hL
  have X' := X
  obtain ⟨hx, hb, hml, hown, hts, hE, hsz, -⟩ := X
  have k1 := k H locs lsr hP hS hL
  rw [fb_i_cons] at k1
  by_cases h16 : (fb_T h a).1 = 16
  · obtain ⟨q, hq, rfl, hlen, hf⟩ := G.2.2.2.1 a h16
    rw [fb_ref_hi]
    obtain ⟨cell, g1, g2, g3, g4, g5, -⟩ := fb_ro_at (a := 0) X' hq hS
    exact W.alen hx hb g1 g2 (by rw [g4, ← hlen]) rfl rfl hd k1
  · have ha : a < fb_N h := G.2.2.1 a (by omega)
    rw [fb_ref_lo (by have := G.1; omega)]
    have hcase : (fb_T h a).1 = 10 ∨ (fb_T h a).1 = 11 ∨ (fb_T h a).1 = 12 ∨ (fb_T h a).1 = 13 ∨ (fb_T h a).1 = 14 ∨ (fb_T h a).1 = 15 := by omega
    rcases hcase with hT | hT | hT | hT | hT | hT
    · exact va_alen hx hb hE.1 hP a 0 (by rw [fb_ws_at ha, fb_cell_i hT (by omega) (by omega)]) (ty := .int) rfl rfl hd k1
    · exact va_alen hx hb hE.1 hP a 1 (by rw [fb_ws_at ha, fb_cell_i hT (by omega) (by omega)]) (ty := .boolean) rfl rfl hd k1
    · exact va_alen hx hb hE.1 hP a 2 (by rw [fb_ws_at ha, fb_cell_i hT (by omega) (by omega)]) (ty := .char) rfl rfl hd k1
    · exact va_alen hx hb hE.1 hP a 3 (by rw [fb_ws_at ha, fb_cell_q hT (by omega)]) (ty := .object "FiguredBasses$Piece") rfl rfl hd k1
    · exact va_alen hx hb hE.1 hP a 4 (by rw [fb_ws_at ha, fb_cell_q hT (by omega)]) (ty := .object "FiguredBasses$Voicings") rfl rfl hd k1
    · exact va_alen hx hb hE.1 hP a 5 (by rw [fb_ws_at ha, fb_cell_q hT (by omega)]) (ty := .array .int) rfl rfl hd k1
theorem fb_g_gets {i k1 q1 : Nat} (X : fb_X p R s m args meth c D aC B sa rl rf n0 j) (hd : decode (mB j) pc = .ok (.getstatic i, 3)) (hf : fb_fd fb_sl (fb_ky j i) = some (k1, q1))
    (k : fb_Nx p l e R s m args below meth c Q D aC B sa n0 z0 j h (pc + 3) ls (.ref (1000000 + k1) :: st)) : fb_Nx p l e R s m args below meth c Q D aC B sa n0 z0 j h pc ls st := by
  obtain ⟨h6, hw⟩ := fb_lk_s hf
  intro H locs lsr hP hS hL
  obtain ⟨hx, hb, hml, hown, hts, hE, hsz, -⟩ := X
  have k1' := k H locs lsr hP hS hL
  rw [fb_ref_hi] at k1'
  have hZ := hE.2.2.2.2.2.2.1 k1 h6
  by_cases hq : q1 = 0
  · rw [if_pos hq] at hw
    exact va_gets hx hb hZ hS hown (hts _ (List.mem_filter.mpr ⟨hw, rfl⟩)) (fun x hx => hx) hd k1'
  · rw [if_neg hq] at hw
    exact va_getsN hx hb hZ hS hown (va_Nw.use rfl (hE.2.1 _ hw rfl)) (fun x hx => hx) hd k1'
end FBA
