section FBR
variable {p : Program} {l : Launch} {e : Env} {R : Room} {s : State} {m : MethodId} {args : Array Value} {below : List Frame} {meth : Method} {c : Code} {Q : State → Prop}
variable {D : va_G} {aC : Nat → ClassId} {B : Nat} {sa rl : Nat → Nat} {rf : Nat → Nat → Int32} {n0 z0 j pc : Nat} {ls st : List Value} {h : fb_H} {z : Nat × List Value × List Value × fb_H}
theorem fb_g_push {v : Value} {n : Nat} (row : ∀ (H : Heap) (locs : List Loc) (lsr : Array Slot) (rest : List Value), W p l e R s m args below meth c H locs (fb_N h - n0) (fb_Z h - z0) Q (F0 m (pc + n) lsr (fb_cv B sa v :: rest)) → W p l e R s m args below meth c H locs (fb_N h - n0) (fb_Z h - z0) Q (F0 m pc lsr rest)) (k : fb_Nx p l e R s m args below meth c Q D aC B sa n0 z0 j h (pc + n) ls (v :: st)) : fb_Nx p l e R s m args below meth c Q D aC B sa n0 z0 j h pc ls st :=
  fun H locs lsr hP hS hL => row H locs lsr _ (k H locs lsr hP hS hL)
/-- an instruction that pops some and pushes one -/
theorem fb_g_pop {vs : List Value} {v : Value} {r : List Value} {n : Nat} (row : ∀ (H : Heap) (locs : List Loc) (lsr : Array Slot) (rest : List Value), W p l e R s m args below meth c H locs (fb_N h - n0) (fb_Z h - z0) Q (F0 m (pc + n) lsr (fb_cv B sa v :: rest)) → W p l e R s m args below meth c H locs (fb_N h - n0) (fb_Z h - z0) Q (F0 m pc lsr (vs.map (fb_cv B sa) ++ rest))) (k : fb_Nx p l e R s m args below meth c Q D aC B sa n0 z0 j h (pc + n) ls (v :: r)) : fb_Nx p l e R s m args below meth c Q D aC B sa n0 z0 j h pc ls (vs ++ r) := by
  intro H locs lsr hP hS hL
  rw [List.map_append]
  exact row H locs lsr _ (k H locs lsr hP hS hL)
theorem fb_g_b2 {f : Int32 → Int32 → Int32} (hs : fb_b2 f pc ls st h = some z) (row : ∀ (H : Heap) (locs : List Loc) (lsr : Array Slot) (rest : List Value) (x y : Int32), W p l e R s m args below meth c H locs (fb_N h - n0) (fb_Z h - z0) Q (F0 m (pc + 1) lsr (.int (f x y) :: rest)) → W p l e R s m args below meth c H locs (fb_N h - n0) (fb_Z h - z0) Q (F0 m pc lsr (.int y :: .int x :: rest)))
    (k : fb_Nx p l e R s m args below meth c Q D aC B sa n0 z0 j z.2.2.2 z.1 z.2.1 z.2.2.1) : fb_Nx p l e R s m args below meth c Q D aC B sa n0 z0 j h pc ls st := by
  obtain ⟨x, y, r, rfl, rfl⟩ := fb_b2_of hs
  exact fun H locs lsr hP hS hL => row H locs lsr _ x y (k H locs lsr hP hS hL)
theorem fb_g_l2 {f : Int64 → Int64 → Value} (hf : ∀ x y, fb_cv B sa (f x y) = f x y) (hs : fb_l2 f pc ls st h = some z) (row : ∀ (H : Heap) (locs : List Loc) (lsr : Array Slot) (rest : List Value) (x y : Int64), W p l e R s m args below meth c H locs (fb_N h - n0) (fb_Z h - z0) Q (F0 m (pc + 1) lsr (f x y :: rest)) → W p l e R s m args below meth c H locs (fb_N h - n0) (fb_Z h - z0) Q (F0 m pc lsr (.long y :: .long x :: rest)))
    (k : fb_Nx p l e R s m args below meth c Q D aC B sa n0 z0 j z.2.2.2 z.1 z.2.1 z.2.2.1) : fb_Nx p l e R s m args below meth c Q D aC B sa n0 z0 j h pc ls st := by
  obtain ⟨x, y, r, rfl, rfl⟩ := fb_l2_of hs
  intro H locs lsr hP hS hL
  have k1 := k H locs lsr hP hS hL
  rw [List.map_cons, hf] at k1
  exact row H locs lsr _ x y k1
theorem fb_g_ls {f : Int64 → Int32 → Int64} (hs : fb_ls f pc ls st h = some z) (row : ∀ (H : Heap) (locs : List Loc) (lsr : Array Slot) (rest : List Value) (x : Int64) (y : Int32), W p l e R s m args below meth c H locs (fb_N h - n0) (fb_Z h - z0) Q (F0 m (pc + 1) lsr (.long (f x y) :: rest)) → W p l e R s m args below meth c H locs (fb_N h - n0) (fb_Z h - z0) Q (F0 m pc lsr (.int y :: .long x :: rest)))
    (k : fb_Nx p l e R s m args below meth c Q D aC B sa n0 z0 j z.2.2.2 z.1 z.2.1 z.2.2.1) : fb_Nx p l e R s m args below meth c Q D aC B sa n0 z0 j h pc ls st := by
  obtain ⟨x, y, r, rfl, rfl⟩ := fb_ls_of hs
  exact fun H locs lsr hP hS hL => row H locs lsr _ x y (k H locs lsr hP hS hL)
theorem fb_g_ldi {i n : Nat} (hs : fb_ldi i n pc ls st h = some z) (row : ∀ (H : Heap) (locs : List Loc) (lsr : Array Slot) (rest : List Value) (x : Int32), lsr[i]? = some (.val (.int x)) → W p l e R s m args below meth c H locs (fb_N h - n0) (fb_Z h - z0) Q (F0 m (pc + n) lsr (.int x :: rest)) → W p l e R s m args below meth c H locs (fb_N h - n0) (fb_Z h - z0) Q (F0 m pc lsr rest))
    (k : fb_Nx p l e R s m args below meth c Q D aC B sa n0 z0 j z.2.2.2 z.1 z.2.1 z.2.2.1) : fb_Nx p l e R s m args below meth c Q D aC B sa n0 z0 j h pc ls st := by
  obtain ⟨x, hx, rfl⟩ := fb_ldi_of hs
  exact fun H locs lsr hP hS hL => row H locs lsr _ x (hL.at hx (fun q => by cases q)) (k H locs lsr hP hS hL)
theorem fb_g_lda {i n : Nat} (hs : fb_lda i n pc ls st h = some z) (row : ∀ (H : Heap) (locs : List Loc) (lsr : Array Slot) (rest : List Value) (x : Nat), lsr[i]? = some (.val (.ref x)) → W p l e R s m args below meth c H locs (fb_N h - n0) (fb_Z h - z0) Q (F0 m (pc + n) lsr (.ref x :: rest)) → W p l e R s m args below meth c H locs (fb_N h - n0) (fb_Z h - z0) Q (F0 m pc lsr rest))
    (k : fb_Nx p l e R s m args below meth c Q D aC B sa n0 z0 j z.2.2.2 z.1 z.2.1 z.2.2.1) : fb_Nx p l e R s m args below meth c Q D aC B sa n0 z0 j h pc ls st := by
  obtain ⟨x, hx, rfl⟩ := fb_lda_of hs
  exact fun H locs lsr hP hS hL => row H locs lsr _ _ (hL.at hx (fun q => by cases q)) (k H locs lsr hP hS hL)
theorem fb_g_ldl {i n : Nat} (hs : fb_ldl i n pc ls st h = some z) (row : ∀ (H : Heap) (locs : List Loc) (lsr : Array Slot) (rest : List Value) (x : Int64), lsr[i]? = some (.val (.long x)) → W p l e R s m args below meth c H locs (fb_N h - n0) (fb_Z h - z0) Q (F0 m (pc + n) lsr (.long x :: rest)) → W p l e R s m args below meth c H locs (fb_N h - n0) (fb_Z h - z0) Q (F0 m pc lsr rest))
    (k : fb_Nx p l e R s m args below meth c Q D aC B sa n0 z0 j z.2.2.2 z.1 z.2.1 z.2.2.1) : fb_Nx p l e R s m args below meth c Q D aC B sa n0 z0 j h pc ls st := by
  obtain ⟨x, hx, rfl⟩ := fb_ldl_of hs
  exact fun H locs lsr hP hS hL => row H locs lsr _ _ (hL.at hx (fun q => by cases q)) (k H locs lsr hP hS hL)
theorem fb_g_sto {i n : Nat} (hs : fb_sto i n pc ls st h = some z) (row : ∀ (H : Heap) (locs : List Loc) (lsr : Array Slot) (rest : List Value) (x : Int32) (lv : List (Nat × Value)), lv_has lsr (mL j) lv → i < mL j → (∀ ls' : Array Slot, lv_has ls' (mL j) ((i, Value.int x) :: lv.filter (fun q => !(q.1 == i) && !(q.1 + 1 == i && q.2.category == 2))) → W p l e R s m args below meth c H locs (fb_N h - n0) (fb_Z h - z0) Q (F0 m (pc + n) ls' rest)) → W p l e R s m args below meth c H locs (fb_N h - n0) (fb_Z h - z0) Q (F0 m pc lsr (.int x :: rest)))
    (k : fb_Nx p l e R s m args below meth c Q D aC B sa n0 z0 j z.2.2.2 z.1 z.2.1 z.2.2.1) : fb_Nx p l e R s m args below meth c Q D aC B sa n0 z0 j h pc ls st := by
  obtain ⟨x, r, l', rfl, h1, rfl⟩ := fb_sto_of hs
  intro H locs lsr hP hS hL
  obtain ⟨hn, lv, hl, hm⟩ := hL
  obtain ⟨h2, h3⟩ := fb_put h1 hn hm
  exact row H locs lsr _ x lv hl h2 (fun ls' h' => k H locs ls' hP hS (h3 ls' h'))
theorem fb_g_sta {i n : Nat} (hs : fb_sta i n pc ls st h = some z) (row : ∀ (H : Heap) (locs : List Loc) (lsr : Array Slot) (rest : List Value) (x : Nat) (lv : List (Nat × Value)), lv_has lsr (mL j) lv → i < mL j → (∀ ls' : Array Slot, lv_has ls' (mL j) ((i, Value.ref x) :: lv.filter (fun q => !(q.1 == i) && !(q.1 + 1 == i && q.2.category == 2))) → W p l e R s m args below meth c H locs (fb_N h - n0) (fb_Z h - z0) Q (F0 m (pc + n) ls' rest)) → W p l e R s m args below meth c H locs (fb_N h - n0) (fb_Z h - z0) Q (F0 m pc lsr (.ref x :: rest)))
    (k : fb_Nx p l e R s m args below meth c Q D aC B sa n0 z0 j z.2.2.2 z.1 z.2.1 z.2.2.1) : fb_Nx p l e R s m args below meth c Q D aC B sa n0 z0 j h pc ls st := by
  obtain ⟨x, r, l', rfl, h1, rfl⟩ := fb_sta_of hs
  intro H locs lsr hP hS hL
  obtain ⟨hn, lv, hl, hm⟩ := hL
  obtain ⟨h2, h3⟩ := fb_put h1 hn hm
  exact row H locs lsr _ _ lv hl h2 (fun ls' h' => k H locs ls' hP hS (h3 ls' h'))
theorem fb_g_j {off : Int} {ls' st' : List Value} (hs : fb_j pc off ls' st' h = some z) (row : ∀ (H : Heap) (locs : List Loc) (lsr : Array Slot), (pc : Int) + off = (fb_to pc off : Int) → W p l e R s m args below meth c H locs (fb_N h - n0) (fb_Z h - z0) Q (F0 m (fb_to pc off) lsr (st'.map (fb_cv B sa))) → W p l e R s m args below meth c H locs (fb_N h - n0) (fb_Z h - z0) Q (F0 m pc lsr (st.map (fb_cv B sa))))
    (hls : ls' = ls) (k : fb_Nx p l e R s m args below meth c Q D aC B sa n0 z0 j z.2.2.2 z.1 z.2.1 z.2.2.1) : fb_Nx p l e R s m args below meth c Q D aC B sa n0 z0 j h pc ls st := by
  obtain ⟨h1, rfl⟩ := fb_j_of hs
  subst hls
  exact fun H locs lsr hP hS hL => row H locs lsr h1 (k H locs lsr hP hS hL)
/-- links -/
theorem fb_lk_f {i c1 k1 : Nat} (hf : fb_fd fb_fl (fb_ky j i) = some (c1, k1)) : c1 < 7 ∧ k1 < cN c1 ∧ Cond.fieldLink (oN (mO j)) i (cX c1) (cT c1 k1).2.1 (cT c1 k1).2.2.1 ∈ fb_W := by
  obtain ⟨q, hq⟩ := fb_fd_of hf
  obtain ⟨h1, h2, h3⟩ := fb_fl_ok _ hq
  obtain ⟨e1, e2⟩ := fb_ky_of (fb_ky_ok.1 _ hq)
  dsimp only at h1 h2 h3
  rw [e1, e2] at h3
  exact ⟨h1, h2, fb_inW h3 rfl⟩
theorem fb_lk_s {i k1 q1 : Nat} (hf : fb_fd fb_sl (fb_ky j i) = some (k1, q1)) : k1 < 6 ∧ (if q1 = 0 then Cond.fieldLink (oN (mO j)) i "FiguredBasses" (fb_sn k1) "[I" else Cond.fieldLinkNest (oN (mO j)) i "FiguredBasses" (fb_sn k1) "[I" "FiguredBasses") ∈ lw_tbl := by
  obtain ⟨q, hq⟩ := fb_fd_of hf
  obtain ⟨h1, h3⟩ := fb_sl_ok _ hq
  obtain ⟨e1, e2⟩ := fb_ky_of (fb_ky_ok.2.1 _ hq)
  dsimp only at h1 h3
  rw [e1, e2] at h3
  exact ⟨h1, List.mem_of_getElem? h3⟩
theorem fb_lk_c {i k1 q1 : Nat} (hf : fb_fd fb_cl (fb_ky j i) = some (k1, q1)) : Cond.classLink (oN (mO j)) i (if k1 < 7 then cX k1 else if k1 = 10 then "[I" else if k1 = 13 then "FiguredBasses$Piece" else if k1 = 14 then "FiguredBasses$Voicings" else "[[I") ∈ fb_W := by
  obtain ⟨q, hq⟩ := fb_fd_of hf
  have h3 := fb_cl_ok _ hq
  obtain ⟨e1, e2⟩ := fb_ky_of (fb_ky_ok.2.2.2.1 _ hq)
  dsimp only at h3
  rw [e1, e2] at h3
  exact fb_inW h3 rfl
theorem fb_lk_n {i k1 q1 : Nat} (hf : fb_fd fb_nl (fb_ky j i) = some (k1, q1)) : Cond.classLink (oN (mO j)) i (cX k1) ∈ fb_W := by
  obtain ⟨q, hq⟩ := fb_fd_of hf
  have h3 := (fb_nl_ok _ hq).2
  obtain ⟨e1, e2⟩ := fb_ky_of (fb_kn_ok _ hq)
  dsimp only at h3
  rw [e1, e2] at h3
  exact fb_inW h3 rfl
theorem fb_lk_i {i : Nat} {v : Int32} (hf : fb_ki (fb_ky j i) = some v) : Cond.constant (oN (mO j)) i v ∈ fb_W := by
  obtain ⟨a, q, hq⟩ := fb_ki_of hf
  have h3 := fb_kl_ok _ hq
  obtain ⟨e1, e2⟩ := fb_ky_of (fb_ky_ok.2.2.2.2.1 _ hq)
  dsimp only at h3
  rw [e1, e2] at h3
  exact fb_inW h3 rfl
theorem fb_lk_j {i : Nat} {v : Int64} (hf : fb_kj (fb_ky j i) = some v) : Cond.constantLong (oN (mO j)) i v ∈ fb_W := by
  obtain ⟨a, q, hq⟩ := fb_kj_of hf
  have h3 := fb_jl_ok _ hq
  obtain ⟨e1, e2⟩ := fb_ky_of (fb_ky_ok.2.2.2.2.2 _ hq)
  dsimp only at h3
  rw [e1, e2] at h3
  exact fb_inW h3 rfl
theorem fb_mt_o {k : Nat} {f : Nat → Value} {n : Nat} {q : Nat} (hq : q < n) : ((List.range n).map f)[q]? = some (f q) := by
  rw [List.getElem?_map, List.getElem?_range hq]
  rfl
theorem fb_g_gf {i : Nat} (X : fb_X p R s m args meth c D aC B sa rl rf n0 j) (G : fb_G rl rf h) (hd : decode (mB j) pc = .ok (.getfield i, 3)) (hs : fb_gf (fb_fd fb_fl (fb_ky j i)) pc ls st h = some z)
    (k : fb_Nx p l e R s m args below meth c Q D aC B sa n0 z0 j z.2.2.2 z.1 z.2.1 z.2.2.1) : fb_Nx p l e R s m args below meth c Q D aC B sa n0 z0 j h pc ls st := by
  obtain ⟨a, r, c1, k1, rfl, hf, hT, hz⟩ := fb_gf_of hs
  obtain ⟨h8, hk, hlk⟩ := fb_lk_f hf
  have ha : a < fb_N h := G.2.2.1 a (by omega)
  have ha6 : a < 1000000 := by have := G.1; omega
  obtain ⟨hx, hb, hml, hown, hts, hE, -⟩ := X
  intro H locs lsr hP hS hL
  have he : (fb_ws aC B h)[a]? = some (B + a, .inr (c1, (List.range (cN c1)).map (fun k => if cK c1 k = true then va_rf ((fb_R h a k).map (fun a => B + a)) else .int (fb_I h a k)))) := by rw [fb_ws_at ha, fb_cell_o hT (by omega)]
  have hst : (Value.ref a :: r).map (fb_cv B sa) = .ref (B + a) :: r.map (fb_cv B sa) := by rw [List.map_cons]; show Value.ref (fb_ad B sa a) :: _ = _; rw [fb_ad_lo ha6]
  rw [hst]
  refine va_get hx hb hts (fb_uin c1 h8) hown hE.1 hP a he (cX_at c1 h8) k1 hk (hts _ hlk) (fun x hx => by rw [cO_ok c1 h8 k1 hk] at hx; exact hx) (v := if cK c1 k1 = true then va_rf ((fb_R h a k1).map (fun a => B + a)) else .int (fb_I h a k1)) (fb_mt_o (k := 0) hk) hd ?_
  rcases hz with ⟨hK, b, hb', rfl⟩ | ⟨hK, rfl⟩
  · have hb6 : b < 1000000 := by have := G.2.1 _ _ _ hb'; have := G.1; omega
    rw [if_pos hK, hb']
    have k1 := k H locs lsr hP hS hL
    rw [List.map_cons] at k1
    have e1 : fb_cv B sa (.ref b) = va_rf (Option.map (fun a => B + a) (some b)) := by show Value.ref (fb_ad B sa b) = _; rw [fb_ad_lo hb6]; rfl
    rw [e1] at k1
    exact k1
  · rw [if_neg (by rw [hK]; decide)]
    exact k H locs lsr hP hS hL
theorem fb_K_ty (hK : va_K D vwCl (fb_ty aC) s) : True := trivial
theorem fb_g_pf {i : Nat} (X : fb_X p R s m args meth c D aC B sa rl rf n0 j) (G : fb_G rl rf h) (hd : decode (mB j) pc = .ok (.putfield i, 3)) (hs : fb_pf j (fb_fd fb_fl (fb_ky j i)) pc ls st h = some z)
    (k : fb_Nx p l e R s m args below meth c Q D aC B sa n0 z0 j z.2.2.2 z.1 z.2.1 z.2.2.1) : fb_Nx p l e R s m args below meth c Q D aC B sa n0 z0 j h pc ls st := by
  obtain ⟨a, r, c1, k1, hf, hT, hz⟩ := fb_pf_of hs
  obtain ⟨h8, hk, hlk⟩ := fb_lk_f hf
  have ha : a < fb_N h := G.2.2.1 a (by omega)
  have ha6 : a < 1000000 := by have := G.1; omega
  obtain ⟨hx, hb, hml, hown, hts, hE, -, hnm, -⟩ := X
  have he : (fb_ws aC B h)[a]? = some (B + a, .inr (c1, (List.range (cN c1)).map (fun k => if cK c1 k = true then va_rf ((fb_R h a k).map (fun a => B + a)) else .int (fb_I h a k)))) := by rw [fb_ws_at ha, fb_cell_o hT (by omega)]
  intro H locs lsr hP hS hL
  rcases hz with ⟨v, rfl, hK, hfin, rfl⟩ | ⟨b, rfl, hK, hbN, hfin, hin, hco, rfl⟩
  · have hst : (Value.int v :: .ref a :: r).map (fb_cv B sa) = .int v :: .ref (B + a) :: r.map (fb_cv B sa) := by rw [List.map_cons, List.map_cons]; show Value.int v :: Value.ref (fb_ad B sa a) :: _ = _; rw [fb_ad_lo ha6]
    rw [hst]
    have hty := (cK_ok c1 h8 k1 hk).1 hK
    refine va_put hx hb hts (fb_uin c1 h8) (cY c1) (cY_ok c1 h8) (cT_nm c1 h8) hown hE.1 hP (fb_ws_D aC B h) hS a he (cX_at c1 h8) k1 hk (hts _ hlk) (fun x hx => by rw [cO_ok c1 h8 k1 hk] at hx; exact hx) hfin (ty := .int) (by rw [cY_ok c1 h8 k1 hk, hty]) rfl rfl (by simpa using hk) hd (fun H1 locs1 hP1 _ hS1 => ?_)
    rw [fb_fields_I hk hK] at hP1
    rw [fb_ws_set (aC := aC) (B := B) (h := h) (h' := fb_sI h a k1 v) rfl (fb_cell_o hT (by omega)) (fun i hi => fb_cell_eq rfl (fun _ => rfl) (fun q => by rw [fb_sI_I, if_neg (fun hh => hi hh.1)]))] at hP1
    exact k H1 locs1 lsr hP1 hS1 hL
  · have hb6 : b < 1000000 := by have := G.1; omega
    have hst : (Value.ref b :: .ref a :: r).map (fb_cv B sa) = .ref (B + b) :: .ref (B + a) :: r.map (fb_cv B sa) := by rw [List.map_cons, List.map_cons]; show Value.ref (fb_ad B sa b) :: Value.ref (fb_ad B sa a) :: _ = _; rw [fb_ad_lo ha6, fb_ad_lo hb6]
    rw [hst]
    have hpd := cY_ok c1 h8 k1 hk
    refine va_putF hx hb hts (fb_uin c1 h8) (cY c1) (cY_ok c1 h8) (cT_nm c1 h8) hown hE.1 hP (fb_ws_D aC B h) hS a he (cX_at c1 h8) k1 hk (hts _ hlk) (fun x hx => by rw [cO_ok c1 h8 k1 hk] at hx; exact hx) hfin (hnm hin) (by rw [cO_ok c1 h8 k1 hk]; exact hco) (ty := cY c1 k1) hpd ?_ ?_ (by simpa using hk) hd (fun H1 locs1 hP1 _ hS1 => ?_)
    · rcases (cK_ok c1 h8 k1 hk).2 hK with ⟨t, ht⟩ | ⟨t, ht⟩ <;> rw [ht] <;> rfl
    · rcases (cK_ok c1 h8 k1 hk).2 hK with ⟨t, ht⟩ | ⟨t, ht⟩ <;> rw [ht] <;> rfl
    · rw [fb_fields_R hk hK] at hP1
      rw [fb_ws_set (aC := aC) (B := B) (h := h) (h' := fb_sR h a k1 (some b)) rfl (fb_cell_o hT (by omega)) (fun i hi => fb_cell_eq rfl (fun q => by rw [fb_sR_R, if_neg (fun hh => hi hh.1)]) (fun _ => rfl))] at hP1
      exact k H1 locs1 lsr hP1 hS1 hL
end FBR
