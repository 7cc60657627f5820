theorem fb_G_sI {rl : Nat → Nat} {rf : Nat → Nat → Int32} {h : fb_H} {a k : Nat} {v : Int32} (G : fb_G rl rf h) (hT : (fb_T h a).1 < 16) : fb_G rl rf (fb_sI h a k v) := by
  obtain ⟨g1, g2, g3, g4, g5⟩ := G
  refine ⟨g1, g2, g3, fun i hi => ?_, g5⟩
  rw [fb_sI_T] at hi
  obtain ⟨q, h1, h2, h3, h4⟩ := g4 i hi
  refine ⟨q, h1, h2, h3, fun w => ?_⟩
  rw [fb_sI_I, if_neg (fun hh => by rw [hh.1] at hi; omega)]
  exact h4 w
theorem fb_G_sR {rl : Nat → Nat} {rf : Nat → Nat → Int32} {h : fb_H} {a k b : Nat} (G : fb_G rl rf h) (hb : b < fb_N h) : fb_G rl rf (fb_sR h a k (some b)) := by
  obtain ⟨g1, g2, g3, g4, g5⟩ := G
  refine ⟨g1, fun i q w hw => ?_, g3, g4, g5⟩
  rw [fb_sR_R] at hw
  split at hw
  · cases hw; exact hb
  · exact g2 i q w hw
theorem fb_G_nw {rl : Nat → Nat} {rf : Nat → Nat → Int32} {h : fb_H} {kd n w : Nat} (G : fb_G rl rf h) (hk : kd < 7 ∨ (10 ≤ kd ∧ kd < 16)) (hN : fb_N h < 900000) : fb_G rl rf (fb_nw h kd n w) := by
  obtain ⟨g1, g2, g3, g4, g5⟩ := G
  have eT : ∀ i, fb_T (fb_nw h kd n w) i = if i = fb_N h then (kd, n) else fb_T h i := fun _ => rfl
  have eR : ∀ i q, fb_R (fb_nw h kd n w) i q = if i = fb_N h then none else fb_R h i q := fun _ _ => rfl
  have eI : ∀ i q, fb_I (fb_nw h kd n w) i q = if i = fb_N h then 0 else fb_I h i q := fun _ _ => rfl
  have eN : fb_N (fb_nw h kd n w) = fb_N h + 1 := rfl
  refine ⟨by omega, fun i q b hb => ?_, fun i hi => ?_, fun i hi => ?_, fun i hi => ?_⟩
  · rw [eR] at hb
    split at hb
    · cases hb
    · have := g2 i q b hb; omega
  · rw [eT] at hi
    split at hi
    · omega
    · have := g3 i hi; omega
  · rw [eT] at hi
    split at hi
    · have hi : kd = 16 := hi; omega
    · rename_i hne
      obtain ⟨q, h1, h2, h3, h4⟩ := g4 i hi
      refine ⟨q, h1, h2, by rw [eT, if_neg hne]; exact h3, fun w => by rw [eI, if_neg hne]; exact h4 w⟩
  · rw [eT]
    split
    · exact hk
    · exact g5 i (by omega)
theorem fb_G_cp {rl : Nat → Nat} {rf : Nat → Nat → Int32} {h : fb_H} {a : Nat} (G : fb_G rl rf h) (hN : fb_N h < 900000) : fb_G rl rf (fb_cp h a) := by
  obtain ⟨g1, g2, g3, g4, g5⟩ := G
  have eT : ∀ i, fb_T (fb_cp h a) i = if i = fb_N h then (10, (fb_T h a).2) else fb_T h i := fun _ => rfl
  have eR : ∀ i q, fb_R (fb_cp h a) i q = if i = fb_N h then none else fb_R h i q := fun _ _ => rfl
  have eI : ∀ i q, fb_I (fb_cp h a) i q = if i = fb_N h then fb_I h a q else fb_I h i q := fun _ _ => rfl
  have eN : fb_N (fb_cp h a) = fb_N h + 1 := rfl
  refine ⟨by omega, fun i q b hb => ?_, fun i hi => ?_, fun i hi => ?_, fun i hi => ?_⟩
  · rw [eR] at hb
    split at hb
    · cases hb
    · have := g2 i q b hb; omega
  · rw [eT] at hi
    split at hi
    · omega
    · have := g3 i hi; omega
  · rw [eT] at hi
    split at hi
    · have hi : 10 = 16 := hi; omega
    · rename_i hne
      obtain ⟨q, h1, h2, h3, h4⟩ := g4 i hi
      refine ⟨q, h1, h2, by rw [eT, if_neg hne]; exact h3, fun w => by rw [eI, if_neg hne]; exact h4 w⟩
  · rw [eT]
    split
    · exact Or.inr ⟨Nat.le_refl 10, by show 10 < 16; omega⟩
    · exact g5 i (by omega)
theorem fb_G_mn {rl : Nat → Nat} {rf : Nat → Nat → Int32} {h : fb_H} {n k : Nat} (G : fb_G rl rf h) (hN : fb_N h < 900000) (hn : n ≤ 1000) : fb_G rl rf (fb_mn h n k) := by
  obtain ⟨g1, g2, g3, g4, g5⟩ := G
  have eT : ∀ i, fb_T (fb_mn h n k) i = if i = fb_N h then (15, n) else if fb_N h < i ∧ i ≤ fb_N h + n then (10, k) else fb_T h i := fun _ => rfl
  have eR : ∀ i q, fb_R (fb_mn h n k) i q = if i = fb_N h then (if q < n then some (fb_N h + 1 + q) else none) else if fb_N h < i ∧ i ≤ fb_N h + n then none else fb_R h i q := fun _ _ => rfl
  have eI : ∀ i q, fb_I (fb_mn h n k) i q = if fb_N h ≤ i ∧ i ≤ fb_N h + n then 0 else fb_I h i q := fun _ _ => rfl
  have eN : fb_N (fb_mn h n k) = fb_N h + 1 + n := rfl
  refine ⟨by omega, fun i q b hb => ?_, fun i hi => ?_, fun i hi => ?_, fun i hi => ?_⟩
  · rw [eR] at hb
    split at hb
    · split at hb
      · cases hb; omega
      · cases hb
    · split at hb
      · cases hb
      · have := g2 i q b hb; omega
  · rw [eT] at hi
    split at hi
    · omega
    · split at hi
      · omega
      · have := g3 i hi; omega
  · rw [eT] at hi
    split at hi
    · have hi : 15 = 16 := hi; omega
    · rename_i hne
      split at hi
      · have hi : 10 = 16 := hi; omega
      · rename_i hne2
        obtain ⟨q, h1, h2, h3, h4⟩ := g4 i hi
        refine ⟨q, h1, h2, by rw [eT, if_neg hne, if_neg hne2]; exact h3, fun w => by rw [eI, if_neg (by omega)]; exact h4 w⟩
  · rw [eT]
    split
    · exact Or.inr ⟨by show 10 ≤ 15; omega, by show 15 < 16; omega⟩
    · split
      · exact Or.inr ⟨Nat.le_refl 10, by show 10 < 16; omega⟩
      · exact g5 i (by omega)
section FBP
variable {p : Program} {l : Launch} {e : Env} {R : Room} {s : State} {m : MethodId} {args : Array Value} {below : List Frame} {meth : Method} {c : Code} {Q : State → Prop}
variable {D : va_G} {aC : Nat → ClassId} {B : Nat} {sa rl : Nat → Nat} {rf : Nat → Nat → Int32} {n0 z0 j pc : Nat} {ls st : List Value} {h : fb_H} {z : Nat × List Value × List Value × fb_H}
/-- a step as the walk wants it: what it says of the heap, and the walk from behind it -/
def fb_GN (rl : Nat → Nat) (rf : Nat → Nat → Int32) (h h' : fb_H) : Prop := fb_G rl rf h' ∧ fb_N h ≤ fb_N h' ∧ fb_Z h ≤ fb_Z h'
theorem fb_same (G : fb_G rl rf h) : fb_GN rl rf h h := ⟨G, Nat.le_refl _, Nat.le_refl _⟩
theorem fb_g_if {kk : Jvm.ClassFile.Cond} {off : Int} (X : fb_X p R s m args meth c D aC B sa rl rf n0 j) (hd : decode (mB j) pc = .ok (.ifCond kk off, 3)) (hs : (match st with
    | .int x :: r => if 0 ≤ (pc : Int) + off then (if fb_c kk x 0 = true then some (fb_to pc off, ls, r, h) else some (pc + 3, ls, r, h)) else none
    | _ => none) = some z)
    (k : fb_Nx p l e R s m args below meth c Q D aC B sa n0 z0 j z.2.2.2 z.1 z.2.1 z.2.2.1) : fb_Nx p l e R s m args below meth c Q D aC B sa n0 z0 j h pc ls st := by
  split at hs
  · split at hs
    · rename_i hneg
      have ht : (pc : Int) + off = (fb_to pc off : Int) := (Int.toNat_of_nonneg hneg).symm
      split at hs
      · rename_i hcc
        cases hs
        intro H locs lsr hP hS hL
        have k1 := k H locs lsr hP hS hL
        cases kk <;> simp only [fb_c, Bool.not_eq_true', decide_eq_true_eq, decide_eq_false_iff_not] at hcc
        · exact lv_if_eq X.1 X.2.1 hd ht (fun _ => k1) (fun w => absurd hcc w)
        · exact lv_if_ne X.1 X.2.1 hd ht (fun _ => k1) (fun w => absurd w hcc)
        · exact lv_if_lt X.1 X.2.1 hd ht (fun _ => k1) (fun w => absurd hcc w)
        · exact lv_if_ge X.1 X.2.1 hd ht (fun _ => k1) (fun w => absurd hcc w)
        · exact lv_if_gt X.1 X.2.1 hd ht (fun _ => k1) (fun w => absurd hcc w)
        · exact lv_if_le X.1 X.2.1 hd ht (fun _ => k1) (fun w => absurd hcc w)
      · rename_i hcc
        cases hs
        intro H locs lsr hP hS hL
        have k1 := k H locs lsr hP hS hL
        cases kk <;> simp only [fb_c, Bool.not_eq_true', decide_eq_true_eq, decide_eq_false_iff_not, Bool.not_eq_false', Bool.not_eq_true, Bool.not_not] at hcc
        · exact lv_if_eq X.1 X.2.1 hd ht (fun w => absurd w hcc) (fun _ => k1)
        · exact lv_if_ne X.1 X.2.1 hd ht (fun w => absurd w hcc) (fun _ => k1)
        · exact lv_if_lt X.1 X.2.1 hd ht (fun w => absurd w hcc) (fun _ => k1)
        · exact lv_if_ge X.1 X.2.1 hd ht (fun w => absurd w hcc) (fun _ => k1)
        · exact lv_if_gt X.1 X.2.1 hd ht (fun w => absurd w hcc) (fun _ => k1)
        · exact lv_if_le X.1 X.2.1 hd ht (fun w => absurd w hcc) (fun _ => k1)
    · cases hs
  · cases hs
theorem fb_g_ic {kk : Jvm.ClassFile.Cond} {off : Int} (X : fb_X p R s m args meth c D aC B sa rl rf n0 j) (hd : decode (mB j) pc = .ok (.if_icmp kk off, 3)) (hs : (match st with
    | .int y :: .int x :: r => if 0 ≤ (pc : Int) + off then (if fb_c kk x y = true then some (fb_to pc off, ls, r, h) else some (pc + 3, ls, r, h)) else none
    | _ => none) = some z)
    (k : fb_Nx p l e R s m args below meth c Q D aC B sa n0 z0 j z.2.2.2 z.1 z.2.1 z.2.2.1) : fb_Nx p l e R s m args below meth c Q D aC B sa n0 z0 j h pc ls st := by
  split at hs
  · split at hs
    · rename_i hneg
      have ht : (pc : Int) + off = (fb_to pc off : Int) := (Int.toNat_of_nonneg hneg).symm
      split at hs
      · rename_i hcc
        cases hs
        intro H locs lsr hP hS hL
        have k1 := k H locs lsr hP hS hL
        cases kk <;> simp only [fb_c, Bool.not_eq_true', decide_eq_true_eq, decide_eq_false_iff_not] at hcc
        · exact lv_icmp_eq X.1 X.2.1 hd ht (fun _ => k1) (fun w => absurd hcc w)
        · exact lv_icmp_ne X.1 X.2.1 hd ht (fun _ => k1) (fun w => absurd w hcc)
        · exact lv_icmp_lt X.1 X.2.1 hd ht (fun _ => k1) (fun w => absurd hcc w)
        · exact lv_icmp_ge X.1 X.2.1 hd ht (fun _ => k1) (fun w => absurd hcc w)
        · exact lv_icmp_gt X.1 X.2.1 hd ht (fun _ => k1) (fun w => absurd hcc w)
        · exact lv_icmp_le X.1 X.2.1 hd ht (fun _ => k1) (fun w => absurd hcc w)
      · rename_i hcc
        cases hs
        intro H locs lsr hP hS hL
        have k1 := k H locs lsr hP hS hL
        cases kk <;> simp only [fb_c, Bool.not_eq_true', decide_eq_true_eq, decide_eq_false_iff_not, Bool.not_eq_false', Bool.not_eq_true, Bool.not_not] at hcc
        · exact lv_icmp_eq X.1 X.2.1 hd ht (fun w => absurd w hcc) (fun _ => k1)
        · exact lv_icmp_ne X.1 X.2.1 hd ht (fun w => absurd w hcc) (fun _ => k1)
        · exact lv_icmp_lt X.1 X.2.1 hd ht (fun w => absurd w hcc) (fun _ => k1)
        · exact lv_icmp_ge X.1 X.2.1 hd ht (fun w => absurd w hcc) (fun _ => k1)
        · exact lv_icmp_gt X.1 X.2.1 hd ht (fun w => absurd w hcc) (fun _ => k1)
        · exact lv_icmp_le X.1 X.2.1 hd ht (fun w => absurd w hcc) (fun _ => k1)
    · cases hs
  · cases hs
theorem fb_row {ins : Instr} {len : Nat} (X : fb_X p R s m args meth c D aC B sa rl rf n0 j) (G : fb_G rl rf h) (hn : n0 ≤ fb_N h) (hz0 : z0 ≤ fb_Z h) (hd : decode (mB j) pc = .ok (ins, len)) (hs : fb_st j ins len pc ls st h = some z) (hc : fb_N z.2.2.2 - n0 ≤ R.cells) (hz' : fb_Z z.2.2.2 - z0 ≤ R.slots)
    (k : fb_Nx p l e R s m args below meth c Q D aC B sa n0 z0 j z.2.2.2 z.1 z.2.1 z.2.2.1) : fb_Nx p l e R s m args below meth c Q D aC B sa n0 z0 j h pc ls st := by
  unfold fb_st at hs
  split at hs
  · cases hs
    exact fun H locs lsr hP hS hL => lv_iconst X.1 X.2.1 hd rfl (k H locs lsr hP hS hL)
  · cases hs
    exact fun H locs lsr hP hS hL => lv_bipush X.1 X.2.1 hd rfl (k H locs lsr hP hS hL)
  · cases hs
    exact fun H locs lsr hP hS hL => lv_sipush X.1 X.2.1 hd rfl (k H locs lsr hP hS hL)
  · cases hs
    exact fun H locs lsr hP hS hL => lv_lconst X.1 X.2.1 hd rfl (k H locs lsr hP hS hL)
  · obtain ⟨v, hv, rfl⟩ := Option.map_eq_some_iff.mp hs
    exact fun H locs lsr hP hS hL => lv_ldc X.1 X.2.1 X.2.2.2.1 (X.2.2.2.2.1 _ (fb_lk_i hv)) hd (k H locs lsr hP hS hL)
  · obtain ⟨v, hv, rfl⟩ := Option.map_eq_some_iff.mp hs
    exact fun H locs lsr hP hS hL => lv_ldcw X.1 X.2.1 X.2.2.2.1 (X.2.2.2.2.1 _ (fb_lk_i hv)) hd (k H locs lsr hP hS hL)
  · obtain ⟨v, hv, rfl⟩ := Option.map_eq_some_iff.mp hs
    exact fun H locs lsr hP hS hL => lv_ldc2 X.1 X.2.1 X.2.2.2.1 (X.2.2.2.2.1 _ (fb_lk_j hv)) hd (k H locs lsr hP hS hL)
  · exact fb_g_ldi hs (fun H locs lsr rest x hl k => lv_iload_n X.1 X.2.1 hd rfl hl k) k
  · exact fb_g_ldi hs (fun H locs lsr rest x hl k => lv_iload X.1 X.2.1 hd hl k) k
  · exact fb_g_ldl hs (fun H locs lsr rest x hl k => lv_lload_n X.1 X.2.1 hd rfl hl k) k
  · exact fb_g_lda hs (fun H locs lsr rest x hl k => lv_aload_n X.1 X.2.1 hd rfl hl k) k
  · exact fb_g_lda hs (fun H locs lsr rest x hl k => lv_aload X.1 X.2.1 hd hl k) k
  · exact fb_g_sto hs (fun H locs lsr rest x lv hl hn kk => lv_istore_n X.1 X.2.1 hd rfl hl hn rfl kk) k
  · exact fb_g_sto hs (fun H locs lsr rest x lv hl hn kk => lv_istore X.1 X.2.1 hd hl hn rfl kk) k
  · exact fb_g_sta hs (fun H locs lsr rest x lv hl hn kk => lv_astore_n X.1 X.2.1 hd rfl hl hn rfl kk) k
  · exact fb_g_sta hs (fun H locs lsr rest x lv hl hn kk => lv_astore X.1 X.2.1 hd hl hn rfl kk) k
  · split at hs
    · rename_i x hx
      obtain ⟨l1, h1, rfl⟩ := Option.map_eq_some_iff.mp hs
      intro H locs lsr hP hS hL
      obtain ⟨hnn, lv, hl, hm⟩ := hL
      obtain ⟨h2, h3⟩ := fb_put h1 hnn hm
      obtain ⟨q, hq⟩ := List.getElem?_of_mem (hm _ _ hx (fun w => by cases w))
      exact lv_iinc X.1 X.2.1 hd hl hq rfl h2 rfl (fun ls' h' => k H locs ls' hP hS (h3 ls' h'))
    · cases hs
  · exact fb_g_b2 hs (fun H locs lsr rest x y k => lv_iadd X.1 X.2.1 hd k) k
  · exact fb_g_b2 hs (fun H locs lsr rest x y k => lv_isub X.1 X.2.1 hd k) k
  · exact fb_g_b2 hs (fun H locs lsr rest x y k => lv_imul X.1 X.2.1 hd k) k
  · exact fb_g_b2 hs (fun H locs lsr rest x y k => lv_iand X.1 X.2.1 hd k) k
  · exact fb_g_b2 hs (fun H locs lsr rest x y k => lv_ior X.1 X.2.1 hd k) k
  · exact fb_g_b2 hs (fun H locs lsr rest x y k => lv_ixor X.1 X.2.1 hd k) k
  · exact fb_g_b2 hs (fun H locs lsr rest x y k => lv_ishl X.1 X.2.1 hd k) k
  · exact fb_g_b2 hs (fun H locs lsr rest x y k => lv_ishr X.1 X.2.1 hd k) k
  · exact fb_g_b2 hs (fun H locs lsr rest x y k => lv_iushr X.1 X.2.1 hd rfl k) k
  · split at hs
    · split at hs
      · cases hs
      · rename_i hne
        cases hs
        exact fun H locs lsr hP hS hL => lv_idiv X.1 X.2.1 hd hne (k H locs lsr hP hS hL)
    · cases hs
  · split at hs
    · split at hs
      · cases hs
      · rename_i hne
        cases hs
        exact fun H locs lsr hP hS hL => lv_irem X.1 X.2.1 hd hne (k H locs lsr hP hS hL)
    · cases hs
  · split at hs
    · cases hs
      exact fun H locs lsr hP hS hL => lv_ineg X.1 X.2.1 hd (k H locs lsr hP hS hL)
    · cases hs
  · exact fb_g_l2 (fun _ _ => rfl) hs (fun H locs lsr rest x y k => lv_land X.1 X.2.1 hd k) k
  · exact fb_g_l2 (fun _ _ => rfl) hs (fun H locs lsr rest x y k => lv_lor X.1 X.2.1 hd k) k
  · exact fb_g_l2 (fun _ _ => rfl) hs (fun H locs lsr rest x y k => W.lcmp X.1 X.2.1 hd k) k
  · exact fb_g_ls hs (fun H locs lsr rest x y k => lv_lshl X.1 X.2.1 hd rfl k) k
  · exact fb_g_ls hs (fun H locs lsr rest x y k => lv_lshr X.1 X.2.1 hd rfl k) k
  · exact fb_g_ls hs (fun H locs lsr rest x y k => lv_lushr X.1 X.2.1 hd rfl k) k
  · split at hs
    · cases hs
      exact fun H locs lsr hP hS hL => lv_i2l X.1 X.2.1 hd rfl (k H locs lsr hP hS hL)
    · cases hs
  · split at hs
    · cases hs
      exact fun H locs lsr hP hS hL => lv_l2i X.1 X.2.1 hd rfl (k H locs lsr hP hS hL)
    · cases hs
  · split at hs
    · cases hs
      exact fun H locs lsr hP hS hL => lv_i2c X.1 X.2.1 hd rfl (k H locs lsr hP hS hL)
    · cases hs
  · split at hs
    · split at hs
      · rename_i hcat
        cases hs
        exact fun H locs lsr hP hS hL => lv_dup X.1 X.2.1 hd (by rw [fb_cat]; exact hcat) (k H locs lsr hP hS hL)
      · cases hs
    · cases hs
  · split at hs
    · split at hs
      · rename_i hcat
        cases hs
        exact fun H locs lsr hP hS hL => lv_dup2_11 X.1 X.2.1 hd (by rw [fb_cat]; exact hcat.1) (by rw [fb_cat]; exact hcat.2) (k H locs lsr hP hS hL)
      · cases hs
    · cases hs
  · exact fb_g_j hs (fun H locs lsr ht k => lv_goto X.1 X.2.1 hd ht k) rfl k
  · exact fb_g_if X hd hs k
  · exact fb_g_ic X hd hs k
  · split at hs
    · split at hs
      · rename_i hcc
        exact fb_g_j hs (fun H locs lsr ht k => lv_tableOut X.1 X.2.1 hd hcc ht k) rfl k
      · rename_i hcc
        split at hs
        · rename_i off ho
          exact fb_g_j hs (fun H locs lsr ht k => lv_tableIn X.1 X.2.1 hd (fun w => hcc (Or.inl w)) (fun w => hcc (Or.inr w)) ho ht k) rfl k
        · cases hs
    · cases hs
  · split at hs
    · split at hs
      · rename_i hcc
        exact fb_g_j hs (fun H locs lsr ht k => lv_lookup X.1 X.2.1 hd hcc rfl ht k) rfl k
      · cases hs
    · cases hs
  · exact fb_g_gf X G hd hs k
  · exact fb_g_pf X G hd hs k
  · obtain ⟨⟨v, q⟩, hv, rfl⟩ := Option.map_eq_some_iff.mp hs
    exact fb_g_gets X hd hv k
  · exact fb_g_iald X G hd hs k
  · exact fb_g_zald X G hd hs k
  · exact fb_g_cald X G hd hs k
  · split at hs
    · split at hs
      · rename_i hcc
        obtain ⟨v, hv, rfl⟩ := Option.map_eq_some_iff.mp hs
        exact fb_g_aald X G hd hcc.1 (fb_in_of hcc.2) hv k
      · cases hs
    · cases hs
  · exact fb_g_iast X G hd hs k
  · exact fb_g_zast X G hd hs k
  · exact fb_g_cast X G hd hs k
  · split at hs
    · split at hs
      · rename_i hcc
        cases hs
        exact fb_g_aast X G hd hcc.1 (fb_in_of hcc.2) k
      · cases hs
    · cases hs
  · split at hs
    · split at hs
      · rename_i hcc
        cases hs
        exact fb_g_alen X G hd hcc.1 hcc.2 k
      · cases hs
    · cases hs
  · split at hs
    · rename_i hf
      split at hs
      · rename_i hcc
        cases hs
        exact fb_g_new X hn hz0 hd hf hcc.1 hcc.2 hc hz' k
      · cases hs
    · cases hs
  · split at hs
    · split at hs
      · obtain ⟨h1, h2, h3, rfl⟩ := fb_na_of hs
        exact fb_g_na (t0 := 0) (Or.inl ⟨rfl, rfl, rfl⟩) X hn hz0 hd h1 h2 h3 hc hz' k
      · obtain ⟨h1, h2, h3, rfl⟩ := fb_na_of hs
        exact fb_g_na (t0 := 1) (Or.inr (Or.inl ⟨rfl, rfl, rfl⟩)) X hn hz0 hd h1 h2 h3 hc hz' k
      · obtain ⟨h1, h2, h3, rfl⟩ := fb_na_of hs
        exact fb_g_na (t0 := 2) (Or.inr (Or.inr ⟨rfl, rfl, rfl⟩)) X hn hz0 hd h1 h2 h3 hc hz' k
      · cases hs
    · cases hs
  · split at hs
    · split at hs
      · rename_i hf
        obtain ⟨h1, h2, h3, rfl⟩ := fb_na_of hs
        exact fb_g_nq (t0 := 3) (Or.inl ⟨rfl, rfl, rfl⟩) X hn hz0 hd hf h1 h2 h3 hc hz' k
      · rename_i hf
        obtain ⟨h1, h2, h3, rfl⟩ := fb_na_of hs
        exact fb_g_nq (t0 := 4) (Or.inr ⟨rfl, rfl, rfl⟩) X hn hz0 hd hf h1 h2 h3 hc hz' k
      · cases hs
    · cases hs
  · split at hs
    · split at hs
      · rename_i hf
        split at hs
        · rename_i hcc
          cases hs
          exact fb_g_mn X hn hz0 hd hf hcc.1 hcc.2.1 hcc.2.2.1 hcc.2.2.2.1 hcc.2.2.2.2 hc hz' k
        · cases hs
      · cases hs
    · cases hs
  · split at hs
    · split at hs
      · rename_i hf
        split at hs
        · rename_i hcc
          cases hs
          exact fb_g_cc X G hd hf hcc k
        · cases hs
      · cases hs
    · cases hs
  · split at hs
    · split at hs
      · rename_i hf
        split at hs
        · rename_i hcc
          cases hs
          exact fb_g_oi X hd hf hcc.1 hcc.2 k
        · cases hs
      · cases hs
    · cases hs
  · split at hs
    · split at hs
      · rename_i hf
        split at hs
        · rename_i hcc
          cases hs
          exact fb_g_cl X G hn hz0 hd hf hcc.1 hcc.2.1 hcc.2.2.1 hcc.2.2.2.1 hcc.2.2.2.2.1 hcc.2.2.2.2.2 hc hz' k
        · cases hs
      · cases hs
    · cases hs
  · cases hs
theorem fb_pres {ins : Instr} {len : Nat} (G : fb_G rl rf h) (hs : fb_st j ins len pc ls st h = some z) : fb_GN rl rf h z.2.2.2 := by
  unfold fb_st at hs
  split at hs
  · cases hs
    exact fb_same G
  · cases hs
    exact fb_same G
  · cases hs
    exact fb_same G
  · cases hs
    exact fb_same G
  · obtain ⟨v, hv, rfl⟩ := Option.map_eq_some_iff.mp hs
    exact fb_same G
  · obtain ⟨v, hv, rfl⟩ := Option.map_eq_some_iff.mp hs
    exact fb_same G
  · obtain ⟨v, hv, rfl⟩ := Option.map_eq_some_iff.mp hs
    exact fb_same G
  · obtain ⟨x, hx, rfl⟩ := fb_ldi_of hs
    exact fb_same G
  · obtain ⟨x, hx, rfl⟩ := fb_ldi_of hs
    exact fb_same G
  · obtain ⟨x, hx, rfl⟩ := fb_ldl_of hs
    exact fb_same G
  · obtain ⟨x, hx, rfl⟩ := fb_lda_of hs
    exact fb_same G
  · obtain ⟨x, hx, rfl⟩ := fb_lda_of hs
    exact fb_same G
  · obtain ⟨x, r, l, rfl, hx, rfl⟩ := fb_sto_of hs
    exact fb_same G
  · obtain ⟨x, r, l, rfl, hx, rfl⟩ := fb_sto_of hs
    exact fb_same G
  · obtain ⟨x, r, l, rfl, hx, rfl⟩ := fb_sta_of hs
    exact fb_same G
  · obtain ⟨x, r, l, rfl, hx, rfl⟩ := fb_sta_of hs
    exact fb_same G
  · split at hs
    · obtain ⟨l1, h1, rfl⟩ := Option.map_eq_some_iff.mp hs
      exact fb_same G
    · cases hs
  · obtain ⟨x, y, r, rfl, rfl⟩ := fb_b2_of hs
    exact fb_same G
  · obtain ⟨x, y, r, rfl, rfl⟩ := fb_b2_of hs
    exact fb_same G
  · obtain ⟨x, y, r, rfl, rfl⟩ := fb_b2_of hs
    exact fb_same G
  · obtain ⟨x, y, r, rfl, rfl⟩ := fb_b2_of hs
    exact fb_same G
  · obtain ⟨x, y, r, rfl, rfl⟩ := fb_b2_of hs
    exact fb_same G
  · obtain ⟨x, y, r, rfl, rfl⟩ := fb_b2_of hs
    exact fb_same G
  · obtain ⟨x, y, r, rfl, rfl⟩ := fb_b2_of hs
    exact fb_same G
  · obtain ⟨x, y, r, rfl, rfl⟩ := fb_b2_of hs
    exact fb_same G
  · obtain ⟨x, y, r, rfl, rfl⟩ := fb_b2_of hs
    exact fb_same G
  · split at hs
    · split at hs
      · cases hs
      · cases hs
        exact fb_same G
    · cases hs
  · split at hs
    · split at hs
      · cases hs
      · cases hs
        exact fb_same G
    · cases hs
  · split at hs
    · cases hs
      exact fb_same G
    · cases hs
  · obtain ⟨x, y, r, rfl, rfl⟩ := fb_l2_of hs
    exact fb_same G
  · obtain ⟨x, y, r, rfl, rfl⟩ := fb_l2_of hs
    exact fb_same G
  · obtain ⟨x, y, r, rfl, rfl⟩ := fb_l2_of hs
    exact fb_same G
  · obtain ⟨x, y, r, rfl, rfl⟩ := fb_ls_of hs
    exact fb_same G
  · obtain ⟨x, y, r, rfl, rfl⟩ := fb_ls_of hs
    exact fb_same G
  · obtain ⟨x, y, r, rfl, rfl⟩ := fb_ls_of hs
    exact fb_same G
  · split at hs
    · cases hs
      exact fb_same G
    · cases hs
  · split at hs
    · cases hs
      exact fb_same G
    · cases hs
  · split at hs
    · cases hs
      exact fb_same G
    · cases hs
  · split at hs
    · split at hs
      · cases hs
        exact fb_same G
      · cases hs
    · cases hs
  · split at hs
    · split at hs
      · cases hs
        exact fb_same G
      · cases hs
    · cases hs
  · obtain ⟨-, rfl⟩ := fb_j_of hs
    exact fb_same G
  · split at hs
    · split at hs
      · split at hs
        · cases hs
          exact fb_same G
        · cases hs
          exact fb_same G
      · cases hs
    · cases hs
  · split at hs
    · split at hs
      · split at hs
        · cases hs
          exact fb_same G
        · cases hs
          exact fb_same G
      · cases hs
    · cases hs
  · split at hs
    · split at hs
      · obtain ⟨-, rfl⟩ := fb_j_of hs
        exact fb_same G
      · split at hs
        · obtain ⟨-, rfl⟩ := fb_j_of hs
          exact fb_same G
        · cases hs
    · cases hs
  · split at hs
    · split at hs
      · obtain ⟨-, rfl⟩ := fb_j_of hs
        exact fb_same G
      · cases hs
    · cases hs
  · obtain ⟨a, r, c, k, rfl, hf, hT, ⟨-, b, hb, rfl⟩ | ⟨-, rfl⟩⟩ := fb_gf_of hs
    · exact fb_same G
    · exact fb_same G
  · obtain ⟨a, r, c1, k1, hf, hT, hz⟩ := fb_pf_of hs
    have h8 := (fb_lk_f hf).1
    rcases hz with ⟨v, rfl, -, -, rfl⟩ | ⟨b, rfl, -, hb, -, -, -, rfl⟩
    · exact ⟨fb_G_sI G (by omega), Nat.le_refl _, Nat.le_refl _⟩
    · exact ⟨fb_G_sR G hb, Nat.le_refl _, Nat.le_refl _⟩
  · obtain ⟨v, hv, rfl⟩ := Option.map_eq_some_iff.mp hs
    exact fb_same G
  · obtain ⟨x, a, r, rfl, hT, hin, rfl⟩ := fb_el_of hs
    exact fb_same G
  · obtain ⟨x, a, r, rfl, hT, hin, rfl⟩ := fb_el_of hs
    exact fb_same G
  · obtain ⟨x, a, r, rfl, hT, hin, rfl⟩ := fb_el_of hs
    exact fb_same G
  · split at hs
    · split at hs
      · obtain ⟨v, hv, rfl⟩ := Option.map_eq_some_iff.mp hs
        exact fb_same G
      · cases hs
    · cases hs
  · obtain ⟨v, x, a, r, rfl, hT, hin, rfl⟩ := fb_es_of hs
    exact ⟨fb_G_sI G (by omega), Nat.le_refl _, Nat.le_refl _⟩
  · obtain ⟨v, x, a, r, rfl, hT, hin, rfl⟩ := fb_es_of hs
    exact ⟨fb_G_sI G (by omega), Nat.le_refl _, Nat.le_refl _⟩
  · obtain ⟨v, x, a, r, rfl, hT, hin, rfl⟩ := fb_es_of hs
    exact ⟨fb_G_sI G (by omega), Nat.le_refl _, Nat.le_refl _⟩
  · split at hs
    · split at hs
      · rename_i hcc
        cases hs
        exact ⟨fb_G_sR G (G.2.2.1 _ (by omega)), Nat.le_refl _, Nat.le_refl _⟩
      · cases hs
    · cases hs
  · split at hs
    · split at hs
      · cases hs
        exact fb_same G
      · cases hs
    · cases hs
  · split at hs
    · split at hs
      · rename_i hcc
        cases hs
        exact ⟨fb_G_nw G (Or.inl hcc.1) hcc.2, Nat.le_add_right _ _, Nat.le_add_right _ _⟩
      · cases hs
    · cases hs
  · split at hs
    · split at hs
      · obtain ⟨h1, h2, h3, rfl⟩ := fb_na_of hs
        exact ⟨fb_G_nw G (Or.inr (by omega)) h3, Nat.le_add_right _ _, Nat.le_add_right _ _⟩
      · obtain ⟨h1, h2, h3, rfl⟩ := fb_na_of hs
        exact ⟨fb_G_nw G (Or.inr (by omega)) h3, Nat.le_add_right _ _, Nat.le_add_right _ _⟩
      · obtain ⟨h1, h2, h3, rfl⟩ := fb_na_of hs
        exact ⟨fb_G_nw G (Or.inr (by omega)) h3, Nat.le_add_right _ _, Nat.le_add_right _ _⟩
      · cases hs
    · cases hs
  · split at hs
    · split at hs
      · obtain ⟨h1, h2, h3, rfl⟩ := fb_na_of hs
        exact ⟨fb_G_nw G (Or.inr (by omega)) h3, Nat.le_add_right _ _, Nat.le_add_right _ _⟩
      · obtain ⟨h1, h2, h3, rfl⟩ := fb_na_of hs
        exact ⟨fb_G_nw G (Or.inr (by omega)) h3, Nat.le_add_right _ _, Nat.le_add_right _ _⟩
      · cases hs
    · cases hs
  · split at hs
    · split at hs
      · split at hs
        · rename_i hcc
          cases hs
          exact ⟨fb_G_mn G hcc.2.2.2.2 hcc.2.2.1, by show fb_N h ≤ fb_N h + 1 + _; omega, Nat.le_trans (Nat.le_add_right _ _) (Nat.le_add_right _ _)⟩
        · cases hs
      · cases hs
    · cases hs
  · split at hs
    · split at hs
      · split at hs
        · cases hs
          exact fb_same G
        · cases hs
      · cases hs
    · cases hs
  · split at hs
    · split at hs
      · split at hs
        · cases hs
          exact fb_same G
        · cases hs
      · cases hs
    · cases hs
  · split at hs
    · split at hs
      · split at hs
        · rename_i hcc
          cases hs
          exact ⟨fb_G_cp G hcc.2.2.2.1, Nat.le_add_right _ _, Nat.le_add_right _ _⟩
        · cases hs
      · cases hs
    · cases hs
  · cases hs
end FBP
