/-! ===== every step, and a method's entry ===== -/
section GO3
variable {l : Launch} {G : gp_G} {d : Nat} {M : gp_M} {K : Option Value → gp_H → Prop} {pc : Nat} {ls : List (Option Value)} {st : List Value} {V : gp_H} {cs ss : Nat}
variable {p : Program} {e : Env} {s : State} {m : MethodId} {args : Array Value} {below : List Frame} {meth : Method} {c : Code} {H : Heap} {locs : List Loc} {la : Array Slot}

theorem gs_iload_n {n : Fin 4} (hok : gp_okd M) (F : gp_F G M p s m args meth c) (D : gp_D G M s V H locs la ls cs ss) {len : Nat} (hdg : decode M.2.1 pc = .ok (.iload_n n, len)) (h : gp_step l G d M K (gp_Go l G d M K) (.iload_n n) len pc ls st V cs ss) : gp_T l G d M K pc st cs ss p e s m args below meth c H locs la := by
  obtain ⟨hx, hb, hml, hr, hlk, hown, hnm, hts, hK, hN, hbs⟩ := id F
  obtain ⟨hcs, hsz, hP, hS, hl, hc1, hs1⟩ := id D
  have hon := hok.2.2.2.2.2.1
  obtain ⟨e0, h2⟩ := gp_ln_e h
  clear h
  subst e0
  obtain ⟨x, h1, h⟩ := gp_ldI_e h2
  exact lv_iload_n hx hb hdg rfl (hl.2.2.2 _ _ h1) (h p e s m args below meth c H locs la F D)

theorem gs_iload {n : Nat} (hok : gp_okd M) (F : gp_F G M p s m args meth c) (D : gp_D G M s V H locs la ls cs ss) {len : Nat} (hdg : decode M.2.1 pc = .ok (.iload n, len)) (h : gp_step l G d M K (gp_Go l G d M K) (.iload n) len pc ls st V cs ss) : gp_T l G d M K pc st cs ss p e s m args below meth c H locs la := by
  obtain ⟨hx, hb, hml, hr, hlk, hown, hnm, hts, hK, hN, hbs⟩ := id F
  obtain ⟨hcs, hsz, hP, hS, hl, hc1, hs1⟩ := id D
  have hon := hok.2.2.2.2.2.1
  obtain ⟨e0, h2⟩ := gp_ln_e h
  clear h
  subst e0
  obtain ⟨x, h1, h⟩ := gp_ldI_e h2
  exact lv_iload hx hb hdg (hl.2.2.2 _ _ h1) (h p e s m args below meth c H locs la F D)

theorem gs_lload_n {n : Fin 4} (hok : gp_okd M) (F : gp_F G M p s m args meth c) (D : gp_D G M s V H locs la ls cs ss) {len : Nat} (hdg : decode M.2.1 pc = .ok (.lload_n n, len)) (h : gp_step l G d M K (gp_Go l G d M K) (.lload_n n) len pc ls st V cs ss) : gp_T l G d M K pc st cs ss p e s m args below meth c H locs la := by
  obtain ⟨hx, hb, hml, hr, hlk, hown, hnm, hts, hK, hN, hbs⟩ := id F
  obtain ⟨hcs, hsz, hP, hS, hl, hc1, hs1⟩ := id D
  have hon := hok.2.2.2.2.2.1
  obtain ⟨e0, h2⟩ := gp_ln_e h
  clear h
  subst e0
  obtain ⟨x, h1, h⟩ := gp_ldL_e h2
  exact lv_lload_n hx hb hdg rfl (hl.2.2.2 _ _ h1) (h p e s m args below meth c H locs la F D)

theorem gs_lload {n : Nat} (hok : gp_okd M) (F : gp_F G M p s m args meth c) (D : gp_D G M s V H locs la ls cs ss) {len : Nat} (hdg : decode M.2.1 pc = .ok (.lload n, len)) (h : gp_step l G d M K (gp_Go l G d M K) (.lload n) len pc ls st V cs ss) : gp_T l G d M K pc st cs ss p e s m args below meth c H locs la := by
  obtain ⟨hx, hb, hml, hr, hlk, hown, hnm, hts, hK, hN, hbs⟩ := id F
  obtain ⟨hcs, hsz, hP, hS, hl, hc1, hs1⟩ := id D
  have hon := hok.2.2.2.2.2.1
  obtain ⟨e0, h2⟩ := gp_ln_e h
  clear h
  subst e0
  obtain ⟨x, h1, h⟩ := gp_ldL_e h2
  exact lv_lload hx hb hdg (hl.2.2.2 _ _ h1) (h p e s m args below meth c H locs la F D)

theorem gs_aload_n {n : Fin 4} (hok : gp_okd M) (F : gp_F G M p s m args meth c) (D : gp_D G M s V H locs la ls cs ss) {len : Nat} (hdg : decode M.2.1 pc = .ok (.aload_n n, len)) (h : gp_step l G d M K (gp_Go l G d M K) (.aload_n n) len pc ls st V cs ss) : gp_T l G d M K pc st cs ss p e s m args below meth c H locs la := by
  obtain ⟨hx, hb, hml, hr, hlk, hown, hnm, hts, hK, hN, hbs⟩ := id F
  obtain ⟨hcs, hsz, hP, hS, hl, hc1, hs1⟩ := id D
  have hon := hok.2.2.2.2.2.1
  obtain ⟨e0, h2⟩ := gp_ln_e h
  clear h
  subst e0
  obtain ⟨v, h1, hv, h⟩ := gp_ldA_e (G := G) h2
  have g1 := hl.2.2.2 _ _ h1
  have g2 := h p e s m args below meth c H locs la F D
  rw [List.map_cons] at g2
  rcases hv with hv | ⟨q, hv⟩
  · rw [hv] at g1 g2
    exact lv_aload_nN hx hb hdg rfl g1 g2
  · rw [hv] at g1 g2
    exact lv_aload_n hx hb hdg rfl g1 g2

theorem gs_aload {n : Nat} (hok : gp_okd M) (F : gp_F G M p s m args meth c) (D : gp_D G M s V H locs la ls cs ss) {len : Nat} (hdg : decode M.2.1 pc = .ok (.aload n, len)) (h : gp_step l G d M K (gp_Go l G d M K) (.aload n) len pc ls st V cs ss) : gp_T l G d M K pc st cs ss p e s m args below meth c H locs la := by
  obtain ⟨hx, hb, hml, hr, hlk, hown, hnm, hts, hK, hN, hbs⟩ := id F
  obtain ⟨hcs, hsz, hP, hS, hl, hc1, hs1⟩ := id D
  have hon := hok.2.2.2.2.2.1
  obtain ⟨e0, h2⟩ := gp_ln_e h
  clear h
  subst e0
  obtain ⟨v, h1, hv, h⟩ := gp_ldA_e (G := G) h2
  have g1 := hl.2.2.2 _ _ h1
  have g2 := h p e s m args below meth c H locs la F D
  rw [List.map_cons] at g2
  rcases hv with hv | ⟨q, hv⟩
  · rw [hv] at g1 g2
    exact lv_aloadN hx hb hdg g1 g2
  · rw [hv] at g1 g2
    exact lv_aload hx hb hdg g1 g2

theorem gs_istore_n {n : Fin 4} (hok : gp_okd M) (F : gp_F G M p s m args meth c) (D : gp_D G M s V H locs la ls cs ss) {len : Nat} (hdg : decode M.2.1 pc = .ok (.istore_n n, len)) (h : gp_step l G d M K (gp_Go l G d M K) (.istore_n n) len pc ls st V cs ss) : gp_T l G d M K pc st cs ss p e s m args below meth c H locs la := by
  obtain ⟨hx, hb, hml, hr, hlk, hown, hnm, hts, hK, hN, hbs⟩ := id F
  obtain ⟨hcs, hsz, hP, hS, hl, hc1, hs1⟩ := id D
  have hon := hok.2.2.2.2.2.1
  obtain ⟨e0, h2⟩ := gp_ln_e h
  clear h
  subst e0
  obtain ⟨h3, h4⟩ := gp_bt_e h2
  obtain ⟨x, r, rfl, h⟩ := gp_p1_e h4
  have hn := gp_lt_e h3
  rw [hl.2.2.1] at hn
  exact lv_istore_n hx hb hdg rfl hl.has hn rfl (fun la' h' => h p e s m args below meth c H locs la' F (D.ls (gp_lr.st1 (v := .int x) hl h')))

theorem gs_istore {n : Nat} (hok : gp_okd M) (F : gp_F G M p s m args meth c) (D : gp_D G M s V H locs la ls cs ss) {len : Nat} (hdg : decode M.2.1 pc = .ok (.istore n, len)) (h : gp_step l G d M K (gp_Go l G d M K) (.istore n) len pc ls st V cs ss) : gp_T l G d M K pc st cs ss p e s m args below meth c H locs la := by
  obtain ⟨hx, hb, hml, hr, hlk, hown, hnm, hts, hK, hN, hbs⟩ := id F
  obtain ⟨hcs, hsz, hP, hS, hl, hc1, hs1⟩ := id D
  have hon := hok.2.2.2.2.2.1
  obtain ⟨e0, h2⟩ := gp_ln_e h
  clear h
  subst e0
  obtain ⟨h3, h4⟩ := gp_bt_e h2
  obtain ⟨x, r, rfl, h⟩ := gp_p1_e h4
  have hn := gp_lt_e h3
  rw [hl.2.2.1] at hn
  exact lv_istore hx hb hdg hl.has hn rfl (fun la' h' => h p e s m args below meth c H locs la' F (D.ls (gp_lr.st1 (v := .int x) hl h')))

theorem gs_lstore_n {n : Fin 4} (hok : gp_okd M) (F : gp_F G M p s m args meth c) (D : gp_D G M s V H locs la ls cs ss) {len : Nat} (hdg : decode M.2.1 pc = .ok (.lstore_n n, len)) (h : gp_step l G d M K (gp_Go l G d M K) (.lstore_n n) len pc ls st V cs ss) : gp_T l G d M K pc st cs ss p e s m args below meth c H locs la := by
  obtain ⟨hx, hb, hml, hr, hlk, hown, hnm, hts, hK, hN, hbs⟩ := id F
  obtain ⟨hcs, hsz, hP, hS, hl, hc1, hs1⟩ := id D
  have hon := hok.2.2.2.2.2.1
  obtain ⟨e0, h2⟩ := gp_ln_e h
  clear h
  subst e0
  obtain ⟨h3, h4⟩ := gp_bt_e h2
  obtain ⟨x, r, rfl, h⟩ := gp_q1_e h4
  have hn := gp_lt_e h3
  rw [hl.2.2.1] at hn
  exact lv_lstore_n hx hb hdg rfl hl.has hn rfl (fun la' h' => h p e s m args below meth c H locs la' F (D.ls (gp_lr.st2 (v := .long x) hl h')))

theorem gs_lstore {n : Nat} (hok : gp_okd M) (F : gp_F G M p s m args meth c) (D : gp_D G M s V H locs la ls cs ss) {len : Nat} (hdg : decode M.2.1 pc = .ok (.lstore n, len)) (h : gp_step l G d M K (gp_Go l G d M K) (.lstore n) len pc ls st V cs ss) : gp_T l G d M K pc st cs ss p e s m args below meth c H locs la := by
  obtain ⟨hx, hb, hml, hr, hlk, hown, hnm, hts, hK, hN, hbs⟩ := id F
  obtain ⟨hcs, hsz, hP, hS, hl, hc1, hs1⟩ := id D
  have hon := hok.2.2.2.2.2.1
  obtain ⟨e0, h2⟩ := gp_ln_e h
  clear h
  subst e0
  obtain ⟨h3, h4⟩ := gp_bt_e h2
  obtain ⟨x, r, rfl, h⟩ := gp_q1_e h4
  have hn := gp_lt_e h3
  rw [hl.2.2.1] at hn
  exact lv_lstore hx hb hdg hl.has hn rfl (fun la' h' => h p e s m args below meth c H locs la' F (D.ls (gp_lr.st2 (v := .long x) hl h')))

theorem gs_astore_n {n : Fin 4} (hok : gp_okd M) (F : gp_F G M p s m args meth c) (D : gp_D G M s V H locs la ls cs ss) {len : Nat} (hdg : decode M.2.1 pc = .ok (.astore_n n, len)) (h : gp_step l G d M K (gp_Go l G d M K) (.astore_n n) len pc ls st V cs ss) : gp_T l G d M K pc st cs ss p e s m args below meth c H locs la := by
  obtain ⟨hx, hb, hml, hr, hlk, hown, hnm, hts, hK, hN, hbs⟩ := id F
  obtain ⟨hcs, hsz, hP, hS, hl, hc1, hs1⟩ := id D
  have hon := hok.2.2.2.2.2.1
  obtain ⟨e0, h2⟩ := gp_ln_e h
  clear h
  subst e0
  obtain ⟨h3, h4⟩ := gp_bt_e h2
  obtain ⟨v, r, rfl, hv, h⟩ := gp_pA_e h4
  have hn := gp_lt_e h3
  rw [hl.2.2.1] at hn
  rcases hv with ⟨q, rfl⟩ | ⟨q, rfl⟩
  · exact lv_astore_n hx hb hdg rfl hl.has hn rfl (fun la' h' => h p e s m args below meth c H locs la' F (D.ls (gp_lr.st1 (v := .ref q) hl h')))
  · exact lv_astore_n hx hb hdg rfl hl.has hn rfl (fun la' h' => h p e s m args below meth c H locs la' F (D.ls (gp_lr.st1 (v := .retAddr q) hl h')))

theorem gs_astore {n : Nat} (hok : gp_okd M) (F : gp_F G M p s m args meth c) (D : gp_D G M s V H locs la ls cs ss) {len : Nat} (hdg : decode M.2.1 pc = .ok (.astore n, len)) (h : gp_step l G d M K (gp_Go l G d M K) (.astore n) len pc ls st V cs ss) : gp_T l G d M K pc st cs ss p e s m args below meth c H locs la := by
  obtain ⟨hx, hb, hml, hr, hlk, hown, hnm, hts, hK, hN, hbs⟩ := id F
  obtain ⟨hcs, hsz, hP, hS, hl, hc1, hs1⟩ := id D
  have hon := hok.2.2.2.2.2.1
  obtain ⟨e0, h2⟩ := gp_ln_e h
  clear h
  subst e0
  obtain ⟨h3, h4⟩ := gp_bt_e h2
  obtain ⟨v, r, rfl, hv, h⟩ := gp_pA_e h4
  have hn := gp_lt_e h3
  rw [hl.2.2.1] at hn
  rcases hv with ⟨q, rfl⟩ | ⟨q, rfl⟩
  · exact lv_astore hx hb hdg hl.has hn rfl (fun la' h' => h p e s m args below meth c H locs la' F (D.ls (gp_lr.st1 (v := .ref q) hl h')))
  · exact lv_astore hx hb hdg hl.has hn rfl (fun la' h' => h p e s m args below meth c H locs la' F (D.ls (gp_lr.st1 (v := .retAddr q) hl h')))

theorem gs_iinc {n : Nat} {k : Int} (hok : gp_okd M) (F : gp_F G M p s m args meth c) (D : gp_D G M s V H locs la ls cs ss) {len : Nat} (hdg : decode M.2.1 pc = .ok (.iinc n k, len)) (h : gp_step l G d M K (gp_Go l G d M K) (.iinc n k) len pc ls st V cs ss) : gp_T l G d M K pc st cs ss p e s m args below meth c H locs la := by
  obtain ⟨hx, hb, hml, hr, hlk, hown, hnm, hts, hK, hN, hbs⟩ := id F
  obtain ⟨hcs, hsz, hP, hS, hl, hc1, hs1⟩ := id D
  have hon := hok.2.2.2.2.2.1
  obtain ⟨e0, h2⟩ := gp_ln_e h
  clear h
  subst e0
  obtain ⟨h3, h4⟩ := gp_bt_e h2
  obtain ⟨x, h1, h⟩ := gp_ldI_e h4
  have hn := gp_lt_e h3
  rw [hl.2.2.1] at hn
  obtain ⟨j, hj⟩ := List.getElem?_of_mem (gp_pl_mem (G := G) hn h1)
  exact lv_iinc hx hb hdg hl.has hj rfl hn rfl (fun la' h' => h p e s m args below meth c H locs la' F (D.ls (gp_lr.st1 (v := .int (x + Int32.ofInt k)) hl h')))

theorem gs_iconst {n : Int} (hok : gp_okd M) (F : gp_F G M p s m args meth c) (D : gp_D G M s V H locs la ls cs ss) {len : Nat} (hdg : decode M.2.1 pc = .ok (.iconst n, len)) (h : gp_step l G d M K (gp_Go l G d M K) (.iconst n) len pc ls st V cs ss) : gp_T l G d M K pc st cs ss p e s m args below meth c H locs la := by
  obtain ⟨hx, hb, hml, hr, hlk, hown, hnm, hts, hK, hN, hbs⟩ := id F
  obtain ⟨hcs, hsz, hP, hS, hl, hc1, hs1⟩ := id D
  have hon := hok.2.2.2.2.2.1
  obtain ⟨e0, h2⟩ := gp_ln_e h
  clear h
  subst e0
  exact lv_iconst hx hb hdg rfl (h2 p e s m args below meth c H locs la F D)

theorem gs_bipush {n : Int} (hok : gp_okd M) (F : gp_F G M p s m args meth c) (D : gp_D G M s V H locs la ls cs ss) {len : Nat} (hdg : decode M.2.1 pc = .ok (.bipush n, len)) (h : gp_step l G d M K (gp_Go l G d M K) (.bipush n) len pc ls st V cs ss) : gp_T l G d M K pc st cs ss p e s m args below meth c H locs la := by
  obtain ⟨hx, hb, hml, hr, hlk, hown, hnm, hts, hK, hN, hbs⟩ := id F
  obtain ⟨hcs, hsz, hP, hS, hl, hc1, hs1⟩ := id D
  have hon := hok.2.2.2.2.2.1
  obtain ⟨e0, h2⟩ := gp_ln_e h
  clear h
  subst e0
  exact lv_bipush hx hb hdg rfl (h2 p e s m args below meth c H locs la F D)

theorem gs_sipush {n : Int} (hok : gp_okd M) (F : gp_F G M p s m args meth c) (D : gp_D G M s V H locs la ls cs ss) {len : Nat} (hdg : decode M.2.1 pc = .ok (.sipush n, len)) (h : gp_step l G d M K (gp_Go l G d M K) (.sipush n) len pc ls st V cs ss) : gp_T l G d M K pc st cs ss p e s m args below meth c H locs la := by
  obtain ⟨hx, hb, hml, hr, hlk, hown, hnm, hts, hK, hN, hbs⟩ := id F
  obtain ⟨hcs, hsz, hP, hS, hl, hc1, hs1⟩ := id D
  have hon := hok.2.2.2.2.2.1
  obtain ⟨e0, h2⟩ := gp_ln_e h
  clear h
  subst e0
  exact lv_sipush hx hb hdg rfl (h2 p e s m args below meth c H locs la F D)

theorem gs_lconst {n : Fin 2} (hok : gp_okd M) (F : gp_F G M p s m args meth c) (D : gp_D G M s V H locs la ls cs ss) {len : Nat} (hdg : decode M.2.1 pc = .ok (.lconst n, len)) (h : gp_step l G d M K (gp_Go l G d M K) (.lconst n) len pc ls st V cs ss) : gp_T l G d M K pc st cs ss p e s m args below meth c H locs la := by
  obtain ⟨hx, hb, hml, hr, hlk, hown, hnm, hts, hK, hN, hbs⟩ := id F
  obtain ⟨hcs, hsz, hP, hS, hl, hc1, hs1⟩ := id D
  have hon := hok.2.2.2.2.2.1
  obtain ⟨e0, h2⟩ := gp_ln_e h
  clear h
  subst e0
  exact lv_lconst hx hb hdg rfl (h2 p e s m args below meth c H locs la F D)

theorem gs_ldc {idx : Nat} (hok : gp_okd M) (F : gp_F G M p s m args meth c) (D : gp_D G M s V H locs la ls cs ss) {len : Nat} (hdg : decode M.2.1 pc = .ok (.ldc idx, len)) (h : gp_step l G d M K (gp_Go l G d M K) (.ldc idx) len pc ls st V cs ss) : gp_T l G d M K pc st cs ss p e s m args below meth c H locs la := by
  obtain ⟨hx, hb, hml, hr, hlk, hown, hnm, hts, hK, hN, hbs⟩ := id F
  obtain ⟨hcs, hsz, hP, hS, hl, hc1, hs1⟩ := id D
  have hon := hok.2.2.2.2.2.1
  obtain ⟨e0, h2⟩ := gp_ln_e h
  clear h
  subst e0
  split at h2
  · rename_i i h0
    obtain ⟨tx, f⟩ := gp_sA _ _ hon _ (gp_lk_mem h0)
    exact va_ldcS hx hb hown (hN.2.2.2.1 _ _ f) hdg (h2 p e s m args below meth c H locs la F D)
  · obtain ⟨v, h0, h⟩ := gp_row_e h2
    exact lv_ldc hx hb hown (hts _ (gp_kA _ _ hon _ (gp_lk_mem h0))) hdg (h p e s m args below meth c H locs la F D)

theorem gs_ldc_w {idx : Nat} (hok : gp_okd M) (F : gp_F G M p s m args meth c) (D : gp_D G M s V H locs la ls cs ss) {len : Nat} (hdg : decode M.2.1 pc = .ok (.ldc_w idx, len)) (h : gp_step l G d M K (gp_Go l G d M K) (.ldc_w idx) len pc ls st V cs ss) : gp_T l G d M K pc st cs ss p e s m args below meth c H locs la := by
  obtain ⟨hx, hb, hml, hr, hlk, hown, hnm, hts, hK, hN, hbs⟩ := id F
  obtain ⟨hcs, hsz, hP, hS, hl, hc1, hs1⟩ := id D
  have hon := hok.2.2.2.2.2.1
  obtain ⟨e0, h2⟩ := gp_ln_e h
  clear h
  subst e0
  obtain ⟨v, h0, h⟩ := gp_row_e h2
  exact lv_ldcw hx hb hown (hts _ (gp_kA _ _ hon _ (gp_lk_mem h0))) hdg (h p e s m args below meth c H locs la F D)

theorem gs_ldc2_w {idx : Nat} (hok : gp_okd M) (F : gp_F G M p s m args meth c) (D : gp_D G M s V H locs la ls cs ss) {len : Nat} (hdg : decode M.2.1 pc = .ok (.ldc2_w idx, len)) (h : gp_step l G d M K (gp_Go l G d M K) (.ldc2_w idx) len pc ls st V cs ss) : gp_T l G d M K pc st cs ss p e s m args below meth c H locs la := by
  obtain ⟨hx, hb, hml, hr, hlk, hown, hnm, hts, hK, hN, hbs⟩ := id F
  obtain ⟨hcs, hsz, hP, hS, hl, hc1, hs1⟩ := id D
  have hon := hok.2.2.2.2.2.1
  obtain ⟨e0, h2⟩ := gp_ln_e h
  clear h
  subst e0
  obtain ⟨v, h0, h⟩ := gp_row_e h2
  exact lv_ldc2 hx hb hown (hts _ (gp_LA _ _ hon _ (gp_lk_mem h0))) hdg (h p e s m args below meth c H locs la F D)

theorem gs_iadd (hok : gp_okd M) (F : gp_F G M p s m args meth c) (D : gp_D G M s V H locs la ls cs ss) {len : Nat} (hdg : decode M.2.1 pc = .ok (.iadd, len)) (h : gp_step l G d M K (gp_Go l G d M K) (.iadd) len pc ls st V cs ss) : gp_T l G d M K pc st cs ss p e s m args below meth c H locs la := by
  obtain ⟨hx, hb, hml, hr, hlk, hown, hnm, hts, hK, hN, hbs⟩ := id F
  obtain ⟨hcs, hsz, hP, hS, hl, hc1, hs1⟩ := id D
  have hon := hok.2.2.2.2.2.1
  obtain ⟨e0, h2⟩ := gp_ln_e h
  clear h
  subst e0
  obtain ⟨x, y, r, rfl, h⟩ := gp_p2_e h2
  exact lv_iadd hx hb hdg (h p e s m args below meth c H locs la F D)

theorem gs_isub (hok : gp_okd M) (F : gp_F G M p s m args meth c) (D : gp_D G M s V H locs la ls cs ss) {len : Nat} (hdg : decode M.2.1 pc = .ok (.isub, len)) (h : gp_step l G d M K (gp_Go l G d M K) (.isub) len pc ls st V cs ss) : gp_T l G d M K pc st cs ss p e s m args below meth c H locs la := by
  obtain ⟨hx, hb, hml, hr, hlk, hown, hnm, hts, hK, hN, hbs⟩ := id F
  obtain ⟨hcs, hsz, hP, hS, hl, hc1, hs1⟩ := id D
  have hon := hok.2.2.2.2.2.1
  obtain ⟨e0, h2⟩ := gp_ln_e h
  clear h
  subst e0
  obtain ⟨x, y, r, rfl, h⟩ := gp_p2_e h2
  exact lv_isub hx hb hdg (h p e s m args below meth c H locs la F D)

theorem gs_imul (hok : gp_okd M) (F : gp_F G M p s m args meth c) (D : gp_D G M s V H locs la ls cs ss) {len : Nat} (hdg : decode M.2.1 pc = .ok (.imul, len)) (h : gp_step l G d M K (gp_Go l G d M K) (.imul) len pc ls st V cs ss) : gp_T l G d M K pc st cs ss p e s m args below meth c H locs la := by
  obtain ⟨hx, hb, hml, hr, hlk, hown, hnm, hts, hK, hN, hbs⟩ := id F
  obtain ⟨hcs, hsz, hP, hS, hl, hc1, hs1⟩ := id D
  have hon := hok.2.2.2.2.2.1
  obtain ⟨e0, h2⟩ := gp_ln_e h
  clear h
  subst e0
  obtain ⟨x, y, r, rfl, h⟩ := gp_p2_e h2
  exact lv_imul hx hb hdg (h p e s m args below meth c H locs la F D)

theorem gs_iand (hok : gp_okd M) (F : gp_F G M p s m args meth c) (D : gp_D G M s V H locs la ls cs ss) {len : Nat} (hdg : decode M.2.1 pc = .ok (.iand, len)) (h : gp_step l G d M K (gp_Go l G d M K) (.iand) len pc ls st V cs ss) : gp_T l G d M K pc st cs ss p e s m args below meth c H locs la := by
  obtain ⟨hx, hb, hml, hr, hlk, hown, hnm, hts, hK, hN, hbs⟩ := id F
  obtain ⟨hcs, hsz, hP, hS, hl, hc1, hs1⟩ := id D
  have hon := hok.2.2.2.2.2.1
  obtain ⟨e0, h2⟩ := gp_ln_e h
  clear h
  subst e0
  obtain ⟨x, y, r, rfl, h⟩ := gp_p2_e h2
  exact lv_iand hx hb hdg (h p e s m args below meth c H locs la F D)

theorem gs_ior (hok : gp_okd M) (F : gp_F G M p s m args meth c) (D : gp_D G M s V H locs la ls cs ss) {len : Nat} (hdg : decode M.2.1 pc = .ok (.ior, len)) (h : gp_step l G d M K (gp_Go l G d M K) (.ior) len pc ls st V cs ss) : gp_T l G d M K pc st cs ss p e s m args below meth c H locs la := by
  obtain ⟨hx, hb, hml, hr, hlk, hown, hnm, hts, hK, hN, hbs⟩ := id F
  obtain ⟨hcs, hsz, hP, hS, hl, hc1, hs1⟩ := id D
  have hon := hok.2.2.2.2.2.1
  obtain ⟨e0, h2⟩ := gp_ln_e h
  clear h
  subst e0
  obtain ⟨x, y, r, rfl, h⟩ := gp_p2_e h2
  exact lv_ior hx hb hdg (h p e s m args below meth c H locs la F D)

theorem gs_ixor (hok : gp_okd M) (F : gp_F G M p s m args meth c) (D : gp_D G M s V H locs la ls cs ss) {len : Nat} (hdg : decode M.2.1 pc = .ok (.ixor, len)) (h : gp_step l G d M K (gp_Go l G d M K) (.ixor) len pc ls st V cs ss) : gp_T l G d M K pc st cs ss p e s m args below meth c H locs la := by
  obtain ⟨hx, hb, hml, hr, hlk, hown, hnm, hts, hK, hN, hbs⟩ := id F
  obtain ⟨hcs, hsz, hP, hS, hl, hc1, hs1⟩ := id D
  have hon := hok.2.2.2.2.2.1
  obtain ⟨e0, h2⟩ := gp_ln_e h
  clear h
  subst e0
  obtain ⟨x, y, r, rfl, h⟩ := gp_p2_e h2
  exact lv_ixor hx hb hdg (h p e s m args below meth c H locs la F D)

theorem gs_ishl (hok : gp_okd M) (F : gp_F G M p s m args meth c) (D : gp_D G M s V H locs la ls cs ss) {len : Nat} (hdg : decode M.2.1 pc = .ok (.ishl, len)) (h : gp_step l G d M K (gp_Go l G d M K) (.ishl) len pc ls st V cs ss) : gp_T l G d M K pc st cs ss p e s m args below meth c H locs la := by
  obtain ⟨hx, hb, hml, hr, hlk, hown, hnm, hts, hK, hN, hbs⟩ := id F
  obtain ⟨hcs, hsz, hP, hS, hl, hc1, hs1⟩ := id D
  have hon := hok.2.2.2.2.2.1
  obtain ⟨e0, h2⟩ := gp_ln_e h
  clear h
  subst e0
  obtain ⟨x, y, r, rfl, h⟩ := gp_p2_e h2
  exact lv_ishl hx hb hdg (h p e s m args below meth c H locs la F D)

theorem gs_ishr (hok : gp_okd M) (F : gp_F G M p s m args meth c) (D : gp_D G M s V H locs la ls cs ss) {len : Nat} (hdg : decode M.2.1 pc = .ok (.ishr, len)) (h : gp_step l G d M K (gp_Go l G d M K) (.ishr) len pc ls st V cs ss) : gp_T l G d M K pc st cs ss p e s m args below meth c H locs la := by
  obtain ⟨hx, hb, hml, hr, hlk, hown, hnm, hts, hK, hN, hbs⟩ := id F
  obtain ⟨hcs, hsz, hP, hS, hl, hc1, hs1⟩ := id D
  have hon := hok.2.2.2.2.2.1
  obtain ⟨e0, h2⟩ := gp_ln_e h
  clear h
  subst e0
  obtain ⟨x, y, r, rfl, h⟩ := gp_p2_e h2
  exact lv_ishr hx hb hdg (h p e s m args below meth c H locs la F D)

theorem gs_idiv (hok : gp_okd M) (F : gp_F G M p s m args meth c) (D : gp_D G M s V H locs la ls cs ss) {len : Nat} (hdg : decode M.2.1 pc = .ok (.idiv, len)) (h : gp_step l G d M K (gp_Go l G d M K) (.idiv) len pc ls st V cs ss) : gp_T l G d M K pc st cs ss p e s m args below meth c H locs la := by
  obtain ⟨hx, hb, hml, hr, hlk, hown, hnm, hts, hK, hN, hbs⟩ := id F
  obtain ⟨hcs, hsz, hP, hS, hl, hc1, hs1⟩ := id D
  have hon := hok.2.2.2.2.2.1
  obtain ⟨e0, h2⟩ := gp_ln_e h
  clear h
  subst e0
  obtain ⟨x, y, r, rfl, h1, h⟩ := gp_p2_e h2
  exact lv_idiv hx hb hdg h1 (h p e s m args below meth c H locs la F D)

theorem gs_irem (hok : gp_okd M) (F : gp_F G M p s m args meth c) (D : gp_D G M s V H locs la ls cs ss) {len : Nat} (hdg : decode M.2.1 pc = .ok (.irem, len)) (h : gp_step l G d M K (gp_Go l G d M K) (.irem) len pc ls st V cs ss) : gp_T l G d M K pc st cs ss p e s m args below meth c H locs la := by
  obtain ⟨hx, hb, hml, hr, hlk, hown, hnm, hts, hK, hN, hbs⟩ := id F
  obtain ⟨hcs, hsz, hP, hS, hl, hc1, hs1⟩ := id D
  have hon := hok.2.2.2.2.2.1
  obtain ⟨e0, h2⟩ := gp_ln_e h
  clear h
  subst e0
  obtain ⟨x, y, r, rfl, h1, h⟩ := gp_p2_e h2
  exact lv_irem hx hb hdg h1 (h p e s m args below meth c H locs la F D)

theorem gs_iushr (hok : gp_okd M) (F : gp_F G M p s m args meth c) (D : gp_D G M s V H locs la ls cs ss) {len : Nat} (hdg : decode M.2.1 pc = .ok (.iushr, len)) (h : gp_step l G d M K (gp_Go l G d M K) (.iushr) len pc ls st V cs ss) : gp_T l G d M K pc st cs ss p e s m args below meth c H locs la := by
  obtain ⟨hx, hb, hml, hr, hlk, hown, hnm, hts, hK, hN, hbs⟩ := id F
  obtain ⟨hcs, hsz, hP, hS, hl, hc1, hs1⟩ := id D
  have hon := hok.2.2.2.2.2.1
  obtain ⟨e0, h2⟩ := gp_ln_e h
  clear h
  subst e0
  obtain ⟨x, y, r, rfl, h⟩ := gp_p2_e h2
  exact lv_iushr hx hb hdg rfl (h p e s m args below meth c H locs la F D)

theorem gs_ineg (hok : gp_okd M) (F : gp_F G M p s m args meth c) (D : gp_D G M s V H locs la ls cs ss) {len : Nat} (hdg : decode M.2.1 pc = .ok (.ineg, len)) (h : gp_step l G d M K (gp_Go l G d M K) (.ineg) len pc ls st V cs ss) : gp_T l G d M K pc st cs ss p e s m args below meth c H locs la := by
  obtain ⟨hx, hb, hml, hr, hlk, hown, hnm, hts, hK, hN, hbs⟩ := id F
  obtain ⟨hcs, hsz, hP, hS, hl, hc1, hs1⟩ := id D
  have hon := hok.2.2.2.2.2.1
  obtain ⟨e0, h2⟩ := gp_ln_e h
  clear h
  subst e0
  obtain ⟨x, r, rfl, h⟩ := gp_p1_e h2
  exact lv_ineg hx hb hdg (h p e s m args below meth c H locs la F D)

theorem gs_i2l (hok : gp_okd M) (F : gp_F G M p s m args meth c) (D : gp_D G M s V H locs la ls cs ss) {len : Nat} (hdg : decode M.2.1 pc = .ok (.i2l, len)) (h : gp_step l G d M K (gp_Go l G d M K) (.i2l) len pc ls st V cs ss) : gp_T l G d M K pc st cs ss p e s m args below meth c H locs la := by
  obtain ⟨hx, hb, hml, hr, hlk, hown, hnm, hts, hK, hN, hbs⟩ := id F
  obtain ⟨hcs, hsz, hP, hS, hl, hc1, hs1⟩ := id D
  have hon := hok.2.2.2.2.2.1
  obtain ⟨e0, h2⟩ := gp_ln_e h
  clear h
  subst e0
  obtain ⟨x, r, rfl, h⟩ := gp_p1_e h2
  exact lv_i2l hx hb hdg rfl (h p e s m args below meth c H locs la F D)

theorem gs_i2b (hok : gp_okd M) (F : gp_F G M p s m args meth c) (D : gp_D G M s V H locs la ls cs ss) {len : Nat} (hdg : decode M.2.1 pc = .ok (.i2b, len)) (h : gp_step l G d M K (gp_Go l G d M K) (.i2b) len pc ls st V cs ss) : gp_T l G d M K pc st cs ss p e s m args below meth c H locs la := by
  obtain ⟨hx, hb, hml, hr, hlk, hown, hnm, hts, hK, hN, hbs⟩ := id F
  obtain ⟨hcs, hsz, hP, hS, hl, hc1, hs1⟩ := id D
  have hon := hok.2.2.2.2.2.1
  obtain ⟨e0, h2⟩ := gp_ln_e h
  clear h
  subst e0
  obtain ⟨x, r, rfl, h⟩ := gp_p1_e h2
  exact lv_i2b hx hb hdg rfl (h p e s m args below meth c H locs la F D)

theorem gs_i2c (hok : gp_okd M) (F : gp_F G M p s m args meth c) (D : gp_D G M s V H locs la ls cs ss) {len : Nat} (hdg : decode M.2.1 pc = .ok (.i2c, len)) (h : gp_step l G d M K (gp_Go l G d M K) (.i2c) len pc ls st V cs ss) : gp_T l G d M K pc st cs ss p e s m args below meth c H locs la := by
  obtain ⟨hx, hb, hml, hr, hlk, hown, hnm, hts, hK, hN, hbs⟩ := id F
  obtain ⟨hcs, hsz, hP, hS, hl, hc1, hs1⟩ := id D
  have hon := hok.2.2.2.2.2.1
  obtain ⟨e0, h2⟩ := gp_ln_e h
  clear h
  subst e0
  obtain ⟨x, r, rfl, h⟩ := gp_p1_e h2
  exact lv_i2c hx hb hdg rfl (h p e s m args below meth c H locs la F D)

theorem gs_l2i (hok : gp_okd M) (F : gp_F G M p s m args meth c) (D : gp_D G M s V H locs la ls cs ss) {len : Nat} (hdg : decode M.2.1 pc = .ok (.l2i, len)) (h : gp_step l G d M K (gp_Go l G d M K) (.l2i) len pc ls st V cs ss) : gp_T l G d M K pc st cs ss p e s m args below meth c H locs la := by
  obtain ⟨hx, hb, hml, hr, hlk, hown, hnm, hts, hK, hN, hbs⟩ := id F
  obtain ⟨hcs, hsz, hP, hS, hl, hc1, hs1⟩ := id D
  have hon := hok.2.2.2.2.2.1
  obtain ⟨e0, h2⟩ := gp_ln_e h
  clear h
  subst e0
  obtain ⟨x, r, rfl, h⟩ := gp_q1_e h2
  exact lv_l2i hx hb hdg rfl (h p e s m args below meth c H locs la F D)

theorem gs_ladd (hok : gp_okd M) (F : gp_F G M p s m args meth c) (D : gp_D G M s V H locs la ls cs ss) {len : Nat} (hdg : decode M.2.1 pc = .ok (.ladd, len)) (h : gp_step l G d M K (gp_Go l G d M K) (.ladd) len pc ls st V cs ss) : gp_T l G d M K pc st cs ss p e s m args below meth c H locs la := by
  obtain ⟨hx, hb, hml, hr, hlk, hown, hnm, hts, hK, hN, hbs⟩ := id F
  obtain ⟨hcs, hsz, hP, hS, hl, hc1, hs1⟩ := id D
  have hon := hok.2.2.2.2.2.1
  obtain ⟨e0, h2⟩ := gp_ln_e h
  clear h
  subst e0
  obtain ⟨x, y, r, rfl, h⟩ := gp_q2_e h2
  exact lv_ladd hx hb hdg (h p e s m args below meth c H locs la F D)

theorem gs_lmul (hok : gp_okd M) (F : gp_F G M p s m args meth c) (D : gp_D G M s V H locs la ls cs ss) {len : Nat} (hdg : decode M.2.1 pc = .ok (.lmul, len)) (h : gp_step l G d M K (gp_Go l G d M K) (.lmul) len pc ls st V cs ss) : gp_T l G d M K pc st cs ss p e s m args below meth c H locs la := by
  obtain ⟨hx, hb, hml, hr, hlk, hown, hnm, hts, hK, hN, hbs⟩ := id F
  obtain ⟨hcs, hsz, hP, hS, hl, hc1, hs1⟩ := id D
  have hon := hok.2.2.2.2.2.1
  obtain ⟨e0, h2⟩ := gp_ln_e h
  clear h
  subst e0
  obtain ⟨x, y, r, rfl, h⟩ := gp_q2_e h2
  exact lv_lmul hx hb hdg (h p e s m args below meth c H locs la F D)

theorem gs_lor (hok : gp_okd M) (F : gp_F G M p s m args meth c) (D : gp_D G M s V H locs la ls cs ss) {len : Nat} (hdg : decode M.2.1 pc = .ok (.lor, len)) (h : gp_step l G d M K (gp_Go l G d M K) (.lor) len pc ls st V cs ss) : gp_T l G d M K pc st cs ss p e s m args below meth c H locs la := by
  obtain ⟨hx, hb, hml, hr, hlk, hown, hnm, hts, hK, hN, hbs⟩ := id F
  obtain ⟨hcs, hsz, hP, hS, hl, hc1, hs1⟩ := id D
  have hon := hok.2.2.2.2.2.1
  obtain ⟨e0, h2⟩ := gp_ln_e h
  clear h
  subst e0
  obtain ⟨x, y, r, rfl, h⟩ := gp_q2_e h2
  exact lv_lor hx hb hdg (h p e s m args below meth c H locs la F D)

theorem gs_ldiv (hok : gp_okd M) (F : gp_F G M p s m args meth c) (D : gp_D G M s V H locs la ls cs ss) {len : Nat} (hdg : decode M.2.1 pc = .ok (.ldiv, len)) (h : gp_step l G d M K (gp_Go l G d M K) (.ldiv) len pc ls st V cs ss) : gp_T l G d M K pc st cs ss p e s m args below meth c H locs la := by
  obtain ⟨hx, hb, hml, hr, hlk, hown, hnm, hts, hK, hN, hbs⟩ := id F
  obtain ⟨hcs, hsz, hP, hS, hl, hc1, hs1⟩ := id D
  have hon := hok.2.2.2.2.2.1
  obtain ⟨e0, h2⟩ := gp_ln_e h
  clear h
  subst e0
  obtain ⟨x, y, r, rfl, h1, h⟩ := gp_q2_e h2
  exact lv_ldiv hx hb hdg h1 (h p e s m args below meth c H locs la F D)

theorem gs_lcmp (hok : gp_okd M) (F : gp_F G M p s m args meth c) (D : gp_D G M s V H locs la ls cs ss) {len : Nat} (hdg : decode M.2.1 pc = .ok (.lcmp, len)) (h : gp_step l G d M K (gp_Go l G d M K) (.lcmp) len pc ls st V cs ss) : gp_T l G d M K pc st cs ss p e s m args below meth c H locs la := by
  obtain ⟨hx, hb, hml, hr, hlk, hown, hnm, hts, hK, hN, hbs⟩ := id F
  obtain ⟨hcs, hsz, hP, hS, hl, hc1, hs1⟩ := id D
  have hon := hok.2.2.2.2.2.1
  obtain ⟨e0, h2⟩ := gp_ln_e h
  clear h
  subst e0
  obtain ⟨x, y, r, rfl, h⟩ := gp_q2_e h2
  exact W.lcmp hx hb hdg (h p e s m args below meth c H locs la F D)

theorem gs_lshl (hok : gp_okd M) (F : gp_F G M p s m args meth c) (D : gp_D G M s V H locs la ls cs ss) {len : Nat} (hdg : decode M.2.1 pc = .ok (.lshl, len)) (h : gp_step l G d M K (gp_Go l G d M K) (.lshl) len pc ls st V cs ss) : gp_T l G d M K pc st cs ss p e s m args below meth c H locs la := by
  obtain ⟨hx, hb, hml, hr, hlk, hown, hnm, hts, hK, hN, hbs⟩ := id F
  obtain ⟨hcs, hsz, hP, hS, hl, hc1, hs1⟩ := id D
  have hon := hok.2.2.2.2.2.1
  obtain ⟨e0, h2⟩ := gp_ln_e h
  clear h
  subst e0
  obtain ⟨x, y, r, rfl, h⟩ := gp_qs_e h2
  exact lv_lshl hx hb hdg rfl (h p e s m args below meth c H locs la F D)

theorem gs_lushr (hok : gp_okd M) (F : gp_F G M p s m args meth c) (D : gp_D G M s V H locs la ls cs ss) {len : Nat} (hdg : decode M.2.1 pc = .ok (.lushr, len)) (h : gp_step l G d M K (gp_Go l G d M K) (.lushr) len pc ls st V cs ss) : gp_T l G d M K pc st cs ss p e s m args below meth c H locs la := by
  obtain ⟨hx, hb, hml, hr, hlk, hown, hnm, hts, hK, hN, hbs⟩ := id F
  obtain ⟨hcs, hsz, hP, hS, hl, hc1, hs1⟩ := id D
  have hon := hok.2.2.2.2.2.1
  obtain ⟨e0, h2⟩ := gp_ln_e h
  clear h
  subst e0
  obtain ⟨x, y, r, rfl, h⟩ := gp_qs_e h2
  exact lv_lushr hx hb hdg rfl (h p e s m args below meth c H locs la F D)

theorem gp_cat1 (G : gp_G) {v : Value} (h : gp_sz [v] = 1) : (gp_mv G v).category = 1 := by
  rw [gp_mv_cat]
  cases v <;> simp [gp_sz] at h <;> rfl

theorem gs_dup (hok : gp_okd M) (F : gp_F G M p s m args meth c) (D : gp_D G M s V H locs la ls cs ss) {len : Nat} (hdg : decode M.2.1 pc = .ok (.dup, len)) (h : gp_step l G d M K (gp_Go l G d M K) (.dup) len pc ls st V cs ss) : gp_T l G d M K pc st cs ss p e s m args below meth c H locs la := by
  obtain ⟨hx, hb, hml, hr, hlk, hown, hnm, hts, hK, hN, hbs⟩ := id F
  obtain ⟨hcs, hsz, hP, hS, hl, hc1, hs1⟩ := id D
  have hon := hok.2.2.2.2.2.1
  obtain ⟨e0, h2⟩ := gp_ln_e h
  clear h
  subst e0
  split at h2
  · obtain ⟨h3, h⟩ := gp_ln_e h2
    exact lv_dup hx hb hdg (gp_cat1 G h3) (h p e s m args below meth c H locs la F D)
  · exact h2.elim

theorem gs_pop (hok : gp_okd M) (F : gp_F G M p s m args meth c) (D : gp_D G M s V H locs la ls cs ss) {len : Nat} (hdg : decode M.2.1 pc = .ok (.pop, len)) (h : gp_step l G d M K (gp_Go l G d M K) (.pop) len pc ls st V cs ss) : gp_T l G d M K pc st cs ss p e s m args below meth c H locs la := by
  obtain ⟨hx, hb, hml, hr, hlk, hown, hnm, hts, hK, hN, hbs⟩ := id F
  obtain ⟨hcs, hsz, hP, hS, hl, hc1, hs1⟩ := id D
  have hon := hok.2.2.2.2.2.1
  obtain ⟨e0, h2⟩ := gp_ln_e h
  clear h
  subst e0
  split at h2
  · obtain ⟨h3, h⟩ := gp_ln_e h2
    exact lv_pop hx hb hdg (gp_cat1 G h3) (h p e s m args below meth c H locs la F D)
  · exact h2.elim

theorem gs_dup2 (hok : gp_okd M) (F : gp_F G M p s m args meth c) (D : gp_D G M s V H locs la ls cs ss) {len : Nat} (hdg : decode M.2.1 pc = .ok (.dup2, len)) (h : gp_step l G d M K (gp_Go l G d M K) (.dup2) len pc ls st V cs ss) : gp_T l G d M K pc st cs ss p e s m args below meth c H locs la := by
  obtain ⟨hx, hb, hml, hr, hlk, hown, hnm, hts, hK, hN, hbs⟩ := id F
  obtain ⟨hcs, hsz, hP, hS, hl, hc1, hs1⟩ := id D
  have hon := hok.2.2.2.2.2.1
  obtain ⟨e0, h2⟩ := gp_ln_e h
  clear h
  subst e0
  split at h2
  · obtain ⟨h3, h4⟩ := gp_ln_e h2
    obtain ⟨h5, h⟩ := gp_ln_e h4
    exact lv_dup2_11 hx hb hdg (gp_cat1 G h3) (gp_cat1 G h5) (h p e s m args below meth c H locs la F D)
  · exact h2.elim

theorem gs_ifCond {k : Jvm.ClassFile.Cond} {off : Int} (hok : gp_okd M) (F : gp_F G M p s m args meth c) (D : gp_D G M s V H locs la ls cs ss) {len : Nat} (hdg : decode M.2.1 pc = .ok (.ifCond k off, len)) (h : gp_step l G d M K (gp_Go l G d M K) (.ifCond k off) len pc ls st V cs ss) : gp_T l G d M K pc st cs ss p e s m args below meth c H locs la := by
  obtain ⟨hx, hb, hml, hr, hlk, hown, hnm, hts, hK, hN, hbs⟩ := id F
  obtain ⟨hcs, hsz, hP, hS, hl, hc1, hs1⟩ := id D
  have hon := hok.2.2.2.2.2.1
  obtain ⟨e0, h2⟩ := gp_ln_e h
  clear h
  subst e0
  obtain ⟨x, r, rfl, h3⟩ := gp_p1_e h2
  obtain ⟨t, e1, h⟩ := gp_j_e h3
  cases k with
  | eq => exact lv_if_eq hx hb hdg e1 (fun q => h.1 q p e s m args below meth c H locs la F D) (fun q => h.2 q p e s m args below meth c H locs la F D)
  | ne => exact lv_if_ne hx hb hdg e1 (fun q => h.1 q p e s m args below meth c H locs la F D) (fun q => h.2 q p e s m args below meth c H locs la F D)
  | lt => exact lv_if_lt hx hb hdg e1 (fun q => h.1 q p e s m args below meth c H locs la F D) (fun q => h.2 q p e s m args below meth c H locs la F D)
  | ge => exact lv_if_ge hx hb hdg e1 (fun q => h.1 q p e s m args below meth c H locs la F D) (fun q => h.2 q p e s m args below meth c H locs la F D)
  | gt => exact lv_if_gt hx hb hdg e1 (fun q => h.1 q p e s m args below meth c H locs la F D) (fun q => h.2 q p e s m args below meth c H locs la F D)
  | le => exact lv_if_le hx hb hdg e1 (fun q => h.1 q p e s m args below meth c H locs la F D) (fun q => h.2 q p e s m args below meth c H locs la F D)

theorem gs_if_icmp {k : Jvm.ClassFile.Cond} {off : Int} (hok : gp_okd M) (F : gp_F G M p s m args meth c) (D : gp_D G M s V H locs la ls cs ss) {len : Nat} (hdg : decode M.2.1 pc = .ok (.if_icmp k off, len)) (h : gp_step l G d M K (gp_Go l G d M K) (.if_icmp k off) len pc ls st V cs ss) : gp_T l G d M K pc st cs ss p e s m args below meth c H locs la := by
  obtain ⟨hx, hb, hml, hr, hlk, hown, hnm, hts, hK, hN, hbs⟩ := id F
  obtain ⟨hcs, hsz, hP, hS, hl, hc1, hs1⟩ := id D
  have hon := hok.2.2.2.2.2.1
  obtain ⟨e0, h2⟩ := gp_ln_e h
  clear h
  subst e0
  obtain ⟨x, y, r, rfl, h3⟩ := gp_p2_e h2
  obtain ⟨t, e1, h⟩ := gp_j_e h3
  cases k with
  | eq => exact lv_icmp_eq hx hb hdg e1 (fun q => h.1 q p e s m args below meth c H locs la F D) (fun q => h.2 q p e s m args below meth c H locs la F D)
  | ne => exact lv_icmp_ne hx hb hdg e1 (fun q => h.1 q p e s m args below meth c H locs la F D) (fun q => h.2 q p e s m args below meth c H locs la F D)
  | lt => exact lv_icmp_lt hx hb hdg e1 (fun q => h.1 q p e s m args below meth c H locs la F D) (fun q => h.2 q p e s m args below meth c H locs la F D)
  | ge => exact lv_icmp_ge hx hb hdg e1 (fun q => h.1 q p e s m args below meth c H locs la F D) (fun q => h.2 q p e s m args below meth c H locs la F D)
  | gt => exact lv_icmp_gt hx hb hdg e1 (fun q => h.1 q p e s m args below meth c H locs la F D) (fun q => h.2 q p e s m args below meth c H locs la F D)
  | le => exact lv_icmp_le hx hb hdg e1 (fun q => h.1 q p e s m args below meth c H locs la F D) (fun q => h.2 q p e s m args below meth c H locs la F D)

theorem gs_goto {off : Int} (hok : gp_okd M) (F : gp_F G M p s m args meth c) (D : gp_D G M s V H locs la ls cs ss) {len : Nat} (hdg : decode M.2.1 pc = .ok (.goto off, len)) (h : gp_step l G d M K (gp_Go l G d M K) (.goto off) len pc ls st V cs ss) : gp_T l G d M K pc st cs ss p e s m args below meth c H locs la := by
  obtain ⟨hx, hb, hml, hr, hlk, hown, hnm, hts, hK, hN, hbs⟩ := id F
  obtain ⟨hcs, hsz, hP, hS, hl, hc1, hs1⟩ := id D
  have hon := hok.2.2.2.2.2.1
  obtain ⟨e0, h2⟩ := gp_ln_e h
  clear h
  subst e0
  obtain ⟨t, e1, h⟩ := gp_j_e h2
  exact lv_goto hx hb hdg e1 (h p e s m args below meth c H locs la F D)

theorem gs_tableswitch {df lo hi : Int} {offs : Array Int} (hok : gp_okd M) (F : gp_F G M p s m args meth c) (D : gp_D G M s V H locs la ls cs ss) {len : Nat} (hdg : decode M.2.1 pc = .ok (.tableswitch df lo hi offs, len)) (h : gp_step l G d M K (gp_Go l G d M K) (.tableswitch df lo hi offs) len pc ls st V cs ss) : gp_T l G d M K pc st cs ss p e s m args below meth c H locs la := by
  obtain ⟨hx, hb, hml, hr, hlk, hown, hnm, hts, hK, hN, hbs⟩ := id F
  obtain ⟨hcs, hsz, hP, hS, hl, hc1, hs1⟩ := id D
  have hon := hok.2.2.2.2.2.1
  obtain ⟨x, r, rfl, h1, h2, h3⟩ := gp_p1_e h
  by_cases hq : x.toInt < lo ∨ hi < x.toInt
  · obtain ⟨t, e1, h⟩ := gp_j_e (h1 hq)
    exact lv_tableOut hx hb hdg hq e1 (h p e s m args below meth c H locs la F D)
  · have q1 : ¬ x.toInt < lo := fun z => hq (Or.inl z)
    have q2 : ¬ hi < x.toInt := fun z => hq (Or.inr z)
    have q3 : (x.toInt - lo).toNat < offs.toList.length := by omega
    obtain ⟨off, ho⟩ : ∃ off, offs.toList[(x.toInt - lo).toNat]? = some off := ⟨_, List.getElem?_eq_getElem q3⟩
    obtain ⟨t, e1, h⟩ := gp_j_e (gp_sw_e h3 ho (by omega))
    exact lv_tableIn hx hb hdg q1 q2 (by rw [← Array.getElem?_toList]; exact ho) e1 (h p e s m args below meth c H locs la F D)

theorem gs_getstatic {idx : Nat} (hok : gp_okd M) (F : gp_F G M p s m args meth c) (D : gp_D G M s V H locs la ls cs ss) {len : Nat} (hdg : decode M.2.1 pc = .ok (.getstatic idx, len)) (h : gp_step l G d M K (gp_Go l G d M K) (.getstatic idx) len pc ls st V cs ss) : gp_T l G d M K pc st cs ss p e s m args below meth c H locs la := by
  obtain ⟨hx, hb, hml, hr, hlk, hown, hnm, hts, hK, hN, hbs⟩ := id F
  obtain ⟨hcs, hsz, hP, hS, hl, hc1, hs1⟩ := id D
  have hon := hok.2.2.2.2.2.1
  obtain ⟨e0, h2⟩ := gp_ln_e h
  clear h
  subst e0
  obtain ⟨q, h0, h⟩ := gp_row_e h2
  rcases gp_zA _ _ hon _ (gp_lk_mem h0) with ⟨e1, f⟩ | ⟨e1, f⟩
  · have e1 : q = 0 := e1
    subst e1
    exact va_gets hx hb hN.2.2.2.2.2.1 hS hown (hts _ f) (fun _ h9 => h9) hdg (h p e s m args below meth c H locs la F D)
  · have e1 : q = 1 := e1
    subst e1
    rcases hN.2.2.2.2.2.2 with hz | hz
    · exact va_gets hx hb hz hS hown (hts _ f) (fun _ h9 => h9) hdg (h.1 p e s m args below meth c H locs la F D)
    · exact va_gets hx hb hz hS hown (hts _ f) (fun _ h9 => h9) hdg (h.2 p e s m args below meth c H locs la F D)

theorem gs_post {r : Option Value} (hcs : cs = gp_mc M) (D : gp_D G M s V H locs la ls cs ss) (hk : K r V) : ∀ t : State, t.heap = H → s.WarmedH t.vm → gp_Post G (gp_mc M) K args s (.returned (r.map (gp_mv G))) t := by
  intro t ht _
  obtain ⟨h1, h2, h3, h4, h5⟩ := D
  exact ⟨⟨r, V, rfl, hk, by rw [ht]; exact h2, by rw [ht]; exact h3⟩, by rw [ht, ← hcs]; omega, h4.F ht⟩

theorem gs_ireturn (hok : gp_okd M) (F : gp_F G M p s m args meth c) (D : gp_D G M s V H locs la ls cs ss) {len : Nat} (hdg : decode M.2.1 pc = .ok (.ireturn, len)) (h : gp_step l G d M K (gp_Go l G d M K) (.ireturn) len pc ls st V cs ss) : gp_T l G d M K pc st cs ss p e s m args below meth c H locs la := by
  obtain ⟨hx, hb, hml, hr, hlk, hown, hnm, hts, hK, hN, hbs⟩ := id F
  obtain ⟨hcs, hsz, hP, hS, hl, hc1, hs1⟩ := id D
  have hon := hok.2.2.2.2.2.1
  obtain ⟨e0, h2⟩ := gp_ln_e h
  clear h
  subst e0
  obtain ⟨h3, h4⟩ := gp_ln_e h2
  split at h4
  · rename_i x
    have hp : ∀ hk : K (some (.int x)) V, gp_T l G d M K pc [.int x] cs ss p e s m args below meth c H locs la → True := fun _ _ => trivial
    refine W.widen (k := gp_mc M) (n := gp_ms M) hc1 hs1 ?_
    split at h4
    · rename_i e1
      exact W.iret hx hb (by rw [hr]; exact e1) (gs_post (r := some (.int x)) h3 D h4) hS.2.2 hdg
    · rename_i e1
      obtain ⟨h5, h⟩ := h4
      refine W.zret (ty := .boolean) hx hb (by rw [hr]; exact e1) (by rcases h5 with rfl | rfl <;> rfl) (gs_post (r := some (.int x)) h3 D h) hS.2.2 hdg
    · rename_i e1
      obtain ⟨h5, h⟩ := h4
      exact W.zret (ty := .byte) hx hb (by rw [hr]; exact e1) h5 (gs_post (r := some (.int x)) h3 D h) hS.2.2 hdg
    · rename_i e1
      obtain ⟨h5, h⟩ := h4
      exact W.zret (ty := .char) hx hb (by rw [hr]; exact e1) h5 (gs_post (r := some (.int x)) h3 D h) hS.2.2 hdg
    · exact h4.elim
  · exact h4.elim

theorem gs_return (hok : gp_okd M) (F : gp_F G M p s m args meth c) (D : gp_D G M s V H locs la ls cs ss) {len : Nat} (hdg : decode M.2.1 pc = .ok (.return_, len)) (h : gp_step l G d M K (gp_Go l G d M K) (.return_) len pc ls st V cs ss) : gp_T l G d M K pc st cs ss p e s m args below meth c H locs la := by
  obtain ⟨hx, hb, hml, hr, hlk, hown, hnm, hts, hK, hN, hbs⟩ := id F
  obtain ⟨hcs, hsz, hP, hS, hl, hc1, hs1⟩ := id D
  have hon := hok.2.2.2.2.2.1
  obtain ⟨e0, h2⟩ := gp_ln_e h
  clear h
  subst e0
  obtain ⟨h3, h4⟩ := gp_ln_e h2
  split at h4
  · rename_i e1
    refine W.widen (k := gp_mc M) (n := gp_ms M) hc1 hs1 ?_
    exact W.vret hx hb (by rw [hr]; exact e1) (gs_post (r := none) h3 D h4) hS.2.2 hdg
  · exact h4.elim

end GO3
/-- one step: what the step asks gives the walk from here -/
theorem gp_go {l : Launch} {G : gp_G} {d : Nat} {M : gp_M} {K : Option Value → gp_H → Prop} {pc : Nat} {ls : List (Option Value)} {st : List Value} {V : gp_H} {cs ss : Nat} (hok : gp_okd M) {i : Instr} {len : Nat} (h0 : gp_lk (gp_cd M) pc = some (i, len)) (h : gp_step l G d M K (gp_Go l G d M K) i len pc ls st V cs ss) : gp_Go l G d M K pc ls st V cs ss := by
  intro p e s m args below meth c H locs la F D
  have hdg := hok.at h0
  cases i with
  | iload_n => exact gs_iload_n hok F D hdg h
  | iload => exact gs_iload hok F D hdg h
  | lload_n => exact gs_lload_n hok F D hdg h
  | lload => exact gs_lload hok F D hdg h
  | aload_n => exact gs_aload_n hok F D hdg h
  | aload => exact gs_aload hok F D hdg h
  | istore_n => exact gs_istore_n hok F D hdg h
  | istore => exact gs_istore hok F D hdg h
  | lstore_n => exact gs_lstore_n hok F D hdg h
  | lstore => exact gs_lstore hok F D hdg h
  | astore_n => exact gs_astore_n hok F D hdg h
  | astore => exact gs_astore hok F D hdg h
  | iinc => exact gs_iinc hok F D hdg h
  | iconst => exact gs_iconst hok F D hdg h
  | bipush => exact gs_bipush hok F D hdg h
  | sipush => exact gs_sipush hok F D hdg h
  | lconst => exact gs_lconst hok F D hdg h
  | ldc => exact gs_ldc hok F D hdg h
  | ldc_w => exact gs_ldc_w hok F D hdg h
  | ldc2_w => exact gs_ldc2_w hok F D hdg h
  | iadd => exact gs_iadd hok F D hdg h
  | isub => exact gs_isub hok F D hdg h
  | imul => exact gs_imul hok F D hdg h
  | iand => exact gs_iand hok F D hdg h
  | ior => exact gs_ior hok F D hdg h
  | ixor => exact gs_ixor hok F D hdg h
  | ishl => exact gs_ishl hok F D hdg h
  | ishr => exact gs_ishr hok F D hdg h
  | idiv => exact gs_idiv hok F D hdg h
  | irem => exact gs_irem hok F D hdg h
  | iushr => exact gs_iushr hok F D hdg h
  | ineg => exact gs_ineg hok F D hdg h
  | i2l => exact gs_i2l hok F D hdg h
  | i2b => exact gs_i2b hok F D hdg h
  | i2c => exact gs_i2c hok F D hdg h
  | l2i => exact gs_l2i hok F D hdg h
  | ladd => exact gs_ladd hok F D hdg h
  | lmul => exact gs_lmul hok F D hdg h
  | lor => exact gs_lor hok F D hdg h
  | ldiv => exact gs_ldiv hok F D hdg h
  | lcmp => exact gs_lcmp hok F D hdg h
  | lshl => exact gs_lshl hok F D hdg h
  | lushr => exact gs_lushr hok F D hdg h
  | dup => exact gs_dup hok F D hdg h
  | pop => exact gs_pop hok F D hdg h
  | dup2 => exact gs_dup2 hok F D hdg h
  | ifCond => exact gs_ifCond hok F D hdg h
  | if_icmp => exact gs_if_icmp hok F D hdg h
  | goto => exact gs_goto hok F D hdg h
  | tableswitch => exact gs_tableswitch hok F D hdg h
  | getstatic => exact gs_getstatic hok F D hdg h
  | ireturn => exact gs_ireturn hok F D hdg h
  | getfield => exact gs_getfield hok F D hdg h
  | putfield => exact gs_putfield hok F D hdg h
  | iaload => exact gs_iaload hok F D hdg h
  | iastore => exact gs_iastore hok F D hdg h
  | baload => exact gs_baload hok F D hdg h
  | bastore => exact gs_bastore hok F D hdg h
  | laload => exact gs_laload hok F D hdg h
  | lastore => exact gs_lastore hok F D hdg h
  | aaload => exact gs_aaload hok F D hdg h
  | aastore => exact gs_aastore hok F D hdg h
  | arraylength => exact gs_arraylength hok F D hdg h
  | new => exact gs_new hok F D hdg h
  | newarray => exact gs_newarray hok F D hdg h
  | anewarray => exact gs_anewarray hok F D hdg h
  | return_ => exact gs_return hok F D hdg h
  | invokestatic => exact gs_static hok F D hdg h
  | invokevirtual => exact gs_virtual hok F D hdg h
  | invokespecial => exact gs_special hok F D hdg h
  | _ => exact h.elim

/-- the locals with which a method begins -/
def gp_en : Nat → List Value → List (Option Value)
  | n, [] => List.replicate n none
  | n, .long x :: t => some (.long x) :: none :: gp_en (n - 2) t
  | n, .double x :: t => some (.double x) :: none :: gp_en (n - 2) t
  | n, v :: t => some v :: gp_en (n - 1) t
theorem gp_gl_rep : ∀ (n i : Nat), gp_gl (List.replicate n none) i = none
  | 0, i => by simp [gp_gl]
  | n + 1, 0 => by simp [List.replicate_succ, gp_gl]
  | n + 1, i + 1 => by simp only [List.replicate_succ, gp_gl]; exact gp_gl_rep n i
theorem gp_en_e (G : gp_G) : ∀ (as : List Value) (n b i : Nat) (v : Value), gp_gl (gp_en n as) i = some v → (b + i, gp_mv G v) ∈ lv_args b (as.map (gp_mv G)) := by
  intro as
  induction as with
  | nil => intro n b i v h; rw [gp_en, gp_gl_rep] at h; cases h
  | cons a t ih =>
    intro n b i v h
    by_cases h2 : a.category = 2
    · have e1 : gp_en n (a :: t) = some a :: none :: gp_en (n - 2) t := by cases a <;> first | rfl | simp [Value.category] at h2
      rw [e1] at h
      have e2 : lv_args b ((a :: t).map (gp_mv G)) = (b, gp_mv G a) :: lv_args (b + 2) (t.map (gp_mv G)) := by
        simp only [List.map_cons, lv_args, gp_mv_cat, h2, if_true]
      rw [e2]
      match i, h with
      | 0, h =>
        simp only [gp_gl, Option.some.injEq] at h
        subst h
        exact List.mem_cons_self
      | 1, h => simp [gp_gl] at h
      | i + 2, h =>
        have := ih (n - 2) (b + 2) i v h
        rw [show b + 2 + i = b + (i + 2) by omega] at this
        exact List.mem_cons_of_mem _ this
    · have e1 : gp_en n (a :: t) = some a :: gp_en (n - 1) t := by cases a <;> first | rfl | simp [Value.category] at h2
      rw [e1] at h
      have e2 : lv_args b ((a :: t).map (gp_mv G)) = (b, gp_mv G a) :: lv_args (b + 1) (t.map (gp_mv G)) := by
        simp only [List.map_cons, lv_args, gp_mv_cat, h2, if_false]
      rw [e2]
      match i, h with
      | 0, h =>
        simp only [gp_gl, Option.some.injEq] at h
        subst h
        exact List.mem_cons_self
      | i + 1, h =>
        have := ih (n - 1) (b + 1) i v h
        rw [show b + 1 + i = b + (i + 1) by omega] at this
        exact List.mem_cons_of_mem _ this
theorem gp_en_len : ∀ (as : List Value) (n : Nat), gp_sz as ≤ n → (gp_en n as).length = n := by
  intro as
  induction as with
  | nil => intro n _; simp [gp_en]
  | cons a t ih =>
    intro n h
    by_cases h2 : a.category = 2
    · have e1 : gp_en n (a :: t) = some a :: none :: gp_en (n - 2) t := by cases a <;> first | rfl | simp [Value.category] at h2
      have e3 : gp_sz (a :: t) = gp_sz t + 2 := by cases a <;> first | rfl | simp [Value.category] at h2
      rw [e1]
      simp only [List.length_cons]
      rw [ih (n - 2) (by omega)]
      omega
    · have e1 : gp_en n (a :: t) = some a :: gp_en (n - 1) t := by cases a <;> first | rfl | simp [Value.category] at h2
      have e3 : gp_sz (a :: t) = gp_sz t + 1 := by cases a <;> first | rfl | simp [Value.category] at h2
      rw [e1]
      simp only [List.length_cons]
      rw [ih (n - 1) (by omega)]
      omega
theorem gp_sl_len (G : gp_G) : ∀ as : List Value, (lg_sl (as.map (gp_mv G))).length = gp_sz as
  | [] => rfl
  | a :: t => by
    have ih := gp_sl_len G t
    simp only [lg_sl] at ih
    by_cases h2 : a.category = 2
    · have e3 : gp_sz (a :: t) = gp_sz t + 2 := by cases a <;> first | rfl | simp [Value.category] at h2
      simp only [lg_sl, List.map_cons, List.flatMap_cons, gp_mv_cat, h2, if_true, List.length_append, ih, e3, List.length_cons, List.length_nil]
      omega
    · have e3 : gp_sz (a :: t) = gp_sz t + 1 := by cases a <;> first | rfl | simp [Value.category] at h2
      simp only [lg_sl, List.map_cons, List.flatMap_cons, gp_mv_cat, h2, if_false, List.length_append, ih, e3, List.length_cons, List.length_nil]
      omega
/-- a method is what its walk from the entry is -/
theorem gp_enter {l : Launch} {G : gp_G} {d : Nat} {M : gp_M} {K : Option Value → gp_H → Prop} {as : List Value} {V : gp_H} (hok : gp_okd M) (hz : Nat.ble (gp_sz as) M.2.2.1 = true) (h : gp_Go l G d M K 0 (gp_en M.2.2.1 as) [] V 0 0) : gp_Cal l G d M as V K := by
  have hz : gp_sz as ≤ M.2.2.1 := Nat.le_of_ble_eq_true hz
  refine Met.ofW (cc := M.2.1) (maxL := M.2.2.1) (ret := M.2.2.2.1) hok.1 rfl ?_
  intro p e s m args below meth c s₁ B hml hv
  obtain ⟨rfl, hsz, hP, hK, hN⟩ := hv
  have hts := atoms_spec (ws := gp_wM M) B.pre
  have hent := lv_entry (as.map (gp_mv G)) (n := M.2.2.1) (by rw [gp_sl_len]; exact hz)
  rw [lg_entry_eq]
  refine h p e s m _ below meth c s.heap [] _ ⟨B.exec, B.bytes, hml, B.returns, B.notSynchronized, findClass_of_methodNamed B.named, (name_of_methodNamed B.named B.method).1, fun w hw => hts w (List.mem_cons_of_mem _ hw), hK, hN, by rw [hsz]; omega⟩ ⟨by rw [hsz]; rfl, hsz, hP, va_S.rf, ⟨hent.1, hent.2.1, gp_en_len as _ hz, fun i v hv => ?_⟩, Nat.zero_le _, Nat.zero_le _⟩
  have := gp_en_e G as M.2.2.1 0 i v hv
  rw [Nat.zero_add] at this
  exact hent.2.2 _ this

