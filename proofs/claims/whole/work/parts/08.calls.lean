/-! ===== new cells, calls, returns ===== -/
section GO2
variable {l : Launch} {G : gp_G} {d : Nat} {M : gp_M} {K : Option Value → gp_H → Prop} {pc : Nat} {ls : List (Option Value)} {st : List Value} {V : gp_H} {cs ss : Nat}
variable {p : Program} {e : Env} {s : State} {m : MethodId} {args : Array Value} {below : List Frame} {meth : Method} {c : Code} {H : Heap} {locs : List Loc} {la : Array Slot}
/-- behind the making of a cell -/
theorem gs_made {x : gp_E} {r : List Value} {pc' n : Nat} (F : gp_F G M p s m args meth c) (D : gp_D G M s V H locs la ls cs ss) (hc : cs + 1 ≤ gp_mc M) (hs : ss + n ≤ gp_ms M) {q : Nat} {H1 : Heap} {y : va_E} (hy : y = gp_ce G x) (p1 : va_P G.2.1 gp_cl (gp_cc G V ++ [(q, y)]) H1) (p3 : va_D (gp_A G) (gp_cc G V ++ [(q, y)])) (p2 : va_S (gp_A G) s.heap H1 locs) (h : gp_Go l G d M K pc' ls (.ref V.length :: r) (V ++ [x]) (cs + 1) (ss + n)) : W p l e (gp_rm d M) s m args below meth c H1 locs (cs + 1) (ss + n) (MQ below (gp_Post G (gp_mc M) K) args s (gp_mc M) (gp_ms M) (gp_A G)) (F0 m pc' la (.ref q :: r.map (gp_mv G))) := by
  refine gp_newW D.1 p1 p3 (fun e1 z => ?_)
  subst e1
  rw [hy, gp_cc_push] at p1
  exact h p e s m args below meth c H1 locs la F ⟨by rw [List.length_append]; have := D.1; simp; omega, by rw [z, List.length_append]; simp; omega, p1, p2, D.2.2.2.2.1, hc, hs⟩
theorem gs_new {idx : Nat} (hok : gp_okd M) (F : gp_F G M p s m args meth c) (D : gp_D G M s V H locs la ls cs ss) {len : Nat} (hdg : decode M.2.1 pc = .ok (.new idx, len)) (h : gp_step l G d M K (gp_Go l G d M K) (.new idx) len pc ls st V cs ss) : gp_T l G d M K pc st cs ss p e s m args below meth c H locs la := by
  obtain ⟨hx, hb, hml, hr, hlk, hown, hnm, hts, hK, hN, hbs⟩ := id F
  obtain ⟨hcs, hsz, hP, hS, hl, hc1, hs1⟩ := id D
  have hon := hok.2.2.2.2.2.1
  obtain ⟨e0, h2⟩ := gp_ln_e h
  clear h
  subst e0
  obtain ⟨ci, h0, h1, h3, h⟩ := gp_row_e h2
  obtain ⟨⟨C, T, N⟩, f1, f2⟩ := gp_nA _ _ hon _ (gp_lk_mem h0)
  obtain ⟨ty, c0, c1, c2, c3, c4, c5, c6, c7, c8, c9⟩ := gp_cA _ _ f1
  dsimp only at f1 f2 c1 c2 c3 c4 c5 c6 c7 c8 c9
  have hfs : ∀ j, j < N → defaultValue (ty j) = vp_V ((gp_df ci).map (gp_mv G)) j := by
    intro j hj
    have e1 := c4 j hj
    show _ = ((gp_df ci).map (gp_mv G)).getD j .null
    rw [List.getD_eq_getElem?_getD, List.getElem?_map]
    rw [List.getD_eq_getElem?_getD] at e1
    have hj2 : j < (gp_df ci).length := by rw [c8]; exact hj
    rw [List.getElem?_eq_getElem hj2] at e1 ⊢
    simp only [Option.map_some, Option.getD_some] at e1 ⊢
    rw [← e1]
    cases ty j <;> rfl
  rw [c8] at h3 h
  exact va_new (D := G.2.1) (A := gp_A G) (H0 := s.heap) (C := C) (T := T) (N := N) (ci := ci) (fs := (gp_df ci).map (gp_mv G)) hx hb hts c1 ty c2 hown (hts _ f2) (hts _ c6) (hts _ c7) hK hP (gp_cc_D G V) hS (fun q hq => Nat.le_trans hbs hq) f1 hfs h1 h3 hdg (fun q H1 p1 p3 p2 => gs_made (x := .inr (ci, gp_df ci)) F D h1 h3 rfl p1 p3 p2 h)
theorem gs_newarray {at' : ArrayType} (hok : gp_okd M) (F : gp_F G M p s m args meth c) (D : gp_D G M s V H locs la ls cs ss) {len : Nat} (hdg : decode M.2.1 pc = .ok (.newarray at', len)) (h : gp_step l G d M K (gp_Go l G d M K) (.newarray at') len pc ls st V cs ss) : gp_T l G d M K pc st cs ss p e s m args below meth c H locs la := by
  obtain ⟨hx, hb, hml, hr, hlk, hown, hnm, hts, hK, hN, hbs⟩ := id F
  obtain ⟨hcs, hsz, hP, hS, hl, hc1, hs1⟩ := id D
  have hA : ∀ q, s.heap.size ≤ q → gp_A G q := fun q hq => Nat.le_trans hbs hq
  obtain ⟨e0, h2⟩ := gp_ln_e h
  clear h
  subst e0
  obtain ⟨n, r, rfl, h3, h4, h5, h6, h⟩ := gp_p1_e h2
  cases at' with
  | int =>
    refine va_newa (atype := .int) (A := gp_A G) (H0 := s.heap) (ty := .int) hx hb (hts _ gp_arr_int) rfl hK hP (gp_cc_D G V) hS hA (a0 := (n.toNatClampNeg, .inl (fun _ => 0))) (fun _ => rfl) h3 rfl (by simp only [componentBytes]; omega) h5 h6 hdg (fun q cA H1 k1 p1 p3 p2 => ?_)
    have e1 : cA = G.2.2.1 0 := Option.some.inj ((va_nm_int (k1.2 6 _ rfl).2).symm.trans (va_nm_int (k1.2 0 _ rfl).2))
    subst e1
    exact gs_made (x := .inl (0, n.toNatClampNeg, .inl (fun _ => 0))) F D h5 h6 rfl p1 p3 p2 h
  | byte =>
    refine va_newa (atype := .byte) (A := gp_A G) (H0 := s.heap) (ty := .byte) hx hb (hts _ gp_arr_byte) rfl hK hP (gp_cc_D G V) hS hA (a0 := (n.toNatClampNeg, .inl (fun _ => 0))) (fun _ => rfl) h3 rfl (by simp only [componentBytes]; omega) h5 h6 hdg (fun q cA H1 k1 p1 p3 p2 => ?_)
    have e1 : cA = G.2.2.1 1 := Option.some.inj ((va_nm_byte (k1.2 6 _ rfl).2).symm.trans (va_nm_byte (k1.2 1 _ rfl).2))
    subst e1
    exact gs_made (x := .inl (1, n.toNatClampNeg, .inl (fun _ => 0))) F D h5 h6 rfl p1 p3 p2 h
  | boolean =>
    refine va_newa (atype := .boolean) (A := gp_A G) (H0 := s.heap) (ty := .boolean) hx hb (hts _ gp_arr_boolean) rfl hK hP (gp_cc_D G V) hS hA (a0 := (n.toNatClampNeg, .inl (fun _ => 0))) (fun _ => rfl) h3 rfl (by simp only [componentBytes]; omega) h5 h6 hdg (fun q cA H1 k1 p1 p3 p2 => ?_)
    have e1 : cA = G.2.2.1 2 := Option.some.inj ((va_nm_boolean (k1.2 6 _ rfl).2).symm.trans (va_nm_boolean (k1.2 2 _ rfl).2))
    subst e1
    exact gs_made (x := .inl (2, n.toNatClampNeg, .inl (fun _ => 0))) F D h5 h6 rfl p1 p3 p2 h
  | long =>
    refine va_newa (atype := .long) (A := gp_A G) (H0 := s.heap) (ty := .long) hx hb (hts _ gp_arr_long) rfl hK hP (gp_cc_D G V) hS hA (a0 := (n.toNatClampNeg, .inr (.inl (fun _ => 0)))) (fun _ => rfl) h3 rfl (by simp only [componentBytes]; omega) h5 h6 hdg (fun q cA H1 k1 p1 p3 p2 => ?_)
    have e1 : cA = G.2.2.1 3 := Option.some.inj ((va_nm_long (k1.2 6 _ rfl).2).symm.trans (va_nm_long (k1.2 3 _ rfl).2))
    subst e1
    exact gs_made (x := .inl (3, n.toNatClampNeg, .inr (.inl (fun _ => 0)))) F D h5 h6 rfl p1 p3 p2 h
  | _ => exact h.elim
theorem gs_anewarray {idx : Nat} (hok : gp_okd M) (F : gp_F G M p s m args meth c) (D : gp_D G M s V H locs la ls cs ss) {len : Nat} (hdg : decode M.2.1 pc = .ok (.anewarray idx, len)) (h : gp_step l G d M K (gp_Go l G d M K) (.anewarray idx) len pc ls st V cs ss) : gp_T l G d M K pc st cs ss p e s m args below meth c H locs la := by
  obtain ⟨hx, hb, hml, hr, hlk, hown, hnm, hts, hK, hN, hbs⟩ := id F
  obtain ⟨hcs, hsz, hP, hS, hl, hc1, hs1⟩ := id D
  have hon := hok.2.2.2.2.2.1
  have hA : ∀ q, s.heap.size ≤ q → gp_A G q := fun q hq => Nat.le_trans hbs hq
  obtain ⟨e0, h2⟩ := gp_ln_e h
  clear h
  subst e0
  obtain ⟨n, r, rfl, h⟩ := gp_p1_e h2
  obtain ⟨t, h0, h3, h4, h5, h6, h⟩ := gp_row_e h
  obtain ⟨q, f1, f3, f2⟩ := gp_aA _ _ hon _ (gp_lk_mem h0)
  have f3 : t = 4 ∨ t = 5 := f3
  rcases f3 with rfl | rfl
  · have e2 : q = ("GoldPlate$Mark", gp_T2, 9) := (Option.some.inj f1).symm
    subst e2
    refine va_newq (A := gp_A G) (H0 := s.heap) hx hb hown (hts _ f2) hN.2.1 hK hP (gp_cc_D G V) hS hA h3 rfl (by omega) h5 h6 hdg (fun q cA H1 k1 p1 p3 p2 => ?_)
    obtain ⟨_, _, _, _, _, a4⟩ := (k1.2 6 _ rfl).2
    obtain ⟨_, _, _, _, _, b4⟩ := (k1.2 4 _ rfl).2
    have e1 : cA = G.2.2.1 4 := Option.some.inj (a4.symm.trans b4)
    subst e1
    exact gs_made (x := .inl (4, n.toNatClampNeg, .inr (.inr (.inr (.inr (fun _ => none)))))) F D h5 h6 rfl p1 p3 p2 h
  · have e2 : q = ("GoldPlate$Mind", gp_T3, 14) := (Option.some.inj f1).symm
    subst e2
    refine va_newq (A := gp_A G) (H0 := s.heap) hx hb hown (hts _ f2) hN.2.2.1 hK hP (gp_cc_D G V) hS hA h3 rfl (by omega) h5 h6 hdg (fun q cA H1 k1 p1 p3 p2 => ?_)
    obtain ⟨_, _, _, _, _, a4⟩ := (k1.2 6 _ rfl).2
    obtain ⟨_, _, _, _, _, b4⟩ := (k1.2 5 _ rfl).2
    have e1 : cA = G.2.2.1 5 := Option.some.inj (a4.symm.trans b4)
    subst e1
    exact gs_made (x := .inl (5, n.toNatClampNeg, .inr (.inr (.inr (.inr (fun _ => none)))))) F D h5 h6 rfl p1 p3 p2 h
/-- behind a call of ours -/
theorem gs_back {M' : gp_M} {rest st0 : List Value} {a : Array Value} (F : gp_F G M p s m args meth c) (D : gp_D G M s V H locs la ls cs ss) (hc : cs + gp_mc M' ≤ gp_mc M) (hs : ss + gp_ms M' ≤ gp_ms M)
    (hr : va_Run p l e (gp_rm d M) s m args below meth c H locs cs ss (gp_mc M') (gp_ms M') (F0 m pc la st0) (rest.map (gp_mv G)) (gp_Post G (gp_mc M') (fun r V' => gp_Go l G d M K (pc + 3) ls (r.toList ++ rest) V' (cs + gp_mc M') (ss + gp_ms M')) a) (gp_A G)) : W p l e (gp_rm d M) s m args below meth c H locs cs ss (MQ below (gp_Post G (gp_mc M) K) args s (gp_mc M) (gp_ms M) (gp_A G)) (F0 m pc la st0) := by
  refine gp_callW hr D.2.2.2.1 D.2.1 (fun r V' H1 locs1 hk z1 z2 p1 p2 => ?_)
  exact hk p e s m args below meth c H1 locs1 la F ⟨by rw [z2]; have := D.1; omega, z1, p1, p2, D.2.2.2.2.1, hc, hs⟩
theorem gs_static {idx : Nat} (hok : gp_okd M) (F : gp_F G M p s m args meth c) (D : gp_D G M s V H locs la ls cs ss) {len : Nat} (hdg : decode M.2.1 pc = .ok (.invokestatic idx, len)) (h : gp_step l G d M K (gp_Go l G d M K) (.invokestatic idx) len pc ls st V cs ss) : gp_T l G d M K pc st cs ss p e s m args below meth c H locs la := by
  obtain ⟨hx, hb, hml, hr, hlk, hown, hnm, hts, hK, hN, hbs⟩ := id F
  obtain ⟨hcs, hsz, hP, hS, hl, hc1, hs1⟩ := id D
  have hon := hok.2.2.2.2.2.1
  obtain ⟨e0, h2⟩ := gp_ln_e h
  clear h
  subst e0
  split at h2
  · rename_i t h0
    obtain ⟨hd, h⟩ := gp_bt_e h2
    have hd : 1 ≤ d := Nat.le_of_ble_eq_true hd
    have hfr : 1 ≤ (gp_rm d M).frames := hd
    have hlo : ∀ r : List Value, gp_sz r ≤ 8 → ((r.map (gp_mv G)).map fun v => v.category).sum + 13 ≤ (gp_rm d M).locals := by
      intro r h8
      rw [gp_sz_e]
      show gp_sz r + 13 ≤ 64 * d
      omega
    have hml' : c.maxLocals = la.size := hml.trans hl.1.symm
    rcases gp_xA _ _ hon _ (gp_lk_mem h0) with ⟨e1, f⟩ | ⟨e1, f⟩ | ⟨e1, f⟩
    · have e1 : t = 0 := e1
      subst e1
      obtain ⟨x, y, r, rfl, h⟩ := gp_p2_e h
      obtain ⟨h8, h⟩ := gp_bt_e h
      exact va_mmax hx hb hml' hown (hts _ f) (hts _ gp_ms_max) (hts _ gp_mi_math) (hts _ gp_mk_max) hfr (hlo r (Nat.le_of_ble_eq_true h8)) hc1 hs1 hdg (h p e s m args below meth c H locs la F D)
    · have e1 : t = 1 := e1
      subst e1
      obtain ⟨x, y, r, rfl, h⟩ := gp_p2_e h
      obtain ⟨h8, h⟩ := gp_bt_e h
      exact va_mmin hx hb hml' hown (hts _ f) (hts _ gp_ms_min) (hts _ gp_mi_math) (hts _ gp_mk_min) hfr (hlo r (Nat.le_of_ble_eq_true h8)) hc1 hs1 hdg (h p e s m args below meth c H locs la F D)
    · have e1 : t = 2 := e1
      subst e1
      obtain ⟨x, r, rfl, h⟩ := gp_p1_e h
      obtain ⟨h8, h⟩ := gp_bt_e h
      exact va_mabs hx hb hml' hown (hts _ f) (hts _ gp_ms_abs) (hts _ gp_mi_math) (hts _ gp_mk_abs) hfr (hlo r (Nat.le_of_ble_eq_true h8)) hc1 hs1 hdg (h p e s m args below meth c H locs la F D)
  · obtain ⟨⟨kd, M'⟩, h0, h3⟩ := gp_row_e h2
    obtain ⟨⟨as, rest⟩, hpop, h4⟩ := gp_row_e h3
    obtain ⟨hkd, h5⟩ := gp_bt_e h4
    clear h2 h3 h4
    obtain ⟨d', rfl, h8, hcc, hss, h⟩ := gp_cl1_e hc1 hs1 h5
    clear h5
    obtain ⟨ok', hw⟩ := gp_mA _ _ hon _ (gp_lk_mem h0)
    obtain ⟨pl, pst⟩ := gp_pop_0 hpop
    subst pst
    dsimp only at hw hkd hcc hss ok' pl h8 h
    have hroom : (gp_rm d' M').frames + 1 ≤ (gp_rm (d' + 1) M).frames ∧ 8 + (M'.2.2.1 + 11) + (gp_rm d' M').locals ≤ (gp_rm (d' + 1) M).locals := ⟨Nat.le_refl _, by show 8 + (M'.2.2.1 + 11) + 64 * d' ≤ 64 * (d' + 1); have := ok'.2.2.1; omega⟩
    have hstk : (as.reverse ++ rest).map (gp_mv G) = (as.map (gp_mv G)).reverse ++ rest.map (gp_mv G) := by simp
    have hr8 : ((rest.map (gp_mv G)).map fun v => v.category).sum ≤ 8 := by rw [gp_sz_e]; exact h8
    have hfix : CallFix p m c M.2.1 M.2.2.1 s args gp_ws M.1.cls := ⟨hx, hb, hml, hown, hts⟩
    have hpre : PreS s H (gp_Pre G as V) (as.map (gp_mv G)) := ⟨gp_blind G as V, gp_pre hK hN hsz hP hS⟩
    show W p l e (gp_rm (d' + 1) M) s m args below meth c H locs cs ss _ (F0 m pc la ((as.reverse ++ rest).map (gp_mv G)))
    rw [hstk]
    rcases hw with ⟨e1, -⟩ | ⟨e1, f1, f2⟩ | ⟨e1, -⟩ | ⟨e1, -⟩ | ⟨e1, f1, f2⟩ | ⟨e1, -⟩
    · rw [e1] at hkd; exact absurd hkd (by decide)
    · exact gs_back (rest := rest) (M' := M') (a := (as.map (gp_mv G)).toArray) F D hcc hss (va_runS (n := gp_np M') hfix h ⟨callB_of (ws := gp_wM M') (ws' := gp_ws) (gp_np M') hts (gp_good M' ok') rfl rfl rfl (hts _ ok'.2.2.2.2) (hts _ f1) ok'.1 hroom, hts _ f2⟩ hpre rfl (by rw [List.length_map]; exact pl) hl.1 rfl (lv_room hr8) hdg ⟨hcc, hss⟩)
    · rw [e1] at hkd; exact absurd hkd (by decide)
    · rw [e1] at hkd; exact absurd hkd (by decide)
    · exact gs_back (rest := rest) (M' := M') (a := (as.map (gp_mv G)).toArray) F D hcc hss (va_runSN (n := gp_np M') (host := "GoldPlate") hfix h ⟨va_cnB (ws := gp_wM M') (ws' := gp_ws) (gp_np M') hts (gp_good M' ok') rfl rfl rfl (hN.1 _ f1) (hts _ ok'.2.2.2.2) ok'.1 hroom, hts _ f2, trivial⟩ hpre rfl (by rw [List.length_map]; exact pl) hl.1 rfl (lv_room hr8) hdg ⟨hcc, hss⟩)
    · rw [e1] at hkd; exact absurd hkd (by decide)
theorem gs_virtual {idx : Nat} (hok : gp_okd M) (F : gp_F G M p s m args meth c) (D : gp_D G M s V H locs la ls cs ss) {len : Nat} (hdg : decode M.2.1 pc = .ok (.invokevirtual idx, len)) (h : gp_step l G d M K (gp_Go l G d M K) (.invokevirtual idx) len pc ls st V cs ss) : gp_T l G d M K pc st cs ss p e s m args below meth c H locs la := by
  obtain ⟨hx, hb, hml, hr, hlk, hown, hnm, hts, hK, hN, hbs⟩ := id F
  obtain ⟨hcs, hsz, hP, hS, hl, hc1, hs1⟩ := id D
  have hon := hok.2.2.2.2.2.1
  obtain ⟨e0, h2⟩ := gp_ln_e h
  clear h
  subst e0
  obtain ⟨⟨kd, M'⟩, h0, h3⟩ := gp_row_e h2
  obtain ⟨⟨as, rest0⟩, hpop, h4⟩ := gp_row_e h3
  obtain ⟨hkd, h⟩ := gp_bt_e h4
  clear h2 h3 h4
  obtain ⟨ok', hw⟩ := gp_mA _ _ hon _ (gp_lk_mem h0)
  obtain ⟨pl, pst⟩ := gp_pop_0 hpop
  subst pst
  dsimp only at hw hkd h ok' pl
  split at h
  · rename_i v rest
    have hv : (∃ b, gp_mv G v = .ref b ∧ ∃ cell : Cell, H[b]? = some cell ∧ cell.vm.isStatics = false ∧ s.vm.findClass M'.1.cls = some cell.cls) ∧ gp_cl1 l G d M M' (v :: as) rest V cs ss (fun r V' cs' ss' => gp_Go l G d M K (pc + 3) ls (r.toList ++ rest) V' cs' ss') := by
      unfold gp_rc at h
      split at h
      · rename_i a
        obtain ⟨fs, g1, h⟩ := gp_ob_e h
        refine ⟨⟨G.1 + a, rfl, ?_⟩, h⟩
        obtain ⟨r, k1, k2⟩ := hP _ _ (gp_cc_at g1)
        have hcn : r.1 = M'.1.cls := by
          obtain ⟨ty, c0, c1, c2, c3, c4, c5, c6, c7, c8, c9⟩ := gp_cA _ _ k1
          exact Option.some.inj (c9.symm.trans ok'.2.2.2.1)
        rw [← hcn]
        exact va_recv hK hP k1 (gp_cc_at g1)
      · rename_i i
        obtain ⟨g1, h⟩ := gp_ln_e h
        obtain ⟨g2, h⟩ := gp_bt_e h
        refine ⟨⟨_, rfl, ?_⟩, h⟩
        have hcn : M'.1.cls = "java/lang/String" := by
          have q1 := ok'.2.2.2.1
          rw [g1] at q1
          exact (Option.some.inj q1).symm
        rw [hcn]
        exact vk_recv hN.2.2.2.2.1 (Nat.blt_eq.mp g2) hS
      · exact h.elim
    obtain ⟨⟨b, hvb, hcell⟩, h⟩ := hv
    obtain ⟨d', rfl, h8, hcc, hss, h⟩ := gp_cl1_e hc1 hs1 h
    have hroom : (gp_rm d' M').frames + 1 ≤ (gp_rm (d' + 1) M).frames ∧ 8 + (M'.2.2.1 + 11) + (gp_rm d' M').locals ≤ (gp_rm (d' + 1) M).locals := ⟨Nat.le_refl _, by show 8 + (M'.2.2.1 + 11) + 64 * d' ≤ 64 * (d' + 1); have := ok'.2.2.1; omega⟩
    have hstk : (as.reverse ++ v :: rest).map (gp_mv G) = (as.map (gp_mv G)).reverse ++ .ref b :: rest.map (gp_mv G) := by simp [hvb]
    have hr8 : ((rest.map (gp_mv G)).map fun v => v.category).sum ≤ 8 := by rw [gp_sz_e]; exact h8
    have hfix : CallFix p m c M.2.1 M.2.2.1 s args gp_ws M.1.cls := ⟨hx, hb, hml, hown, hts⟩
    have hpre : PreV s H M'.1.cls b (gp_Pre G (v :: as) V) (as.map (gp_mv G)) := ⟨gp_blind G _ V, hcell, fun U hU hW => by
      have := gp_pre (as := v :: as) hK hN hsz hP hS U hU hW
      rw [List.map_cons, hvb] at this
      exact this⟩
    show W p l e (gp_rm (d' + 1) M) s m args below meth c H locs cs ss _ (F0 m pc la ((as.reverse ++ v :: rest).map (gp_mv G)))
    rw [hstk]
    rcases hw with ⟨e1, f1, f2, f3⟩ | ⟨e1, -⟩ | ⟨e1, -⟩ | ⟨e1, f1, f2, f3⟩ | ⟨e1, -⟩ | ⟨e1, -⟩
    · exact gs_back (rest := rest) (M' := M') (a := (Value.ref b :: as.map (gp_mv G)).toArray) F D hcc hss (va_runV (n := gp_np M') hfix h ⟨callB_of (ws := gp_wM M') (ws' := gp_ws) (gp_np M') hts (gp_good M' ok') rfl rfl rfl (hts _ ok'.2.2.2.2) (hts _ f1) ok'.1 hroom, hts _ f2, hts _ f3⟩ hpre rfl (by rw [List.length_map]; exact pl) hl.1 rfl (lv_room hr8) hdg ⟨hcc, hss⟩)
    · rw [e1] at hkd; exact absurd hkd (by decide)
    · rw [e1] at hkd; exact absurd hkd (by decide)
    · exact gs_back (rest := rest) (M' := M') (a := (Value.ref b :: as.map (gp_mv G)).toArray) F D hcc hss (va_runVN (n := gp_np M') (host := "GoldPlate") hfix h ⟨va_cnB (ws := gp_wM M') (ws' := gp_ws) (gp_np M') hts (gp_good M' ok') rfl rfl rfl (hN.1 _ f1) (hts _ ok'.2.2.2.2) ok'.1 hroom, hts _ f2, hts _ f3⟩ hpre rfl (by rw [List.length_map]; exact pl) hl.1 rfl (lv_room hr8) hdg ⟨hcc, hss⟩)
    · rw [e1] at hkd; exact absurd hkd (by decide)
    · rw [e1] at hkd; exact absurd hkd (by decide)
  · exact h.elim
theorem gs_special {idx : Nat} (hok : gp_okd M) (F : gp_F G M p s m args meth c) (D : gp_D G M s V H locs la ls cs ss) {len : Nat} (hdg : decode M.2.1 pc = .ok (.invokespecial idx, len)) (h : gp_step l G d M K (gp_Go l G d M K) (.invokespecial idx) len pc ls st V cs ss) : gp_T l G d M K pc st cs ss p e s m args below meth c H locs la := by
  obtain ⟨hx, hb, hml, hr, hlk, hown, hnm, hts, hK, hN, hbs⟩ := id F
  obtain ⟨hcs, hsz, hP, hS, hl, hc1, hs1⟩ := id D
  have hon := hok.2.2.2.2.2.1
  obtain ⟨e0, h2⟩ := gp_ln_e h
  clear h
  subst e0
  split at h2
  · rename_i u h0
    split at h2
    · rename_i a r d'
      obtain ⟨h8, h⟩ := gp_bt_e h2
      have h8 : gp_sz r ≤ 8 := Nat.le_of_ble_eq_true h8
      refine W.objInit hx hb hown (hts _ (gp_oA _ _ hon _ (gp_lk_mem h0))) (hts _ gp_oi1) (hts _ gp_oi2) rfl (by rw [hml]; exact hl.1) rfl hdg (Nat.le_add_left 1 d') ?_ (h p e s m args below meth c H locs la F D)
      show 2 * 0 + ((r.map (gp_mv G)).map fun v => v.category).sum + 12 ≤ 64 * (d' + 1)
      rw [gp_sz_e]
      omega
    · exact h2.elim
  · obtain ⟨⟨kd, M'⟩, h0, h3⟩ := gp_row_e h2
    obtain ⟨⟨as, rest0⟩, hpop, h4⟩ := gp_row_e h3
    obtain ⟨hkd, h⟩ := gp_bt_e h4
    clear h2 h3 h4
    obtain ⟨ok', hw⟩ := gp_mA _ _ hon _ (gp_lk_mem h0)
    obtain ⟨pl, pst⟩ := gp_pop_0 hpop
    subst pst
    dsimp only at hw hkd h ok' pl
    split at h
    · rename_i b rest
      obtain ⟨d', rfl, h8, hcc, hss, h⟩ := gp_cl1_e hc1 hs1 h
      have hroom : (gp_rm d' M').frames + 1 ≤ (gp_rm (d' + 1) M).frames ∧ 8 + (M'.2.2.1 + 11) + (gp_rm d' M').locals ≤ (gp_rm (d' + 1) M).locals := ⟨Nat.le_refl _, by show 8 + (M'.2.2.1 + 11) + 64 * d' ≤ 64 * (d' + 1); have := ok'.2.2.1; omega⟩
      have hstk : (as.reverse ++ .ref b :: rest).map (gp_mv G) = (as.map (gp_mv G)).reverse ++ .ref (G.1 + b) :: rest.map (gp_mv G) := by simp [gp_mv]
      have hr8 : ((rest.map (gp_mv G)).map fun v => v.category).sum ≤ 8 := by rw [gp_sz_e]; exact h8
      have hfix : CallFix p m c M.2.1 M.2.2.1 s args gp_ws M.1.cls := ⟨hx, hb, hml, hown, hts⟩
      have hpre : PreS s H (gp_Pre G (.ref b :: as) V) (.ref (G.1 + b) :: as.map (gp_mv G)) := ⟨gp_blind G _ V, gp_pre (as := .ref b :: as) hK hN hsz hP hS⟩
      show W p l e (gp_rm (d' + 1) M) s m args below meth c H locs cs ss _ (F0 m pc la ((as.reverse ++ .ref b :: rest).map (gp_mv G)))
      rw [hstk]
      obtain ⟨y', b', ml', rt', M''⟩ := M'
      rcases hw with ⟨e1, -⟩ | ⟨e1, -⟩ | ⟨e1, f1, f2, f3, f4⟩ | ⟨e1, -⟩ | ⟨e1, -⟩ | ⟨e1, f1, f2, f3, f4⟩
      · rw [e1] at hkd; exact absurd hkd (by decide)
      · rw [e1] at hkd; exact absurd hkd (by decide)
      · dsimp only at f4
        subst f4
        exact gs_back (rest := rest) (M' := (y', b', ml', none, M'')) (a := (Value.ref (G.1 + b) :: as.map (gp_mv G)).toArray) F D hcc hss (va_runI (n := gp_np (y', b', ml', none, M'')) hfix h ⟨callB_of (ws := gp_wM (y', b', ml', none, M'')) (ws' := gp_ws) (gp_np (y', b', ml', none, M'')) hts (gp_good _ ok') rfl rfl rfl (hts _ ok'.2.2.2.2) (hts _ f1) ok'.1 hroom, f3, hts _ f2⟩ hpre rfl (by rw [List.length_map]; exact pl) hl.1 rfl (lv_room hr8) hdg ⟨hcc, hss⟩)
      · rw [e1] at hkd; exact absurd hkd (by decide)
      · rw [e1] at hkd; exact absurd hkd (by decide)
      · dsimp only at f4
        subst f4
        exact gs_back (rest := rest) (M' := (y', b', ml', none, M'')) (a := (Value.ref (G.1 + b) :: as.map (gp_mv G)).toArray) F D hcc hss (va_runIN (n := gp_np (y', b', ml', none, M'')) (host := "GoldPlate") hfix h ⟨va_cnB (ws := gp_wM (y', b', ml', none, M'')) (ws' := gp_ws) (gp_np (y', b', ml', none, M'')) hts (gp_good _ ok') rfl rfl rfl (hN.1 _ f1) (hts _ ok'.2.2.2.2) ok'.1 hroom, f3, hts _ f2⟩ hpre rfl (by rw [List.length_map]; exact pl) hl.1 rfl (lv_room hr8) hdg ⟨hcc, hss⟩)
    · exact h.elim
end GO2
