/-! ===== one step ===== -/
theorem gp_D.ls {G : gp_G} {M : gp_M} {s : State} {V : gp_H} {H : Heap} {locs : List Loc} {la la' : Array Slot} {ls ls' : List (Option Value)} {cs ss : Nat} (D : gp_D G M s V H locs la ls cs ss) (h : gp_lr G la' M.2.2.1 ls') : gp_D G M s V H locs la' ls' cs ss :=
  ⟨D.1, D.2.1, D.2.2.1, D.2.2.2.1, h, D.2.2.2.2.2.1, D.2.2.2.2.2.2⟩
theorem gp_D.hp {G : gp_G} {M : gp_M} {s : State} {V V' : gp_H} {H H1 : Heap} {locs locs1 : List Loc} {la : Array Slot} {ls : List (Option Value)} {cs ss : Nat} (D : gp_D G M s V H locs la ls cs ss) (hz : H1.size = G.1 + V'.length) (he : V'.length = V.length) (hP : va_P G.2.1 gp_cl (gp_cc G V') H1) (hS : va_S (gp_A G) s.heap H1 locs1) : gp_D G M s V' H1 locs1 la ls cs ss :=
  ⟨by rw [he]; exact D.1, hz, hP, hS, D.2.2.2.2.1, D.2.2.2.2.2.1, D.2.2.2.2.2.2⟩
theorem gp_pv_e {t : Nat} {w : Value} {P : Prop} {ty : FieldType} {G : gp_G} (h : gp_pv t w P) (ht : gp_tg ty = t) : narrow ty (gp_mv G w) = gp_mv G w ∧ fits ty (gp_mv G w) = true ∧ P := by
  unfold gp_pv at h
  split at h
  · cases ty <;> simp [gp_tg] at ht <;> exact ⟨rfl, rfl, h⟩
  · rename_i x
    obtain ⟨h1, h⟩ := h
    cases ty <;> simp [gp_tg] at ht
    rcases h1 with rfl | rfl <;> exact ⟨rfl, rfl, h⟩
  · cases ty <;> simp [gp_tg] at ht <;> exact ⟨rfl, rfl, h⟩
  · cases ty <;> simp [gp_tg] at ht <;> exact ⟨rfl, rfl, h⟩
  · exact h.elim
section GO
variable {l : Launch} {G : gp_G} {d : Nat} {M : gp_M} {K : Option Value → gp_H → Prop} {pc : Nat} {ls : List (Option Value)} {st : List Value} {V : gp_H} {cs ss : Nat}
variable {p : Program} {e : Env} {s : State} {m : MethodId} {args : Array Value} {below : List Frame} {meth : Method} {c : Code} {H : Heap} {locs : List Loc} {la : Array Slot}
abbrev gp_T (l : Launch) (G : gp_G) (d : Nat) (M : gp_M) (K : Option Value → gp_H → Prop) (pc : Nat) (st : List Value) (cs ss : Nat) (p : Program) (e : Env) (s : State) (m : MethodId) (args : Array Value) (below : List Frame) (meth : Method) (c : Code) (H : Heap) (locs : List Loc) (la : Array Slot) : Prop := W p l e (gp_rm d M) s m args below meth c H locs cs ss (MQ below (gp_Post G (gp_mc M) K) args s (gp_mc M) (gp_ms M) (gp_A G)) (F0 m pc la (st.map (gp_mv G)))
theorem gs_getfield {idx : Nat} (hok : gp_okd M) (F : gp_F G M p s m args meth c) (D : gp_D G M s V H locs la ls cs ss) {len : Nat} (hdg : decode M.2.1 pc = .ok (.getfield idx, len)) (h : gp_step l G d M K (gp_Go l G d M K) (.getfield idx) len pc ls st V cs ss) : gp_T l G d M K pc st cs ss p e s m args below meth c H locs la := by
  obtain ⟨hx, hb, hml, hr, hlk, hown, hnm, hts, hK, hN, hbs⟩ := id F
  obtain ⟨hcs, hsz, hP, hS, hl, hc1, hs1⟩ := id D
  have hon := hok.2.2.2.2.2.1
  obtain ⟨e0, h2⟩ := gp_ln_e h
  clear h
  subst e0
  obtain ⟨v, r, rfl, hv, h⟩ := gp_pA_e h2
  rcases hv with ⟨a, rfl⟩ | ⟨i, rfl⟩
  · obtain ⟨q, h0, h⟩ := gp_row_e h
    obtain ⟨fs, h1, h⟩ := gp_ob_e h
    obtain ⟨w, h2, h⟩ := gp_row_e h
    obtain ⟨C, T, N, ty, f1, f2, f3, f4, f5, f6⟩ := gp_fA _ _ hon _ (gp_lk_mem h0)
    obtain ⟨ty', c0, c1, c2, c3, c4, c5, c6, c7, c8, c9⟩ := gp_cA _ _ f1
    rw [gp_nth_e] at h2
    exact va_get (D := G.2.1) (C := C) (T := T) (N := N) hx hb hts c1 hown hK hP a (gp_cc_at h1) f1 q.2.1 f3 (hts _ f4) (fun _ h9 => h9) (v := gp_mv G w) (by rw [List.getElem?_map, h2]; rfl) hdg (h p e s m args below meth c H locs la F D)
  · obtain ⟨h1, h⟩ := gp_bt_e h
    obtain ⟨q, h0, h⟩ := gp_row_e h
    have hi : i < 25 := Nat.blt_eq.mp h1
    rcases gp_vA _ _ hon _ (gp_lk_mem h0) with ⟨e1, f⟩ | ⟨e1, f⟩
    · have e1 : q = 0 := e1
      subst e1
      exact vk_getf hx hb ((hN.2.2.2.2.1.1 i hi).2.2.1) hS hown (hts _ f) (fun _ h9 => h9) hdg (h p e s m args below meth c H locs la F D)
    · have e1 : q = 1 := e1
      subst e1
      exact vk_getf hx hb ((hN.2.2.2.2.1.1 i hi).2.1) hS hown (hts _ f) (fun _ h9 => h9) hdg (h p e s m args below meth c H locs la F D)
theorem gs_putfield {idx : Nat} (hok : gp_okd M) (F : gp_F G M p s m args meth c) (D : gp_D G M s V H locs la ls cs ss) {len : Nat} (hdg : decode M.2.1 pc = .ok (.putfield idx, len)) (h : gp_step l G d M K (gp_Go l G d M K) (.putfield idx) len pc ls st V cs ss) : gp_T l G d M K pc st cs ss p e s m args below meth c H locs la := by
  obtain ⟨hx, hb, hml, hr, hlk, hown, hnm, hts, hK, hN, hbs⟩ := id F
  obtain ⟨hcs, hsz, hP, hS, hl, hc1, hs1⟩ := id D
  have hon := hok.2.2.2.2.2.1
  obtain ⟨e0, h2⟩ := gp_ln_e h
  clear h
  subst e0
  have h := h2
  clear h2
  split at h
  · rename_i w a r
    obtain ⟨q, h0, h⟩ := gp_row_e h
    obtain ⟨fs, h1, h⟩ := gp_ob_e h
    obtain ⟨h2, h⟩ := gp_bt_e h
    have h2 : q.2.1 < fs.length := Nat.blt_eq.mp h2
    obtain ⟨C, T, N, ty, f1, f2, f3, f4, f5, f6⟩ := gp_fA _ _ hon _ (gp_lk_mem h0)
    obtain ⟨ty', c0, c1, c2, c3, c4, c5, c6, c7, c8, c9⟩ := gp_cA _ _ f1
    have e0 : ty = ty' := Option.some.inj (f2.symm.trans c0)
    subst e0
    obtain ⟨g1, g2, h⟩ := gp_pv_e (G := G) h f5
    have hset : (gp_cc G V).set a (G.1 + a, .inr (q.1, (fs.map (gp_mv G)).set q.2.1 (gp_mv G w))) = gp_cc G (V.set a (.inr (q.1, fs.set q.2.1 w))) := by
      rw [← gp_cc_set]
      show _ = (gp_cc G V).set a (G.1 + a, .inr (q.1, (fs.set q.2.1 w).map (gp_mv G)))
      rw [List.map_set]
    have fin : ∀ (H1 : Heap) (locs1 : List Loc), va_P G.2.1 gp_cl ((gp_cc G V).set a (G.1 + a, .inr (q.1, (fs.map (gp_mv G)).set q.2.1 (gp_mv G w)))) H1 → va_S (gp_A G) s.heap H1 locs1 → gp_Go l G d M K (pc + 3) ls r (V.set a (.inr (q.1, fs.set q.2.1 w))) cs ss → gp_T l G d M K (pc + 3) r cs ss p e s m args below meth c H1 locs1 la := by
      intro H1 locs1 p1 p2 h
      rw [hset] at p1
      exact gp_szW hbs (by rw [List.length_set]; exact hcs) p1 p2 (fun z => h p e s m args below meth c H1 locs1 la F (D.hp z (by simp) p1 p2))
    cases hq : q.2.2.2 with
    | false =>
      rw [hq] at h f6
      exact va_put (D := G.2.1) (A := gp_A G) (H0 := s.heap) (C := C) (T := T) (N := N) hx hb hts c1 ty c2 c3 hown hK hP (gp_cc_D G V) hS a (gp_cc_at h1) f1 q.2.1 f3 (hts _ f4) (fun _ h9 => h9) f6 (c2 _ f3) g1 g2 (by rw [List.length_map]; exact h2) hdg (fun H1 locs1 p1 _ p2 => fin H1 locs1 p1 p2 h)
    | true =>
      rw [hq] at h f6
      obtain ⟨h3, h⟩ := h
      obtain ⟨h4, h⟩ := gp_ln_e h
      have hdecl : (T q.2.1).1 = M.1.cls := by
        rw [c5 _ f3]
        rw [h4] at c9
        exact Option.some.inj (c9.symm.trans hon)
      exact va_putF (D := G.2.1) (A := gp_A G) (H0 := s.heap) (C := C) (T := T) (N := N) hx hb hts c1 ty c2 c3 hown hK hP (gp_cc_D G V) hS a (gp_cc_at h1) f1 q.2.1 f3 (hts _ f4) (fun _ h9 => h9) f6 (hnm.trans h3) hdecl (c2 _ f3) g1 g2 (by rw [List.length_map]; exact h2) hdg (fun H1 locs1 p1 _ p2 => fin H1 locs1 p1 p2 h)
  · exact h.elim
/-- behind a store into an array -/
theorem gs_fin {a : Nat} {x : gp_E} {r : List Value} {pc' : Nat} (F : gp_F G M p s m args meth c) (D : gp_D G M s V H locs la ls cs ss) {H1 : Heap} {locs1 : List Loc} {y : va_E} (hy : y = gp_ce G x) (p1 : va_P G.2.1 gp_cl ((gp_cc G V).set a (G.1 + a, y)) H1) (p2 : va_S (gp_A G) s.heap H1 locs1) (h : gp_Go l G d M K pc' ls r (V.set a x) cs ss) : gp_T l G d M K pc' r cs ss p e s m args below meth c H1 locs1 la := by
  rw [hy, gp_cc_set] at p1
  exact gp_szW F.2.2.2.2.2.2.2.2.2.2 (by rw [List.length_set]; exact D.1) p1 p2 (fun z => h p e s m args below meth c H1 locs1 la F (D.hp z (by simp) p1 p2))
theorem gs_iaload (hok : gp_okd M) (F : gp_F G M p s m args meth c) (D : gp_D G M s V H locs la ls cs ss) {len : Nat} (hdg : decode M.2.1 pc = .ok (.iaload, len)) (h : gp_step l G d M K (gp_Go l G d M K) .iaload len pc ls st V cs ss) : gp_T l G d M K pc st cs ss p e s m args below meth c H locs la := by
  obtain ⟨hx, hb, hml, hr, hlk, hown, hnm, hts, hK, hN, hbs⟩ := id F
  obtain ⟨hcs, hsz, hP, hS, hl, hc1, hs1⟩ := id D
  obtain ⟨e0, h2⟩ := gp_ln_e h
  clear h
  subst e0
  have h := h2
  clear h2
  split at h
  · rename_i j a r
    obtain ⟨n, f, h1, h2, h⟩ := gp_ai_e h
    exact va_iald hx hb hK hP a 0 (gp_cc_at h1) rfl h2 hdg (h p e s m args below meth c H locs la F D)
  · exact h.elim
theorem gs_iastore (hok : gp_okd M) (F : gp_F G M p s m args meth c) (D : gp_D G M s V H locs la ls cs ss) {len : Nat} (hdg : decode M.2.1 pc = .ok (.iastore, len)) (h : gp_step l G d M K (gp_Go l G d M K) .iastore len pc ls st V cs ss) : gp_T l G d M K pc st cs ss p e s m args below meth c H locs la := by
  obtain ⟨hx, hb, hml, hr, hlk, hown, hnm, hts, hK, hN, hbs⟩ := id F
  obtain ⟨hcs, hsz, hP, hS, hl, hc1, hs1⟩ := id D
  obtain ⟨e0, h2⟩ := gp_ln_e h
  clear h
  subst e0
  have h := h2
  clear h2
  split at h
  · rename_i x j a r
    obtain ⟨n, f, h1, h2, h⟩ := gp_ai_e h
    exact va_iast (A := gp_A G) (H0 := s.heap) hx hb hK hP (gp_cc_D G V) hS a 0 (gp_cc_at h1) rfl h2 hdg (fun H1 locs1 p1 _ p2 => gs_fin F D rfl p1 p2 h)
  · exact h.elim
set_option maxRecDepth 20000 in
theorem gs_baload (hok : gp_okd M) (F : gp_F G M p s m args meth c) (D : gp_D G M s V H locs la ls cs ss) {len : Nat} (hdg : decode M.2.1 pc = .ok (.baload, len)) (h : gp_step l G d M K (gp_Go l G d M K) .baload len pc ls st V cs ss) : gp_T l G d M K pc st cs ss p e s m args below meth c H locs la := by
  obtain ⟨hx, hb, hml, hr, hlk, hown, hnm, hts, hK, hN, hbs⟩ := id F
  obtain ⟨hcs, hsz, hP, hS, hl, hc1, hs1⟩ := id D
  obtain ⟨e0, h2⟩ := gp_ln_e h
  clear h
  subst e0
  have h := h2
  clear h2
  split at h
  · rename_i j a r
    obtain ⟨t, n, f, ht, h1, h2, h⟩ := gp_ab_e h
    rcases ht with rfl | rfl
    · exact va_bald hx hb hK hP a 1 (gp_cc_at h1) rfl h2 hdg (h p e s m args below meth c H locs la F D)
    · exact va_zald hx hb hK hP a 2 (gp_cc_at h1) rfl h2 hdg (h p e s m args below meth c H locs la F D)
  · rename_i j i r
    obtain ⟨h1, h2, h⟩ := gp_bt_e h
    obtain ⟨h1, e1⟩ := gp_sx_e h1
    have hT := (hN.2.2.2.2.1.1 (i - 1000) h1).2.2.2
    have hT : va_T .byte (G.2.2.2 (1000 + (i - 1000))) (gp_sn.getD (i - 1000) 0) (fun j => .int ((gp_sb.getD (i - 1000) []).getD j 0)) (gp_A G) s s.heap := hT
    rw [e1] at hT
    exact va_tb hx hb hT hS h2 rfl hdg (h p e s m args below meth c H locs la F D)
  · exact h.elim
theorem gs_bastore (hok : gp_okd M) (F : gp_F G M p s m args meth c) (D : gp_D G M s V H locs la ls cs ss) {len : Nat} (hdg : decode M.2.1 pc = .ok (.bastore, len)) (h : gp_step l G d M K (gp_Go l G d M K) .bastore len pc ls st V cs ss) : gp_T l G d M K pc st cs ss p e s m args below meth c H locs la := by
  obtain ⟨hx, hb, hml, hr, hlk, hown, hnm, hts, hK, hN, hbs⟩ := id F
  obtain ⟨hcs, hsz, hP, hS, hl, hc1, hs1⟩ := id D
  obtain ⟨e0, h2⟩ := gp_ln_e h
  clear h
  subst e0
  have h := h2
  clear h2
  split at h
  · rename_i x j a r
    obtain ⟨t, n, f, ht, h1, h2, h⟩ := gp_ab_e h
    rcases ht with rfl | rfl
    · exact va_bast (A := gp_A G) (H0 := s.heap) hx hb hK hP (gp_cc_D G V) hS a 1 (gp_cc_at h1) rfl h2 hdg (fun H1 locs1 p1 _ p2 => gs_fin F D rfl p1 p2 h)
    · exact va_zast (A := gp_A G) (H0 := s.heap) hx hb hK hP (gp_cc_D G V) hS a 2 (gp_cc_at h1) rfl h2 hdg (fun H1 locs1 p1 _ p2 => gs_fin F D rfl p1 p2 h)
  · exact h.elim
theorem gs_laload (hok : gp_okd M) (F : gp_F G M p s m args meth c) (D : gp_D G M s V H locs la ls cs ss) {len : Nat} (hdg : decode M.2.1 pc = .ok (.laload, len)) (h : gp_step l G d M K (gp_Go l G d M K) .laload len pc ls st V cs ss) : gp_T l G d M K pc st cs ss p e s m args below meth c H locs la := by
  obtain ⟨hx, hb, hml, hr, hlk, hown, hnm, hts, hK, hN, hbs⟩ := id F
  obtain ⟨hcs, hsz, hP, hS, hl, hc1, hs1⟩ := id D
  obtain ⟨e0, h2⟩ := gp_ln_e h
  clear h
  subst e0
  have h := h2
  clear h2
  split at h
  · rename_i j a r
    obtain ⟨n, f, h1, h2, h⟩ := gp_al3_e h
    exact va_lald hx hb hK hP a 3 (gp_cc_at h1) rfl h2 hdg (h p e s m args below meth c H locs la F D)
  · exact h.elim
theorem gs_lastore (hok : gp_okd M) (F : gp_F G M p s m args meth c) (D : gp_D G M s V H locs la ls cs ss) {len : Nat} (hdg : decode M.2.1 pc = .ok (.lastore, len)) (h : gp_step l G d M K (gp_Go l G d M K) .lastore len pc ls st V cs ss) : gp_T l G d M K pc st cs ss p e s m args below meth c H locs la := by
  obtain ⟨hx, hb, hml, hr, hlk, hown, hnm, hts, hK, hN, hbs⟩ := id F
  obtain ⟨hcs, hsz, hP, hS, hl, hc1, hs1⟩ := id D
  obtain ⟨e0, h2⟩ := gp_ln_e h
  clear h
  subst e0
  have h := h2
  clear h2
  split at h
  · rename_i x j a r
    obtain ⟨n, f, h1, h2, h⟩ := gp_al3_e h
    exact va_last (A := gp_A G) (H0 := s.heap) hx hb hK hP (gp_cc_D G V) hS a 3 (gp_cc_at h1) rfl h2 hdg (fun H1 locs1 p1 _ p2 => gs_fin F D rfl p1 p2 h)
  · exact h.elim
theorem gs_aaload (hok : gp_okd M) (F : gp_F G M p s m args meth c) (D : gp_D G M s V H locs la ls cs ss) {len : Nat} (hdg : decode M.2.1 pc = .ok (.aaload, len)) (h : gp_step l G d M K (gp_Go l G d M K) .aaload len pc ls st V cs ss) : gp_T l G d M K pc st cs ss p e s m args below meth c H locs la := by
  obtain ⟨hx, hb, hml, hr, hlk, hown, hnm, hts, hK, hN, hbs⟩ := id F
  obtain ⟨hcs, hsz, hP, hS, hl, hc1, hs1⟩ := id D
  obtain ⟨e0, h2⟩ := gp_ln_e h
  clear h
  subst e0
  have h := h2
  clear h2
  split at h
  · rename_i j a r
    obtain ⟨t, n, f, ht, h1, h2, b, h3, h⟩ := gp_aq_e h
    have e1 : va_rf ((f j.toNatClampNeg).map (fun a => G.1 + a)) = gp_mv G (.ref b) := by rw [h3]; rfl
    have hh := h p e s m args below meth c H locs la F D
    rcases ht with rfl | rfl
    · exact va_aldq hx hb hK hP a 4 (gp_cc_at h1) rfl h2 hdg (by rw [e1]; exact hh)
    · exact va_aldq hx hb hK hP a 5 (gp_cc_at h1) rfl h2 hdg (by rw [e1]; exact hh)
  · exact h.elim
theorem gs_aastore (hok : gp_okd M) (F : gp_F G M p s m args meth c) (D : gp_D G M s V H locs la ls cs ss) {len : Nat} (hdg : decode M.2.1 pc = .ok (.aastore, len)) (h : gp_step l G d M K (gp_Go l G d M K) .aastore len pc ls st V cs ss) : gp_T l G d M K pc st cs ss p e s m args below meth c H locs la := by
  obtain ⟨hx, hb, hml, hr, hlk, hown, hnm, hts, hK, hN, hbs⟩ := id F
  obtain ⟨hcs, hsz, hP, hS, hl, hc1, hs1⟩ := id D
  obtain ⟨e0, h2⟩ := gp_ln_e h
  clear h
  subst e0
  have h := h2
  clear h2
  split at h
  · rename_i b j a r
    obtain ⟨t, n, f, ht, h1, h⟩ := gp_aq_e h
    obtain ⟨fs, h3, h2, h⟩ := gp_ob_e h
    have key : ∀ t' : Nat, (.inl (G.2.2.1 t', n, .inr (.inr (.inr (.inr (va_up (fun j => (f j).map (fun a => G.1 + a)) j.toNatClampNeg (some (G.1 + b))))))) : va_E) = gp_ce G (.inl (t', n, .inr (.inr (.inr (.inr (va_up f j.toNatClampNeg (some b))))))) := by
      intro t'
      show _ = (.inl (G.2.2.1 t', n, .inr (.inr (.inr (.inr (fun i => (va_up f j.toNatClampNeg (some b) i).map (fun a => G.1 + a)))))) : va_E)
      have e2 : va_up (fun j => (f j).map (fun a => G.1 + a)) j.toNatClampNeg (some (G.1 + b)) = fun i => (va_up f j.toNatClampNeg (some b) i).map (fun a => G.1 + a) := by
        funext i
        simp only [va_up]
        split <;> simp
      rw [e2]
    rcases ht with rfl | rfl
    · exact va_astq (A := gp_A G) (H0 := s.heap) hx hb hK hP (gp_cc_D G V) hS a 4 b 2 (r := ("GoldPlate$Mark", gp_T2, 9)) (gp_cc_at h1) rfl (gp_cc_at h3) rfl h2 hdg (fun H1 locs1 p1 _ p2 => gs_fin F D (key 4) p1 p2 h)
    · exact va_astq (A := gp_A G) (H0 := s.heap) hx hb hK hP (gp_cc_D G V) hS a 5 b 3 (r := ("GoldPlate$Mind", gp_T3, 14)) (gp_cc_at h1) rfl (gp_cc_at h3) rfl h2 hdg (fun H1 locs1 p1 _ p2 => gs_fin F D (key 5) p1 p2 h)
  · exact h.elim
set_option maxRecDepth 20000 in
theorem gs_arraylength (hok : gp_okd M) (F : gp_F G M p s m args meth c) (D : gp_D G M s V H locs la ls cs ss) {len : Nat} (hdg : decode M.2.1 pc = .ok (.arraylength, len)) (h : gp_step l G d M K (gp_Go l G d M K) .arraylength len pc ls st V cs ss) : gp_T l G d M K pc st cs ss p e s m args below meth c H locs la := by
  obtain ⟨hx, hb, hml, hr, hlk, hown, hnm, hts, hK, hN, hbs⟩ := id F
  obtain ⟨hcs, hsz, hP, hS, hl, hc1, hs1⟩ := id D
  obtain ⟨e0, h2⟩ := gp_ln_e h
  clear h
  subst e0
  have h := h2
  clear h2
  split at h
  · rename_i a r
    obtain ⟨t, n, x, ht, h1, h⟩ := gp_an_e h
    have hc : ∃ y : vp_A, y.1 = n ∧ gp_ce G (.inl (t, n, x)) = .inl (G.2.2.1 t, y) := by
      rcases x with f | f | f | f | f
      · exact ⟨_, rfl, rfl⟩
      · exact ⟨_, rfl, rfl⟩
      · exact ⟨_, rfl, rfl⟩
      · exact ⟨_, rfl, rfl⟩
      · exact ⟨(n, .inr (.inr (.inr (.inr (fun j => (f j).map (fun a => G.1 + a)))))), rfl, rfl⟩
    obtain ⟨y, hy1, hy2⟩ := hc
    have h1' := gp_cc_at (G := G) h1
    rw [hy2] at h1'
    obtain ⟨ty, hty⟩ : ∃ ty, (gp_tl G)[t]? = some (G.2.2.1 t, ty) := by
      rcases (show t = 0 ∨ t = 1 ∨ t = 2 ∨ t = 3 ∨ t = 4 ∨ t = 5 by omega) with rfl | rfl | rfl | rfl | rfl | rfl <;> exact ⟨_, rfl⟩
    exact va_alen hx hb hK hP a t h1' hty (by rw [hy1]) hdg (h p e s m args below meth c H locs la F D)
  · rename_i i r
    obtain ⟨h1, h⟩ := gp_bt_e h
    obtain ⟨h1, e1⟩ := gp_sx_e h1
    have hT := (hN.2.2.2.2.1.1 (i - 1000) h1).2.2.2
    have hT : va_T .byte (G.2.2.2 (1000 + (i - 1000))) (gp_sn.getD (i - 1000) 0) (fun j => .int ((gp_sb.getD (i - 1000) []).getD j 0)) (gp_A G) s s.heap := hT
    rw [e1] at hT
    exact va_tlen hx hb hT hS rfl hdg (h p e s m args below meth c H locs la F D)
  · exact h.elim
end GO
