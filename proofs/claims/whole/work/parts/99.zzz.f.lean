section
variable {l : Launch} {G : gp_G} {d : Nat} {w : Nat → Nat → Int32} {u : Int64 × (Nat → Int64)} {q : Nat → Nat} {K : Option Value → gp_H → Prop}
/-! ===== the law's own walk: a small machine for it ===== -/
def R_law : String := "GoldPlateLaw"
def lw_P (b : Addr) (xs : List Int32) (args : Array Value) (s : State) : Prop := args = #[.ref b] ∧ s.IntsAt b xs ∧ xs.length ≤ 3072 ∧ (Jvm.Cond.and given_1 narrow_1).before args s = true
def lw_Q (_ : Array Value) (s : State) (o : Outcome) (t : State) : Prop := o = .returned (some (.int 1)) ∧ Framed s o t [] 600000 7302250
def lw_Z (below : List Frame) (a : Array Value) (s : State) : State → Prop := fun t => ∃ o, t.status = .running ∧ Ended t below o ∧ lw_Q a s o t
/-- the law's own end, with 1 on the stack, nothing written that was there before, its room as the claim has it -/
theorem lw_ret {p : Program} {l : Launch} {e : Env} {s : State} {m : MethodId} {below : List Frame} {meth : Method} {c : Code} {b : Nat} (hx : p.tables.exec = Jvm.exec) (hb : c.code = code) (hr : meth.sig.returnType = ret) (hlocks : meth.locks = false) {pc : Nat} {H : Heap} {ls : Array Slot} (hdg : decode code pc = .ok (.ireturn, 1)) : W p l e room_1 s m #[Value.ref b] below meth c H [] 600000 7302250 (lw_Z below #[Value.ref b] s) (F0 m pc ls [.int 1]) := by
  intro T hT X
  obtain ⟨fs, hret, hrun, hended, hW, hframe⟩ := X.leave (v := some (.int 1)) (hlocks := hlocks) (fun h => by rw [hr] at h; cases h)
  have hmeth' : T.vm.method? m = some meth := X.method'
  refine ⟨T.setFrames fs, ?_, .returned (some (.int 1)), hrun, hended, rfl, ⟨_, rfl⟩, hW, hframe⟩
  jvm_step X.here [X.here.top, hx, hb, hdg, hmeth', hr, ret, narrow_b1]
  (try refine ⟨rfl, ?_⟩); (try refine ⟨rfl, ?_⟩)
  first | (intro acts; rw [hret _ acts rfl rfl rfl]) | rw [hret _ _ rfl rfl rfl]
  exact Steps.refl _
/-- what holds at the law's entry: the machine, the code, the tables' words (any of lw_tbl by 'hts w (by decide +kernel)'), the script of L ints xs at the cell b, what the Statement gives of the start (any of its parts by flat_of_before) -/
def lw_At (p : Program) (s : State) (m : MethodId) (meth : Method) (c : Code) (b L : Nat) (xs : Nat → Int32) : Prop :=
  p.tables.exec = Jvm.exec ∧ c.code = code ∧ meth.sig.returnType = ret ∧ c.maxLocals = 4 ∧ s.vm.findClass R_law = some m.cls ∧ (∀ w ∈ lw_tbl, w.before #[Value.ref b] s = true) ∧ va_X b L xs s s.heap ∧ b < s.heap.size ∧ meth.locks = false ∧ (Jvm.Cond.and given_1 narrow_1).before #[Value.ref b] s = true
def m_Lw : gp_M := (x, code, 4, ret, 600000, 7302250, 13, 1, [])
/-- what stays through the law's walk; the script stands as retAddr 3000 -/
def gl_F (G : gp_G) (b L : Nat) (xs : Nat → Int32) (p : Program) (s : State) (m : MethodId) (meth : Method) (c : Code) : Prop :=
  p.tables.exec = Jvm.exec ∧ c.code = code ∧ c.maxLocals = 4 ∧ meth.sig.returnType = ret ∧ meth.locks = false ∧ s.vm.findClass "GoldPlateLaw" = some m.cls ∧ (∀ w ∈ gp_ws, w.before #[Value.ref b] s = true) ∧ va_K G.2.1 gp_cl (gp_tl G) s ∧ gp_N G s s.heap ∧ G.1 = s.heap.size ∧ va_X b L xs s s.heap ∧ b < s.heap.size ∧ G.2.2.2 3000 = b
abbrev gl_T (l : Launch) (b pc : Nat) (G : gp_G) (st : List Value) (cs ss : Nat) (p : Program) (e : Env) (s : State) (m : MethodId) (below : List Frame) (meth : Method) (c : Code) (H : Heap) (locs : List Loc) (la : Array Slot) : Prop := W p l e room_1 s m #[Value.ref b] below meth c H locs cs ss (lw_Z below #[Value.ref b] s) (F0 m pc la (st.map (gp_mv G)))
def gl_Go (l : Launch) (G : gp_G) (b L : Nat) (xs : Nat → Int32) : gp_K := fun pc ls st V cs ss =>
  ∀ (p : Program) (e : Env) (s : State) (m : MethodId) (below : List Frame) (meth : Method) (c : Code) (H : Heap) (locs : List Loc) (la : Array Slot), gl_F G b L xs p s m meth c → gp_D G m_Lw s V H locs la ls cs ss → gl_T l b pc G st cs ss p e s m below meth c H locs la
def gl_step (l : Launch) (G : gp_G) (b L : Nat) (xs : Nat → Int32) (k : gp_K) (i : Instr) (len pc : Nat) (ls : List (Option Value)) (st : List Value) (V : gp_H) (cs ss : Nat) : Prop :=
  match i with
  | .iload_n n => gp_ln len 1 (gp_ldI (gp_gl ls n) fun x => k (pc + 1) ls (.int x :: st) V cs ss)
  | .aload_n n => gp_ln len 1 (gp_ldA (gp_gl ls n) fun v => k (pc + 1) ls (v :: st) V cs ss)
  | .istore_n n => gp_ln len 1 (gp_bt (gp_lt ls n) (gp_p1 st fun x r => k (pc + 1) (gp_s1 ls n (.int x)) r V cs ss))
  | .astore_n n => gp_ln len 1 (gp_bt (gp_lt ls n) (gp_pA st fun v r => k (pc + 1) (gp_s1 ls n v) r V cs ss))
  | .iinc n c => gp_ln len 3 (gp_bt (gp_lt ls n) (gp_ldI (gp_gl ls n) fun x => k (pc + 3) (gp_s1 ls n (.int (x + Int32.ofInt c))) st V cs ss))
  | .iconst c => gp_ln len 1 (k (pc + 1) ls (.int (Int32.ofInt c) :: st) V cs ss)
  | .bipush c => gp_ln len 2 (k (pc + 2) ls (.int (Int8.ofInt c).toInt32 :: st) V cs ss)
  | .iadd => gp_ln len 1 (gp_p2 st fun x y r => k (pc + 1) ls (.int (x + y) :: r) V cs ss)
  | .isub => gp_ln len 1 (gp_p2 st fun x y r => k (pc + 1) ls (.int (x - y) :: r) V cs ss)
  | .iand => gp_ln len 1 (gp_p2 st fun x y r => k (pc + 1) ls (.int (x &&& y) :: r) V cs ss)
  | .dup => gp_ln len 1 (match st with
    | v :: r => gp_ln (gp_sz [v]) 1 (k (pc + 1) ls (v :: v :: r) V cs ss)
    | _ => False)
  | .goto off => gp_ln len 3 (gp_j pc off fun t => k t ls st V cs ss)
  | .if_icmp c off => gp_ln len 3 (gp_p2 st fun x y r => gp_j pc off fun t => gp_b2 c x y (k t ls r V cs ss) (k (pc + 3) ls r V cs ss))
  | .tableswitch df lo hi offs => gp_p1 st fun x r => (x.toInt < lo ∨ hi < x.toInt → gp_j pc df fun t => k t ls r V cs ss) ∧ (hi - lo + 1 = offs.toList.length ∧ gp_sw pc (fun t => k t ls r V cs ss) x.toInt offs.toList lo)
  | .iaload => gp_ln len 1 (match st with
    | .int j :: .retAddr a :: r => gp_ln a 3000 (vp_in j L ∧ k (pc + 1) ls (.int (xs j.toNatClampNeg) :: r) V cs ss)
    | _ => False)
  | .arraylength => gp_ln len 1 (match st with
    | .retAddr a :: r => gp_ln a 3000 (k (pc + 1) ls (.int (Int32.ofNat L) :: r) V cs ss)
    | _ => False)
  | .new idx => gp_ln len 3 (gp_row (gp_lk (gp_nl 13) idx) fun ci => cs + 1 ≤ 600000 ∧ ss + (gp_df ci).length ≤ 7302250 ∧ k (pc + 3) ls (.ref V.length :: st) (V ++ [.inr (ci, gp_df ci)]) (cs + 1) (ss + (gp_df ci).length))
  | .invokevirtual idx => gp_ln len 3 (gp_row (gp_lk (gp_ml 13) idx) fun q => gp_row (gp_pop (gp_np q.2) [] st) fun a => gp_bt (Nat.beq q.1 0) (match a.2 with
    | .ref v :: rest => gp_ob V v (gp_o q.2) fun _ => gp_cl1 l G 101 m_Lw q.2 (.ref v :: a.1) rest V cs ss fun r V' cs' ss' => k (pc + 3) ls (r.toList ++ rest) V' cs' ss'
    | _ => False))
  | .invokespecial idx => gp_ln len 3 (gp_row (gp_lk (gp_ml 13) idx) fun q => gp_row (gp_pop (gp_np q.2) [] st) fun a => gp_bt (Nat.beq q.1 2) (match a.2 with
    | .ref v :: rest => gp_cl1 l G 101 m_Lw q.2 (.ref v :: a.1) rest V cs ss fun r V' cs' ss' => k (pc + 3) ls (r.toList ++ rest) V' cs' ss'
    | _ => False))
  | .ireturn => gp_ln len 1 (match st with
    | [.int x] => x = 1
    | _ => False)
  | _ => False
section GL
variable {b L : Nat} {xs : Nat → Int32} {pc : Nat} {ls : List (Option Value)} {st : List Value} {V : gp_H} {cs ss : Nat}
variable {p : Program} {e : Env} {s : State} {m : MethodId} {below : List Frame} {meth : Method} {c : Code} {H : Heap} {locs : List Loc} {la : Array Slot}
theorem gl_back {M' : gp_M} {rest st0 : List Value} {a : Array Value} (F : gl_F G b L xs p s m meth c) (D : gp_D G m_Lw s V H locs la ls cs ss) (hc : cs + gp_mc M' ≤ gp_mc m_Lw) (hs : ss + gp_ms M' ≤ gp_ms m_Lw)
    (hr : va_Run p l e room_1 s m #[Value.ref b] below meth c H locs cs ss (gp_mc M') (gp_ms M') (F0 m pc la st0) (rest.map (gp_mv G)) (gp_Post G (gp_mc M') (fun r V' => gl_Go l G b L xs (pc + 3) ls (r.toList ++ rest) V' (cs + gp_mc M') (ss + gp_ms M')) a) (gp_A G)) : W p l e room_1 s m #[Value.ref b] below meth c H locs cs ss (lw_Z below #[Value.ref b] s) (F0 m pc la st0) := by
  refine gp_callW hr D.2.2.2.1 D.2.1 (fun r V' H1 locs1 hk z1 z2 p1 p2 => ?_)
  exact hk p e s m below meth c H1 locs1 la F ⟨by rw [z2]; have := D.1; omega, z1, p1, p2, D.2.2.2.2.1, hc, hs⟩
theorem gl_iload_n {n : Fin 4} (F : gl_F G b L xs p s m meth c) (D : gp_D G m_Lw s V H locs la ls cs ss) {len : Nat} (hdg : decode code pc = .ok (.iload_n n, len)) (h : gl_step l G b L xs (gl_Go l G b L xs) (.iload_n n) len pc ls st V cs ss) : gl_T l b pc G st cs ss p e s m below meth c H locs la := by
  obtain ⟨hx, hb, hml, hr, hlk, hown, hts, hK, hN, hbs, hX, hbl, h30⟩ := id F
  obtain ⟨hcs, hsz, hP, hS, hl, hc1, hs1⟩ := id D
  obtain ⟨e0, h2⟩ := gp_ln_e h
  clear h
  subst e0
  obtain ⟨x, h1, h⟩ := gp_ldI_e h2
  exact lv_iload_n hx hb hdg rfl (hl.2.2.2 _ _ h1) (h p e s m below meth c H locs la F D)
theorem gl_aload_n {n : Fin 4} (F : gl_F G b L xs p s m meth c) (D : gp_D G m_Lw s V H locs la ls cs ss) {len : Nat} (hdg : decode code pc = .ok (.aload_n n, len)) (h : gl_step l G b L xs (gl_Go l G b L xs) (.aload_n n) len pc ls st V cs ss) : gl_T l b pc G st cs ss p e s m below meth c H locs la := by
  obtain ⟨hx, hb, hml, hr, hlk, hown, hts, hK, hN, hbs, hX, hbl, h30⟩ := id F
  obtain ⟨hcs, hsz, hP, hS, hl, hc1, hs1⟩ := id D
  obtain ⟨e0, h2⟩ := gp_ln_e h
  clear h
  subst e0
  obtain ⟨v, h1, hv, h⟩ := gp_ldA_e (G := G) h2
  have g1 := hl.2.2.2 _ _ h1
  have g2 : W p l e room_1 s m #[Value.ref b] below meth c H locs cs ss (lw_Z below #[Value.ref b] s) (F0 m (pc + 1) la (gp_mv G v :: st.map (gp_mv G))) := h p e s m below meth c H locs la F D
  rcases hv with hv | ⟨q, hv⟩
  · rw [hv] at g1 g2
    exact lv_aload_nN hx hb hdg rfl g1 g2
  · rw [hv] at g1 g2
    exact lv_aload_n hx hb hdg rfl g1 g2
theorem gl_istore_n {n : Fin 4} (F : gl_F G b L xs p s m meth c) (D : gp_D G m_Lw s V H locs la ls cs ss) {len : Nat} (hdg : decode code pc = .ok (.istore_n n, len)) (h : gl_step l G b L xs (gl_Go l G b L xs) (.istore_n n) len pc ls st V cs ss) : gl_T l b pc G st cs ss p e s m below meth c H locs la := by
  obtain ⟨hx, hb, hml, hr, hlk, hown, hts, hK, hN, hbs, hX, hbl, h30⟩ := id F
  obtain ⟨hcs, hsz, hP, hS, hl, hc1, hs1⟩ := id D
  obtain ⟨e0, h2⟩ := gp_ln_e h
  clear h
  subst e0
  obtain ⟨h3, h4⟩ := gp_bt_e h2
  obtain ⟨x, r, rfl, h⟩ := gp_p1_e h4
  have hn := gp_lt_e h3
  rw [hl.2.2.1] at hn
  exact lv_istore_n hx hb hdg rfl hl.has hn rfl (fun la' h' => h p e s m below meth c H locs la' F (D.ls (gp_lr.st1 (v := .int x) hl h')))
theorem gl_astore_n {n : Fin 4} (F : gl_F G b L xs p s m meth c) (D : gp_D G m_Lw s V H locs la ls cs ss) {len : Nat} (hdg : decode code pc = .ok (.astore_n n, len)) (h : gl_step l G b L xs (gl_Go l G b L xs) (.astore_n n) len pc ls st V cs ss) : gl_T l b pc G st cs ss p e s m below meth c H locs la := by
  obtain ⟨hx, hb, hml, hr, hlk, hown, hts, hK, hN, hbs, hX, hbl, h30⟩ := id F
  obtain ⟨hcs, hsz, hP, hS, hl, hc1, hs1⟩ := id D
  obtain ⟨e0, h2⟩ := gp_ln_e h
  clear h
  subst e0
  obtain ⟨h3, h4⟩ := gp_bt_e h2
  obtain ⟨v, r, rfl, hv, h⟩ := gp_pA_e h4
  have hn := gp_lt_e h3
  rw [hl.2.2.1] at hn
  rcases hv with ⟨q, rfl⟩ | ⟨q, rfl⟩
  · exact lv_astore_n hx hb hdg rfl hl.has hn rfl (fun la' h' => h p e s m below meth c H locs la' F (D.ls (gp_lr.st1 (v := .ref q) hl h')))
  · exact lv_astore_n hx hb hdg rfl hl.has hn rfl (fun la' h' => h p e s m below meth c H locs la' F (D.ls (gp_lr.st1 (v := .retAddr q) hl h')))
theorem gl_iinc {n : Nat} {k : Int} (F : gl_F G b L xs p s m meth c) (D : gp_D G m_Lw s V H locs la ls cs ss) {len : Nat} (hdg : decode code pc = .ok (.iinc n k, len)) (h : gl_step l G b L xs (gl_Go l G b L xs) (.iinc n k) len pc ls st V cs ss) : gl_T l b pc G st cs ss p e s m below meth c H locs la := by
  obtain ⟨hx, hb, hml, hr, hlk, hown, hts, hK, hN, hbs, hX, hbl, h30⟩ := id F
  obtain ⟨hcs, hsz, hP, hS, hl, hc1, hs1⟩ := id D
  obtain ⟨e0, h2⟩ := gp_ln_e h
  clear h
  subst e0
  obtain ⟨h3, h4⟩ := gp_bt_e h2
  obtain ⟨x, h1, h⟩ := gp_ldI_e h4
  have hn := gp_lt_e h3
  rw [hl.2.2.1] at hn
  obtain ⟨j, hj⟩ := List.getElem?_of_mem (gp_pl_mem (G := G) hn h1)
  exact lv_iinc hx hb hdg hl.has hj rfl hn rfl (fun la' h' => h p e s m below meth c H locs la' F (D.ls (gp_lr.st1 (v := .int (x + Int32.ofInt k)) hl h')))
theorem gl_iconst {n : Int} (F : gl_F G b L xs p s m meth c) (D : gp_D G m_Lw s V H locs la ls cs ss) {len : Nat} (hdg : decode code pc = .ok (.iconst n, len)) (h : gl_step l G b L xs (gl_Go l G b L xs) (.iconst n) len pc ls st V cs ss) : gl_T l b pc G st cs ss p e s m below meth c H locs la := by
  obtain ⟨hx, hb, hml, hr, hlk, hown, hts, hK, hN, hbs, hX, hbl, h30⟩ := id F
  obtain ⟨hcs, hsz, hP, hS, hl, hc1, hs1⟩ := id D
  obtain ⟨e0, h2⟩ := gp_ln_e h
  clear h
  subst e0
  exact lv_iconst hx hb hdg rfl (h2 p e s m below meth c H locs la F D)
theorem gl_bipush {n : Int} (F : gl_F G b L xs p s m meth c) (D : gp_D G m_Lw s V H locs la ls cs ss) {len : Nat} (hdg : decode code pc = .ok (.bipush n, len)) (h : gl_step l G b L xs (gl_Go l G b L xs) (.bipush n) len pc ls st V cs ss) : gl_T l b pc G st cs ss p e s m below meth c H locs la := by
  obtain ⟨hx, hb, hml, hr, hlk, hown, hts, hK, hN, hbs, hX, hbl, h30⟩ := id F
  obtain ⟨hcs, hsz, hP, hS, hl, hc1, hs1⟩ := id D
  obtain ⟨e0, h2⟩ := gp_ln_e h
  clear h
  subst e0
  exact lv_bipush hx hb hdg rfl (h2 p e s m below meth c H locs la F D)
theorem gl_iadd (F : gl_F G b L xs p s m meth c) (D : gp_D G m_Lw s V H locs la ls cs ss) {len : Nat} (hdg : decode code pc = .ok (.iadd, len)) (h : gl_step l G b L xs (gl_Go l G b L xs) (.iadd) len pc ls st V cs ss) : gl_T l b pc G st cs ss p e s m below meth c H locs la := by
  obtain ⟨hx, hb, hml, hr, hlk, hown, hts, hK, hN, hbs, hX, hbl, h30⟩ := id F
  obtain ⟨hcs, hsz, hP, hS, hl, hc1, hs1⟩ := id D
  obtain ⟨e0, h2⟩ := gp_ln_e h
  clear h
  subst e0
  obtain ⟨x, y, r, rfl, h⟩ := gp_p2_e h2
  exact lv_iadd hx hb hdg (h p e s m below meth c H locs la F D)
theorem gl_isub (F : gl_F G b L xs p s m meth c) (D : gp_D G m_Lw s V H locs la ls cs ss) {len : Nat} (hdg : decode code pc = .ok (.isub, len)) (h : gl_step l G b L xs (gl_Go l G b L xs) (.isub) len pc ls st V cs ss) : gl_T l b pc G st cs ss p e s m below meth c H locs la := by
  obtain ⟨hx, hb, hml, hr, hlk, hown, hts, hK, hN, hbs, hX, hbl, h30⟩ := id F
  obtain ⟨hcs, hsz, hP, hS, hl, hc1, hs1⟩ := id D
  obtain ⟨e0, h2⟩ := gp_ln_e h
  clear h
  subst e0
  obtain ⟨x, y, r, rfl, h⟩ := gp_p2_e h2
  exact lv_isub hx hb hdg (h p e s m below meth c H locs la F D)
theorem gl_iand (F : gl_F G b L xs p s m meth c) (D : gp_D G m_Lw s V H locs la ls cs ss) {len : Nat} (hdg : decode code pc = .ok (.iand, len)) (h : gl_step l G b L xs (gl_Go l G b L xs) (.iand) len pc ls st V cs ss) : gl_T l b pc G st cs ss p e s m below meth c H locs la := by
  obtain ⟨hx, hb, hml, hr, hlk, hown, hts, hK, hN, hbs, hX, hbl, h30⟩ := id F
  obtain ⟨hcs, hsz, hP, hS, hl, hc1, hs1⟩ := id D
  obtain ⟨e0, h2⟩ := gp_ln_e h
  clear h
  subst e0
  obtain ⟨x, y, r, rfl, h⟩ := gp_p2_e h2
  exact lv_iand hx hb hdg (h p e s m below meth c H locs la F D)
theorem gl_dup (F : gl_F G b L xs p s m meth c) (D : gp_D G m_Lw s V H locs la ls cs ss) {len : Nat} (hdg : decode code pc = .ok (.dup, len)) (h : gl_step l G b L xs (gl_Go l G b L xs) (.dup) len pc ls st V cs ss) : gl_T l b pc G st cs ss p e s m below meth c H locs la := by
  obtain ⟨hx, hb, hml, hr, hlk, hown, hts, hK, hN, hbs, hX, hbl, h30⟩ := id F
  obtain ⟨hcs, hsz, hP, hS, hl, hc1, hs1⟩ := id D
  obtain ⟨e0, h2⟩ := gp_ln_e h
  clear h
  subst e0
  split at h2
  · obtain ⟨h3, h⟩ := gp_ln_e h2
    exact lv_dup hx hb hdg (gp_cat1 G h3) (h p e s m below meth c H locs la F D)
  · exact h2.elim
theorem gl_goto {off : Int} (F : gl_F G b L xs p s m meth c) (D : gp_D G m_Lw s V H locs la ls cs ss) {len : Nat} (hdg : decode code pc = .ok (.goto off, len)) (h : gl_step l G b L xs (gl_Go l G b L xs) (.goto off) len pc ls st V cs ss) : gl_T l b pc G st cs ss p e s m below meth c H locs la := by
  obtain ⟨hx, hb, hml, hr, hlk, hown, hts, hK, hN, hbs, hX, hbl, h30⟩ := id F
  obtain ⟨hcs, hsz, hP, hS, hl, hc1, hs1⟩ := id D
  obtain ⟨e0, h2⟩ := gp_ln_e h
  clear h
  subst e0
  obtain ⟨t, e1, h⟩ := gp_j_e h2
  exact lv_goto hx hb hdg e1 (h p e s m below meth c H locs la F D)
theorem gl_if_icmp {k : Jvm.ClassFile.Cond} {off : Int} (F : gl_F G b L xs p s m meth c) (D : gp_D G m_Lw s V H locs la ls cs ss) {len : Nat} (hdg : decode code pc = .ok (.if_icmp k off, len)) (h : gl_step l G b L xs (gl_Go l G b L xs) (.if_icmp k off) len pc ls st V cs ss) : gl_T l b pc G st cs ss p e s m below meth c H locs la := by
  obtain ⟨hx, hb, hml, hr, hlk, hown, hts, hK, hN, hbs, hX, hbl, h30⟩ := id F
  obtain ⟨hcs, hsz, hP, hS, hl, hc1, hs1⟩ := id D
  obtain ⟨e0, h2⟩ := gp_ln_e h
  clear h
  subst e0
  obtain ⟨x, y, r, rfl, h3⟩ := gp_p2_e h2
  obtain ⟨t, e1, h⟩ := gp_j_e h3
  cases k with
  | eq => exact lv_icmp_eq hx hb hdg e1 (fun q => h.1 q p e s m below meth c H locs la F D) (fun q => h.2 q p e s m below meth c H locs la F D)
  | ne => exact lv_icmp_ne hx hb hdg e1 (fun q => h.1 q p e s m below meth c H locs la F D) (fun q => h.2 q p e s m below meth c H locs la F D)
  | lt => exact lv_icmp_lt hx hb hdg e1 (fun q => h.1 q p e s m below meth c H locs la F D) (fun q => h.2 q p e s m below meth c H locs la F D)
  | ge => exact lv_icmp_ge hx hb hdg e1 (fun q => h.1 q p e s m below meth c H locs la F D) (fun q => h.2 q p e s m below meth c H locs la F D)
  | gt => exact lv_icmp_gt hx hb hdg e1 (fun q => h.1 q p e s m below meth c H locs la F D) (fun q => h.2 q p e s m below meth c H locs la F D)
  | le => exact lv_icmp_le hx hb hdg e1 (fun q => h.1 q p e s m below meth c H locs la F D) (fun q => h.2 q p e s m below meth c H locs la F D)
theorem gl_tableswitch {df lo hi : Int} {offs : Array Int} (F : gl_F G b L xs p s m meth c) (D : gp_D G m_Lw s V H locs la ls cs ss) {len : Nat} (hdg : decode code pc = .ok (.tableswitch df lo hi offs, len)) (h : gl_step l G b L xs (gl_Go l G b L xs) (.tableswitch df lo hi offs) len pc ls st V cs ss) : gl_T l b pc G st cs ss p e s m below meth c H locs la := by
  obtain ⟨hx, hb, hml, hr, hlk, hown, hts, hK, hN, hbs, hX, hbl, h30⟩ := id F
  obtain ⟨hcs, hsz, hP, hS, hl, hc1, hs1⟩ := id D
  obtain ⟨x, r, rfl, h1, h2, h3⟩ := gp_p1_e h
  by_cases hq : x.toInt < lo ∨ hi < x.toInt
  · obtain ⟨t, e1, h⟩ := gp_j_e (h1 hq)
    exact lv_tableOut hx hb hdg hq e1 (h p e s m below meth c H locs la F D)
  · have q1 : ¬ x.toInt < lo := fun z => hq (Or.inl z)
    have q2 : ¬ hi < x.toInt := fun z => hq (Or.inr z)
    have q3 : (x.toInt - lo).toNat < offs.toList.length := by omega
    obtain ⟨off, ho⟩ : ∃ off, offs.toList[(x.toInt - lo).toNat]? = some off := ⟨_, List.getElem?_eq_getElem q3⟩
    obtain ⟨t, e1, h⟩ := gp_j_e (gp_sw_e h3 ho (by omega))
    exact lv_tableIn hx hb hdg q1 q2 (by rw [← Array.getElem?_toList]; exact ho) e1 (h p e s m below meth c H locs la F D)
theorem gl_iaload (F : gl_F G b L xs p s m meth c) (D : gp_D G m_Lw s V H locs la ls cs ss) {len : Nat} (hdg : decode code pc = .ok (.iaload, len)) (h : gl_step l G b L xs (gl_Go l G b L xs) (.iaload) len pc ls st V cs ss) : gl_T l b pc G st cs ss p e s m below meth c H locs la := by
  obtain ⟨hx, hb, hml, hr, hlk, hown, hts, hK, hN, hbs, hX, hbl, h30⟩ := id F
  obtain ⟨hcs, hsz, hP, hS, hl, hc1, hs1⟩ := id D
  obtain ⟨e0, h2⟩ := gp_ln_e h
  clear h
  subst e0
  have hbA : ¬ gp_A G b := fun z => by
    have z : G.1 ≤ b := z
    omega
  split at h2
  · obtain ⟨e1, hj, h⟩ := gp_ln_e h2
    subst e1
    have g := h p e s m below meth c H locs la F D
    show W p l e room_1 s m #[Value.ref b] below meth c H locs cs ss (lw_Z below #[Value.ref b] s) (F0 m pc la (_ :: .ref (G.2.2.2 3000) :: _))
    rw [h30]
    exact va_sld hx hb hX hbl hbA hS hj hdg g
  · exact h2.elim
theorem gl_arraylength (F : gl_F G b L xs p s m meth c) (D : gp_D G m_Lw s V H locs la ls cs ss) {len : Nat} (hdg : decode code pc = .ok (.arraylength, len)) (h : gl_step l G b L xs (gl_Go l G b L xs) (.arraylength) len pc ls st V cs ss) : gl_T l b pc G st cs ss p e s m below meth c H locs la := by
  obtain ⟨hx, hb, hml, hr, hlk, hown, hts, hK, hN, hbs, hX, hbl, h30⟩ := id F
  obtain ⟨hcs, hsz, hP, hS, hl, hc1, hs1⟩ := id D
  obtain ⟨e0, h2⟩ := gp_ln_e h
  clear h
  subst e0
  have hbA : ¬ gp_A G b := fun z => by
    have z : G.1 ≤ b := z
    omega
  split at h2
  · obtain ⟨e1, h⟩ := gp_ln_e h2
    subst e1
    have g := h p e s m below meth c H locs la F D
    show W p l e room_1 s m #[Value.ref b] below meth c H locs cs ss (lw_Z below #[Value.ref b] s) (F0 m pc la (.ref (G.2.2.2 3000) :: _))
    rw [h30]
    exact va_slen hx hb hX hbl hbA hS hdg g
  · exact h2.elim
theorem gl_ireturn (F : gl_F G b L xs p s m meth c) (D : gp_D G m_Lw s V H locs la ls cs ss) {len : Nat} (hdg : decode code pc = .ok (.ireturn, len)) (h : gl_step l G b L xs (gl_Go l G b L xs) (.ireturn) len pc ls st V cs ss) : gl_T l b pc G st cs ss p e s m below meth c H locs la := by
  obtain ⟨hx, hb, hml, hr, hlk, hown, hts, hK, hN, hbs, hX, hbl, h30⟩ := id F
  obtain ⟨hcs, hsz, hP, hS, hl, hc1, hs1⟩ := id D
  obtain ⟨e0, h2⟩ := gp_ln_e h
  clear h
  subst e0
  split at h2
  · subst h2
    refine va_forget (fun q hq => ?_) (W.widen (k := 600000) (n := 7302250) hc1 hs1 (lw_ret hx hb hr hlk hdg))
    have z : G.1 ≤ q.base := hS.2.2 q hq
    omega
  · exact h2.elim
theorem gl_new {idx : Nat} (F : gl_F G b L xs p s m meth c) (D : gp_D G m_Lw s V H locs la ls cs ss) {len : Nat} (hdg : decode code pc = .ok (.new idx, len)) (h : gl_step l G b L xs (gl_Go l G b L xs) (.new idx) len pc ls st V cs ss) : gl_T l b pc G st cs ss p e s m below meth c H locs la := by
  obtain ⟨hx, hb, hml, hr, hlk, hown, hts, hK, hN, hbs, hX, hbl, h30⟩ := id F
  obtain ⟨hcs, hsz, hP, hS, hl, hc1, hs1⟩ := id D
  obtain ⟨e0, h2⟩ := gp_ln_e h
  clear h
  subst e0
  obtain ⟨ci, h0, h1, h3, h⟩ := gp_row_e h2
  obtain ⟨⟨C, T, N⟩, f1, f2⟩ := gp_nA 13 "GoldPlateLaw" rfl _ (gp_lk_mem h0)
  obtain ⟨ty, c0, c1, c2, c3, c4, c5, c6, c7, c8, c9⟩ := gp_cA _ _ f1
  dsimp only at f1 f2 c1 c2 c3 c4 c5 c6 c7 c8 c9
  have hfs : ∀ j, j < N → defaultValue (ty j) = vp_V ((gp_df ci).map (gp_mv G)) j := by
    intro j hj
    have e1 := c4 j hj
    show _ = ((gp_df ci).map (gp_mv G)).getD j .null
    rw [List.getD_eq_getElem?_getD, List.getElem?_map]
    rw [List.getD_eq_getElem?_getD] at e1
    have hj2 : j < (gp_df ci).length := by rw [c8]; exact hj
    rw [List.getElem?_eq_getElem hj2] at e1 ⊢
    simp only [Option.map_some, Option.getD_some] at e1 ⊢
    rw [← e1]
    cases ty j <;> rfl
  rw [c8] at h3 h
  refine va_new (D := G.2.1) (A := gp_A G) (H0 := s.heap) (C := C) (T := T) (N := N) (ci := ci) (fs := (gp_df ci).map (gp_mv G)) hx hb hts c1 ty c2 hown (hts _ f2) (hts _ c6) (hts _ c7) hK hP (gp_cc_D G V) hS (fun q hq => (show G.1 ≤ q by omega)) f1 hfs h1 h3 hdg (fun q H1 p1 p3 p2 => ?_)
  refine gp_newW hcs p1 p3 (fun e1 z => ?_)
  subst e1
  have p1 : va_P G.2.1 gp_cl (gp_cc G V ++ [(G.1 + V.length, gp_ce G (.inr (ci, gp_df ci)))]) H1 := p1
  rw [gp_cc_push] at p1
  exact h p e s m below meth c H1 locs la F ⟨by rw [List.length_append]; simp; omega, by rw [z, List.length_append]; simp; omega, p1, p2, hl, h1, h3⟩
theorem gl_virtual {idx : Nat} (F : gl_F G b L xs p s m meth c) (D : gp_D G m_Lw s V H locs la ls cs ss) {len : Nat} (hdg : decode code pc = .ok (.invokevirtual idx, len)) (h : gl_step l G b L xs (gl_Go l G b L xs) (.invokevirtual idx) len pc ls st V cs ss) : gl_T l b pc G st cs ss p e s m below meth c H locs la := by
  obtain ⟨hx, hb, hml, hr, hlk, hown, hts, hK, hN, hbs, hX, hbl, h30⟩ := id F
  obtain ⟨hcs, hsz, hP, hS, hl, hc1, hs1⟩ := id D
  obtain ⟨e0, h2⟩ := gp_ln_e h
  clear h
  subst e0
  obtain ⟨⟨kd, M'⟩, h0, h3⟩ := gp_row_e h2
  obtain ⟨⟨as, rest0⟩, hpop, h4⟩ := gp_row_e h3
  obtain ⟨hkd, h⟩ := gp_bt_e h4
  clear h2 h3 h4
  obtain ⟨ok', hw⟩ := gp_mA 13 "GoldPlateLaw" rfl _ (gp_lk_mem h0)
  obtain ⟨pl, pst⟩ := gp_pop_0 hpop
  subst pst
  dsimp only at hw hkd h ok' pl
  split at h
  · rename_i v rest
    obtain ⟨fs, g1, h⟩ := gp_ob_e h
    have hcell : ∃ cell : Cell, H[G.1 + v]? = some cell ∧ cell.vm.isStatics = false ∧ s.vm.findClass M'.1.cls = some cell.cls := by
      obtain ⟨r, k1, k2⟩ := hP _ _ (gp_cc_at g1)
      have hcn : r.1 = M'.1.cls := by
        obtain ⟨ty, c0, c1, c2, c3, c4, c5, c6, c7, c8, c9⟩ := gp_cA _ _ k1
        exact Option.some.inj (c9.symm.trans ok'.2.2.2.1)
      rw [← hcn]
      exact va_recv hK hP k1 (gp_cc_at g1)
    obtain ⟨d', ed, h8, hcc, hss, h⟩ := gp_cl1_e hc1 hs1 h
    have ed : d' = 100 := by omega
    subst ed
    have hroom : (gp_rm 100 M').frames + 1 ≤ room_1.frames ∧ 8 + (M'.2.2.1 + 11) + (gp_rm 100 M').locals ≤ room_1.locals := ⟨(by show 100 + 1 ≤ 2048; decide), (by show 8 + (M'.2.2.1 + 11) + 64 * 100 ≤ 84000; have := ok'.2.2.1; omega)⟩
    have hstk : (as.reverse ++ .ref v :: rest).map (gp_mv G) = (as.map (gp_mv G)).reverse ++ .ref (G.1 + v) :: rest.map (gp_mv G) := by simp [gp_mv]
    have hr8 : ((rest.map (gp_mv G)).map fun v => v.category).sum ≤ 8 := by rw [gp_sz_e]; exact h8
    have hfix : CallFix p m c code 4 s #[Value.ref b] gp_ws "GoldPlateLaw" := ⟨hx, hb, hml, hown, hts⟩
    have hpre : PreV s H M'.1.cls (G.1 + v) (gp_Pre G (.ref v :: as) V) (as.map (gp_mv G)) := ⟨gp_blind G _ V, hcell, gp_pre (as := .ref v :: as) hK hN hsz hP hS⟩
    show W p l e room_1 s m #[Value.ref b] below meth c H locs cs ss _ (F0 m pc la ((as.reverse ++ .ref v :: rest).map (gp_mv G)))
    rw [hstk]
    rcases hw with ⟨e1, f1, f2, f3⟩ | ⟨e1, -⟩ | ⟨e1, -⟩ | ⟨e1, -⟩ | ⟨e1, -⟩ | ⟨e1, -⟩
    · exact gl_back (rest := rest) (M' := M') (a := (Value.ref (G.1 + v) :: as.map (gp_mv G)).toArray) F D hcc hss (va_runV (n := gp_np M') hfix h ⟨callB_of (ws := gp_wM M') (ws' := gp_ws) (gp_np M') hts (gp_good M' ok') rfl rfl rfl (hts _ ok'.2.2.2.2) (hts _ f1) ok'.1 hroom, hts _ f2, hts _ f3⟩ hpre rfl (by rw [List.length_map]; exact pl) hl.1 rfl (lv_room hr8) hdg ⟨hcc, hss⟩)
    · rw [e1] at hkd; exact absurd hkd (by decide)
    · rw [e1] at hkd; exact absurd hkd (by decide)
    · rw [e1] at hkd; exact absurd hkd (by decide)
    · rw [e1] at hkd; exact absurd hkd (by decide)
    · rw [e1] at hkd; exact absurd hkd (by decide)
  · exact h.elim
theorem gl_special {idx : Nat} (F : gl_F G b L xs p s m meth c) (D : gp_D G m_Lw s V H locs la ls cs ss) {len : Nat} (hdg : decode code pc = .ok (.invokespecial idx, len)) (h : gl_step l G b L xs (gl_Go l G b L xs) (.invokespecial idx) len pc ls st V cs ss) : gl_T l b pc G st cs ss p e s m below meth c H locs la := by
  obtain ⟨hx, hb, hml, hr, hlk, hown, hts, hK, hN, hbs, hX, hbl, h30⟩ := id F
  obtain ⟨hcs, hsz, hP, hS, hl, hc1, hs1⟩ := id D
  obtain ⟨e0, h2⟩ := gp_ln_e h
  clear h
  subst e0
  obtain ⟨⟨kd, M'⟩, h0, h3⟩ := gp_row_e h2
  obtain ⟨⟨as, rest0⟩, hpop, h4⟩ := gp_row_e h3
  obtain ⟨hkd, h⟩ := gp_bt_e h4
  clear h2 h3 h4
  obtain ⟨ok', hw⟩ := gp_mA 13 "GoldPlateLaw" rfl _ (gp_lk_mem h0)
  obtain ⟨pl, pst⟩ := gp_pop_0 hpop
  subst pst
  dsimp only at hw hkd h ok' pl
  split at h
  · rename_i v rest
    obtain ⟨d', ed, h8, hcc, hss, h⟩ := gp_cl1_e hc1 hs1 h
    have ed : d' = 100 := by omega
    subst ed
    have hroom : (gp_rm 100 M').frames + 1 ≤ room_1.frames ∧ 8 + (M'.2.2.1 + 11) + (gp_rm 100 M').locals ≤ room_1.locals := ⟨(by show 100 + 1 ≤ 2048; decide), (by show 8 + (M'.2.2.1 + 11) + 64 * 100 ≤ 84000; have := ok'.2.2.1; omega)⟩
    have hstk : (as.reverse ++ .ref v :: rest).map (gp_mv G) = (as.map (gp_mv G)).reverse ++ .ref (G.1 + v) :: rest.map (gp_mv G) := by simp [gp_mv]
    have hr8 : ((rest.map (gp_mv G)).map fun v => v.category).sum ≤ 8 := by rw [gp_sz_e]; exact h8
    have hfix : CallFix p m c code 4 s #[Value.ref b] gp_ws "GoldPlateLaw" := ⟨hx, hb, hml, hown, hts⟩
    have hpre : PreS s H (gp_Pre G (.ref v :: as) V) (.ref (G.1 + v) :: as.map (gp_mv G)) := ⟨gp_blind G _ V, gp_pre (as := .ref v :: as) hK hN hsz hP hS⟩
    show W p l e room_1 s m #[Value.ref b] below meth c H locs cs ss _ (F0 m pc la ((as.reverse ++ .ref v :: rest).map (gp_mv G)))
    rw [hstk]
    obtain ⟨y', b', ml', rt', M''⟩ := M'
    rcases hw with ⟨e1, -⟩ | ⟨e1, -⟩ | ⟨e1, f1, f2, f3, f4⟩ | ⟨e1, -⟩ | ⟨e1, -⟩ | ⟨e1, -⟩
    · rw [e1] at hkd; exact absurd hkd (by decide)
    · rw [e1] at hkd; exact absurd hkd (by decide)
    · dsimp only at f4
      subst f4
      exact gl_back (rest := rest) (M' := (y', b', ml', none, M'')) (a := (Value.ref (G.1 + v) :: as.map (gp_mv G)).toArray) F D hcc hss (va_runI (n := gp_np (y', b', ml', none, M'')) hfix h ⟨callB_of (ws := gp_wM (y', b', ml', none, M'')) (ws' := gp_ws) (gp_np (y', b', ml', none, M'')) hts (gp_good _ ok') rfl rfl rfl (hts _ ok'.2.2.2.2) (hts _ f1) ok'.1 hroom, f3, hts _ f2⟩ hpre rfl (by rw [List.length_map]; exact pl) hl.1 rfl (lv_room hr8) hdg ⟨hcc, hss⟩)
    · rw [e1] at hkd; exact absurd hkd (by decide)
    · rw [e1] at hkd; exact absurd hkd (by decide)
    · rw [e1] at hkd; exact absurd hkd (by decide)
  · exact h.elim
end GL
theorem gl_dec {cc : ByteArray} {T : List (Nat × Instr × Nat)} {pc len : Nat} {i : Instr} (hT : T.all (fun q => decide (decode cc q.1 = .ok q.2)) = true) (h0 : gp_lk T pc = some (i, len)) : decode cc pc = .ok (i, len) := by
  have h1 := List.all_eq_true.mp hT _ (gp_lk_mem h0)
  exact of_decide_eq_true h1
/-- one step of the law -/
theorem gl_gc {b L : Nat} {xs : Nat → Int32} {pc : Nat} {ls : List (Option Value)} {st : List Value} {V : gp_H} {cs ss : Nat} {T : List (Nat × Instr × Nat)} (hT : T.all (fun q => decide (decode code q.1 = .ok q.2)) = true) {i : Instr} {len : Nat} (h0 : gp_lk T pc = some (i, len)) (h : gl_step l G b L xs (gl_Go l G b L xs) i len pc ls st V cs ss) : gl_Go l G b L xs pc ls st V cs ss := by
  intro p e s m below meth c H locs la F D
  have hdg := gl_dec hT h0
  cases i with
  | iload_n => exact gl_iload_n F D hdg h
  | aload_n => exact gl_aload_n F D hdg h
  | istore_n => exact gl_istore_n F D hdg h
  | astore_n => exact gl_astore_n F D hdg h
  | iinc => exact gl_iinc F D hdg h
  | iconst => exact gl_iconst F D hdg h
  | bipush => exact gl_bipush F D hdg h
  | iadd => exact gl_iadd F D hdg h
  | isub => exact gl_isub F D hdg h
  | iand => exact gl_iand F D hdg h
  | dup => exact gl_dup F D hdg h
  | goto => exact gl_goto F D hdg h
  | if_icmp => exact gl_if_icmp F D hdg h
  | tableswitch => exact gl_tableswitch F D hdg h
  | iaload => exact gl_iaload F D hdg h
  | arraylength => exact gl_arraylength F D hdg h
  | ireturn => exact gl_ireturn F D hdg h
  | new => exact gl_new F D hdg h
  | invokevirtual => exact gl_virtual F D hdg h
  | invokespecial => exact gl_special F D hdg h
  | _ => exact h.elim
theorem gl_j {pc t : Nat} {off : Int} {k : Nat → Prop} (h : (pc : Int) + off = (t : Int)) (hk : k t) : gp_j pc off k := by
  unfold gp_j
  rw [h]
  exact hk
theorem gl_cl1 {M M' : gp_M} {as rest : List Value} {V : gp_H} {cs ss : Nat} {k : Option Value → gp_H → Nat → Nat → Prop} (h1 : gp_mc M' = 0) (h2 : gp_ms M' = 0) (h3 : Nat.ble (gp_sz rest) 8 = true) (h : gp_Cal l G d M' as V (fun r V' => k r V' cs ss)) : gp_cl1 l G (d + 1) M M' as rest V cs ss k := by
  unfold gp_cl1
  simp only [h3, gp_bt, h1, h2]
  exact h
theorem gl_inv {b L : Nat} {xs : Nat → Int32} {k : gp_K} {M' : gp_M} {as rest st : List Value} {idx pc a cs ss : Nat} {ls : List (Option Value)} {V : gp_H} (e : gl_c V a = some (gp_o M')) (hl : gp_lk (gp_ml 13) idx = some (0, M')) (hp : gp_pop (gp_np M') [] st = some (as, .ref a :: rest)) (h1 : gp_mc M' = 0) (h2 : gp_ms M' = 0) (h3 : Nat.ble (gp_sz rest) 8 = true) (h : gp_Cal l G 100 M' (.ref a :: as) V (fun r V' => k (pc + 3) ls (r.toList ++ rest) V' cs ss)) : gl_step l G b L xs k (.invokevirtual idx) 3 pc ls st V cs ss := by
  obtain ⟨fs, ev⟩ : ∃ fs, gp_nth V a = some (.inr (gp_o M', fs)) := by
    unfold gl_c at e
    split at e
    · rename_i c fs z
      have e := Option.some.inj e
      subst e
      exact ⟨fs, z⟩
    · cases e
  have q : gp_cl1 l G 101 m_Lw M' (.ref a :: as) rest V cs ss (fun r V' cs' ss' => k (pc + 3) ls (r.toList ++ rest) V' cs' ss') := gl_cl1 (d := 100) h1 h2 h3 h
  simp only [gl_step, gp_ln, gp_row, hl, hp, gp_bt, gp_ob, ev, Nat.beq_refl]
  exact q
theorem gl_ix {i L : Nat} {k : Int} (hi : i + 6 ≤ L) (hL : L ≤ 3072) (hk : 0 ≤ k ∧ k ≤ 5) : vp_in (nI i + Int32.ofInt k) L := by
  have e : Int32.ofInt k = nI k.toNat := by
    rcases (show k = 0 ∨ k = 1 ∨ k = 2 ∨ k = 3 ∨ k = 4 ∨ k = 5 by omega) with rfl | rfl | rfl | rfl | rfl | rfl <;> decide
  rw [e, nI_add]
  exact vp_in_nI (by omega) (by omega)

end
