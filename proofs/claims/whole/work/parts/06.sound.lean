/-! ===== the small machine's steps are the large one's ===== -/
theorem gp_N.same {G : gp_G} {U U' : State} {H : Heap} (hv : U'.vm = U.vm) (h : gp_N G U H) : gp_N G U' H := by
  obtain ⟨h1, h2, h3, h4, h5, h6, h7⟩ := h
  have ha : U.vm.Alike U'.vm := by rw [hv]; exact Vm.Alike.refl U.vm
  refine ⟨fun q hq => va_Nw.same rfl hv.symm (h1 q hq), h2.moved ha, h3.moved ha, fun i q hq => (h4 i q hq).same hv, h5.moved ha, h6.moved ha, ?_⟩
  rcases h7 with h7 | h7
  · exact Or.inl (h7.moved ha)
  · exact Or.inr (h7.moved ha)
theorem gp_N.go {G : gp_G} {s U : State} {locs : List Loc} (h : gp_N G s s.heap) (hW : s.WarmedH U.vm) (hS : va_S (gp_A G) s.heap U.heap locs) : gp_N G U U.heap := by
  obtain ⟨h1, h2, h3, h4, h5, h6, h7⟩ := h
  have ha : s.vm.Alike U.vm := hW.alike
  refine ⟨fun q hq => va_Nw.warmM hW (h1 q hq), h2.moved ha, h3.moved ha, fun i q hq => (h4 i q hq).warm hW, (h5.moved ha).kept hS.2.1, (h6.moved ha).kept hS.2.1, ?_⟩
  rcases h7 with h7 | h7
  · exact Or.inl ((h7.moved ha).kept hS.2.1)
  · exact Or.inr ((h7.moved ha).kept hS.2.1)
theorem gp_blind (G : gp_G) (as : List Value) (V : gp_H) : FrameBlind (gp_Pre G as V) := by
  intro a U g mk h
  obtain ⟨h0, h1, h2, h3, h4⟩ := h
  exact ⟨h0, h1, h2, va_K.moved (u := U) (U := U.calling g mk a) (Vm.Alike.refl U.vm) h3, gp_N.same (U := U) (U' := U.calling g mk a) rfl h4⟩
theorem gp_good (M : gp_M) (h : gp_okp M) : GoodIn gp_ws (gp_wM M) := by
  intro w hw
  have hm : w ∈ gp_ws := by
    rcases List.mem_cons.mp hw with rfl | hw
    · exact h.2.1
    · exact hw
  exact ⟨hm, good_of_word (List.mem_filter.mp hm).2⟩
/-- what stays through a method's walk -/
def gp_F (G : gp_G) (M : gp_M) (p : Program) (s : State) (m : MethodId) (args : Array Value) (meth : Method) (c : Code) : Prop :=
  p.tables.exec = Jvm.exec ∧ c.code = M.2.1 ∧ c.maxLocals = M.2.2.1 ∧ meth.sig.returnType = M.2.2.2.1 ∧ meth.locks = false ∧ s.vm.findClass M.1.cls = some m.cls ∧ meth.name = M.1.name ∧ (∀ w ∈ gp_ws, w.before args s = true) ∧ va_K G.2.1 gp_cl (gp_tl G) s ∧ gp_N G s s.heap ∧ G.1 ≤ s.heap.size
/-- what moves -/
def gp_D (G : gp_G) (M : gp_M) (s : State) (V : gp_H) (H : Heap) (locs : List Loc) (la : Array Slot) (ls : List (Option Value)) (cs ss : Nat) : Prop :=
  s.heap.size + cs = G.1 + V.length ∧ H.size = G.1 + V.length ∧ va_P G.2.1 gp_cl (gp_cc G V) H ∧ va_S (gp_A G) s.heap H locs ∧ gp_lr G la M.2.2.1 ls ∧ cs ≤ gp_mc M ∧ ss ≤ gp_ms M
def gp_Go (l : Launch) (G : gp_G) (d : Nat) (M : gp_M) (K : Option Value → gp_H → Prop) : gp_K := fun pc ls st V cs ss =>
  ∀ (p : Program) (e : Env) (s : State) (m : MethodId) (args : Array Value) (below : List Frame) (meth : Method) (c : Code) (H : Heap) (locs : List Loc) (la : Array Slot), gp_F G M p s m args meth c → gp_D G M s V H locs la ls cs ss →
    W p l e (gp_rm d M) s m args below meth c H locs cs ss (MQ below (gp_Post G (gp_mc M) K) args s (gp_mc M) (gp_ms M) (gp_A G)) (F0 m pc la (st.map (gp_mv G)))
def gp_okd (M : gp_M) : Prop := plainName M.1.cls = true ∧ ((gp_cd M).all (fun q => decide (decode M.2.1 q.1 = .ok q.2))) = true ∧ gp_okp M
theorem gp_okd.at {M : gp_M} (h : gp_okd M) {pc : Nat} {i : Instr} {len : Nat} (h0 : gp_lk (gp_cd M) pc = some (i, len)) : decode M.2.1 pc = .ok (i, len) := by
  have h1 := List.all_eq_true.mp h.2.1 _ (gp_lk_mem h0)
  exact of_decide_eq_true h1
section GS
variable {p : Program} {l : Launch} {e : Env} {R : Room} {s : State} {m : MethodId} {args : Array Value} {below : List Frame} {meth : Method} {c : Code} {H H1 : Heap} {locs locs1 : List Loc} {cs ss : Nat} {Q : State → Prop} {G : gp_G} {V V1 : gp_H} {g : JFrame}
/-- the heap's size: no more than was made, no less than our cells -/
theorem gp_szW (hbs : G.1 ≤ s.heap.size) (hcs : s.heap.size + cs = G.1 + V.length) (hP : va_P G.2.1 gp_cl (gp_cc G V) H1) (hS : va_S (gp_A G) s.heap H1 locs1) (kk : H1.size = G.1 + V.length → W p l e R s m args below meth c H1 locs1 cs ss Q g) : W p l e R s m args below meth c H1 locs1 cs ss Q g := by
  intro T hT X
  have h1 := X.heapSize
  rw [hT] at h1
  have h2 : G.1 + V.length ≤ H1.size := by
    rcases Nat.eq_zero_or_pos V.length with h0 | h0
    · have := hS.1
      omega
    · obtain ⟨e, he⟩ : ∃ e, V[V.length - 1]? = some e := ⟨V[V.length - 1], List.getElem?_eq_getElem (by omega)⟩
      have h3 : G.1 + (V.length - 1) < H1.size := (hP _ _ (gp_cc_at he)).lt
      omega
  exact kk (by omega) T hT X
/-- a new cell lies behind ours -/
theorem gp_newW {q : Nat} {x : va_E} (hcs : s.heap.size + cs = G.1 + V.length) (hP : va_P G.2.1 gp_cl (gp_cc G V ++ [(q, x)]) H1) (hD : va_D (gp_A G) (gp_cc G V ++ [(q, x)])) (kk : q = G.1 + V.length → H1.size = G.1 + V.length + 1 → W p l e R s m args below meth c H1 locs1 (cs + 1) ss Q g) : W p l e R s m args below meth c H1 locs1 (cs + 1) ss Q g := by
  intro T hT X
  have h1 := X.heapSize
  rw [hT] at h1
  have hq : (gp_cc G V ++ [(q, x)])[V.length]? = some (q, x) := by
    rw [List.getElem?_append_right (by rw [gp_cc_len]; exact Nat.le_refl _), gp_cc_len, Nat.sub_self]
    rfl
  have h2 : q < H1.size := (hP _ _ hq).lt
  have h3 : G.1 ≤ q := hD.2 _ _ hq
  have h4 : ¬ q < G.1 + V.length := by
    intro h
    obtain ⟨e, he⟩ : ∃ e, V[q - G.1]? = some e := ⟨V[q - G.1], List.getElem?_eq_getElem (by omega)⟩
    have h5 : (gp_cc G V ++ [(q, x)])[q - G.1]? = some (G.1 + (q - G.1), gp_ce G e) := by
      rw [List.getElem?_append_left (by rw [gp_cc_len]; omega)]
      exact gp_cc_at he
    have h6 := hD.1 _ _ _ _ h5 hq (show G.1 + (q - G.1) = q by omega)
    omega
  exact kk (by omega) (by omega) T hT X
/-- behind a call -/
theorem gp_callW {mc ms pc : Nat} {la : Array Slot} {st0 : List Value} {rest : List Value} {Kc : Option Value → gp_H → Prop} {a : Array Value} (hr : va_Run p l e R s m args below meth c H locs cs ss mc ms (F0 m pc la st0) (rest.map (gp_mv G)) (gp_Post G mc Kc a) (gp_A G)) (hS : va_S (gp_A G) s.heap H locs) (hsz : H.size = G.1 + V.length)
    (kk : ∀ (r : Option Value) (V' : gp_H) (H1 : Heap) (locs1 : List Loc), Kc r V' → H1.size = G.1 + V'.length → V'.length = V.length + mc → va_P G.2.1 gp_cl (gp_cc G V') H1 → va_S (gp_A G) s.heap H1 locs1 → W p l e R s m args below meth c H1 locs1 (cs + mc) (ss + ms) Q (F0 m (pc + 3) la ((r.toList ++ rest).map (gp_mv G)))) : W p l e R s m args below meth c H locs cs ss Q (F0 m pc la st0) := by
  intro T hT X
  obtain ⟨v, st₀, t, T', L, h0, X', hL, e1, e2, ⟨⟨r, V', hv, hk, hz, hp⟩, hz2, hF⟩, st⟩ := hr T hT X
  have hv : v = r.map (gp_mv G) := by injection hv
  subst hv
  obtain ⟨hF1, hF2⟩ := hF
  rw [h0] at hz2 hF1 hF2
  obtain ⟨t2, a1, b1⟩ := kk r V' T'.heap (locs ++ L) hk (by rw [e1]; exact hz) (by omega) (by rw [e1]; exact hp)
    ⟨Nat.le_trans hS.1 (by rw [e1]; exact hF1), fun q h1 h2 => by rw [e1, hF2 q (Nat.lt_of_lt_of_le h1 hS.1) h2]; exact hS.2.1 q h1 h2, fun q hq => by
      rcases List.mem_append.mp hq with h | h
      · exact hS.2.2 q h
      · exact hL q h⟩ T' rfl X'
  refine ⟨t2, st t2 ?_, b1⟩
  have e3 : (r.map (gp_mv G)).toList ++ rest.map (gp_mv G) = (r.toList ++ rest).map (gp_mv G) := by cases r <;> simp
  show Steps p.tables e below (T'.setTop { (F0 m pc la st0) with pc := pc + 3, stack := (r.map (gp_mv G)).toList ++ rest.map (gp_mv G) }) t2
  rw [e3]
  exact a1
end GS
theorem gp_pre {G : gp_G} {s : State} {H : Heap} {locs : List Loc} {V : gp_H} {as : List Value} (hK : va_K G.2.1 gp_cl (gp_tl G) s) (hN : gp_N G s s.heap) (hsz : H.size = G.1 + V.length) (hP : va_P G.2.1 gp_cl (gp_cc G V) H) (hS : va_S (gp_A G) s.heap H locs) : ∀ U : State, U.heap = H → s.WarmedH U.vm → gp_Pre G as V (as.map (gp_mv G)).toArray U := by
  intro U hU hW
  subst hU
  exact ⟨rfl, hsz, hP, va_K.moved hW.alike hK, hN.go hW hS⟩
