section
variable {l : Launch} {G : gp_G} {d : Nat} {w : Nat → Nat → Int32} {u : Int64 × (Nat → Int64)} {q : Nat → Nat} {K : Option Value → gp_H → Prop}
/-! ===== the law's loop, its start, the claim ===== -/
set_option maxRecDepth 100000 in
theorem gl_body {b L i : Nat} {xs : Nat → Int32} (hL : L ≤ 3072) (hi0 : i ≤ L + 6) (I : gI w u q) (nx : i + 6 ≤ L → ∀ w u q, gI w u q → gl_Go l G b L xs 1168 [some (.retAddr 3000), some (.ref 0), some (.ref 95), some (.int (nI i))] [] (gv w u q) 141 18742) : gl_Go l G b L xs 18 [some (.retAddr 3000), some (.ref 0), some (.ref 95), some (.int (nI i))] [] (gv w u q) 141 18742 := by
  have cmp : (Int32.ofNat L - (Int8.ofInt 6).toInt32 < nI i) ↔ L < i + 6 := by
    rw [Int32.lt_iff_toInt_lt, show (Int8.ofInt 6).toInt32 = nI 6 from by decide, show Int32.ofNat L = nI L from rfl, pk_sub_toInt (by omega) (by omega), nI_toInt (by omega)]
    omega
  repeat refine gl_gc otl_h rfl ?_
  refine And.intro (fun c => ?_) (fun c => ?_)
  · repeat refine gl_gc otl_e rfl ?_
    exact (show Int32.ofInt 1 = 1 by decide)
  · have hi : i + 6 ≤ L := Nat.le_of_not_lt (fun z => c (cmp.mpr z))
    have nx := nx hi
    repeat refine gl_gc otl_h rfl ?_
    refine And.intro (vp_in_nI (by omega) (by omega)) ?_
    repeat refine gl_gc otl_h rfl ?_
    refine And.intro (fun _ => gl_j (t := 1168) (by decide) (nx _ _ _ I)) (And.intro (by decide) ?_)
    exact And.intro (fun _ => gl_j (t := 168) (by decide) (lc_0 hi hL I nx)) (And.intro (fun _ => gl_j (t := 231) (by decide) (lc_1 hi hL I nx)) (And.intro (fun _ => gl_j (t := 274) (by decide) (lc_2 hi hL I nx)) (And.intro (fun _ => gl_j (t := 307) (by decide) (lc_3 hi hL I nx)) (And.intro (fun _ => gl_j (t := 330) (by decide) (lc_4 hi hL I nx)) (And.intro (fun _ => gl_j (t := 363) (by decide) (lc_5 hi hL I nx)) (And.intro (fun _ => gl_j (t := 386) (by decide) (lc_6 hi hL I nx)) (And.intro (fun _ => gl_j (t := 449) (by decide) (lc_7 hi hL I nx)) (And.intro (fun _ => gl_j (t := 472) (by decide) (lc_8 hi hL I nx)) (And.intro (fun _ => gl_j (t := 495) (by decide) (lc_9 hi hL I nx)) (And.intro (fun _ => gl_j (t := 518) (by decide) (lc_10 hi hL I nx)) (And.intro (fun _ => gl_j (t := 551) (by decide) (lc_11 hi hL I nx)) (And.intro (fun _ => gl_j (t := 584) (by decide) (lc_12 hi hL I nx)) (And.intro (fun _ => gl_j (t := 617) (by decide) (lc_13 hi hL I nx)) (And.intro (fun _ => gl_j (t := 650) (by decide) (lc_14 hi hL I nx)) (And.intro (fun _ => gl_j (t := 683) (by decide) (lc_15 hi hL I nx)) (And.intro (fun _ => gl_j (t := 716) (by decide) (lc_16 hi hL I nx)) (And.intro (fun _ => gl_j (t := 759) (by decide) (lc_17 hi hL I nx)) (And.intro (fun _ => gl_j (t := 812) (by decide) (lc_18 hi hL I nx)) (And.intro (fun _ => gl_j (t := 855) (by decide) (lc_19 hi hL I nx)) (And.intro (fun _ => gl_j (t := 888) (by decide) (lc_20 hi hL I nx)) (And.intro (fun _ => gl_j (t := 911) (by decide) (lc_21 hi hL I nx)) (And.intro (fun _ => gl_j (t := 944) (by decide) (lc_22 hi hL I nx)) (And.intro (fun _ => gl_j (t := 977) (by decide) (lc_23 hi hL I nx)) (And.intro (fun _ => gl_j (t := 1020) (by decide) (lc_24 hi hL I nx)) (And.intro (fun _ => gl_j (t := 1043) (by decide) (lc_25 hi hL I nx)) (And.intro (fun _ => gl_j (t := 1076) (by decide) (lc_26 hi hL I nx)) (And.intro (fun _ => gl_j (t := 1099) (by decide) (lc_27 hi hL I nx)) (And.intro (fun _ => gl_j (t := 1122) (by decide) (lc_28 hi hL I nx)) (And.intro (fun _ => gl_j (t := 1145) (by decide) (lc_29 hi hL I nx)) trivial)))))))))))))))))))))))))))))
theorem gl_loop {b L : Nat} {xs : Nat → Int32} (hL : L ≤ 3072) : ∀ (n i : Nat) (w : Nat → Nat → Int32) (u : Int64 × (Nat → Int64)) (q : Nat → Nat), L ≤ i + n → i ≤ L + 6 → gI w u q → gl_Go l G b L xs 18 [some (.retAddr 3000), some (.ref 0), some (.ref 95), some (.int (nI i))] [] (gv w u q) 141 18742
  | 0, i, w, u, q, h, h2, I => gl_body hL h2 I (fun z => absurd z (by omega))
  | n + 1, i, w, u, q, h, h2, I => gl_body hL h2 I (fun z w u q I => by
    repeat refine gl_gc otl_n rfl ?_
    rw [show nI i + Int32.ofInt 6 = nI (i + 6) from nI_add i 6]
    exact gl_loop hL n (i + 6) w u q (by omega) (by omega) I)
/-- what holds at the start -/
theorem gi_I0 : gI gi_w0 gi_u0 id := by
  have hm : ∀ i, i < 16 → gi_w0 (5 + i) = gi_wm := fun i hi => by
    have e : (Nat.ble 5 (5 + i) && Nat.ble (5 + i) 20) = true := by
      simp only [Bool.and_eq_true, Nat.ble_eq]
      omega
    unfold gi_w0
    rw [e]
    rfl
  refine ⟨0, 0, fun _ => 0, fun _ => 0, 0, fun _ => gy_D0, 0, 0, 0, 0, fun _ => 0, fun _ _ => 0, ?_, ?_, ?_, ?_, ?_, ?_, ?_⟩
  · refine ⟨rfl, rfl, by decide, rfl, ⟨0, by decide, rfl⟩, by decide, fun k _ => ⟨rfl, 0, by decide, rfl⟩, fun i hi => ?_, fun i hi => ⟨⟨0, by decide, rfl⟩, ⟨0, by decide, rfl⟩, ⟨0, by decide, rfl⟩, ⟨0, by decide, rfl⟩, fun b _ h => ?_⟩, fun i hi => absurd hi (by omega), fun i _ hi => ?_⟩
    · rw [hm i hi]
      exact ⟨rfl, rfl, rfl, rfl, rfl, rfl, rfl⟩
    · have h : gb 0 b = true := h
      rw [gb_0] at h
      cases h
    · rw [hm i hi]
      exact ⟨by decide, by decide⟩
  · exact ⟨rfl, rfl, by decide, gm_P0 _, fun i hi => absurd hi (by omega), fun i j hi => absurd hi (by omega)⟩
  · exact ⟨⟨rfl, by decide, fun i hi => absurd hi (by omega)⟩, ⟨rfl, by decide, fun i hi => absurd hi (by omega)⟩, rfl, by decide⟩
  · refine ⟨⟨fun k hk => hk, fun j k _ _ h => h⟩, fun k hk => ⟨⟨rfl, rfl, rfl, ⟨rfl, Nat.zero_le 16, trivial⟩, ?_⟩, ?_, Or.inl rfl⟩⟩
    · exact rfl
    · rcases (show k = 0 ∨ k = 1 ∨ k = 2 ∨ k = 3 ∨ k = 4 ∨ k = 5 by omega) with rfl | rfl | rfl | rfl | rfl | rfl <;> exact ⟨rfl, rfl, rfl, rfl, by decide, trivial, rfl⟩
  · exact ⟨rfl, rfl, by decide, fun i hi => absurd hi (by omega), rfl, rfl, by decide, fun i hi => absurd hi (by omega)⟩
  · exact ⟨rfl, rfl, by decide, fun i _ => ⟨rfl, rfl, rfl, rfl, rfl, rfl, rfl⟩, fun i hi => absurd hi (by omega), fun i _ => ⟨0, by decide, rfl⟩⟩
  · exact ⟨rfl, rfl, by decide, fun t ht => absurd ht (by omega)⟩
set_option maxRecDepth 100000 in
theorem gl_begin {b L : Nat} {xs : Nat → Int32} (hL : L ≤ 3072) : gl_Go l G b L xs 0 [some (.retAddr 3000), none, none, none] [] [] 0 0 := by
  repeat refine gl_gc otl_b rfl ?_
  refine And.intro (by decide) (And.intro (by decide) ?_)
  repeat refine gl_gc otl_b rfl ?_
  refine And.intro (by decide) (And.intro (by decide) ?_)
  refine sp_Gp_init (d := 97) ?_
  repeat refine gl_gc otl_b rfl ?_
  refine And.intro (by decide) (And.intro (by decide) ?_)
  repeat refine gl_gc otl_b rfl ?_
  refine And.intro (by decide) (And.intro (by decide) ?_)
  refine sp_Rf_init (d := 99) rfl ?_
  rw [gi_CR]
  repeat refine gl_gc otl_b rfl ?_
  exact gl_loop hL L 0 gi_w0 gi_u0 id (by omega) (by omega) gi_I0
theorem whole_start {p : Program} {e : Env} {s : State} {m : MethodId} {below : List Frame} {meth : Method} {c : Code} (l : Launch) {b L : Nat} {xs : Nat → Int32} (hL : L ≤ 3072) (C0 : lw_At p s m meth c b L xs) : W p l e room_1 s m #[Value.ref b] below meth c s.heap [] 0 0 (lw_Z below #[Value.ref b] s) (entryFrame m ([Value.ref b] : List Value).toArray 4) := by
  obtain ⟨hx, hb, hr, hml, hown, hts, hX, hbl, hlocks, hgv⟩ := id C0
  obtain ⟨G, g1, g2, hK, hN⟩ := gi_start hts hgv
  have hent := lv_entry ([Value.ref b]) (n := 4) (Nat.le_of_ble_eq_true rfl)
  rw [lg_entry_eq]
  refine gl_begin (G := G) (l := l) hL p e s m below meth c s.heap [] _ ⟨hx, hb, hml, hr, hlocks, hown, fun w hw => hts w (List.mem_filter.mp hw).1, hK, hN, g1, hX, hbl, g2⟩ ⟨by rw [g1]; rfl, by rw [g1]; rfl, fun k q h => by simp [gp_cc] at h, va_S.rf, ⟨hent.1, hent.2.1, rfl, fun i v hv => ?_⟩, by decide, by decide⟩
  match i, hv with
  | 0, hv =>
    have e : v = .retAddr 3000 := (Option.some.inj hv).symm
    subst e
    have h := hent.2.2 (0, .ref b) List.mem_cons_self
    show _ = some (Slot.val (.ref (G.2.2.2 3000)))
    rw [g2]
    exact h
  | 1, hv => cases hv
  | 2, hv => cases hv
  | 3, hv => cases hv
  | i + 4, hv => simp [gp_gl] at hv

set_option maxHeartbeats 4000000 in
theorem lw_walk (l : Launch) (b : Addr) (xs : List Int32) : MetFree l x (headSpec (Jvm.Cond.code x code maxLocals ret :: tables_1) room_1) (lw_P b xs) (fun _ _ _ _ _ => True) lw_Q := by
  refine MetFree.of_bodyS (code := code) (maxLocals := maxLocals) (ret := ret) (by decide) ?_ ?_
  · intro args s m h hn
    obtain ⟨meth, c, h1, h2, h3, h4, h5, h6, -, -⟩ := Cond.code_spec hn (atoms_spec (ws := Jvm.Cond.code x code maxLocals ret :: tables_1) h _ List.mem_cons_self)
    exact ⟨meth, c, h1, h2, h3, h4, h5, h6⟩
  · intro p e s m args below meth c s₁ B hml0 hP _
    obtain ⟨rfl, hx, hbd, hgv⟩ := hP
    obtain ⟨scr, harrAt, hlist, hof, hsmall⟩ := hx
    obtain ⟨hcb, hkn, -, -⟩ := State.arrayAt?_spec harrAt
    have hown : s.vm.findClass R_law = some m.cls := findClass_of_methodNamed B.named
    have hts0 : ∀ c ∈ (Jvm.Cond.code x code maxLocals ret :: tables_1), c.before #[Value.ref b] s = true := atoms_spec (ws := Jvm.Cond.code x code maxLocals ret :: tables_1) B.pre
    have hts : ∀ w ∈ lw_tbl, w.before #[Value.ref b] s = true := k2_hts_sels lw_privs (fun w hw => hts0 w (List.mem_cons_of_mem _ hw)) lw_privs_ok
    have hml : c.maxLocals = 4 := B.maxLocals_eq (hts0 _ List.mem_cons_self)
    have X₀ : Stand p l e room_1 s m #[Value.ref b] below meth c s₁ [] 0 0 := Stand.of_body B
    have hh0 : s₁.heap = s.heap := by rw [B.state]; rfl
    have hsz : scr.slots.size = xs.length := by rw [← Array.length_toList, hlist, List.length_map]
    have hval : ∀ j : Nat, j < xs.length → scr.slots[j]? = some (.int (xs.getD j 0)) := fun j hj => by
      rw [← Array.getElem?_toList, hlist]
      simp [hj]
    have hbl : b < s.heap.size := (Array.getElem?_eq_some_iff.mp hcb).1
    have hX : va_X b xs.length (fun j => xs.getD j 0) s s.heap := ⟨scr, hcb, hof, hkn, hsz, hval⟩
    have K : W p l e room_1 s m #[Value.ref b] below meth c s₁.heap [] 0 0 (lw_Z below #[Value.ref b] s) (entryFrame m ([Value.ref b] : List Value).toArray 4) := by
      rw [hh0]
      exact whole_start l hbd ⟨B.exec, B.bytes, B.returns, hml, hown, hts, hX, hbl, B.notSynchronized, hgv⟩
    obtain ⟨t, a1, o, b1, b2, b3⟩ := K s₁ rfl X₀
    exact ⟨t, o, a1, b1, b2, b3⟩
theorem lw_pre_spec {args : Array Value} {s : State} (h : (Jvm.Cond.and given_1 narrow_1).before args s = true) (hr : rest_1_c.before args s = true) : ∃ (b : Addr) (xs : List Int32), lw_P b xs args s := by
  have hs := flat_of_before _ h
  have hq := flat_of_before _ hr
  have hc : (Cond.count 1).before args s = true := hs _ (by decide +kernel)
  have harr : (Cond.arrayOf (.arg 0) .int).before args s = true := hs _ (by decide +kernel)
  have hle : (Cond.le (.length (.arg 0)) (.int 3072)).before args s = true := hs _ (by decide +kernel)
  have hlen : (Cond.isInt (.length (.arg 0))).before args s = true := hq _ (by decide +kernel)
  have hall : (Cond.all (.arg 0) (.isInt (.elem (.arg 0) (.index 0)))).before args s = true := hq _ (by decide +kernel)
  obtain ⟨b, xs, hb, hx⟩ := State.ints_of_pre rfl harr hlen hall
  have hsm : xs.length < 2 ^ 31 := hx.choose_spec.2.2.2
  have hev : (Term.length (.arg 0)).eval args s none [] s = some (.int xs.length.toInt32) := hx.length_eval hb
  have hv := Cond.le_ints hev (show (Term.int 3072).eval args s none [] s = some (.int 3072) from rfl)
  have hd : xs.length.toInt32 ≤ 3072 := by
    simpa [Cond.before, Cond.holds, hv] using hle
  have hN : xs.length ≤ 3072 := (Int32.ofNat_le_ofNat hsm (by decide)).mp (show Int32.ofNat xs.length ≤ Int32.ofNat 3072 from hd)
  exact ⟨b, xs, Cond.one_arg hc (show args[0]? = some (.ref b) from hb), hx, hN, h⟩
theorem lw_comes (l : Launch) : Comes l x (Jvm.Cond.code x code maxLocals ret :: tables_1) room_1 (fun tb e args s => Calls_1 tb e args s ∧ rest_1 tb e args s ∧ Pre_1 tb e args s)
    (fun _ _ args s o t => lw_Q args s o t) := by
  intro p e ha hc hk s m args below hf hfit hheap happ hpre
  obtain ⟨b, xs, hP⟩ := lw_pre_spec hpre.2.2 hpre.2.1
  obtain ⟨k, o, h1, h2, h3, hQ⟩ := lw_walk l b xs p e ha hc hk s m args below hf ((Spec.applies_iff_loose hf).mp happ).1 hP trivial
  exact ⟨k, o, h1, h2, h3, hQ⟩
theorem lw_frame {s t : State} {o : Outcome} {args : Array Value} (h : Framed s o t [] 600000 7302250) :
    Framed s o t (fieldLocs frame_1_writes args s ++ arrayLocs frame_1_arrays args s ++ staticLocs frame_1_statics s) 600000 7302250 := h
theorem lw_limb (L : Cond) (hL : ∀ (args : Array Value) (s t : State), L.after args s (.returned (some (.int 1))) t = true) :
    ArmFor flags0 classFile x code maxLocals ret World_1 tables_1 room_1 Calls_1 rest_1 Pre_1
      (fun tb e a s o t => postC L tb e a s o t ∧ Framed s o t (fieldLocs frame_1_writes a s ++ arrayLocs frame_1_arrays a s ++ staticLocs frame_1_statics s) 600000 7302250) := by
  intro l _ _ _ p e ha hc hk s m args below hf hfit hheap happ hpre
  obtain ⟨k, o, h1, h2, h3, rfl, hF⟩ := lw_comes l p e ha hc hk s m args below hf hfit hheap happ hpre
  exact ⟨k, _, h1, h2, h3, hL args s _, lw_frame hF⟩
theorem i_vc : Claimed_1_1 ∧ Claimed_1_2 := ⟨lw_limb limb_1_1 (fun args s t => by simp [limb_1_1, Cond.after, Cond.holds, Cond.value]), lw_limb limb_1_2 (fun args s t => Cond.after_iff.mpr (by
  first | (rw [show limb_1_2 = Cond.eq .result (.int 1) from rfl, Cond.eq_ints (x := 1) (y := 1) rfl rfl]; simp; done) | (simp [limb_1_2, Cond.value, Term.eval]; done)))⟩


end
