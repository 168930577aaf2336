section
variable {l : Launch} {G : gp_G} {d : Nat} {w : Nat → Nat → Int32} {u : Int64 × (Nat → Int64)} {q : Nat → Nat} {K : Option Value → gp_H → Prop}
/-! ===== the reference's methods: what a line comes to ===== -/
abbrev gf_L : Type := List (Nat × Int32)
def gf_both (op : Nat) (a b : Int32) : Int32 := if op = 14 then a + b else if op = 15 then a - b else if op = 16 then a * b else if op = 18 then (if a < b then 1 else 0) else if op = 19 then (if a = b then 1 else 0) else if op = 20 then (if b < a then 1 else 0) else if op = 22 then a &&& b else a ||| b
def gf_ev1 (F : Nat → Int32) (i : Nat × Int32) (s : List Int32) : Option (List Int32) :=
  if i.1 < 14 then some ((if i.1 = 0 then i.2 else F i.1) :: s)
  else if i.1 = 17 then (match s with
    | x :: t => if i.2 = 0 then none else some (x / i.2 :: t)
    | [] => none)
  else if i.1 = 21 then (match s with
    | x :: t => some ((1 - x) :: t)
    | [] => none)
  else match s with
    | b :: a :: t => some (gf_both i.1 a b :: t)
    | _ => none
def gf_ev (F : Nat → Int32) : gf_L → List Int32 → Option (List Int32)
  | [], s => some s
  | i :: L, s => match gf_ev1 F i s with
    | some s' => gf_ev F L s'
    | none => none
/-- the steps of a line, as the reference keeps them -/
def gf_seg (f : Nat → Int32) (k : Nat) : Nat → gf_L → Prop
  | _, [] => True
  | i, (op, v) :: L => f (1020 * k + 2 * i) = nI op ∧ (op = 0 ∨ 14 ≤ op → f (1020 * k + 2 * i + 1) = v) ∧ op < 24 ∧ gf_seg f k (i + 1) L
/-- a row holds a pile, the highest last -/
def gf_pile (f : Nat → Int32) : List Int32 → Prop
  | [] => True
  | x :: t => f t.length = x ∧ gf_pile f t
theorem gf_pile_upd {f : Nat → Int32} {x : Int32} : ∀ {t : List Int32} {j : Nat}, t.length ≤ j → gf_pile f t → gf_pile (upd f j x) t
  | [], _, _, _ => trivial
  | y :: t, j, hj, h => by
    simp only [List.length_cons] at hj
    refine ⟨?_, gf_pile_upd (by omega) h.2⟩
    show (if t.length = j then x else f t.length) = y
    rw [if_neg (by omega)]
    exact h.1
theorem gf_pile_top {f : Nat → Int32} {x : Int32} {t : List Int32} {j : Nat} (hj : t.length = j) (h : gf_pile f t) : gf_pile (upd f j x) (x :: t) :=
  ⟨by show (if t.length = j then x else f t.length) = x; rw [if_pos hj], gf_pile_upd (by omega) h⟩
def gr (w : Nat → Nat → Int32) (a : Nat) (f : Nat → Int32) : Nat → Nat → Int32 := fun b => if b = a then f else w b
theorem gr_self (w : Nat → Nat → Int32) (a : Nat) : gr w a (w a) = w := by
  funext b
  by_cases h : b = a
  · subst h; simp [gr]
  · simp [gr, h]
theorem gr_gr (w : Nat → Nat → Int32) (a : Nat) (f g : Nat → Int32) : gr (gr w a f) a g = gr w a g := by
  funext b
  by_cases h : b = a
  · simp [gr, h]
  · simp [gr, h]
set_option maxRecDepth 100000 in
theorem sp_Rf_both {V : gp_H} {x a b : Int32} {op : Nat} (eo : x = nI op) (ho : op = 14 ∨ op = 15 ∨ op = 16 ∨ op = 18 ∨ op = 19 ∨ op = 20 ∨ op = 22 ∨ op = 23) (h : K (some (.int (gf_both op a b))) V) : gp_Cal l G d m_Rf_both [.int x, .int a, .int b] V K := by
  refine gp_enter od_Rf_both rfl ?_
  subst eo
  rcases ho with rfl | rfl | rfl | rfl | rfl | rfl | rfl | rfl
  all_goals
    (repeat refine gp_gc [] od_Rf_both rfl rfl ?_)
    refine And.intro ?_ (And.intro (by decide) (And.intro ?_ (And.intro ?_ (And.intro ?_ (And.intro ?_ (And.intro ?_ (And.intro ?_ (And.intro ?_ (And.intro ?_ (And.intro ?_ trivial))))))))))
    all_goals first | exact fun c => absurd c (by decide) | intro _
    (repeat refine gp_gc [] od_Rf_both rfl rfl ?_)
  · exact h
  · exact h
  · exact h
  · by_cases c : a < b
    · have h : K (some (.int (if a < b then 1 else 0))) V := h
      rw [if_pos c] at h
      refine gb_ge_f' c ?_
      (repeat refine gp_gc [] od_Rf_both rfl rfl ?_)
      exact h
    · have h : K (some (.int (if a < b then 1 else 0))) V := h
      rw [if_neg c] at h
      refine gb_ge_t' c ?_
      (repeat refine gp_gc [] od_Rf_both rfl rfl ?_)
      exact h
  · by_cases c : a = b
    · have h : K (some (.int (if a = b then 1 else 0))) V := h
      rw [if_pos c] at h
      refine gb_ne_f c ?_
      (repeat refine gp_gc [] od_Rf_both rfl rfl ?_)
      exact h
    · have h : K (some (.int (if a = b then 1 else 0))) V := h
      rw [if_neg c] at h
      refine gb_ne_t c ?_
      (repeat refine gp_gc [] od_Rf_both rfl rfl ?_)
      exact h
  · by_cases c : b < a
    · have h : K (some (.int (if b < a then 1 else 0))) V := h
      rw [if_pos c] at h
      refine gb_le_f' c ?_
      (repeat refine gp_gc [] od_Rf_both rfl rfl ?_)
      exact h
    · have h : K (some (.int (if b < a then 1 else 0))) V := h
      rw [if_neg c] at h
      refine gb_le_t' c ?_
      (repeat refine gp_gc [] od_Rf_both rfl rfl ?_)
      exact h
  · exact h
  · exact h
set_option maxRecDepth 100000 in
theorem gl_Rf_comesTo {k b e : Int32} {kn en : Nat} {r : Int32} (ek : k = nI kn) (hk : kn < 7) (ee : e = nI en) (he : en ≤ 510) (h : ∀ f, K (some (.int r)) (gv (gr w 119 f) u q)) : ∀ (L : gf_L) (i : Nat) (s : List Int32) (f : Nat → Int32), i + L.length = en → gf_seg (w 117) kn i L → gf_ev (w 120) L s = some [r] → s.length ≤ i → gf_pile f s → gp_Go l G (d + 1) m_Rf_comesTo K 6 [some (.ref 95), some (.int k), some (.int b), some (.int e), some (.int (nI s.length)), some (.int (nI i)), none, none] [] (gv (gr w 119 f) u q) 0 0 := by
  intro L
  induction L with
  | nil =>
    intro i s f hi seg ev hs hp
    simp only [gf_ev, Option.some.injEq] at ev
    subst ev
    have hi : i = en := by simpa using hi
    subst hi
    refine gp_go od_Rf_comesTo rfl ?_
    (repeat refine gp_gc [6, 48] od_Rf_comesTo rfl rfl ?_)
    refine gb_ge_t (by rw [ee]; exact Int32.le_refl _) ?_
    (repeat refine gp_gc [6, 48] od_Rf_comesTo rfl rfl ?_)
    refine And.intro (vp_in_nI (n := 0) (by decide) (by decide)) ?_
    (repeat refine gp_gc [6, 48] od_Rf_comesTo rfl rfl ?_)
    have e1 : f 0 = r := hp.1
    have hf := h f
    rw [← e1] at hf
    exact hf
  | cons i0 L ih =>
    obtain ⟨op, v⟩ := i0
    intro i s f hi seg ev hs hp
    obtain ⟨s1, s2, s3, seg⟩ := seg
    simp only [List.length_cons] at hi
    have e1 : 1020 * k + 2 * nI i = nI (1020 * kn + 2 * i) := by
      rw [ek]
      show nI 1020 * nI kn + nI 2 * nI i = _
      rw [pk_mul, pk_mul, nI_add]
    have e2 : 1020 * k + 2 * nI i + 1 = nI (1020 * kn + 2 * i + 1) := by rw [e1]; exact nI_1 _
    have c1 : (1020 * k + 2 * nI i).toNatClampNeg = 1020 * kn + 2 * i := by rw [e1]; exact nI_clamp (by omega)
    have c2 : (1020 * k + 2 * nI i + 1).toNatClampNeg = 1020 * kn + 2 * i + 1 := by rw [e2]; exact nI_clamp (by omega)
    have inc : nI i + Int32.ofInt 1 = nI (i + 1) := gp_inc rfl
    have body : ∀ v', (op = 0 ∨ 14 ≤ op → v' = v) → gp_Go l G (d + 1) m_Rf_comesTo K 48 [some (.ref 95), some (.int k), some (.int b), some (.int e), some (.int (nI s.length)), some (.int (nI i)), some (.int (nI op)), some (.int v')] [] (gv (gr w 119 f) u q) 0 0 := by
      intro v' hv'
      simp only [gf_ev] at ev
      refine gp_go od_Rf_comesTo rfl ?_
      (repeat refine gp_gc [6, 48] od_Rf_comesTo rfl rfl ?_)
      by_cases b1 : op < 14
      · have ev1 : gf_ev1 (w 120) (op, v) s = some ((if op = 0 then v else w 120 op) :: s) := if_pos b1
        rw [ev1] at ev
        have ih := ih (i + 1) _ (upd f s.length (if op = 0 then v else w 120 op)) (by omega) seg ev (by simp only [List.length_cons]; omega) (gf_pile_top rfl hp)
        have i1 : vp_in (nI s.length) 520 := vp_in_nI (by omega) (by decide)
        have cs : (nI s.length).toNatClampNeg = s.length := nI_clamp (by omega)
        have incs : nI s.length + Int32.ofInt 1 = nI (s.length + 1) := gp_inc rfl
        refine gb_ge_f (nI_ge b1 (by decide)) ?_
        (repeat refine gp_gc [6, 48] od_Rf_comesTo rfl rfl ?_)
        by_cases b2 : op = 0
        · subst b2
          obtain rfl : v = v' := (hv' (Or.inl rfl)).symm
          rw [if_pos rfl] at ih
          refine gb1_ne_f rfl ?_
          (repeat refine gp_gc [6, 48] od_Rf_comesTo rfl rfl ?_)
          refine And.intro i1 ?_
          (repeat refine gp_gc [6, 48] od_Rf_comesTo rfl rfl ?_)
          rw [incs, inc, cs]
          refine gp_drop 6 ?_
          refine gp_drop 7 ?_
          exact ih
        · rw [if_neg b2] at ih
          refine gb1_ne_t (nI_ne0 (Nat.pos_of_ne_zero b2) (by omega)) ?_
          (repeat refine gp_gc [6, 48] od_Rf_comesTo rfl rfl ?_)
          refine And.intro (vp_in_nI b1 (by decide)) ?_
          (repeat refine gp_gc [6, 48] od_Rf_comesTo rfl rfl ?_)
          refine And.intro i1 ?_
          (repeat refine gp_gc [6, 48] od_Rf_comesTo rfl rfl ?_)
          rw [incs, inc, cs]
          have co : (nI op).toNatClampNeg = op := nI_clamp (by omega)
          rw [co]
          refine gp_drop 6 ?_
          refine gp_drop 7 ?_
          exact ih
      obtain rfl : v = v' := (hv' (Or.inr (by omega))).symm
      refine gb_ge_t (nI_le (a := 14) (by omega) (by omega)) ?_
      (repeat refine gp_gc [6, 48] od_Rf_comesTo rfl rfl ?_)
      by_cases b2 : op = 17
      · subst b2
        cases s with
        | nil => simp [gf_ev1] at ev
        | cons x t =>
          have hv : ¬ v = 0 := by
            intro hv
            simp [gf_ev1, hv] at ev
          have ev1 : gf_ev1 (w 120) (17, v) (x :: t) = some (x / v :: t) := by simp [gf_ev1, hv]
          rw [ev1] at ev
          simp only [List.length_cons] at hs ⊢
          have e3 : nI (t.length + 1) - 1 = nI t.length := nI_pred _
          have c3 : (nI (t.length + 1) - Int32.ofInt 1).toNatClampNeg = t.length := by
            show (nI (t.length + 1) - 1).toNatClampNeg = _
            rw [e3]; exact nI_clamp (by omega)
          have i1 : vp_in (nI (t.length + 1) - 1) 520 := by rw [e3]; exact vp_in_nI (by omega) (by decide)
          have ih := ih (i + 1) _ (upd f t.length (x / v)) (by omega) seg ev (by simp only [List.length_cons]; omega) (gf_pile_top rfl hp.2)
          refine gb_ne_f rfl ?_
          (repeat refine gp_gc [6, 48] od_Rf_comesTo rfl rfl ?_)
          refine And.intro i1 ?_
          (repeat refine gp_gc [6, 48] od_Rf_comesTo rfl rfl ?_)
          refine And.intro hv ?_
          (repeat refine gp_gc [6, 48] od_Rf_comesTo rfl rfl ?_)
          refine And.intro i1 ?_
          (repeat refine gp_gc [6, 48] od_Rf_comesTo rfl rfl ?_)
          have hx : f t.length = x := hp.1
          rw [← hx] at ih
          rw [inc, c3]
          refine gp_drop 6 ?_
          refine gp_drop 7 ?_
          exact ih
      refine gb_ne_t (fun z => b2 ((nI_eq (by omega) (by decide)).mp z)) ?_
      (repeat refine gp_gc [6, 48] od_Rf_comesTo rfl rfl ?_)
      by_cases b3 : op = 21
      · subst b3
        cases s with
        | nil => simp [gf_ev1] at ev
        | cons x t =>
          have ev1 : gf_ev1 (w 120) (21, v) (x :: t) = some ((1 - x) :: t) := by simp [gf_ev1]
          rw [ev1] at ev
          simp only [List.length_cons] at hs ⊢
          have e3 : nI (t.length + 1) - 1 = nI t.length := nI_pred _
          have c3 : (nI (t.length + 1) - Int32.ofInt 1).toNatClampNeg = t.length := by
            show (nI (t.length + 1) - 1).toNatClampNeg = _
            rw [e3]; exact nI_clamp (by omega)
          have i1 : vp_in (nI (t.length + 1) - 1) 520 := by rw [e3]; exact vp_in_nI (by omega) (by decide)
          have ih := ih (i + 1) _ (upd f t.length (1 - x)) (by omega) seg ev (by simp only [List.length_cons]; omega) (gf_pile_top rfl hp.2)
          refine gb_ne_f rfl ?_
          (repeat refine gp_gc [6, 48] od_Rf_comesTo rfl rfl ?_)
          refine And.intro i1 ?_
          (repeat refine gp_gc [6, 48] od_Rf_comesTo rfl rfl ?_)
          refine And.intro i1 ?_
          (repeat refine gp_gc [6, 48] od_Rf_comesTo rfl rfl ?_)
          have hx : f t.length = x := hp.1
          rw [← hx] at ih
          rw [inc, c3]
          refine gp_drop 6 ?_
          refine gp_drop 7 ?_
          exact ih
      refine gb_ne_t (fun z => b3 ((nI_eq (by omega) (by decide)).mp z)) ?_
      (repeat refine gp_gc [6, 48] od_Rf_comesTo rfl rfl ?_)
      cases s with
      | nil => simp [gf_ev1, b1, b2, b3] at ev
      | cons y t =>
        cases t with
        | nil => simp [gf_ev1, b1, b2, b3] at ev
        | cons x t =>
          have ev1 : gf_ev1 (w 120) (op, v) (y :: x :: t) = some (gf_both op x y :: t) := by simp [gf_ev1, b1, b2, b3]
          rw [ev1] at ev
          simp only [List.length_cons] at hs ⊢
          have e4 : nI (t.length + 1 + 1) + Int32.ofInt (-1) = nI (t.length + 1) := pk_m1 _
          have e3 : nI (t.length + 1) - 1 = nI t.length := nI_pred _
          have c3 : (nI (t.length + 1) - Int32.ofInt 1).toNatClampNeg = t.length := by
            show (nI (t.length + 1) - 1).toNatClampNeg = _
            rw [e3]; exact nI_clamp (by omega)
          have c4 : (nI (t.length + 1)).toNatClampNeg = t.length + 1 := nI_clamp (by omega)
          have i1 : vp_in (nI (t.length + 1) - 1) 520 := by rw [e3]; exact vp_in_nI (by omega) (by decide)
          have i2 : vp_in (nI (t.length + 1)) 520 := vp_in_nI (by omega) (by decide)
          have ih := ih (i + 1) _ (upd f t.length (gf_both op x y)) (by omega) seg ev (by simp only [List.length_cons]; omega) (gf_pile_top rfl hp.2.2)
          rw [e4]
          refine And.intro i1 ?_
          (repeat refine gp_gc [6, 48] od_Rf_comesTo rfl rfl ?_)
          refine And.intro i2 ?_
          (repeat refine gp_gc [6, 48] od_Rf_comesTo rfl rfl ?_)
          refine sp_Rf_both (op := op) rfl (by omega) ?_
          (repeat refine gp_gc [6, 48] od_Rf_comesTo rfl rfl ?_)
          refine And.intro i1 ?_
          (repeat refine gp_gc [6, 48] od_Rf_comesTo rfl rfl ?_)
          have hx : f t.length = x := hp.2.1
          have hy : f (t.length + 1) = y := hp.1
          rw [← hx, ← hy] at ih
          rw [inc, c3, c4]
          refine gp_drop 6 ?_
          refine gp_drop 7 ?_
          exact ih
    refine gp_go od_Rf_comesTo rfl ?_
    (repeat refine gp_gc [6, 48] od_Rf_comesTo rfl rfl ?_)
    refine gb_ge_f (by rw [ee]; exact nI_ge (by omega) (by omega)) ?_
    (repeat refine gp_gc [6, 48] od_Rf_comesTo rfl rfl ?_)
    refine And.intro (show vp_in (1020 * k + 2 * nI i) 7140 by rw [e1]; exact vp_in_nI (by omega) (by decide)) ?_
    (repeat refine gp_gc [6, 48] od_Rf_comesTo rfl rfl ?_)
    refine And.intro (show vp_in (1020 * k + 2 * nI i + 1) 7140 by rw [e2]; exact vp_in_nI (by omega) (by decide)) ?_
    (repeat refine gp_gc [6, 48] od_Rf_comesTo rfl rfl ?_)
    have r1 : w 117 (1020 * k + 2 * nI i).toNatClampNeg = nI op := by rw [c1]; exact s1
    rw [← r1] at body
    have body2 := body (w 117 (1020 * k + 2 * nI i + 1).toNatClampNeg) (fun z => by rw [c2]; exact s2 z)
    exact body2
set_option maxRecDepth 100000 in
theorem sp_Rf_comesTo {k b e : Int32} {kn bn : Nat} {L : gf_L} {r : Int32} (ek : k = nI kn) (hk : kn < 7) (eb : b = nI bn) (ee : e = nI (bn + L.length)) (he : bn + L.length ≤ 510) (seg : gf_seg (w 117) kn bn L) (ev : gf_ev (w 120) L [] = some [r]) (h : ∀ f, K (some (.int r)) (gv (gr w 119 f) u q)) : gp_Cal l G (d + 1) m_Rf_comesTo [.ref 95, .int k, .int b, .int e] (gv w u q) K := by
  refine gp_enter od_Rf_comesTo rfl ?_
  (repeat refine gp_gc [6, 48] od_Rf_comesTo rfl rfl ?_)
  have key := gl_Rf_comesTo (l := l) (G := G) (d := d) (b := b) ek hk ee he h L bn [] (w 119) rfl seg ev (Nat.zero_le _) trivial
  rw [gr_self, ← eb] at key
  exact key

end
