section
variable {l : Launch} {G : gp_G} {d : Nat} {w : Nat → Nat → Int32} {u : Int64 × (Nat → Int64)} {q : Nat → Nat} {K : Option Value → gp_H → Prop}
/-! ===== the class's sums: lines, prices, ranks ===== -/
theorem gf_ev1_len {F : Nat → Int32} {i : Nat × Int32} {s s' : List Int32} (h : gf_ev1 F i s = some s') : s'.length ≤ s.length + 1 ∧ (¬ i.1 < 14 → s'.length ≤ s.length) := by
  unfold gf_ev1 at h
  by_cases b1 : i.1 < 14
  · rw [if_pos b1] at h
    have h := Option.some.inj h
    rw [← h]
    exact ⟨by simp, fun z => absurd b1 z⟩
  rw [if_neg b1] at h
  by_cases b2 : i.1 = 17
  · rw [if_pos b2] at h
    cases s with
    | nil => simp at h
    | cons x t =>
      simp only at h
      by_cases b3 : i.2 = 0
      · simp [b3] at h
      · rw [if_neg b3] at h
        have h := Option.some.inj h
        rw [← h]
        simp
  rw [if_neg b2] at h
  by_cases b3 : i.1 = 21
  · rw [if_pos b3] at h
    cases s with
    | nil => simp at h
    | cons x t =>
      have h := Option.some.inj h
      rw [← h]
      simp
  rw [if_neg b3] at h
  cases s with
  | nil => simp at h
  | cons x t =>
    cases t with
    | nil => simp at h
    | cons y t =>
      have h := Option.some.inj h
      rw [← h]
      simp only [List.length_cons]
      omega
def gc_F (w : Nat → Nat → Int32) : Nat → Int32
  | 0 => 0
  | j + 1 => w 53 j
theorem gc_F_congr {w W : Nat → Nat → Int32} (h : W 53 = w 53) : gc_F W = gc_F w := by
  funext j
  cases j with
  | zero => rfl
  | succ j => exact congrFun h j
section
variable {m : Nat}
theorem gU_ma {w W : Nat → Nat → Int32} (h : gU w W) {m j : Nat} (hm : m < 7) (hj : j ≤ 4) : W (gp_ma m + j) = w (gp_ma m + j) := by
  have b := gp_ma_b hm j hj
  exact h _ b.2.2.2.2.2.1 b.2.2.2.2.2.2
set_option maxRecDepth 100000 in
theorem gl_Su_work {a b : Int32} {bn : Nat} {r : Int32} (hm : m < 7) (eb : b = nI bn) (hb : bn ≤ 500) (h : ∀ W, gU w W → K (some (.int r)) (gv W u q)) : ∀ (L : gf_L) (i : Nat) (s : List Int32) (W : Nat → Nat → Int32), i + L.length = bn → gc_seg (w (gp_ma m + 1)) i L → gf_eb (gc_F w) L s = some [r] → s.length ≤ 64 → gU w W → W 52 2 = nI s.length → gf_pile (W 54) s → gp_Go l G (d + 2) m_Su_work K 8 [some (.ref 52), some (.ref (gp_ma m + 1)), some (.int a), some (.int b), some (.int (nI i))] [] (gv W u q) 0 0 := by
  intro L
  induction L with
  | nil =>
    intro i s W hi seg ev hs hU et hp
    simp only [gf_eb, Option.some.injEq] at ev
    subst ev
    have hi : i = bn := by simpa using hi
    subst hi
    refine gp_go od_Su_work rfl ?_
    (repeat refine gp_gc [8] od_Su_work rfl rfl ?_)
    refine gb_ge_t (by rw [eb]; exact Int32.le_refl _) ?_
    (repeat refine gp_gc [8] od_Su_work rfl rfl ?_)
    have et : W 52 2 = nI 1 := et
    refine gb1_le_f (by rw [et]; decide) ?_
    (repeat refine gp_gc [8] od_Su_work rfl rfl ?_)
    have e1 : (W 52 2 - Int32.ofInt 1).toNatClampNeg = 0 := by rw [et]; rfl
    refine And.intro (by rw [et]; exact vp_in_nI (n := 0) (by decide) (by decide)) ?_
    (repeat refine gp_gc [8] od_Su_work rfl rfl ?_)
    rw [e1]
    have e2 : W 54 0 = r := hp.1
    rw [e2]
    exact h W hU
  | cons i0 L ih =>
    obtain ⟨op, v⟩ := i0
    intro i s W hi seg ev hs hU et hp
    obtain ⟨s1, s2, s3, s4, seg⟩ := seg
    simp only [List.length_cons] at hi
    have ci : (nI i).toNatClampNeg = i := nI_clamp (by omega)
    have i1 : vp_in (nI i) 500 := vp_in_nI (by omega) (by decide)
    have ew : W (gp_ma m + 1) = w (gp_ma m + 1) := gU_ma hU hm (by decide)
    have e53 : W 53 = w 53 := hU 53 (by decide) (by decide)
    unfold gf_eb at ev
    by_cases c : op < 14 ∧ 64 ≤ s.length
    · rw [if_pos c] at ev; simp at ev
    rw [if_neg c] at ev
    cases e : gf_ev1 (gc_F w) (op, v) s with
    | none => rw [e] at ev; simp at ev
    | some s' =>
      rw [e] at ev
      have ln := gf_ev1_len e
      refine gp_go od_Su_work rfl ?_
      (repeat refine gp_gc [8] od_Su_work rfl rfl ?_)
      refine gb_ge_f (by rw [eb]; exact nI_ge (by omega) (by omega)) ?_
      (repeat refine gp_gc [8] od_Su_work rfl rfl ?_)
      refine gs_len (gv_ma1 hm) ?_
      (repeat refine gp_gc [8] od_Su_work rfl rfl ?_)
      refine gb_ge_f (nI_ge (b := 500) (by omega) (by decide)) ?_
      (repeat refine gp_gc [8] od_Su_work rfl rfl ?_)
      refine gs_ald (gv_ma1 hm) i1 ?_
      (repeat refine gp_gc [8] od_Su_work rfl rfl ?_)
      refine gs_ald (gv_ma1 hm) i1 ?_
      (repeat refine gp_gc [8] od_Su_work rfl rfl ?_)
      rw [ci, ew]
      refine sp_Su_step (d := d) (op := op) (v := v) (F := gc_F w) s1 s2 s3 s4 (fun j hj => by rw [e53]; rfl) e (fun z => by omega) hs et hp (fun W2 hU2 et2 hp2 => ?_)
      (repeat refine gp_gc [8] od_Su_work rfl rfl ?_)
      have inc : nI i + Int32.ofInt 1 = nI (i + 1) := gp_inc rfl
      rw [inc]
      refine ih (i + 1) s' W2 (by omega) seg ev ?_ (gU_t hU hU2) et2 hp2
      by_cases c1 : op < 14
      · have := ln.1
        omega
      · have := ln.2 c1
        omega
set_option maxRecDepth 100000 in
theorem sp_Su_work {a b : Int32} {an : Nat} {L : gf_L} {r : Int32} (hm : m < 7) (ea : a = nI an) (eb : b = nI (an + L.length)) (hb : an + L.length ≤ 500) (seg : gc_seg (w (gp_ma m + 1)) an L) (ev : gf_eb (gc_F w) L [] = some [r]) (h : ∀ W, gU w W → K (some (.int r)) (gv W u q)) : gp_Cal l G (d + 2) m_Su_work [.ref 52, .ref (gp_ma m + 1), .int a, .int b] (gv w u q) K := by
  refine gp_enter od_Su_work rfl ?_
  (repeat refine gp_gc [8] od_Su_work rfl rfl ?_)
  have key := gl_Su_work (l := l) (G := G) (d := d) (a := a) hm eb hb h L an [] (gw w 52 2 0) rfl seg ev (Nat.zero_le _) (gU_w (gU_r w) (Or.inl rfl)) rfl trivial
  rw [← ea] at key
  exact key
theorem gc_wE {n : Nat} {L : gf_L} (hn : n ≤ 64) (h : gy_wE n L) (F : Nat → Int32) : gf_eb F L [] = some [gf_val F L] := by
  obtain ⟨r, hr⟩ := h F [] (by simpa using hn)
  have e := gf_eb_ev hr
  unfold gf_val
  rw [e]
  exact hr
theorem gc_wB {n : Nat} {L : gf_L} (hn : n ≤ 64) (h : gy_wB n L) (F : Nat → Int32) : gf_eb F L [] = some [gf_val F L] ∧ (gf_val F L = 0 ∨ gf_val F L = 1) := by
  obtain ⟨r, hr2, hr⟩ := h F [] (by simpa using hn)
  have e := gf_eb_ev hr
  unfold gf_val
  rw [e]
  exact ⟨hr, hr2⟩
theorem gc_clip (v : Int32) : (if 0 < (if v < 999 then v else 999) then (if v < 999 then v else 999) else 0) = gf_clip v := by
  have e0 : (0 : Int32).toInt = 0 := by decide
  have e9 : (999 : Int32).toInt = 999 := by decide
  unfold gf_clip
  by_cases b1 : v < 999
  · rw [if_pos b1]
    by_cases b2 : 0 < v
    · rw [if_pos b2, if_neg (fun z => by rw [Int32.lt_iff_toInt_lt] at z b2; omega), if_neg (fun z => by rw [Int32.lt_iff_toInt_lt] at z b1; omega)]
    · rw [if_neg b2]
      by_cases b3 : v < 0
      · rw [if_pos b3]
      · rw [if_neg b3, if_neg (fun z => by rw [Int32.lt_iff_toInt_lt] at z b1; omega)]
        apply Int32.toInt_inj.mp
        rw [Int32.lt_iff_toInt_lt] at b2 b3
        omega
  · rw [if_neg b1, if_pos (by decide), if_neg (fun z => by rw [Int32.lt_iff_toInt_lt] at z b1; omega)]
    by_cases b3 : 999 < v
    · rw [if_pos b3]
    · rw [if_neg b3]
      apply Int32.toInt_inj.mp
      rw [Int32.lt_iff_toInt_lt] at b1 b3
      omega
/-- the price lines of the mind at m, as the class keeps them, from the i-th on -/
def gc_prs (w : Nat → Nat → Int32) (m : Nat) : Nat → List (gf_L × gf_L) → Prop
  | _, [] => True
  | i, (E, B) :: t => (∃ a : Nat, w (gp_ma m + 2) i = nI a ∧ w (gp_ma m + 3) i = nI (a + E.length) ∧ w (gp_ma m + 4) i = nI (a + E.length + B.length) ∧ a + E.length + B.length ≤ 500 ∧ gc_seg (w (gp_ma m + 1)) a E ∧ gc_seg (w (gp_ma m + 1)) (a + E.length) B) ∧ gy_wE 3 E ∧ (B = [] ∨ gy_wB 22 B) ∧ gc_prs w m (i + 1) t
set_option maxRecDepth 100000 in
theorem sp_Mi_priceBy {PL : List (gf_L × gf_L)} (hm : m < 7) (en : w (gp_ma m) 8 = nI PL.length) (hn : PL.length ≤ 16) (hp : gc_prs w m 0 PL) (h : ∀ W, gU w W → K (some (.int (gf_price (gc_F w) PL))) (gv W u q)) : gp_Cal l G (d + 3) m_Mi_priceBy [.ref (gp_ma m), .ref 52] (gv w u q) K := by
  refine gp_enter od_Mi_priceBy rfl ?_
  (repeat refine gp_gc [2, 31, 58] od_Mi_priceBy rfl rfl ?_)
  have key : ∀ (t : List (gf_L × gf_L)) (i : Nat) (W : Nat → Nat → Int32), i + t.length = PL.length → gc_prs w m i t → (∀ W, gU w W → K (some (.int (gf_price (gc_F w) t))) (gv W u q)) → gU w W → gp_Go l G (d + 3) m_Mi_priceBy K 2 [some (.ref (gp_ma m)), some (.ref 52), some (.int (nI i)), none, none] [] (gv W u q) 0 0 := by
    intro t
    induction t with
    | nil =>
      intro i W hi _ h hU
      have e0 : W (gp_ma m) = w (gp_ma m) := gU_ma (j := 0) hU hm (by decide)
      refine gp_go od_Mi_priceBy rfl ?_
      (repeat refine gp_gc [2, 31, 58] od_Mi_priceBy rfl rfl ?_)
      refine gs_get (gv_mind hm) rfl rfl ?_
      (repeat refine gp_gc [2, 31, 58] od_Mi_priceBy rfl rfl ?_)
      refine gb_ge_t (by rw [e0, en]; exact nI_le (by simp at hi; omega) (by simp at hi; omega)) ?_
      (repeat refine gp_gc [2, 31, 58] od_Mi_priceBy rfl rfl ?_)
      exact h W hU
    | cons EB t ih =>
      obtain ⟨E, B⟩ := EB
      intro i W hi hp h hU
      obtain ⟨⟨a, g1, g2, g3, g4, g5, g6⟩, wE, wB, hp⟩ := hp
      simp only [List.length_cons] at hi
      have i1 : vp_in (nI i) 16 := vp_in_nI (by omega) (by decide)
      have ci : (nI i).toNatClampNeg = i := nI_clamp (by omega)
      have inc : nI i + Int32.ofInt 1 = nI (i + 1) := gp_inc rfl
      have e0 : W (gp_ma m) = w (gp_ma m) := gU_ma (j := 0) hU hm (by decide)
      have e2 : W (gp_ma m + 2) = w (gp_ma m + 2) := gU_ma hU hm (by decide)
      have e3 : W (gp_ma m + 3) = w (gp_ma m + 3) := gU_ma hU hm (by decide)
      have e4 : W (gp_ma m + 4) = w (gp_ma m + 4) := gU_ma hU hm (by decide)
      have pay : ∀ (kk : Int32) (W : Nat → Nat → Int32), gU w W → (B = [] ∨ gf_val (gc_F w) B = 1) → gp_Go l G (d + 3) m_Mi_priceBy K 58 [some (.ref (gp_ma m)), some (.ref 52), some (.int (nI i)), some (.int kk), none] [] (gv W u q) 0 0 := by
        intro kk W hU hB
        have e2 : W (gp_ma m + 2) = w (gp_ma m + 2) := gU_ma hU hm (by decide)
        have e3 : W (gp_ma m + 3) = w (gp_ma m + 3) := gU_ma hU hm (by decide)
        have e1 : W (gp_ma m + 1) = w (gp_ma m + 1) := gU_ma hU hm (by decide)
        have e53 : W 53 = w 53 := hU 53 (by decide) (by decide)
        refine gp_go od_Mi_priceBy rfl ?_
        (repeat refine gp_gc [2, 31, 58] od_Mi_priceBy rfl rfl ?_)
        refine gs_get (gv_mind hm) rfl rfl ?_
        (repeat refine gp_gc [2, 31, 58] od_Mi_priceBy rfl rfl ?_)
        refine gs_get (gv_mind hm) rfl rfl ?_
        (repeat refine gp_gc [2, 31, 58] od_Mi_priceBy rfl rfl ?_)
        refine gs_ald (gv_ma2 hm) i1 ?_
        (repeat refine gp_gc [2, 31, 58] od_Mi_priceBy rfl rfl ?_)
        refine gs_get (gv_mind hm) rfl rfl ?_
        (repeat refine gp_gc [2, 31, 58] od_Mi_priceBy rfl rfl ?_)
        refine gs_ald (gv_ma3 hm) i1 ?_
        (repeat refine gp_gc [2, 31, 58] od_Mi_priceBy rfl rfl ?_)
        rw [ci, e2, e3]
        refine sp_Su_work (d := d) (w := W) (L := E) hm g1 g2 (by omega) (by rw [e1]; exact g5) (gc_wE (by decide) wE _) (fun W2 hU2 => ?_)
        rw [gc_F_congr e53]
        have h := h W2 (gU_t hU hU2)
        rw [gf_price, if_pos hB, ← gc_clip] at h
        (repeat refine gp_gc [2, 31, 58] od_Mi_priceBy rfl rfl ?_)
        exact h
      have skip : ∀ (kk : Int32) (W : Nat → Nat → Int32), gU w W → ¬ (B = [] ∨ gf_val (gc_F w) B = 1) → gp_Go l G (d + 3) m_Mi_priceBy K 2 [some (.ref (gp_ma m)), some (.ref 52), some (.int (nI (i + 1))), none, none] [] (gv W u q) 0 0 := by
        intro kk W hU hB
        refine ih (i + 1) W (by omega) hp (fun W hU => ?_) hU
        have h := h W hU
        rw [gf_price, if_neg hB] at h
        exact h
      refine gp_go od_Mi_priceBy rfl ?_
      (repeat refine gp_gc [2, 31, 58] od_Mi_priceBy rfl rfl ?_)
      refine gs_get (gv_mind hm) rfl rfl ?_
      (repeat refine gp_gc [2, 31, 58] od_Mi_priceBy rfl rfl ?_)
      refine gb_ge_f (by rw [e0, en]; exact nI_ge (by omega) (by omega)) ?_
      (repeat refine gp_gc [2, 31, 58] od_Mi_priceBy rfl rfl ?_)
      refine gs_get (gv_mind hm) rfl rfl ?_
      (repeat refine gp_gc [2, 31, 58] od_Mi_priceBy rfl rfl ?_)
      refine gs_ald (gv_ma3 hm) i1 ?_
      (repeat refine gp_gc [2, 31, 58] od_Mi_priceBy rfl rfl ?_)
      refine gs_get (gv_mind hm) rfl rfl ?_
      (repeat refine gp_gc [2, 31, 58] od_Mi_priceBy rfl rfl ?_)
      refine gs_ald (gv_ma4 hm) i1 ?_
      (repeat refine gp_gc [2, 31, 58] od_Mi_priceBy rfl rfl ?_)
      rw [ci, e3, e4, g2, g3]
      by_cases b1 : B = []
      · refine gb_ne_f (by rw [b1]; rfl) ?_
        (repeat refine gp_gc [2, 31, 58] od_Mi_priceBy rfl rfl ?_)
        refine gp_go od_Mi_priceBy rfl ?_
        (repeat refine gp_gc [2, 31, 58] od_Mi_priceBy rfl rfl ?_)
        refine gb1_ne_t (by decide) ?_
        (repeat refine gp_gc [2, 31, 58] od_Mi_priceBy rfl rfl ?_)
        exact pay _ W hU (Or.inl b1)
      have hBl : 0 < B.length := List.length_pos_iff.mpr b1
      have wB := wB.resolve_left b1
      have vB := gc_wB (by decide) wB (gc_F w)
      refine gb_ne_t (fun z => by have := (nI_eq (by omega) (by omega)).mp z; omega) ?_
      (repeat refine gp_gc [2, 31, 58] od_Mi_priceBy rfl rfl ?_)
      refine gp_go od_Mi_priceBy rfl ?_
      (repeat refine gp_gc [2, 31, 58] od_Mi_priceBy rfl rfl ?_)
      refine gb1_ne_f rfl ?_
      (repeat refine gp_gc [2, 31, 58] od_Mi_priceBy rfl rfl ?_)
      refine gs_get (gv_mind hm) rfl rfl ?_
      (repeat refine gp_gc [2, 31, 58] od_Mi_priceBy rfl rfl ?_)
      refine gs_get (gv_mind hm) rfl rfl ?_
      (repeat refine gp_gc [2, 31, 58] od_Mi_priceBy rfl rfl ?_)
      refine gs_ald (gv_ma3 hm) i1 ?_
      (repeat refine gp_gc [2, 31, 58] od_Mi_priceBy rfl rfl ?_)
      refine gs_get (gv_mind hm) rfl rfl ?_
      (repeat refine gp_gc [2, 31, 58] od_Mi_priceBy rfl rfl ?_)
      refine gs_ald (gv_ma4 hm) i1 ?_
      (repeat refine gp_gc [2, 31, 58] od_Mi_priceBy rfl rfl ?_)
      rw [ci, e3, e4]
      have e1 : W (gp_ma m + 1) = w (gp_ma m + 1) := gU_ma hU hm (by decide)
      have e53 : W 53 = w 53 := hU 53 (by decide) (by decide)
      refine sp_Su_work (d := d) (w := W) (L := B) hm g2 g3 (by omega) (by rw [e1]; exact g6) (gc_wB (by decide) wB _).1 (fun W2 hU2 => ?_)
      rw [gc_F_congr e53]
      (repeat refine gp_gc [2, 31, 58] od_Mi_priceBy rfl rfl ?_)
      rcases vB.2 with v0 | v1
      · refine gb1_eq_t v0 ?_
        (repeat refine gp_gc [2, 31, 58] od_Mi_priceBy rfl rfl ?_)
        rw [inc]
        refine gp_drop 3 ?_
        exact skip 0 W2 (gU_t hU hU2) (fun z => z.elim b1 (fun z => by rw [v0] at z; exact absurd z (by decide)))
      · refine gb1_eq_f (by rw [v1]; decide) ?_
        (repeat refine gp_gc [2, 31, 58] od_Mi_priceBy rfl rfl ?_)
        exact pay _ W2 (gU_t hU hU2) (Or.inr v1)
  exact key PL 0 w (by omega) hp h (gU_r w)
/-- the try line of the mind at m, if there is one -/
def gc_try (w : Nat → Nat → Int32) (m : Nat) (TL : Option gf_L) : Prop := match TL with
  | none => w (gp_ma m) 13 = 0
  | some L => w (gp_ma m) 13 = 1 ∧ ∃ a : Nat, w (gp_ma m) 10 = nI a ∧ w (gp_ma m) 11 = nI (a + L.length) ∧ a + L.length ≤ 500 ∧ gc_seg (w (gp_ma m + 1)) a L ∧ gy_wE 3 L
def gc_rank (F : Nat → Int32) (TL : Option gf_L) : Int32 := match TL with
  | none => 0
  | some L => gf_val F L
set_option maxRecDepth 100000 in
theorem sp_Mi_rankBy {TL : Option gf_L} (hm : m < 7) (hT : gc_try w m TL) (h : ∀ W, gU w W → K (some (.int (gc_rank (gc_F w) TL))) (gv W u q)) : gp_Cal l G (d + 3) m_Mi_rankBy [.ref (gp_ma m), .ref 52] (gv w u q) K := by
  refine gp_enter od_Mi_rankBy rfl ?_
  (repeat refine gp_gc [] od_Mi_rankBy rfl rfl ?_)
  refine gs_get (gv_mind hm) rfl rfl ?_
  (repeat refine gp_gc [] od_Mi_rankBy rfl rfl ?_)
  cases TL with
  | none =>
    refine gb1_eq_t hT ?_
    (repeat refine gp_gc [] od_Mi_rankBy rfl rfl ?_)
    exact h w (gU_r w)
  | some L =>
    obtain ⟨g0, a, g1, g2, g3, g4, g5⟩ := hT
    refine gb1_eq_f (by rw [g0]; decide) ?_
    (repeat refine gp_gc [] od_Mi_rankBy rfl rfl ?_)
    refine gs_get (gv_mind hm) rfl rfl ?_
    (repeat refine gp_gc [] od_Mi_rankBy rfl rfl ?_)
    refine gs_get (gv_mind hm) rfl rfl ?_
    (repeat refine gp_gc [] od_Mi_rankBy rfl rfl ?_)
    refine gs_get (gv_mind hm) rfl rfl ?_
    (repeat refine gp_gc [] od_Mi_rankBy rfl rfl ?_)
    refine sp_Su_work (d := d) (L := L) hm g1 g2 g3 g4 (gc_wE (by decide) g5 _) (fun W hU => ?_)
    (repeat refine gp_gc [] od_Mi_rankBy rfl rfl ?_)
    exact h W hU
set_option maxRecDepth 100000 in
theorem sp_Su_clear (h : ∀ W, (∀ b, b ≠ 53 → W b = w b) → (∀ j, j < 13 → W 53 j = 0) → K none (gv W u q)) : gp_Cal l G (d + 0) m_Su_clear [.ref 52] (gv w u q) K := by
  refine gp_enter od_Su_clear rfl ?_
  (repeat refine gp_gc [2] od_Su_clear rfl rfl ?_)
  have key : ∀ (r j : Nat) (W : Nat → Nat → Int32), j + r = 13 → (∀ b, b ≠ 53 → W b = w b) → (∀ k, k < j → W 53 k = 0) → gp_Go l G (d + 0) m_Su_clear K 2 [some (.ref 52), some (.int (nI j))] [] (gv W u q) 0 0 := by
    intro r
    induction r with
    | zero =>
      intro j W hj hW h0
      have ej : j = 13 := by omega
      subst ej
      refine gp_go od_Su_clear rfl ?_
      (repeat refine gp_gc [2] od_Su_clear rfl rfl ?_)
      refine gb_ge_t (by decide) ?_
      (repeat refine gp_gc [2] od_Su_clear rfl rfl ?_)
      exact h W hW h0
    | succ r ih =>
      intro j W hj hW h0
      have cj : (nI j).toNatClampNeg = j := nI_clamp (by omega)
      have inc : nI j + Int32.ofInt 1 = nI (j + 1) := gp_inc rfl
      refine gp_go od_Su_clear rfl ?_
      (repeat refine gp_gc [2] od_Su_clear rfl rfl ?_)
      refine gb_ge_f (nI_ge (b := 13) (by omega) (by decide)) ?_
      (repeat refine gp_gc [2] od_Su_clear rfl rfl ?_)
      refine And.intro (vp_in_nI (by omega) (by decide)) ?_
      (repeat refine gp_gc [2] od_Su_clear rfl rfl ?_)
      rw [inc, cj]
      refine ih (j + 1) (gw W 53 j 0) (by omega) (fun b hb => by rw [gw_ne hb]; exact hW b hb) (fun k hk => ?_)
      rw [gw_at]
      by_cases e : k = j
      · rw [if_pos e]
      · rw [if_neg e]; exact h0 k (by omega)
  exact key 13 0 w (by omega) (fun _ _ => rfl) (fun k hk => absurd hk (by omega))
end

end
