section
variable {l : Launch} {G : gp_G} {d : Nat} {w : Nat → Nat → Int32} {u : Int64 × (Nat → Int64)} {q : Nat → Nat} {K : Option Value → gp_H → Prop}
/-! ===== the reference's methods: pieces of a text ===== -/
def gy_f (k : Nat) : Bool := k == 32 || (Nat.ble 34 k && Nat.ble k 39) || k == 41
def gy_R (w W : Nat → Nat → Int32) (c : Nat) : Prop := (∀ b, b ≠ 95 → b ≠ 117 → W b = w b) ∧ (∀ k, gy_f k = false → W 95 k = w 95 k) ∧ ∀ x, x < 6120 + 2 * c → W 117 x = w 117 x
theorem gy_refl (w : Nat → Nat → Int32) (c : Nat) : gy_R w w c := ⟨fun _ _ _ => rfl, fun _ _ => rfl, fun _ _ => rfl⟩
theorem gy_trans {w W X : Nat → Nat → Int32} {c e : Nat} (h1 : gy_R w W c) (h2 : gy_R W X e) (h : c ≤ e) : gy_R w X c :=
  ⟨fun b h3 h4 => (h2.1 b h3 h4).trans (h1.1 b h3 h4), fun k hk => (h2.2.1 k hk).trans (h1.2.1 k hk), fun x hx => (h2.2.2 x (by omega)).trans (h1.2.2 x hx)⟩
theorem gy_95 {w W : Nat → Nat → Int32} {c k : Nat} {x : Int32} (h : gy_R w W c) (hk : gy_f k = true) : gy_R w (gw W 95 k x) c := by
  refine ⟨fun b h3 h4 => (gw_ne h3).trans (h.1 b h3 h4), fun k' hk' => ?_, fun y hy => (congrFun (gw_ne (by decide)) y).trans (h.2.2 y hy)⟩
  rw [gw_at, if_neg (fun z => by rw [z, hk] at hk'; exact absurd hk' (by decide))]
  exact h.2.1 k' hk'
theorem gy_117 {w W : Nat → Nat → Int32} {c k : Nat} {x : Int32} (h : gy_R w W c) (hk : 6120 + 2 * c ≤ k) : gy_R w (gw W 117 k x) c := by
  refine ⟨fun b h3 h4 => (gw_ne h4).trans (h.1 b h3 h4), fun k' hk' => (congrFun (gw_ne (by decide)) k').trans (h.2.1 k' hk'), fun y hy => ?_⟩
  rw [gw_at, if_neg (by omega)]
  exact h.2.2 y hy
theorem gy_RT {w W : Nat → Nat → Int32} {c : Nat} {tp : Nat → Nat} {n : Nat} (h : gy_R w W c) (T : gx_T w tp n) : gx_T W tp n := by
  unfold gx_T at T ⊢
  rw [h.2.1 33 rfl, h.1 118 (by decide) (by decide)]
  exact T
def gy_S (tp : Nat → Nat) (n : Nat) (W : Nat → Nat → Int32) (j c : Nat) (dp : Int32) : Prop := W 95 34 = nI (gx_p tp n (j + 1)) ∧ W 95 35 = nI (gx_rt (gx_kd tp n j)) ∧ W 95 36 = nI (gx_sp tp n j) ∧ (gx_kd tp n j = 30 → W 95 37 = nI (gx_nu tp n j)) ∧ W 95 32 = nI c ∧ W 95 41 = dp ∧ W 95 38 = 0
theorem gf_seg_app {f : Nat → Int32} {k : Nat} : ∀ {A B : gf_L} {i : Nat}, gf_seg f k i A → gf_seg f k (i + A.length) B → gf_seg f k i (A ++ B)
  | [], B, i, _, h => h
  | (op, v) :: A, B, i, h1, h2 => by
    refine ⟨h1.1, h1.2.1, h1.2.2.1, gf_seg_app h1.2.2.2 ?_⟩
    rw [show i + 1 + A.length = i + (A.length + 1) by omega]
    exact h2
theorem gf_seg_cg {f g : Nat → Int32} {e : Nat} (h : ∀ x, x < 6120 + 2 * e → g x = f x) : ∀ {L : gf_L} {i : Nat}, i + L.length ≤ e → gf_seg f 6 i L → gf_seg g 6 i L
  | [], _, _, _ => trivial
  | (op, v) :: L, i, hi, hs => by
    simp only [List.length_cons] at hi
    refine ⟨?_, fun z => ?_, hs.2.2.1, gf_seg_cg h (by omega) hs.2.2.2⟩
    · rw [h _ (by omega)]
      exact hs.1
    · rw [h _ (by omega)]
      exact hs.2.1 z
theorem gf_seg_1 {f : Nat → Int32} {c op : Nat} {v : Int32} (h1 : f (6120 + 2 * c) = nI op) (h2 : f (6120 + 2 * c + 1) = v) (h : op < 24) : gf_seg f 6 c [(op, v)] := ⟨h1, fun _ => h2, h, trivial⟩
theorem gx_rt_b {k : Nat} (h : k < 63) : gx_rt k < 163 := by
  unfold gx_rt
  repeat' split
  all_goals omega
theorem gx_rt_nm {k : Nat} (h : k < 63) : (21 ≤ gx_rt k ∧ gx_rt k ≤ 33) ↔ (9 ≤ k ∧ k ≤ 21) := by
  unfold gx_rt
  repeat' split
  all_goals omega
theorem gx_kd_b (tp : Nat → Nat) (n j : Nat) : gx_kd tp n j < 63 := (gx_k_b tp n _).1
section
variable {tp : Nat → Nat} {n j c : Nat} {dp : Int32}
theorem gy_tk (S : gy_S tp n w j c dp) {k : Nat} (hk : k < 63) : w 95 35 = nI (gx_rt k) ↔ gx_kd tp n j = k := by
  have h1 := gx_rt_b (gx_kd_b tp n j)
  have h2 := gx_rt_b hk
  rw [S.2.1, nI_eq (by omega) (by omega)]
  exact ⟨gx_rt_inj, fun z => by rw [z]⟩
theorem gy_next (T : gx_T w tp n) (S : gy_S tp n w j c dp) (h : ∀ W, (∀ e, gy_R w W e) → gy_S tp n W (j + 1) c dp → K none (gv W u q)) : gp_Cal l G (d + 8) m_Rf_next0 [.ref 95] (gv w u q) K := by
  obtain ⟨S1, S2, S3, S4, S5, S6⟩ := S
  refine sp_Rf_next0 T S1 (gx_p_n (j + 1)) (fun p' t' s' v' e1 e2 e3 e4 => ?_)
  refine h (gn w p' t' s' v') (fun e => ?_) ⟨e1, e2, e3, e4, S5, S6⟩
  exact gy_95 (gy_95 (gy_95 (gy_95 (gy_refl w e) rfl) rfl) rfl) rfl
set_option maxRecDepth 100000 in
theorem sp_Rf_bad {k : Int32} (h : K (some (.int 0)) (gv (gw (gw w 95 38 k) 95 39 (w 95 36)) u q)) : gp_Cal l G (d + 0) m_Rf_bad [.ref 95, .int k] (gv w u q) K := by
  refine gp_enter od_Rf_bad rfl ?_
  (repeat refine gp_gc [] od_Rf_bad rfl rfl ?_)
  exact And.intro (Or.inl rfl) h
theorem gy_bad {k : Int32} (S : gy_S tp n w j c dp) (h : ∀ W, (∀ e, gy_R w W e) → W 95 38 = k → W 95 39 = nI (gx_sp tp n j) → K (some (.int 0)) (gv W u q)) : gp_Cal l G d m_Rf_bad [.ref 95, .int k] (gv w u q) K :=
  sp_Rf_bad (d := d) (h _ (fun e => gy_95 (gy_95 (gy_refl w e) rfl) rfl) rfl S.2.2.1)
set_option maxRecDepth 100000 in
theorem gy_need {k : Nat} {t : Int32} (et : t = nI (gx_rt k)) (hk : k < 63) (T : gx_T w tp n) (S : gy_S tp n w j c dp) (h1 : gx_kd tp n j = k → ∀ W, (∀ e, gy_R w W e) → gy_S tp n W (j + 1) c dp → K (some (.int 1)) (gv W u q)) (h0 : ¬ gx_kd tp n j = k → ∀ W, (∀ e, gy_R w W e) → W 95 38 = 1 → W 95 39 = nI (gx_sp tp n j) → K (some (.int 0)) (gv W u q)) : gp_Cal l G (d + 9) m_Rf_need [.ref 95, .int t] (gv w u q) K := by
  refine gp_enter od_Rf_need rfl ?_
  have tk := gy_tk S hk
  rw [← et] at tk
  (repeat refine gp_gc [] od_Rf_need rfl rfl ?_)
  by_cases b : gx_kd tp n j = k
  · refine gb_eq_t (tk.mpr b) ?_
    (repeat refine gp_gc [] od_Rf_need rfl rfl ?_)
    refine gy_next (d := d) T S (fun W hW S' => ?_)
    (repeat refine gp_gc [] od_Rf_need rfl rfl ?_)
    exact And.intro (Or.inr rfl) (h1 b W hW S')
  · refine gb_eq_f (fun z => b (tk.mp z)) ?_
    (repeat refine gp_gc [] od_Rf_need rfl rfl ?_)
    refine gy_bad (d := d + 8) S (fun W hW e1 e2 => ?_)
    (repeat refine gp_gc [] od_Rf_need rfl rfl ?_)
    exact And.intro (Or.inl rfl) (h0 b W hW e1 e2)
set_option maxRecDepth 100000 in
theorem gy_number {a b : Int32} {A B : Nat} (ea : a = nI A) (eb : b = nI B) (hA : A < 10000) (hB : B < 10000) (T : gx_T w tp n) (S : gy_S tp n w j c dp) (h1 : gx_kd tp n j = 30 → A ≤ gx_nu tp n j → gx_nu tp n j ≤ B → ∀ W, (∀ e, gy_R w W e) → gy_S tp n W (j + 1) c dp → K (some (.int 1)) (gv W u q)) (h0 : ∀ W e, (¬ gx_kd tp n j = 30 ∧ e = 1) ∨ (gx_kd tp n j = 30 ∧ ¬ (A ≤ gx_nu tp n j ∧ gx_nu tp n j ≤ B) ∧ e = 2) → (∀ e, gy_R w W e) → W 95 38 = nI e → W 95 39 = nI (gx_sp tp n j) → K (some (.int 0)) (gv W u q)) : gp_Cal l G (d + 9) m_Rf_number [.ref 95, .int a, .int b] (gv w u q) K := by
  refine gp_enter od_Rf_number rfl ?_
  have tk := gy_tk S (k := 30) (by decide)
  (repeat refine gp_gc [] od_Rf_number rfl rfl ?_)
  by_cases b1 : gx_kd tp n j = 30
  · have hn := gx_nu_b b1
    have ev := S.2.2.2.1 b1
    refine gb_eq_t (tk.mpr b1) ?_
    (repeat refine gp_gc [] od_Rf_number rfl rfl ?_)
    refine sp_Rf_isIn (d := d + 8) (fun c1 c2 => ?_) (fun c0 => ?_)
    · rw [ev, ea] at c1
      rw [ev, eb] at c2
      (repeat refine gp_gc [] od_Rf_number rfl rfl ?_)
      refine gb1_ne_t (by decide) ?_
      (repeat refine gp_gc [] od_Rf_number rfl rfl ?_)
      refine gy_next (d := d) T S (fun W hW S' => ?_)
      (repeat refine gp_gc [] od_Rf_number rfl rfl ?_)
      exact And.intro (Or.inr rfl) (h1 b1 ((nI_leI (by omega) (by omega)).mp c1) ((nI_leI (by omega) (by omega)).mp c2) W hW S')
    · rw [ev, ea, eb] at c0
      (repeat refine gp_gc [] od_Rf_number rfl rfl ?_)
      refine gb1_ne_f rfl ?_
      (repeat refine gp_gc [] od_Rf_number rfl rfl ?_)
      refine gy_bad (d := d + 8) S (fun W hW e1 e2 => ?_)
      (repeat refine gp_gc [] od_Rf_number rfl rfl ?_)
      exact And.intro (Or.inl rfl) (h0 W 2 (Or.inr ⟨b1, fun z => c0 ⟨nI_le z.1 (by omega), nI_le z.2 (by omega)⟩, rfl⟩) hW e1 e2)
  · refine gb_eq_f (fun z => b1 (tk.mp z)) ?_
    (repeat refine gp_gc [] od_Rf_number rfl rfl ?_)
    refine gy_bad (d := d + 8) S (fun W hW e1 e2 => ?_)
    (repeat refine gp_gc [] od_Rf_number rfl rfl ?_)
    exact And.intro (Or.inl rfl) (h0 W 1 (Or.inl ⟨b1, rfl⟩) hW e1 e2)
set_option maxRecDepth 100000 in
theorem gy_lay {k v : Int32} (S : gy_S tp n w j c dp) (hc : c < 510) (h : ∀ W, gy_R w W c → gy_S tp n W j (c + 1) dp → W 117 (6120 + 2 * c) = k → W 117 (6120 + 2 * c + 1) = v → K none (gv W u q)) : gp_Cal l G d m_Rf_lay [.ref 95, .int k, .int v] (gv w u q) K := by
  obtain ⟨S1, S2, S3, S4, S5, S6⟩ := S
  have x1 : nI 6120 + nI 2 * w 95 32 = nI (6120 + 2 * c) := by rw [S5, pk_mul, nI_add]
  have x2 : nI 6120 + nI 2 * w 95 32 + nI 1 = nI (6120 + 2 * c + 1) := by rw [x1, nI_add]
  have c1 : (nI 6120 + nI 2 * w 95 32).toNatClampNeg = 6120 + 2 * c := by rw [x1]; exact nI_clamp (by omega)
  have c2 : (nI 6120 + nI 2 * w 95 32 + nI 1).toNatClampNeg = 6120 + 2 * c + 1 := by rw [x2]; exact nI_clamp (by omega)
  refine gp_enter od_Rf_lay rfl ?_
  (repeat refine gp_gc [] od_Rf_lay rfl rfl ?_)
  refine And.intro (show vp_in (nI 6120 + nI 2 * w 95 32) 7140 by rw [x1]; exact vp_in_nI (by omega) (by decide)) ?_
  (repeat refine gp_gc [] od_Rf_lay rfl rfl ?_)
  refine And.intro (show vp_in (nI 6120 + nI 2 * w 95 32 + nI 1) 7140 by rw [x2]; exact vp_in_nI (by omega) (by decide)) ?_
  (repeat refine gp_gc [] od_Rf_lay rfl rfl ?_)
  refine h (gw (gw (gw w 117 (nI 6120 + nI 2 * w 95 32).toNatClampNeg k) 117 (nI 6120 + nI 2 * w 95 32 + nI 1).toNatClampNeg v) 95 32 (w 95 32 + nI 1)) ?_ ?_ ?_ ?_
  · rw [c1, c2]
    exact gy_95 (gy_117 (gy_117 (gy_refl w c) (by omega)) (by omega)) rfl
  · refine ⟨S1, S2, S3, S4, ?_, S6⟩
    show w 95 32 + nI 1 = _
    rw [S5, nI_add]
  · rw [c1, c2, gw_ne (by decide), gw_at, if_neg (by omega), gw_at, if_pos rfl]
  · rw [c1, c2, gw_ne (by decide), gw_at, if_pos rfl]
def gy_K1 (tp : Nat → Nat) (n : Nat) (u : Int64 × (Nat → Int64)) (q : Nat → Nat) (w : Nat → Nat → Int32) (c : Nat) (dp : Int32) (K : Option Value → gp_H → Prop) (r : gy) : Prop := ∀ W j' L, r = .inr (j', L) → gy_R w W c → gy_S tp n W j' (c + L.length) dp → gf_seg (W 117) 6 c L → K (some (.int 1)) (gv W u q)
def gy_K0 (tp : Nat → Nat) (n : Nat) (u : Int64 × (Nat → Int64)) (q : Nat → Nat) (w : Nat → Nat → Int32) (c : Nat) (K : Option Value → gp_H → Prop) (r : gy) : Prop := ∀ W e p, r = .inl (e, p) → gy_R w W c → W 95 38 = nI e → W 95 39 = nI (gx_sp tp n p) → K (some (.int 0)) (gv W u q)
/-- a method that reads a piece as r tells -/
def gy_C (l : Launch) (G : gp_G) (tp : Nat → Nat) (n : Nat) (u : Int64 × (Nat → Int64)) (q : Nat → Nat) (dp : Int32) (M : gp_M) (lev : Nat) (r : Nat → gy) : Prop := ∀ (w : Nat → Nat → Int32) (j c : Nat) (K : Option Value → gp_H → Prop), gx_T w tp n → gy_S tp n w j c dp → c ≤ j → gy_K1 tp n u q w c dp K (r j) → gy_K0 tp n u q w c K (r j) → gp_Cal l G lev M [.ref 95] (gv w u q) K
def gy_G (kd : Nat → Nat) (r : Nat → gy) : Prop := ∀ j j' L, r j = .inr (j', L) → j < j' ∧ L.length + j ≤ j' ∧ kd (j' - 1) ≠ 31
theorem gy_unit_g (kd nm : Nat → Nat) : gy_G kd (gy_unit kd nm) := by
  intro j j' L h
  unfold gy_unit at h
  split at h
  · simp only [Sum.inr.injEq, Prod.mk.injEq] at h
    obtain ⟨rfl, rfl⟩ := h
    exact ⟨by omega, by simp; omega, by rw [Nat.add_sub_cancel]; omega⟩
  · split at h
    · simp only [Sum.inr.injEq, Prod.mk.injEq] at h
      obtain ⟨rfl, rfl⟩ := h
      exact ⟨by omega, by simp; omega, by rw [Nat.add_sub_cancel]; omega⟩
    · simp at h
set_option maxRecDepth 100000 in
theorem gy_sunit : gy_C l G tp n u q dp m_Rf_unit (d + 9) (gy_unit (gx_kd tp n) (gx_nu tp n)) := by
  intro w j c K T S hc h1 h0
  have hb := gx_kd_b tp n j
  have hrb := gx_rt_b hb
  have hnm := gx_rt_nm hb
  have tk := gy_tk S (k := 30) (by decide)
  have e35 := S.2.1
  refine gp_enter od_Rf_unit rfl ?_
  (repeat refine gp_gc [] od_Rf_unit rfl rfl ?_)
  refine sp_Rf_isIn (d := d + 8) (fun c1 c2 => ?_) (fun c0 => ?_)
  · rw [e35] at c1 c2
    have c1 : nI 21 ≤ nI (gx_rt (gx_kd tp n j)) := c1
    have c2 : nI (gx_rt (gx_kd tp n j)) ≤ nI 33 := c2
    have hk := hnm.mp ⟨(nI_leI (by omega) (by omega)).mp c1, (nI_leI (by omega) (by omega)).mp c2⟩
    have hj : j < n := gx_j_n (tp := tp) (by omega)
    have hn := T.2.1
    have er : gy_unit (gx_kd tp n) (gx_nu tp n) j = .inr (j + 1, [(gx_kd tp n j - 8, 0)]) := by
      unfold gy_unit
      rw [if_neg (by omega), if_pos hk]
    have eo : w 95 35 - nI 20 = nI (gx_kd tp n j - 8) := by
      rw [e35, pk_sub (by omega)]
      congr 1
      unfold gx_rt
      rw [if_neg (by omega), if_neg (by omega), if_pos (by omega)]
      omega
    (repeat refine gp_gc [] od_Rf_unit rfl rfl ?_)
    refine gb_eq_f (fun z => absurd (tk.mp z) (by omega)) ?_
    (repeat refine gp_gc [] od_Rf_unit rfl rfl ?_)
    refine gb1_ne_t (by decide) ?_
    (repeat refine gp_gc [] od_Rf_unit rfl rfl ?_)
    refine gb1_eq_f (by decide) ?_
    (repeat refine gp_gc [] od_Rf_unit rfl rfl ?_)
    refine gy_lay (d := d + 8) S (by omega) (fun W1 hW1 S1 k1 k2 => ?_)
    (repeat refine gp_gc [] od_Rf_unit rfl rfl ?_)
    refine gy_next (d := d) (gy_RT hW1 T) S1 (fun W2 hW2 S2 => ?_)
    (repeat refine gp_gc [] od_Rf_unit rfl rfl ?_)
    refine And.intro (Or.inr rfl) (h1 W2 _ _ er (gy_trans hW1 (hW2 c) (Nat.le_refl c)) S2 ?_)
    have e2 : ∀ x, x < 6120 + 2 * (c + 1) → W2 117 x = W1 117 x := (hW2 (c + 1)).2.2
    refine gf_seg_cg e2 (by simp) ⟨k1.trans eo, fun z => by omega, by omega, trivial⟩
  · by_cases b : gx_kd tp n j = 30
    · have hj : j < n := gx_j_n (tp := tp) (by omega)
      have hn := T.2.1
      have er : gy_unit (gx_kd tp n) (gx_nu tp n) j = .inr (j + 1, [(0, nI (gx_nu tp n j))]) := by
        unfold gy_unit
        rw [if_pos b]
      (repeat refine gp_gc [] od_Rf_unit rfl rfl ?_)
      refine gb_eq_t (tk.mpr b) ?_
      (repeat refine gp_gc [] od_Rf_unit rfl rfl ?_)
      refine gb1_eq_t rfl ?_
      (repeat refine gp_gc [] od_Rf_unit rfl rfl ?_)
      refine gy_lay (d := d + 8) S (by omega) (fun W1 hW1 S1 k1 k2 => ?_)
      (repeat refine gp_gc [] od_Rf_unit rfl rfl ?_)
      refine gy_next (d := d) (gy_RT hW1 T) S1 (fun W2 hW2 S2 => ?_)
      (repeat refine gp_gc [] od_Rf_unit rfl rfl ?_)
      refine And.intro (Or.inr rfl) (h1 W2 _ _ er (gy_trans hW1 (hW2 c) (Nat.le_refl c)) S2 ?_)
      have e2 : ∀ x, x < 6120 + 2 * (c + 1) → W2 117 x = W1 117 x := (hW2 (c + 1)).2.2
      refine gf_seg_cg e2 (by simp) ⟨k1, fun _ => k2.trans (S.2.2.2.1 b), by decide, trivial⟩
    · have er : gy_unit (gx_kd tp n) (gx_nu tp n) j = .inl (1, j) := by
        unfold gy_unit
        rw [if_neg b, if_neg]
        intro z
        have z := hnm.mpr z
        refine c0 ⟨?_, ?_⟩
        · rw [e35]
          exact nI_le (a := 21) z.1 (by omega)
        · rw [e35]
          exact nI_le (b := 33) z.2 (by omega)
      (repeat refine gp_gc [] od_Rf_unit rfl rfl ?_)
      refine gb_eq_f (fun z => b (tk.mp z)) ?_
      (repeat refine gp_gc [] od_Rf_unit rfl rfl ?_)
      refine gb1_ne_f rfl ?_
      (repeat refine gp_gc [] od_Rf_unit rfl rfl ?_)
      refine gy_bad (d := d + 8) S (fun W hW e1 e2 => ?_)
      (repeat refine gp_gc [] od_Rf_unit rfl rfl ?_)
      exact And.intro (Or.inl rfl) (h0 W 1 j er (hW c) e1 e2)
end

end
