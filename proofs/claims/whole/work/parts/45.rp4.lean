section
variable {l : Launch} {G : gp_G} {d : Nat} {w : Nat → Nat → Int32} {u : Int64 × (Nat → Int64)} {q : Nat → Nat} {K : Option Value → gp_H → Prop}
/-! ===== texts: lines ===== -/
abbrev gy_D : Type := Nat × Int32 × Int32 × Int32 × Bool × List (gf_L × gf_L) × Option gf_L
def gy_B (kd nm : Nat → Nat) (j : Nat) : gy := gy_an kd (gy_one kd nm 8) j
def gy_pr (kd nm : Nat → Nat) (j : Nat) : (Nat × Nat) ⊕ (Nat × gf_L × gf_L) := match gy_E kd nm j with
  | .inl e => .inl e
  | .inr (j1, E) => if kd j1 = 5 then (match gy_B kd nm (j1 + 1) with
      | .inl e => .inl e
      | .inr (j2, B) => .inr (j2, E, B))
    else .inr (j1, E, [])
def gy_mo (k : Nat) : Nat := if k = 0 then 3 else if k = 1 then 7 else 1
def gy_addP (D : gy_D) (E B : gf_L) : gy_D := (D.1, D.2.1, D.2.2.1, D.2.2.2.1, D.2.2.2.2.1, D.2.2.2.2.2.1 ++ [(E, B)], D.2.2.2.2.2.2)
def gy_addT (D : gy_D) (E : gf_L) : gy_D := (D.1, D.2.1, D.2.2.1, D.2.2.2.1, D.2.2.2.2.1, D.2.2.2.2.2.1, some E)
def gy_addN (D : gy_D) (k v : Nat) : gy_D := (D.1, (if k = 0 then D.2.1 ||| 1 <<< (nI v &&& 31) else D.2.1), (if k = 1 then D.2.2.1 ||| 1 <<< (nI v &&& 31) else D.2.2.1), (if k = 2 then nI v else D.2.2.2.1), (if k = 2 then true else D.2.2.2.2.1), D.2.2.2.2.2.1, D.2.2.2.2.2.2)
def gy_body (kd nm : Nat → Nat) (D : gy_D) (j : Nat) : (Nat × Nat) ⊕ (Nat × gy_D) :=
  if kd j = 3 then (match gy_pr kd nm (j + 1) with
    | .inl e => .inl e
    | .inr (j', E, B) => .inr (j', gy_addP D E B))
  else if kd j = 4 then (match gy_E kd nm (j + 1) with
    | .inl e => .inl e
    | .inr (j', E) => .inr (j', gy_addT D E))
  else if kd (j + 1) = 30 then (if nm (j + 1) ≤ gy_mo (kd j) then .inr (j + 2, gy_addN D (kd j) (nm (j + 1))) else .inl (2, j + 1))
  else .inl (1, j + 1)
def gy_semi (kd : Nat → Nat) (r : (Nat × Nat) ⊕ (Nat × gy_D)) : (Nat × Nat) ⊕ (Nat × gy_D) := match r with
  | .inl e => .inl e
  | .inr (j, D) => if kd j = 59 then .inr (j + 1, (D.1 + 1, D.2)) else .inl (1, j)
def gy_line (kd nm : Nat → Nat) (D : gy_D) (j : Nat) : (Nat × Nat) ⊕ (Nat × gy_D) :=
  if 5 ≤ kd j then .inl (1, j) else if D.1 = 16 ∨ (kd j = 2 ∧ D.2.2.2.2.1 = true) ∨ (kd j = 4 ∧ D.2.2.2.2.2.2.isSome = true) then .inl (3, j) else gy_semi kd (gy_body kd nm D j)
def gy_tx (kd nm : Nat → Nat) : Nat → Nat → gy_D → (Nat × Nat) ⊕ gy_D
  | 0, _, D => .inr D
  | f + 1, j, D => if kd j = 31 then .inr D else (match gy_line kd nm D j with
    | .inl e => .inl e
    | .inr (j', D') => gy_tx kd nm f j' D')
/-! ===== the reference's methods: lines ===== -/
def gy_in (b x : Nat) : Bool := (b == 95 && gy_f x) || (((Nat.ble 107 b && Nat.ble b 113) || b == 121 || b == 122) && Nat.ble 6 x) || (Nat.ble 114 b && Nat.ble b 116 && Nat.ble 96 x) || (b == 117 && Nat.ble 6120 x)
def gy_Q (w W : Nat → Nat → Int32) : Prop := ∀ b x, gy_in b x = false → W b x = w b x
theorem gy_Qr (w : Nat → Nat → Int32) : gy_Q w w := fun _ _ _ => rfl
theorem gy_Qt {w W X : Nat → Nat → Int32} (h1 : gy_Q w W) (h2 : gy_Q W X) : gy_Q w X := fun b x h => (h2 b x h).trans (h1 b x h)
theorem gy_Qw {w W : Nat → Nat → Int32} {a k : Nat} {x : Int32} (h : gy_Q w W) (hk : gy_in a k = true) : gy_Q w (gw W a k x) := by
  intro b y hy
  by_cases e : b = a
  · subst e
    rw [gw_at, if_neg (fun z => by rw [z, hk] at hy; exact absurd hy (by decide))]
    exact h b y hy
  · rw [gw_ne e]
    exact h b y hy
theorem gy_QR {w W : Nat → Nat → Int32} {c : Nat} (h : gy_R w W c) : gy_Q w W := by
  intro b x hx
  by_cases e1 : b = 95
  · subst e1
    refine h.2.1 x ?_
    unfold gy_in at hx
    simpa using hx
  · by_cases e2 : b = 117
    · subst e2
      refine h.2.2 x ?_
      rcases Nat.lt_or_ge x 6120 with h6 | h6
      · omega
      · have : gy_in 117 x = true := by unfold gy_in; simp [h6]
        rw [this] at hx
        exact absurd hx (by decide)
    · rw [h.1 b e1 e2]
theorem gy_QT {w W : Nat → Nat → Int32} {tp : Nat → Nat} {n : Nat} (h : gy_Q w W) (T : gx_T w tp n) : gx_T W tp n := by
  refine ⟨(h 95 33 rfl).trans T.1, T.2.1, fun i hi => ?_⟩
  rw [h 118 i rfl]
  exact T.2.2 i hi
def gy_prs (w : Nat → Nat → Int32) (c : Nat) : Nat → List (gf_L × gf_L) → Prop
  | _, [] => True
  | i, (E, B) :: t => (∃ a : Nat, w 114 (96 + i) = nI a ∧ w 115 (96 + i) = nI (a + E.length) ∧ w 116 (96 + i) = nI (a + E.length + B.length) ∧ a + E.length + B.length ≤ c ∧ gf_seg (w 117) 6 a E ∧ gf_seg (w 117) 6 (a + E.length) B) ∧ gy_prs w c (i + 1) t
theorem gy_prs_fr {w W : Nat → Nat → Int32} {c c' m : Nat} (h : ∀ b, 114 ≤ b → b ≤ 116 → ∀ x, x < 96 + m → W b x = w b x) (h7 : ∀ x, x < 6120 + 2 * c → W 117 x = w 117 x) (hc : c ≤ c') : ∀ (PL : List (gf_L × gf_L)) (i : Nat), i + PL.length ≤ m → gy_prs w c i PL → gy_prs W c' i PL
  | [], _, _, _ => trivial
  | (E, B) :: t, i, hi, hp => by
    simp only [List.length_cons] at hi
    obtain ⟨⟨a, a1, a2, a3, a4, a5, a6⟩, hp2⟩ := hp
    refine ⟨⟨a, ?_, ?_, ?_, by omega, gf_seg_cg h7 (by omega) a5, gf_seg_cg h7 (by omega) a6⟩, gy_prs_fr h h7 hc t (i + 1) (by omega) hp2⟩
    · rw [h 114 (by decide) (by decide) _ (by omega), a1]
    · rw [h 115 (by decide) (by decide) _ (by omega), a2]
    · rw [h 116 (by decide) (by decide) _ (by omega), a3]
theorem gy_prs_add {w : Nat → Nat → Int32} {c : Nat} {E B : gf_L} : ∀ (PL : List (gf_L × gf_L)) (i : Nat), gy_prs w c i PL → (∃ a : Nat, w 114 (96 + (i + PL.length)) = nI a ∧ w 115 (96 + (i + PL.length)) = nI (a + E.length) ∧ w 116 (96 + (i + PL.length)) = nI (a + E.length + B.length) ∧ a + E.length + B.length ≤ c ∧ gf_seg (w 117) 6 a E ∧ gf_seg (w 117) 6 (a + E.length) B) → gy_prs w c i (PL ++ [(E, B)])
  | [], i, _, h => ⟨h, trivial⟩
  | (E', B') :: t, i, hp, h => by
    refine ⟨hp.1, gy_prs_add t (i + 1) hp.2 ?_⟩
    rw [show i + 1 + t.length = i + (t.length + 1) by omega]
    exact h
def gy_trr (w : Nat → Nat → Int32) (c : Nat) (TL : Option gf_L) : Prop := match TL with
  | none => w 122 6 = 0
  | some L => w 122 6 = 1 ∧ ∃ a : Nat, w 112 6 = nI a ∧ w 113 6 = nI (a + L.length) ∧ a + L.length ≤ c ∧ gf_seg (w 117) 6 a L
theorem gy_trr_fr {w W : Nat → Nat → Int32} {c c' : Nat} (h2 : W 122 6 = w 122 6) (h3 : W 112 6 = w 112 6) (h4 : W 113 6 = w 113 6) (h7 : ∀ x, x < 6120 + 2 * c → W 117 x = w 117 x) (hc : c ≤ c') (TL : Option gf_L) (h : gy_trr w c TL) : gy_trr W c' TL := by
  cases TL with
  | none => exact h2.trans h
  | some L =>
    obtain ⟨a0, a, a1, a2, a3, a4⟩ := h
    exact ⟨h2.trans a0, a, h3.trans a1, h4.trans a2, by omega, gf_seg_cg h7 (by omega) a4⟩
def gy_DR (W : Nat → Nat → Int32) (c : Nat) (D : gy_D) : Prop := W 111 6 = nI D.1 ∧ D.1 ≤ 16 ∧ W 107 6 = D.2.1 ∧ W 108 6 = D.2.2.1 ∧ W 109 6 = D.2.2.2.1 ∧ W 121 6 = (if D.2.2.2.2.1 = true then 1 else 0) ∧ W 110 6 = nI D.2.2.2.2.2.1.length ∧ D.2.2.2.2.2.1.length ≤ 16 ∧ gy_prs W c 0 D.2.2.2.2.2.1 ∧ gy_trr W c D.2.2.2.2.2.2
theorem gy_DR_R {w W : Nat → Nat → Int32} {c c' : Nat} {D : gy_D} (h : gy_R w W c) (hc : c ≤ c') (hD : gy_DR w c D) : gy_DR W c' D := by
  obtain ⟨d1, d2, d3, d4, d5, d6, d7, d8, d9, d10⟩ := hD
  have e : ∀ b, b ≠ 95 → b ≠ 117 → ∀ x, W b x = w b x := fun b h1 h2 x => by rw [h.1 b h1 h2]
  refine ⟨(e 111 (by decide) (by decide) 6).trans d1, d2, (e 107 (by decide) (by decide) 6).trans d3, (e 108 (by decide) (by decide) 6).trans d4, (e 109 (by decide) (by decide) 6).trans d5, (e 121 (by decide) (by decide) 6).trans d6, (e 110 (by decide) (by decide) 6).trans d7, d8, ?_, ?_⟩
  · exact gy_prs_fr (m := D.2.2.2.2.2.1.length) (fun b h1 h2 x _ => e b (by omega) (by omega) x) h.2.2 hc _ 0 (by omega) d9
  · exact gy_trr_fr (e 122 (by decide) (by decide) 6) (e 112 (by decide) (by decide) 6) (e 113 (by decide) (by decide) 6) h.2.2 hc _ d10
section
variable {tp : Nat → Nat} {n : Nat}
theorem gy_sB {d : Nat} : gy_C l G tp n u q (nI 0) m_Rf_any (d + 38) (gy_B (gx_kd tp n) (gx_nu tp n)) :=
  gy_sany (d := d + 24) (gy_one_g (gx_kd tp n) (gx_nu tp n) 8) (gy_severy (d := d + 24) (gy_one_g (gx_kd tp n) (gx_nu tp n) 8) (gy_sone 8 d (by decide)))
set_option maxRecDepth 100000 in
theorem gy_aPrice {j c : Nat} {D : gy_D} (T : gx_T w tp n) (S : gy_S tp n w j c (nI 0)) (hc : c ≤ j) (hD : gy_DR w c D) (hP : D.2.2.2.2.2.1.length < 16) (h1 : ∀ W j' E B, gy_pr (gx_kd tp n) (gx_nu tp n) j = .inr (j', E, B) → gy_Q w W → gy_S tp n W j' (c + E.length + B.length) (nI 0) → c + E.length + B.length ≤ j' → gy_DR W (c + E.length + B.length) (gy_addP D E B) → K (some (.int 1)) (gv W u q)) (h0 : ∀ W e p, gy_pr (gx_kd tp n) (gx_nu tp n) j = .inl (e, p) → gy_Q w W → W 95 38 = nI e → W 95 39 = nI (gx_sp tp n p) → K (some (.int 0)) (gv W u q)) : gp_Cal l G (d + 39) m_Rf_aPrice [.ref 95] (gv w u q) K := by
  obtain ⟨d1, d2, d3, d4, d5, d6, d7, d8, d9, d10⟩ := hD
  obtain ⟨P, eP⟩ : ∃ P, P = D.2.2.2.2.2.1.length := ⟨_, rfl⟩
  rw [← eP] at d7 d8 hP
  have hn := T.2.1
  have x1 : nI 96 + w 110 6 = nI (96 + P) := by rw [d7, nI_add]
  have c1 : (nI (96 + P)).toNatClampNeg = 96 + P := nI_clamp (by omega)
  have i1 : vp_in (nI (96 + P)) 112 := vp_in_nI (by omega) (by decide)
  have k81 : ∀ (W5 : Nat → Nat → Int32) (j' : Nat) (E B : gf_L), gy_pr (gx_kd tp n) (gx_nu tp n) j = .inr (j', E, B) → gy_Q w W5 → (∀ b, b ≠ 95 → b ≠ 117 → b ≠ 114 → b ≠ 115 → b ≠ 116 → W5 b = w b) → (∀ b, 114 ≤ b → b ≤ 116 → ∀ x, x ≠ 96 + P → W5 b x = w b x) → W5 114 (96 + P) = nI c → W5 115 (96 + P) = nI (c + E.length) → W5 116 (96 + P) = nI (c + E.length + B.length) → (∀ x, x < 6120 + 2 * c → W5 117 x = w 117 x) → gf_seg (W5 117) 6 c E → gf_seg (W5 117) 6 (c + E.length) B → gy_S tp n W5 j' (c + E.length + B.length) (nI 0) → c + E.length + B.length ≤ j' → gp_Go l G (d + 39) m_Rf_aPrice K 81 [some (.ref 95), some (.int (nI (96 + P)))] [] (gv W5 u q) 0 0 := by
    intro W5 j' E B er Q5 f1 f2 f3 f4 f5 f6 f7 f8 S5 hj
    refine gp_go od_Rf_aPrice rfl ?_
    (repeat refine gp_gc [81] od_Rf_aPrice rfl rfl ?_)
    refine And.intro (vp_in_nI (n := 6) (by decide) (by decide)) ?_
    (repeat refine gp_gc [81] od_Rf_aPrice rfl rfl ?_)
    refine And.intro (vp_in_nI (n := 6) (by decide) (by decide)) ?_
    (repeat refine gp_gc [81] od_Rf_aPrice rfl rfl ?_)
    refine And.intro (Or.inr rfl) (h1 (gw W5 110 6 (W5 110 6 + nI 1)) j' E B er (gy_Qw Q5 rfl) S5 hj ?_)
    refine ⟨?_, d2, ?_, ?_, ?_, ?_, ?_, ?_, ?_, ?_⟩
    · rw [gw_ne (by decide), f1 111 (by decide) (by decide) (by decide) (by decide) (by decide)]; exact d1
    · rw [gw_ne (by decide), f1 107 (by decide) (by decide) (by decide) (by decide) (by decide)]; exact d3
    · rw [gw_ne (by decide), f1 108 (by decide) (by decide) (by decide) (by decide) (by decide)]; exact d4
    · rw [gw_ne (by decide), f1 109 (by decide) (by decide) (by decide) (by decide) (by decide)]; exact d5
    · rw [gw_ne (by decide), f1 121 (by decide) (by decide) (by decide) (by decide) (by decide)]; exact d6
    · rw [gw_at, if_pos rfl, f1 110 (by decide) (by decide) (by decide) (by decide) (by decide), d7, nI_add]
      show nI (P + 1) = nI (D.2.2.2.2.2.1 ++ [(E, B)]).length
      rw [List.length_append, ← eP]
      rfl
    · show (D.2.2.2.2.2.1 ++ [(E, B)]).length ≤ 16
      rw [List.length_append, ← eP]
      exact hP
    · show gy_prs _ _ 0 (D.2.2.2.2.2.1 ++ [(E, B)])
      refine gy_prs_add _ 0 ?_ ?_
      · refine gy_prs_fr (w := w) (m := P) (c := c) (fun b b1 b2 x hx => ?_) (fun x hx => ?_) (by omega) _ 0 (by omega) d9
        · rw [gw_ne (by omega)]; exact f2 b b1 b2 x (by omega)
        · rw [gw_ne (by decide)]; exact f6 x hx
      · rw [← eP, Nat.zero_add]
        exact ⟨c, f3, f4, f5, Nat.le_refl _, f7, f8⟩
    · refine gy_trr_fr (w := w) (c := c) ?_ ?_ ?_ (fun x hx => ?_) (by omega) _ d10
      · rw [gw_ne (by decide), f1 122 (by decide) (by decide) (by decide) (by decide) (by decide)]
      · rw [gw_ne (by decide), f1 112 (by decide) (by decide) (by decide) (by decide) (by decide)]
      · rw [gw_ne (by decide), f1 113 (by decide) (by decide) (by decide) (by decide) (by decide)]
      · rw [gw_ne (by decide)]; exact f6 x hx
  refine gp_enter od_Rf_aPrice rfl ?_
  (repeat refine gp_gc [81] od_Rf_aPrice rfl rfl ?_)
  refine And.intro (vp_in_nI (n := 6) (by decide) (by decide)) ?_
  (repeat refine gp_gc [11, 81] od_Rf_aPrice rfl rfl ?_)
  have k11 : ∀ y : Int32, y = nI (96 + P) → gp_Go l G (d + 39) m_Rf_aPrice K 11 [some (.ref 95), some (.int y)] [] (gv w u q) 0 0 := by
    intro y ey
    subst ey
    refine gp_go od_Rf_aPrice rfl ?_
    (repeat refine gp_gc [81] od_Rf_aPrice rfl rfl ?_)
    refine And.intro i1 ?_
    (repeat refine gp_gc [81] od_Rf_aPrice rfl rfl ?_)
    have Sa : gy_S tp n (gw w 114 (nI (96 + P)).toNatClampNeg (w 95 32)) j c (nI 0) := S
    have ea : w 95 32 = nI c := S.2.2.2.2.1
    refine gy_ssumUp (d := d + 27) (gw w 114 (nI (96 + P)).toNatClampNeg (w 95 32)) j c _ T Sa hc ?_ ?_
    rotate_left
    · intro W1 e p er R1 k1 k2
      have e3 : gy_pr (gx_kd tp n) (gx_nu tp n) j = .inl (e, p) := by
        unfold gy_pr
        rw [er]
      (repeat refine gp_gc [81] od_Rf_aPrice rfl rfl ?_)
      refine gb1_ne_f rfl ?_
      (repeat refine gp_gc [81] od_Rf_aPrice rfl rfl ?_)
      exact And.intro (Or.inl rfl) (h0 W1 e p e3 (gy_Qt (gy_Qw (gy_Qr w) (by rw [c1]; unfold gy_in; simp)) (gy_QR R1)) k1 k2)
    intro W1 j1 E er R1 S1 seg1
    rw [c1] at R1
    have g := gy_E_g _ _ _ _ _ er
    have hj1 := gx_j_n g.2.2
    have inP : ∀ b, 114 ≤ b → b ≤ 116 → gy_in b (96 + P) = true := by
      intro b b1 b2
      unfold gy_in
      simp [b1, b2]
    have Q1 : gy_Q w W1 := gy_Qt (gy_Qw (gy_Qr w) (inP 114 (by decide) (by decide))) (gy_QR R1)
    have T1 := gy_QT Q1 T
    have eb : W1 95 32 = nI (c + E.length) := S1.2.2.2.2.1
    have e4 : gy_pr (gx_kd tp n) (gx_nu tp n) j = (if gx_kd tp n j1 = 5 then (match gy_B (gx_kd tp n) (gx_nu tp n) (j1 + 1) with
      | .inl e => .inl e
      | .inr (j2, B) => .inr (j2, E, B))
      else .inr (j1, E, [])) := by
      unfold gy_pr
      rw [er]
    have k50 : ∀ W2, W2 = gw (gw W1 115 (96 + P) (nI (c + E.length))) 116 (96 + P) (nI (c + E.length)) → gp_Go l G (d + 39) m_Rf_aPrice K 50 [some (.ref 95), some (.int (nI (96 + P)))] [] (gv W2 u q) 0 0 := by
      intro W2 eW2
      have a1 : ∀ b, b ≠ 95 → b ≠ 117 → b ≠ 114 → b ≠ 115 → b ≠ 116 → W2 b = w b := fun b b1 b2 b3 b4 b5 => by
        rw [eW2, gw_ne b5, gw_ne b4, R1.1 b b1 b2, gw_ne b3]
      have a2 : ∀ b, 114 ≤ b → b ≤ 116 → ∀ x, x ≠ 96 + P → W2 b x = w b x := by
        intro b b1 b2 x hx
        rcases (show b = 114 ∨ b = 115 ∨ b = 116 by omega) with rfl | rfl | rfl
        · rw [eW2, gw_ne (by decide), gw_ne (by decide), R1.1 114 (by decide) (by decide), gw_at, if_neg hx]
        · rw [eW2, gw_ne (by decide), gw_at, if_neg hx, R1.1 115 (by decide) (by decide), gw_ne (by decide)]
        · rw [eW2, gw_at, if_neg hx, gw_ne (by decide), R1.1 116 (by decide) (by decide), gw_ne (by decide)]
      have a3 : W2 114 (96 + P) = nI c := by rw [eW2, gw_ne (by decide), gw_ne (by decide), R1.1 114 (by decide) (by decide), gw_at, if_pos rfl, ea]
      have a4 : W2 115 (96 + P) = nI (c + E.length) := by rw [eW2, gw_ne (by decide), gw_at, if_pos rfl]
      have a5 : W2 116 (96 + P) = nI (c + E.length) := by rw [eW2, gw_at, if_pos rfl]
      have a6 : W2 117 = W1 117 := by rw [eW2, gw_ne (by decide), gw_ne (by decide)]
      have Q2 : gy_Q w W2 := by rw [eW2]; exact gy_Qw (gy_Qw Q1 (inP 115 (by decide) (by decide))) (inP 116 (by decide) (by decide))
      have S2 : gy_S tp n W2 j1 (c + E.length) (nI 0) := by
        have e95 : W2 95 = W1 95 := by rw [eW2, gw_ne (by decide), gw_ne (by decide)]
        unfold gy_S
        rw [e95]
        exact S1
      have b117 : ∀ x, x < 6120 + 2 * c → W2 117 x = w 117 x := fun x hx => by rw [a6, R1.2.2 x hx, gw_ne (by decide)]
      have seg2 : gf_seg (W2 117) 6 c E := by rw [a6]; exact seg1
      have t1 := gy_tk S2 (k := 5) (by decide)
      refine gp_go od_Rf_aPrice rfl ?_
      (repeat refine gp_gc [81] od_Rf_aPrice rfl rfl ?_)
      by_cases b : gx_kd tp n j1 = 5
      · rw [if_pos b] at e4
        refine gb_ne_f (t1.mpr b) ?_
        (repeat refine gp_gc [81] od_Rf_aPrice rfl rfl ?_)
        refine gy_next (d := d + 30) (gy_QT Q2 T) S2 (fun W3 hW3 S3 => ?_)
        (repeat refine gp_gc [81] od_Rf_aPrice rfl rfl ?_)
        refine gy_sB (d := d) W3 (j1 + 1) (c + E.length) _ (gy_RT (hW3 0) (gy_QT Q2 T)) S3 (by omega) ?_ ?_
        · intro W4 j2 B er2 R4 S4 seg4
          have g2 := gy_an_g (gy_one_g _ _ _) _ _ _ er2
          rw [er2] at e4
          have R24 : gy_R W2 W4 (c + E.length) := gy_trans (hW3 _) R4 (Nat.le_refl _)
          have ed : W4 95 32 = nI (c + E.length + B.length) := S4.2.2.2.2.1
          (repeat refine gp_gc [81] od_Rf_aPrice rfl rfl ?_)
          refine gb1_ne_t (by decide) ?_
          (repeat refine gp_gc [81] od_Rf_aPrice rfl rfl ?_)
          refine And.intro i1 ?_
          (repeat refine gp_gc [81] od_Rf_aPrice rfl rfl ?_)
          rw [c1]
          refine k81 (gw W4 116 (96 + P) (W4 95 32)) j2 E B e4 (gy_Qw (gy_Qt Q2 (gy_QR R24)) (inP 116 (by decide) (by decide))) ?_ ?_ ?_ ?_ ?_ ?_ ?_ ?_ S4 (by omega)
          · intro b b1 b2 b3 b4 b5
            rw [gw_ne b5, R24.1 b b1 b2, a1 b b1 b2 b3 b4 b5]
          · intro b b1 b2 x hx
            by_cases e : b = 116
            · subst e
              rw [gw_at, if_neg hx, R24.1 116 (by decide) (by decide), a2 116 (by decide) (by decide) x hx]
            · rw [gw_ne e, R24.1 b (by omega) (by omega), a2 b b1 b2 x hx]
          · rw [gw_ne (by decide), R24.1 114 (by decide) (by decide), a3]
          · rw [gw_ne (by decide), R24.1 115 (by decide) (by decide), a4]
          · rw [gw_at, if_pos rfl, ed]
          · intro x hx
            rw [gw_ne (by decide), R24.2.2 x (by omega), b117 x hx]
          · rw [gw_ne (by decide)]
            exact gf_seg_cg R24.2.2 (Nat.le_refl _) seg2
          · rw [gw_ne (by decide)]
            exact seg4
        · intro W4 e p er2 R4 k1 k2
          rw [er2] at e4
          (repeat refine gp_gc [81] od_Rf_aPrice rfl rfl ?_)
          refine gb1_ne_f rfl ?_
          (repeat refine gp_gc [81] od_Rf_aPrice rfl rfl ?_)
          exact And.intro (Or.inl rfl) (h0 W4 e p e4 (gy_Qt (gy_Qt Q2 (gy_QR (hW3 0))) (gy_QR R4)) k1 k2)
      · rw [if_neg b] at e4
        refine gb_ne_t (fun z => b (t1.mp z)) ?_
        exact k81 W2 j1 E [] e4 Q2 a1 a2 a3 a4 a5 b117 seg2 trivial S2 (by simp; omega)
    (repeat refine gp_gc [50, 81] od_Rf_aPrice rfl rfl ?_)
    refine gb1_ne_t (by decide) ?_
    (repeat refine gp_gc [50, 81] od_Rf_aPrice rfl rfl ?_)
    refine And.intro i1 ?_
    (repeat refine gp_gc [50, 81] od_Rf_aPrice rfl rfl ?_)
    refine And.intro i1 ?_
    (repeat refine gp_gc [50, 81] od_Rf_aPrice rfl rfl ?_)
    rw [c1, eb]
    exact k50 (gw (gw W1 115 (96 + P) (nI (c + E.length))) 116 (96 + P) (nI (c + E.length))) rfl
  exact k11 _ x1
end

end
