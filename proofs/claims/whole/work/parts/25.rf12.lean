section
variable {l : Launch} {G : gp_G} {d : Nat} {w : Nat → Nat → Int32} {u : Int64 × (Nat → Int64)} {q : Nat → Nat} {K : Option Value → gp_H → Prop}
/-! ===== the reference's methods: prices ===== -/
theorem gf_ev1_congr {F F' : Nat → Int32} (h : ∀ j, j < 14 → F j = F' j) (i : Nat × Int32) (s : List Int32) : gf_ev1 F i s = gf_ev1 F' i s := by
  unfold gf_ev1
  by_cases b : i.1 < 14
  · simp only [if_pos b, h i.1 b]
  · simp only [if_neg b]
theorem gf_ev_congr {F F' : Nat → Int32} (h : ∀ j, j < 14 → F j = F' j) : ∀ (L : gf_L) (s : List Int32), gf_ev F L s = gf_ev F' L s
  | [], s => rfl
  | i :: L, s => by
    simp only [gf_ev, gf_ev1_congr h i s]
    cases gf_ev1 F' i s with
    | none => rfl
    | some s' => exact gf_ev_congr h L s'
def gf_val (F : Nat → Int32) (L : gf_L) : Int32 := match gf_ev F L [] with
  | some (r :: _) => r
  | _ => 0
theorem gf_val_congr {F F' : Nat → Int32} (h : ∀ j, j < 14 → F j = F' j) (L : gf_L) : gf_val F L = gf_val F' L := by unfold gf_val; rw [gf_ev_congr h]
/-- a line that is well made leaves one value -/
def gf_wfE (L : gf_L) : Prop := ∀ F, ∃ r, gf_ev F L [] = some [r]
def gf_wfB (L : gf_L) : Prop := ∀ F, ∃ r, gf_ev F L [] = some [r] ∧ (r = 0 ∨ r = 1)
theorem gf_wfE_v {L : gf_L} (h : gf_wfE L) (F : Nat → Int32) : gf_ev F L [] = some [gf_val F L] := by
  obtain ⟨r, hr⟩ := h F
  unfold gf_val
  rw [hr]
theorem gf_wfB_v {L : gf_L} (h : gf_wfB L) (F : Nat → Int32) : gf_ev F L [] = some [gf_val F L] ∧ (gf_val F L = 0 ∨ gf_val F L = 1) := by
  obtain ⟨r, hr, h2⟩ := h F
  unfold gf_val
  rw [hr]
  exact ⟨rfl, h2⟩
def gf_clip (v : Int32) : Int32 := if v < 0 then 0 else if 999 < v then 999 else v
def gf_price (F : Nat → Int32) : List (gf_L × gf_L) → Int32
  | [] => 0
  | (E, B) :: t => if B = [] ∨ gf_val F B = 1 then gf_clip (gf_val F E) else gf_price F t
theorem gf_price_congr {F F' : Nat → Int32} (h : ∀ j, j < 14 → F j = F' j) : ∀ PL, gf_price F PL = gf_price F' PL
  | [] => rfl
  | (E, B) :: t => by simp only [gf_price, gf_val_congr h, gf_price_congr h t]
/-- the price lines of mind k, as the reference keeps them, from the i-th on -/
def gf_prs (w : Nat → Nat → Int32) (k : Nat) : Nat → List (gf_L × gf_L) → Prop
  | _, [] => True
  | i, (E, B) :: t => (∃ a : Nat, w 114 (16 * k + i) = nI a ∧ w 115 (16 * k + i) = nI (a + E.length) ∧ w 116 (16 * k + i) = nI (a + E.length + B.length) ∧ a + E.length + B.length ≤ 510 ∧ gf_seg (w 117) k a E ∧ gf_seg (w 117) k (a + E.length) B) ∧ gf_wfE E ∧ (B = [] ∨ gf_wfB B) ∧ gf_prs w k (i + 1) t
set_option maxRecDepth 100000 in
theorem sp_Rf_priceNow {k : Int32} {kn : Nat} {PL : List (gf_L × gf_L)} (ek : k = nI kn) (hk : kn < 7) (en : w 110 kn = nI PL.length) (hn : PL.length ≤ 16) (hp : gf_prs w kn 0 PL) (h : ∀ f, K (some (.int (gf_price (w 120) PL))) (gv (gr w 119 f) u q)) : gp_Cal l G (d + 2) m_Rf_priceNow [.ref 95, .int k] (gv w u q) K := by
  refine gp_enter od_Rf_priceNow rfl ?_
  have ek2 : k.toNatClampNeg = kn := by rw [ek]; exact nI_clamp (by omega)
  have i0 : vp_in k 7 := by rw [ek]; exact vp_in_nI hk (by decide)
  (repeat refine gp_gc [2, 58] od_Rf_priceNow rfl rfl ?_)
  have key : ∀ (t : List (gf_L × gf_L)) (i : Nat) (f : Nat → Int32), i + t.length = PL.length → gf_prs w kn i t → (∀ f, K (some (.int (gf_price (w 120) t))) (gv (gr w 119 f) u q)) → gp_Go l G (d + 2) m_Rf_priceNow K 2 [some (.ref 95), some (.int k), some (.int (nI i)), none, none] [] (gv (gr w 119 f) u q) 0 0 := by
    intro t
    induction t with
    | nil =>
      intro i f hi _ h
      refine gp_go od_Rf_priceNow rfl ?_
      (repeat refine gp_gc [2, 58] od_Rf_priceNow rfl rfl ?_)
      refine And.intro i0 ?_
      (repeat refine gp_gc [2, 58] od_Rf_priceNow rfl rfl ?_)
      rw [ek2]
      refine gb_ge_t (show w 110 kn ≤ nI i by rw [en]; exact nI_le (by simp at hi; omega) (by simp at hi; omega)) ?_
      (repeat refine gp_gc [2, 58] od_Rf_priceNow rfl rfl ?_)
      exact h f
    | cons EB t ih =>
      obtain ⟨E, B⟩ := EB
      intro i f hi hp h
      obtain ⟨⟨a, g1, g2, g3, g4, g5, g6⟩, wE, wB, hp⟩ := hp
      simp only [List.length_cons] at hi
      have e16 : 16 * k + nI i = nI (16 * kn + i) := by
        rw [ek]
        show nI 16 * nI kn + nI i = _
        rw [pk_mul, nI_add]
      have c16 : (nI (16 * kn + i)).toNatClampNeg = 16 * kn + i := nI_clamp (by omega)
      have i1 : vp_in (nI (16 * kn + i)) 112 := vp_in_nI (by omega) (by decide)
      have inc : nI i + Int32.ofInt 1 = nI (i + 1) := gp_inc rfl
      have pay : ∀ f : Nat → Int32, (B = [] ∨ gf_val (w 120) B = 1) → gp_Go l G (d + 2) m_Rf_priceNow K 58 [some (.ref 95), some (.int k), some (.int (nI i)), some (.int (nI (16 * kn + i))), none] [] (gv (gr w 119 f) u q) 0 0 := by
        intro f hB
        have h : ∀ f, K (some (.int (gf_clip (gf_val (w 120) E)))) (gv (gr w 119 f) u q) := fun f => by
          have := h f
          rw [gf_price, if_pos hB] at this
          exact this
        refine gp_go od_Rf_priceNow rfl ?_
        (repeat refine gp_gc [2, 58] od_Rf_priceNow rfl rfl ?_)
        refine And.intro i1 ?_
        (repeat refine gp_gc [2, 58] od_Rf_priceNow rfl rfl ?_)
        refine And.intro i1 ?_
        (repeat refine gp_gc [2, 58] od_Rf_priceNow rfl rfl ?_)
        rw [c16]
        refine sp_Rf_comesTo (d := d) (w := gr w 119 f) (L := E) ek hk g1 g2 (by omega) g5 (gf_wfE_v wE _) (fun f2 => ?_)
        rw [gr_gr]
        have h := h f2
        unfold gf_clip at h
        (repeat refine gp_gc [2, 58] od_Rf_priceNow rfl rfl ?_)
        by_cases b1 : gf_val (w 120) E < 0
        · rw [if_pos b1] at h
          refine gb1_ge_f' b1 ?_
          (repeat refine gp_gc [2, 58] od_Rf_priceNow rfl rfl ?_)
          exact h
        rw [if_neg b1] at h
        refine gb1_ge_t' b1 ?_
        (repeat refine gp_gc [2, 58] od_Rf_priceNow rfl rfl ?_)
        by_cases b2 : 999 < gf_val (w 120) E
        · rw [if_pos b2] at h
          refine gb_le_f' b2 ?_
          (repeat refine gp_gc [2, 58] od_Rf_priceNow rfl rfl ?_)
          exact h
        · rw [if_neg b2] at h
          refine gb_le_t' b2 ?_
          (repeat refine gp_gc [2, 58] od_Rf_priceNow rfl rfl ?_)
          exact h
      refine gp_go od_Rf_priceNow rfl ?_
      (repeat refine gp_gc [2, 58] od_Rf_priceNow rfl rfl ?_)
      refine And.intro i0 ?_
      (repeat refine gp_gc [2, 58] od_Rf_priceNow rfl rfl ?_)
      rw [ek2]
      refine gb_ge_f (show ¬ w 110 kn ≤ nI i by rw [en]; exact nI_ge (by omega) (by omega)) ?_
      (repeat refine gp_gc [2, 58] od_Rf_priceNow rfl rfl ?_)
      rw [show Int8.toInt32 (Int8.ofInt 16) * k + nI i = nI (16 * kn + i) from e16]
      refine And.intro i1 ?_
      (repeat refine gp_gc [2, 58] od_Rf_priceNow rfl rfl ?_)
      refine And.intro i1 ?_
      (repeat refine gp_gc [2, 58] od_Rf_priceNow rfl rfl ?_)
      rw [c16]
      rcases wB with rfl | wB
      · have c : ¬ w 115 (16 * kn + i) < w 116 (16 * kn + i) := by rw [g2, g3]; simp only [List.length_nil, Nat.add_zero]; exact fun z => Int32.lt_irrefl z
        refine gb_le_t' c ?_
        (repeat refine gp_gc [2, 58] od_Rf_priceNow rfl rfl ?_)
        exact pay f (Or.inl rfl)
      by_cases hB0 : B = []
      · subst hB0
        have c : ¬ w 115 (16 * kn + i) < w 116 (16 * kn + i) := by rw [g2, g3]; simp only [List.length_nil, Nat.add_zero]; exact fun z => Int32.lt_irrefl z
        refine gb_le_t' c ?_
        (repeat refine gp_gc [2, 58] od_Rf_priceNow rfl rfl ?_)
        exact pay f (Or.inl rfl)
      have hBl : 0 < B.length := List.length_pos_iff.mpr hB0
      have c : w 115 (16 * kn + i) < w 116 (16 * kn + i) := by rw [g2, g3]; exact nI_lt (by omega) (by omega)
      refine gb_le_f' c ?_
      (repeat refine gp_gc [2, 58] od_Rf_priceNow rfl rfl ?_)
      refine And.intro i1 ?_
      (repeat refine gp_gc [2, 58] od_Rf_priceNow rfl rfl ?_)
      refine And.intro i1 ?_
      (repeat refine gp_gc [2, 58] od_Rf_priceNow rfl rfl ?_)
      rw [c16]
      refine sp_Rf_comesTo (d := d) (w := gr w 119 f) (L := B) ek hk g2 g3 (by omega) g6 (gf_wfB_v wB _).1 (fun f2 => ?_)
      rw [gr_gr]
      (repeat refine gp_gc [2, 58] od_Rf_priceNow rfl rfl ?_)
      by_cases b1 : gf_val (w 120) B = 1
      · refine gb_eq_t b1 ?_
        (repeat refine gp_gc [2, 58] od_Rf_priceNow rfl rfl ?_)
        exact pay f2 (Or.inr b1)
      · refine gb_eq_f b1 ?_
        (repeat refine gp_gc [2, 58] od_Rf_priceNow rfl rfl ?_)
        rw [inc]
        refine gp_drop 3 ?_
        refine ih (i + 1) f2 (by omega) hp (fun f => ?_)
        have := h f
        rw [gf_price, if_neg (fun z => z.elim hB0 b1)] at this
        exact this
  have k0 := key PL 0 (w 119) (by omega) hp h
  rw [gr_self] at k0
  exact k0
set_option maxRecDepth 100000 in
theorem sp_Rf_thing {m t : Int32} (i1 : vp_in m 16) (i2 : ¬ t = 1 → vp_in (2 * m + t - 2) 32) (h : K (some (.int (if t = 1 then w 97 m.toNatClampNeg else w 103 (2 * m + t - 2).toNatClampNeg))) (gv w u q)) : gp_Cal l G (d + 0) m_Rf_thing [.ref 95, .int m, .int t] (gv w u q) K := by
  refine gp_enter od_Rf_thing rfl ?_
  (repeat refine gp_gc [] od_Rf_thing rfl rfl ?_)
  by_cases b : t = 1
  · rw [if_pos b] at h
    refine gb_ne_f b ?_
    (repeat refine gp_gc [] od_Rf_thing rfl rfl ?_)
    refine And.intro i1 ?_
    (repeat refine gp_gc [] od_Rf_thing rfl rfl ?_)
    exact h
  · rw [if_neg b] at h
    refine gb_ne_t b ?_
    (repeat refine gp_gc [] od_Rf_thing rfl rfl ?_)
    refine And.intro (i2 b) ?_
    (repeat refine gp_gc [] od_Rf_thing rfl rfl ?_)
    exact h

end
