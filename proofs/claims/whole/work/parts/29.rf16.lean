section
variable {l : Launch} {G : gp_G} {d : Nat} {w : Nat → Nat → Int32} {u : Int64 × (Nat → Int64)} {q : Nat → Nat} {K : Option Value → gp_H → Prop}
/-! ===== cells that no answer of a later call shows ===== -/
def gs_b (b : Nat) : Bool := b == 4 || (b == 52 || b == 53 || b == 54) || (Nat.ble 65 b && Nat.ble b 75) || (b == 80 || b == 81 || b == 82) || b == 106 || (b == 119 || b == 120) || (b == 123 || b == 124 || b == 125) || (b == 128 || b == 129)
def gs_k (k : Nat) : Bool := k == 46 || k == 47 || k == 48 || k == 49 || k == 56
def gs_R (w W : Nat → Nat → Int32) : Prop := (∀ b, gs_b b = false → b ≠ 83 → b ≠ 95 → W b = w b) ∧ (∀ k, gs_k k = false → W 95 k = w 95 k) ∧ W 83 7 = w 83 7
theorem gs_refl (w : Nat → Nat → Int32) : gs_R w w := ⟨fun _ _ _ _ => rfl, fun _ _ => rfl, rfl⟩
theorem gs_trans {w W X : Nat → Nat → Int32} (h1 : gs_R w W) (h2 : gs_R W X) : gs_R w X :=
  ⟨fun b h a c => (h2.1 b h a c).trans (h1.1 b h a c), fun k h => (h2.2.1 k h).trans (h1.2.1 k h), h2.2.2.trans h1.2.2⟩
theorem gs_gr {w W : Nat → Nat → Int32} {a : Nat} {f : Nat → Int32} (h : gs_R w W) (ha : gs_b a = true) : gs_R w (gr W a f) := by
  have n83 : (83 : Nat) ≠ a := fun e => by subst e; exact absurd ha (by decide)
  have n95 : (95 : Nat) ≠ a := fun e => by subst e; exact absurd ha (by decide)
  refine ⟨fun b hb h1 h2 => ?_, fun k hk => ?_, ?_⟩
  · have e : b ≠ a := fun e => by rw [e, ha] at hb; exact absurd hb (by decide)
    have : gr W a f b = W b := if_neg e
    rw [this]
    exact h.1 b hb h1 h2
  · have : gr W a f 95 = W 95 := if_neg n95
    rw [this]
    exact h.2.1 k hk
  · have : gr W a f 83 = W 83 := if_neg n83
    rw [this]
    exact h.2.2
theorem gs_gw {w W : Nat → Nat → Int32} {a k : Nat} {x : Int32} (h : gs_R w W) (ha : gs_b a = true) : gs_R w (gw W a k x) := by
  have e : gw W a k x = gr W a (upd (W a) k x) := rfl
  rw [e]
  exact gs_gr h ha
theorem gs_95 {w W : Nat → Nat → Int32} {k : Nat} {x : Int32} (h : gs_R w W) (hk : gs_k k = true) : gs_R w (gw W 95 k x) := by
  refine ⟨fun b hb h1 h2 => ?_, fun j hj => ?_, ?_⟩
  · rw [gw_ne h2]
    exact h.1 b hb h1 h2
  · rw [gw_at, if_neg (fun e => by rw [e, hk] at hj; exact absurd hj (by decide))]
    exact h.2.1 j hj
  · rw [gw_ne (by decide)]
    exact h.2.2
theorem gs_83 {w W : Nat → Nat → Int32} {k : Nat} {x : Int32} (h : gs_R w W) (hk : k ≠ 7) : gs_R w (gw W 83 k x) := by
  refine ⟨fun b hb h1 h2 => ?_, fun j hj => ?_, ?_⟩
  · rw [gw_ne h1]
    exact h.1 b hb h1 h2
  · rw [gw_ne (by decide)]
    exact h.2.1 j hj
  · rw [gw_at, if_neg (fun e => hk e.symm)]
    exact h.2.2
/-! ===== the reference's methods: readings, cheapest ===== -/
theorem gf_clip_b (v : Int32) : ∃ p : Nat, p ≤ 999 ∧ gf_clip v = nI p := by
  unfold gf_clip
  by_cases h : v < 0
  · exact ⟨0, by decide, if_pos h⟩
  · rw [if_neg h]
    by_cases h2 : 999 < v
    · exact ⟨999, by decide, if_pos h2⟩
    · rw [if_neg h2]
      obtain ⟨j, hj, e⟩ := nI_of2 (M := 999) (n := 999) rfl h (Int32.not_lt.mp h2)
      exact ⟨j, hj, e⟩
theorem gf_price_b (F : Nat → Int32) : ∀ PL, ∃ p : Nat, p ≤ 999 ∧ gf_price F PL = nI p
  | [] => ⟨0, by decide, rfl⟩
  | (E, B) :: t => by
    unfold gf_price
    split
    · exact gf_clip_b _
    · exact gf_price_b F t
def gz_P (w : Nat → Nat → Int32) (ms : Nat → Nat) (PL : List (gf_L × gf_L)) (x : Nat) : Nat := (gf_Q w ms PL x).toNatClampNeg
theorem gz_P_e (w : Nat → Nat → Int32) (ms : Nat → Nat) (PL : List (gf_L × gf_L)) (x : Nat) : gf_Q w ms PL x = nI (gz_P w ms PL x) ∧ gz_P w ms PL x ≤ 999 := by
  obtain ⟨p, hp, e⟩ := gf_price_b (gf_Fm w ms (x / 8) (x % 8 / 2) (x % 2)) PL
  have e1 : gf_Q w ms PL x = nI p := e
  have e2 : gz_P w ms PL x = p := by unfold gz_P; rw [e1]; exact nI_clamp (by omega)
  rw [e2, e1]
  exact ⟨rfl, hp⟩
/-- mind kn's price lines, as the reference keeps them -/
def gf_mind (w : Nat → Nat → Int32) (kn : Nat) (PL : List (gf_L × gf_L)) : Prop := w 110 kn = nI PL.length ∧ PL.length ≤ 16 ∧ gf_prs w kn 0 PL
def gz_all (w : Nat → Nat → Int32) (kn : Nat) (ms : Nat → Nat) (PL : List (gf_L × gf_L)) (n : Nat) : List gz_S := gz_c (gz_ok w kn ms) (gz_co w ms (gz_P w ms PL)) n 0 (fun _ => 0) 0
theorem gz_ok_congr {w W : Nat → Nat → Int32} {kn : Nat} {ms : Nat → Nat} (h : ∀ i t tk, gf_can W kn ms i t tk ↔ gf_can w kn ms i t tk) : gz_ok W kn ms = gz_ok w kn ms := by
  funext i t tk
  exact Bool.eq_iff_iff.mpr (gz_ok_iff.trans ((h i t tk).trans gz_ok_iff.symm))
theorem gz_co_congr {w W : Nat → Nat → Int32} {ms P : Nat → Nat} (h1 : W 97 = w 97) (h2 : W 103 = w 103) : gz_co W ms P = gz_co w ms P := by
  funext i t tk
  unfold gz_co gz_tb gf_thing
  rw [gz_tw_congr h1 h2, h1, h2]
/-- the world when the prices are laid -/
def gz_w2 (w : Nat → Nat → Int32) (k b : Int32) (f g p : Nat → Int32) : Nat → Nat → Int32 := gw (gf_lp w k f g p) 95 47 b
section
variable {kn n : Nat} {ms : Nat → Nat} {PL : List (gf_L × gf_L)}
theorem gz_w2_H {k b : Int32} {f g p : Nat → Int32} (ek : k = nI kn) (hk : kn < 7) (hm : gf_ms w n ms) (hn : n ≤ 10) (hp : ∀ x, x < 8 * n → p x = gf_Q w ms PL x) : gz_H (gz_w2 w k b f g p) kn n ms (gz_P w ms PL) :=
  ⟨hk, ek, hm, hn, fun x hx => ⟨(hp x hx).trans (gz_P_e w ms PL x).1, (gz_P_e w ms PL x).2⟩⟩
theorem gz_w2_all {k b : Int32} {f g p : Nat → Int32} : gz_c (gz_ok (gz_w2 w k b f g p) kn ms) (gz_co (gz_w2 w k b f g p) ms (gz_P w ms PL)) n 0 (fun _ => 0) 0 = gz_all w kn ms PL n := by
  rw [gz_ok_congr (w := w) (W := gz_w2 w k b f g p) (fun _ _ _ => Iff.rfl), gz_co_congr (w := w) (W := gz_w2 w k b f g p) rfl rfl]
  rfl
theorem gz_w2_R {k b : Int32} {f g p : Nat → Int32} : gs_R w (gz_w2 w k b f g p) :=
  gs_95 (gs_gr (gs_gr (gs_gr (gs_95 (gs_refl w) rfl) rfl) rfl) rfl) rfl
theorem gz_W_R {W : Nat → Nat → Int32} {x y : Int32} {a c : Nat → Int32} (h : gs_R w W) : gs_R w (gz_W W x y a c) :=
  gs_gr (gs_gr (gs_95 (gs_95 h rfl) rfl) rfl) rfl
set_option maxRecDepth 100000 in
theorem sp_Rf_seeks {k : Int32} (ek : k = nI kn) (hk : kn < 7) (hM : gf_mind w kn PL) (hm : gf_ms w n ms) (hn : n ≤ 10) (h : ∀ W, gs_R w W → gz_rp n (gz_bs none (gz_all w kn ms PL n)) (W 95 49) (W 125) → K none (gv W u q)) : gp_Cal l G (d + 15) m_Rf_seeks [.ref 95, .int k] (gv w u q) K := by
  refine gp_enter od_Rf_seeks rfl ?_
  (repeat refine gp_gc [] od_Rf_seeks rfl rfl ?_)
  refine sp_Rf_laysPrices (d := d + 11) ek hk hM.1 hM.2.1 hM.2.2 hm hn (fun f g p hp => ?_)
  (repeat refine gp_gc [] od_Rf_seeks rfl rfl ?_)
  have key := gl_goB (l := l) (G := G) (d := d + (10 - n)) (u := u) (q := q) (gz_w2_H (b := w 95 47) (f := f) (g := g) ek hk hm hn hp) n 0
  have ed : d + (10 - n) + n + 4 = d + 14 := by omega
  rw [ed] at key
  refine key _ (fun _ => 0) 0 none (w 95 48) (-1) (w 124) (w 125) (by omega) (by omega) rfl (fun j hj => by omega) (fun x' y' a' c' hr _ => ?_)
  rw [gz_w2_all] at hr
  (repeat refine gp_gc [] od_Rf_seeks rfl rfl ?_)
  exact h _ (gz_W_R gz_w2_R) hr
set_option maxRecDepth 100000 in
theorem sp_Rf_readings {k price : Int32} {PLf : Nat → List (gf_L × gf_L)} (hmi : ∀ kn, kn < 6 → gf_mind w kn (PLf kn)) (hm : gf_ms w n ms) (hn : n ≤ 16) (h1 : ∀ kn b W, k = nI kn → kn < 6 → price = nI b → b ≤ 9999 → n ≤ 10 → gs_R w W → K (some (.int (if 2000 < gz_ct b 0 (gz_all w kn ms (PLf kn) n) then -2 else nI (gz_ct b 0 (gz_all w kn ms (PLf kn) n))))) (gv W u q)) (h0 : ¬ ((0 ≤ k ∧ k ≤ 5) ∧ (0 ≤ price ∧ price ≤ 9999) ∧ n ≤ 10) → K (some (.int (-1))) (gv w u q)) : gp_Cal l G (d + 15) m_Rf_readings [.ref 95, .int k, .int price] (gv w u q) K := by
  refine gp_enter od_Rf_readings rfl ?_
  (repeat refine gp_gc [] od_Rf_readings rfl rfl ?_)
  refine sp_Rf_isMind (fun a1 b1 => ?_) (fun n1 => ?_)
  rotate_left
  · repeat refine gp_gc [] od_Rf_readings rfl rfl ?_
    first | refine And.intro (fun _ => ?_) (fun c => absurd rfl c) | refine And.intro (fun c => absurd rfl c) (fun _ => ?_)
    repeat refine gp_gc [] od_Rf_readings rfl rfl ?_
    exact h0 (fun z => n1 z.1)
  repeat refine gp_gc [] od_Rf_readings rfl rfl ?_
  first | refine And.intro (fun c => absurd c (by decide)) (fun _ => ?_) | refine And.intro (fun _ => ?_) (fun c => absurd c (by decide))
  repeat refine gp_gc [] od_Rf_readings rfl rfl ?_
  refine sp_Rf_isIn (fun a2 b2 => ?_) (fun n2 => ?_)
  rotate_left
  · repeat refine gp_gc [] od_Rf_readings rfl rfl ?_
    first | refine And.intro (fun _ => ?_) (fun c => absurd rfl c) | refine And.intro (fun c => absurd rfl c) (fun _ => ?_)
    repeat refine gp_gc [] od_Rf_readings rfl rfl ?_
    exact h0 (fun z => n2 z.2.1)
  repeat refine gp_gc [] od_Rf_readings rfl rfl ?_
  first | refine And.intro (fun c => absurd c (by decide)) (fun _ => ?_) | refine And.intro (fun _ => ?_) (fun c => absurd c (by decide))
  repeat refine gp_gc [] od_Rf_readings rfl rfl ?_
  by_cases b3 : n ≤ 10
  rotate_left
  · refine gb_le_f (show ¬ w 95 2 ≤ nI 10 by rw [hm.1]; exact nI_ge (by omega) (by omega)) ?_
    (repeat refine gp_gc [] od_Rf_readings rfl rfl ?_)
    exact h0 (fun z => b3 z.2.2)
  refine gb_le_t (show w 95 2 ≤ nI 10 by rw [hm.1]; exact nI_le b3 (by decide)) ?_
  (repeat refine gp_gc [] od_Rf_readings rfl rfl ?_)
  obtain ⟨kn, hkn, ek⟩ := nI_of2 (n := 5) (M := 5) rfl (Int32.not_lt.mpr a1) b1
  obtain ⟨b, hb, eb⟩ := nI_of2 (n := 9999) (M := 9999) rfl (Int32.not_lt.mpr a2) b2
  have hM := hmi kn (by omega)
  refine sp_Rf_laysPrices (d := d + 11) ek (show kn < 7 by omega) hM.1 hM.2.1 hM.2.2 hm b3 (fun f g p hp => ?_)
  (repeat refine gp_gc [] od_Rf_readings rfl rfl ?_)
  have key := gl_goC (l := l) (G := G) (d := d + (10 - n)) (u := u) (q := q) (gz_w2_H (b := price) (f := f) (g := g) ek (show kn < 7 by omega) hm b3 hp) eb hb n 0
  have ed : d + (10 - n) + n + 4 = d + 14 := by omega
  rw [ed] at key
  refine key _ (fun _ => 0) 0 0 0 (w 95 49) (w 124) (w 125) (by omega) (by omega) ⟨rfl, by decide⟩ (fun j hj => by omega) (fun x' y' a' c' hr _ => ?_)
  rw [gz_w2_all] at hr
  have h1 := h1 kn b (gz_W (gz_w2 w k price f g p) x' y' a' c') ek (by omega) eb hb b3 (gz_W_R gz_w2_R)
  obtain ⟨r1, r2⟩ := hr
  (repeat refine gp_gc [] od_Rf_readings rfl rfl ?_)
  by_cases b4 : 2000 < gz_ct b 0 (gz_all w kn ms (PLf kn) n)
  · rw [if_pos b4] at h1
    refine gb_le_f (show ¬ x' ≤ nI 2000 by rw [r1]; exact nI_ge b4 (by omega)) ?_
    (repeat refine gp_gc [] od_Rf_readings rfl rfl ?_)
    exact h1
  · rw [if_neg b4, ← r1] at h1
    refine gb_le_t (show x' ≤ nI 2000 by rw [r1]; exact nI_le (by omega) (by decide)) ?_
    (repeat refine gp_gc [] od_Rf_readings rfl rfl ?_)
    exact h1
end

end
