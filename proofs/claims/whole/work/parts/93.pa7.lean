section
variable {l : Launch} {G : gp_G} {d : Nat} {w : Nat → Nat → Int32} {u : Int64 × (Nat → Int64)} {q : Nat → Nat} {K : Option Value → gp_H → Prop}
/-! ===== the class's parser: the draft ===== -/
theorem gs_putZ {l : Launch} {G : gp_G} {d : Nat} {M : gp_M} {K : Option Value → gp_H → Prop} {k : gp_K} {idx pc : Nat} {ls : List (Option Value)} {r : List Value} {V : gp_H} {cs ss a ci kf : Nat} {fs : List Value} {x : Int32} (hV : gp_nth V a = some (.inr (ci, fs))) (hl : gp_lk (gp_fl (gp_o M)) idx = some (ci, kf, 1, false)) (hf : Nat.blt kf fs.length = true) (hx : x = 0 ∨ x = 1) (h : k (pc + 3) ls r (V.set a (.inr (ci, fs.set kf (.int x)))) cs ss) : gp_step l G d M K k (.putfield idx) 3 pc ls (.int x :: .ref a :: r) V cs ss := by
  simp only [gp_step, gp_ln, gp_row, hl, gp_ob, hV, Nat.beq_refl, hf, gp_bt, gp_pv]
  exact ⟨hx, h⟩
/-- what reading a line may change -/
def gLF (m : Nat) (w W : Nat → Nat → Int32) : Prop := (∀ b, b ≠ 55 → (∀ j, j ≤ 4 → b ≠ gp_ma m + j) → W b = w b) ∧ ∀ k, k ≠ 6 → k ≠ 7 → k ≠ 8 → W 55 k = w 55 k
theorem gLF_r (m : Nat) (w : Nat → Nat → Int32) : gLF m w w := ⟨fun _ _ _ => rfl, fun _ _ _ _ => rfl⟩
theorem gLF_t {m : Nat} {w W X : Nat → Nat → Int32} (h1 : gLF m w W) (h2 : gLF m W X) : gLF m w X := ⟨fun b a1 a2 => (h2.1 b a1 a2).trans (h1.1 b a1 a2), fun k a1 a2 a3 => (h2.2 k a1 a2 a3).trans (h1.2 k a1 a2 a3)⟩
theorem gLF_E {m c : Nat} {w W : Nat → Nat → Int32} (h : gEF m w W c) : gLF m w W := ⟨fun b a1 a2 => h.1 b a1 (a2 0 (by decide)) (a2 1 (by decide)), h.2.1⟩
theorem gLF_m {m j k : Nat} {w W : Nat → Nat → Int32} {x : Int32} (hm : m < 7) (hj : j ≤ 4) (h : gLF m w W) : gLF m w (gw W (gp_ma m + j) k x) :=
  ⟨fun b a1 a2 => by rw [gw_ne (a2 j hj)]; exact h.1 b a1 a2, fun k a1 a2 a3 => by rw [gw_ne (Ne.symm (gp_ma_55 hm j hj))]; exact h.2 k a1 a2 a3⟩
theorem gLF_B {tp : Nat → Nat} {n t m : Nat} {w W : Nat → Nat → Int32} (hm : m < 7) (h : gLF m w W) (B : gpB w tp n t) : gpB W tp n t := by
  obtain ⟨b1, b2, b3, b4, b5⟩ := B
  refine ⟨by rw [h.2 5 (by decide) (by decide) (by decide)]; exact b1, b2, ?_, b4, b5⟩
  have q : ∀ b, b = 57 ∨ b = 58 ∨ b = 59 → W b = w b := fun b hb => h.1 b (by omega) (fun j hj => by have := gp_ma_n hm j hj; omega)
  unfold gcx_K
  rw [q 57 (by omega), q 58 (by omega), q 59 (by omega)]
  exact b3
/-- the draft's lines of prices: those of D, all their steps under c -/
def gcp (w : Nat → Nat → Int32) (m c : Nat) : Nat → List (gf_L × gf_L) → Prop
  | _, [] => True
  | i, (E, B) :: t => (∃ a : Nat, w (gp_ma m + 2) i = nI a ∧ w (gp_ma m + 3) i = nI (a + E.length) ∧ w (gp_ma m + 4) i = nI (a + E.length + B.length) ∧ a + E.length + B.length ≤ c ∧ gc_seg (w (gp_ma m + 1)) a E ∧ gc_seg (w (gp_ma m + 1)) (a + E.length) B) ∧ gcp w m c (i + 1) t
theorem gcp_fr {w W : Nat → Nat → Int32} {m c c' p : Nat} (h : ∀ b, 2 ≤ b → b ≤ 4 → ∀ x, x < p → W (gp_ma m + b) x = w (gp_ma m + b) x) (h7 : ∀ x, x < c → W (gp_ma m + 1) x = w (gp_ma m + 1) x) (hc : c ≤ c') : ∀ (PL : List (gf_L × gf_L)) (i : Nat), i + PL.length ≤ p → gcp w m c i PL → gcp W m c' i PL
  | [], _, _, _ => trivial
  | (E, B) :: t, i, hi, hp => by
    simp only [List.length_cons] at hi
    obtain ⟨⟨a, a1, a2, a3, a4, a5, a6⟩, hp2⟩ := hp
    refine ⟨⟨a, ?_, ?_, ?_, by omega, gc_seg_cg h7 (by omega) a5, gc_seg_cg h7 (by omega) a6⟩, gcp_fr h h7 hc t (i + 1) (by omega) hp2⟩
    · rw [h 2 (by decide) (by decide) _ (by omega), a1]
    · rw [h 3 (by decide) (by decide) _ (by omega), a2]
    · rw [h 4 (by decide) (by decide) _ (by omega), a3]
theorem gcp_add {w : Nat → Nat → Int32} {m c : Nat} {E B : gf_L} : ∀ (PL : List (gf_L × gf_L)) (i : Nat), gcp w m c i PL → (∃ a : Nat, w (gp_ma m + 2) (i + PL.length) = nI a ∧ w (gp_ma m + 3) (i + PL.length) = nI (a + E.length) ∧ w (gp_ma m + 4) (i + PL.length) = nI (a + E.length + B.length) ∧ a + E.length + B.length ≤ c ∧ gc_seg (w (gp_ma m + 1)) a E ∧ gc_seg (w (gp_ma m + 1)) (a + E.length) B) → gcp w m c i (PL ++ [(E, B)])
  | [], i, _, h => ⟨h, trivial⟩
  | (E', B') :: t, i, hp, h => by
    refine ⟨hp.1, gcp_add t (i + 1) hp.2 ?_⟩
    rw [show i + 1 + t.length = i + (t.length + 1) by omega]
    exact h
theorem gcp_wf {w : Nat → Nat → Int32} {m c : Nat} (hc : c ≤ 500) : ∀ (PL : List (gf_L × gf_L)) (i : Nat), (∀ p, p ∈ PL → gy_wE 3 p.1 ∧ (p.2 = [] ∨ gy_wB 22 p.2)) → gcp w m c i PL → gc_prs w m i PL
  | [], _, _, _ => trivial
  | (E, B) :: t, i, hw, hp => by
    obtain ⟨⟨a, a1, a2, a3, a4, a5, a6⟩, hp2⟩ := hp
    have hw1 := hw (E, B) List.mem_cons_self
    exact ⟨⟨a, a1, a2, a3, by omega, a5, a6⟩, hw1.1, hw1.2, gcp_wf hc t (i + 1) (fun p hp => hw p (List.mem_cons_of_mem _ hp)) hp2⟩
def gct (w : Nat → Nat → Int32) (m c : Nat) (TL : Option gf_L) : Prop := match TL with
  | none => w (gp_ma m) 13 = 0
  | some L => w (gp_ma m) 13 = 1 ∧ ∃ a : Nat, w (gp_ma m) 10 = nI a ∧ w (gp_ma m) 11 = nI (a + L.length) ∧ a + L.length ≤ c ∧ gc_seg (w (gp_ma m + 1)) a L
theorem gct_fr {w W : Nat → Nat → Int32} {m c c' : Nat} (h : ∀ k, k = 10 ∨ k = 11 ∨ k = 13 → W (gp_ma m) k = w (gp_ma m) k) (h7 : ∀ x, x < c → W (gp_ma m + 1) x = w (gp_ma m + 1) x) (hc : c ≤ c') {TL : Option gf_L} (H : gct w m c TL) : gct W m c' TL := by
  cases TL with
  | none => exact (h 13 (by omega)).trans H
  | some L =>
    obtain ⟨a0, a, a1, a2, a3, a4⟩ := H
    exact ⟨(h 13 (by omega)).trans a0, a, (h 10 (by omega)).trans a1, (h 11 (by omega)).trans a2, by omega, gc_seg_cg h7 (by omega) a4⟩
/-- the draft holds what was read, with c steps -/
def gcD (W : Nat → Nat → Int32) (m c : Nat) (D : gy_D) : Prop := W (gp_ma m) 4 = D.2.1 ∧ W (gp_ma m) 5 = D.2.2.1 ∧ W (gp_ma m) 6 = D.2.2.2.1 ∧ W (gp_ma m) 12 = (if D.2.2.2.2.1 = true then 1 else 0) ∧ W (gp_ma m) 8 = nI D.2.2.2.2.2.1.length ∧ D.2.2.2.2.2.1.length ≤ D.1 ∧ D.1 ≤ 16 ∧ gcp W m c 0 D.2.2.2.2.2.1 ∧ gct W m c D.2.2.2.2.2.2
theorem gcD_fr {w W : Nat → Nat → Int32} {m c c' : Nat} {D : gy_D} (h0 : ∀ k, k ≠ 7 → k ≠ 9 → W (gp_ma m) k = w (gp_ma m) k) (h1 : ∀ x, x < c → W (gp_ma m + 1) x = w (gp_ma m + 1) x) (h2 : ∀ b, 2 ≤ b → b ≤ 4 → ∀ x, x < D.2.2.2.2.2.1.length → W (gp_ma m + b) x = w (gp_ma m + b) x) (hc : c ≤ c') (H : gcD w m c D) : gcD W m c' D := by
  obtain ⟨a1, a2, a3, a4, a5, a6, a7, a8, a9⟩ := H
  refine ⟨(h0 4 (by decide) (by decide)).trans a1, (h0 5 (by decide) (by decide)).trans a2, (h0 6 (by decide) (by decide)).trans a3, (h0 12 (by decide) (by decide)).trans a4, (h0 8 (by decide) (by decide)).trans a5, a6, a7, gcp_fr h2 h1 hc _ 0 (by omega) a8, gct_fr (fun k hk => h0 k (by omega) (by omega)) h1 hc a9⟩
theorem gcD_E {w W : Nat → Nat → Int32} {m c c' : Nat} {D : gy_D} (hm : m < 7) (f : gEF m w W c) (hc : c ≤ c') (H : gcD w m c D) : gcD W m c' D := by
  refine gcD_fr (fun k _ hk => f.2.2.1 k hk) f.2.2.2 (fun b h2 h4 x _ => ?_) hc H
  rw [f.1 _ (gp_ma_55 hm b h4) (by omega) (by omega)]
/-- at the end it is a mind -/
theorem gcD_R {w : Nat → Nat → Int32} {m c : Nat} {D : gy_D} (hc : c ≤ 500) (hw : gy_wD D) (H : gcD w m c D) : gcm_R w m D := by
  obtain ⟨a1, a2, a3, a4, a5, a6, a7, a8, a9⟩ := H
  refine ⟨a1, a2, a3, a5, by omega, gcp_wf hc _ 0 hw.1 a8, ?_⟩
  have hw2 := hw.2
  revert a9 hw2
  cases D.2.2.2.2.2.2 with
  | none => exact fun a9 _ => a9
  | some L =>
    intro a9 hw2
    obtain ⟨t0, a, t1, t2, t3, t4⟩ := a9
    exact ⟨t0, a, t1, t2, by omega, t4, hw2 L rfl⟩
section
variable {tp : Nat → Nat} {n t : Nat}
theorem gpO_55 {m j c : Nat} {W : Nat → Nat → Int32} (h1 : W 55 = w 55) (h2 : W (gp_ma m) 9 = w (gp_ma m) 9) (h : gpO m t w j c) : gpO m t W j c := by
  unfold gpO
  rw [h1, h2]
  exact h
set_option maxRecDepth 100000 in
theorem gp_readNumber {j c k : Nat} {D : gy_D} (hm : q 6 < 7) (hk : k < 3) (B : gpB w tp n t) (hO : gpO (q 6) t w j c) (hD : gcD w (q 6) c D) (h1 : gx_kd tp n j = 30 → gx_nu tp n j ≤ gy_mo k → ∀ W, gLF (q 6) w W → gpO (q 6) t W (j + 1) c → gcD W (q 6) c (gy_addN D k (gx_nu tp n j)) → W (gp_ma (q 6)) 7 = w (gp_ma (q 6)) 7 → K none (gv W u q)) (h0 : ∀ e, (¬ gx_kd tp n j = 30 ∧ e = 1) ∨ (gx_kd tp n j = 30 ∧ ¬ gx_nu tp n j ≤ gy_mo k ∧ e = 2) → ∀ W, gLF (q 6) w W → gpX (q 6) W e (gx_sp tp n j) → K none (gv W u q)) : gp_Cal l G (d + 1) m_Pa_readNumber [.ref 55, .int (nI k)] (gv w u q) K := by
  have o1 := hO.1
  have hjt := hO.2.1
  have ht := B.2.1
  have kb := gx_kd_b tp n j
  have a0 : gp_ma (q 6) ≠ 55 := gp_ma_55 hm 0 (by decide)
  have a55 : ∀ (W : Nat → Nat → Int32) k x, gw W (gp_ma (q 6)) k x 55 = W 55 := fun W k x => gw_ne (Ne.symm a0)
  refine gp_enter od_Pa_readNumber rfl ?_
  (repeat refine gp_gc [45, 66] od_Pa_readNumber rfl rfl ?_)
  refine sp_Pa_kind (d := d) (w := w) B (fun kk k30 hk => ?_)
  have hk := hk j o1 hjt
  subst hk
  (repeat refine gp_gc [45, 66] od_Pa_readNumber rfl rfl ?_)
  by_cases c1 : gx_kd tp n j = 30
  rotate_left
  · refine gb_eq_f (fun z => c1 ((nI_eq (b := 30) (by omega) (by decide)).mp z)) ?_
    (repeat refine gp_gc [45, 66] od_Pa_readNumber rfl rfl ?_)
    refine gpO_fail (d := d) (w := w) hm B hO (e := 1) rfl (by decide) (by decide) (fun W1 f1 X1 => ?_)
    (repeat refine gp_gc [45, 66] od_Pa_readNumber rfl rfl ?_)
    exact h0 1 (Or.inl ⟨c1, rfl⟩) W1 (gLF_E f1) X1
  have hj : j < t := gpB_lt B (by omega)
  have nb := gx_nu_b c1
  have i58 := k30 (by rw [c1]; rfl)
  have e58 : w 58 (w 55 6).toNatClampNeg = nI (gx_nu tp n j) := by rw [o1, nI_clamp (by omega)]; exact (B.2.2.1 j (by omega)).2.1 c1
  refine gb_eq_t (by rw [c1]; rfl) ?_
  (repeat refine gp_gc [45, 66] od_Pa_readNumber rfl rfl ?_)
  refine And.intro i58 ?_
  rw [e58]
  (repeat refine gp_gc [45, 66] od_Pa_readNumber rfl rfl ?_)
  have at66 : ∀ (W : Nat → Nat → Int32), gLF (q 6) w W → gpO (q 6) t W (j + 1) c → gcD W (q 6) c D → W (gp_ma (q 6)) 7 = w (gp_ma (q 6)) 7 → gx_nu tp n j ≤ gy_mo k → gp_Go l G (d + 1) m_Pa_readNumber K 66 [some (.ref 55), some (.int (nI k)), some (.int (nI (gx_nu tp n j))), some (.int (nI (gy_mo k)))] [] (gv W u q) 0 0 := by
    intro W fL O1 D1 e7 hle
    have h1 := h1 c1 hle
    obtain ⟨b1, b2, b3, b4, b5, b6, b7, b8, b9⟩ := D1
    have eb : ∀ k x j', 1 ≤ j' → gw W (gp_ma (q 6)) k x (gp_ma (q 6) + j') = W (gp_ma (q 6) + j') := fun k x j' hj' => gw_ne (by omega)
    refine gp_go od_Pa_readNumber rfl ?_
    (repeat refine gp_gc [45, 66] od_Pa_readNumber rfl rfl ?_)
    by_cases k0 : k = 0
    · subst k0
      refine gb1_ne_f rfl ?_
      (repeat refine gp_gc [45, 66] od_Pa_readNumber rfl rfl ?_)
      refine gs_get (gv_mind hm) rfl rfl ?_
      (repeat refine gp_gc [45, 66] od_Pa_readNumber rfl rfl ?_)
      refine gs_put (gv_mind hm) rfl rfl ?_
      rw [gv_mind_set hm (by decide)]
      (repeat refine gp_gc [45, 66] od_Pa_readNumber rfl rfl ?_)
      refine h1 _ (gLF_m (j := 0) hm (by decide) fL) (gpO_55 (a55 _ _ _) (by rw [gw_at, if_neg (by decide)]) O1) ⟨by rw [gw_at, if_pos rfl, b1]; rfl, by rw [gw_at, if_neg (by decide)]; exact b2, by rw [gw_at, if_neg (by decide)]; exact b3, by rw [gw_at, if_neg (by decide)]; exact b4, by rw [gw_at, if_neg (by decide)]; exact b5, b6, b7, gcp_fr (p := D.2.2.2.2.2.1.length) (fun b h2 _ x _ => by rw [eb _ _ b (by omega)]) (fun x _ => by rw [eb _ _ 1 (by decide)]) (Nat.le_refl c) _ 0 (by show 0 + D.2.2.2.2.2.1.length ≤ _; omega) b8, gct_fr (fun k hk => by rw [gw_at, if_neg (by omega)]) (fun x _ => by rw [eb _ _ 1 (by decide)]) (Nat.le_refl c) b9⟩ (by rw [gw_at, if_neg (by decide)]; exact e7)
    refine gb1_ne_t (nI_ne0 (by omega) (by omega)) ?_
    (repeat refine gp_gc [45, 66] od_Pa_readNumber rfl rfl ?_)
    by_cases k1 : k = 1
    · subst k1
      refine gb_ne_f rfl ?_
      (repeat refine gp_gc [45, 66] od_Pa_readNumber rfl rfl ?_)
      refine gs_get (gv_mind hm) rfl rfl ?_
      (repeat refine gp_gc [45, 66] od_Pa_readNumber rfl rfl ?_)
      refine gs_put (gv_mind hm) rfl rfl ?_
      rw [gv_mind_set hm (by decide)]
      (repeat refine gp_gc [45, 66] od_Pa_readNumber rfl rfl ?_)
      refine h1 _ (gLF_m (j := 0) hm (by decide) fL) (gpO_55 (a55 _ _ _) (by rw [gw_at, if_neg (by decide)]) O1) ⟨by rw [gw_at, if_neg (by decide)]; exact b1, by rw [gw_at, if_pos rfl, b2]; rfl, by rw [gw_at, if_neg (by decide)]; exact b3, by rw [gw_at, if_neg (by decide)]; exact b4, by rw [gw_at, if_neg (by decide)]; exact b5, b6, b7, gcp_fr (p := D.2.2.2.2.2.1.length) (fun b h2 _ x _ => by rw [eb _ _ b (by omega)]) (fun x _ => by rw [eb _ _ 1 (by decide)]) (Nat.le_refl c) _ 0 (by show 0 + D.2.2.2.2.2.1.length ≤ _; omega) b8, gct_fr (fun k hk => by rw [gw_at, if_neg (by omega)]) (fun x _ => by rw [eb _ _ 1 (by decide)]) (Nat.le_refl c) b9⟩ (by rw [gw_at, if_neg (by decide)]; exact e7)
    have k2 : k = 2 := by omega
    subst k2
    refine gb_ne_t (by decide) ?_
    (repeat refine gp_gc [45, 66] od_Pa_readNumber rfl rfl ?_)
    refine gs_putZ (gv_mind hm) rfl rfl (Or.inr rfl) ?_
    rw [gv_mind_set hm (by decide)]
    (repeat refine gp_gc [45, 66] od_Pa_readNumber rfl rfl ?_)
    refine gs_put (gv_mind hm) rfl rfl ?_
    rw [gv_mind_set hm (by decide)]
    (repeat refine gp_gc [45, 66] od_Pa_readNumber rfl rfl ?_)
    refine h1 _ (gLF_m (j := 0) hm (by decide) (gLF_m (j := 0) hm (by decide) fL)) (gpO_55 (by rw [a55, a55]) (by rw [gw_at, if_neg (by decide), gw_at, if_neg (by decide)]) O1) ⟨by rw [gw_at, if_neg (by decide), gw_at, if_neg (by decide)]; exact b1, by rw [gw_at, if_neg (by decide), gw_at, if_neg (by decide)]; exact b2, by rw [gw_at, if_pos rfl]; rfl, by rw [gw_at, if_neg (by decide), gw_at, if_pos rfl]; rfl, by rw [gw_at, if_neg (by decide), gw_at, if_neg (by decide)]; exact b5, b6, b7, gcp_fr (p := D.2.2.2.2.2.1.length) (fun b h2 _ x _ => by rw [gw_ne (show gp_ma (q 6) + b ≠ gp_ma (q 6) by omega), eb _ _ b (by omega)]) (fun x _ => by rw [gw_ne (show gp_ma (q 6) + 1 ≠ gp_ma (q 6) by omega), eb _ _ 1 (by decide)]) (Nat.le_refl c) _ 0 (by show 0 + D.2.2.2.2.2.1.length ≤ _; omega) b8, gct_fr (fun k hk => by rw [gw_at, if_neg (by omega), gw_at, if_neg (by omega)]) (fun x _ => by rw [gw_ne (show gp_ma (q 6) + 1 ≠ gp_ma (q 6) by omega), eb _ _ 1 (by decide)]) (Nat.le_refl c) b9⟩ (by rw [gw_at, if_neg (by decide), gw_at, if_neg (by decide)]; exact e7)
  have at45 : gp_Go l G (d + 1) m_Pa_readNumber K 45 [some (.ref 55), some (.int (nI k)), some (.int (nI (gx_nu tp n j))), some (.int (nI (gy_mo k)))] [] (gv w u q) 0 0 := by
    have mb : gy_mo k < 10 := by unfold gy_mo; split; decide; split <;> decide
    refine gp_go od_Pa_readNumber rfl ?_
    (repeat refine gp_gc [45, 66] od_Pa_readNumber rfl rfl ?_)
    by_cases c2 : gx_nu tp n j ≤ gy_mo k
    · refine gb_le_t (nI_le c2 (by omega)) ?_
      (repeat refine gp_gc [45, 66] od_Pa_readNumber rfl rfl ?_)
      exact at66 (gw w 55 6 (w 55 6 + 1)) ⟨fun b b1 _ => gw_ne b1, fun k k1 _ _ => by rw [gw_at, if_neg k1]⟩ (gpO_at hm hO hj) (gcD_E hm (gEF_55 hm (gEF_r w c) (by omega)) (Nat.le_refl c) hD) (by rw [gw_ne a0]) c2
    · refine gb_le_f (nI_ge (by omega) (by omega)) ?_
      (repeat refine gp_gc [45, 66] od_Pa_readNumber rfl rfl ?_)
      refine gpO_fail (d := d) (w := w) hm B hO (e := 2) rfl (by decide) (by decide) (fun W1 f1 X1 => ?_)
      (repeat refine gp_gc [45, 66] od_Pa_readNumber rfl rfl ?_)
      exact h0 2 (Or.inr ⟨c1, c2, rfl⟩) W1 (gLF_E f1) X1
  by_cases k0 : k = 0
  · subst k0
    refine gb1_ne_f rfl ?_
    (repeat refine gp_gc [45, 66] od_Pa_readNumber rfl rfl ?_)
    exact at45
  refine gb1_ne_t (nI_ne0 (by omega) (by omega)) ?_
  (repeat refine gp_gc [45, 66] od_Pa_readNumber rfl rfl ?_)
  by_cases k1 : k = 1
  · subst k1
    refine gb_ne_f rfl ?_
    (repeat refine gp_gc [45, 66] od_Pa_readNumber rfl rfl ?_)
    exact at45
  have k2 : k = 2 := by omega
  subst k2
  refine gb_ne_t (by decide) ?_
  (repeat refine gp_gc [45, 66] od_Pa_readNumber rfl rfl ?_)
  exact at45
end

end
