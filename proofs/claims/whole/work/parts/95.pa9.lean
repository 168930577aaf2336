section
variable {l : Launch} {G : gp_G} {d : Nat} {w : Nat → Nat → Int32} {u : Int64 × (Nat → Int64)} {q : Nat → Nat} {K : Option Value → gp_H → Prop}
/-! ===== the class's parser: a text ===== -/
/-- beyond its end an array of references may hold anything -/
theorem gp_Go_ar {l : Launch} {G : gp_G} {d : Nat} {M : gp_M} {K : Option Value → gp_H → Prop} {pc : Nat} {ls : List (Option Value)} {st : List Value} {Z : gp_H} {cs ss i t n : Nat} {f g : Nat → Option Nat} (hfg : ∀ j, j < n → f j = g j) (h : gp_Go l G d M K pc ls st (Z.set i (.inl (t, n, .inr (.inr (.inr (.inr g)))))) cs ss) : gp_Go l G d M K pc ls st (Z.set i (.inl (t, n, .inr (.inr (.inr (.inr f)))))) cs ss := by
  intro p e s m args below meth c H locs la F D
  obtain ⟨d1, d2, d3, d4⟩ := D
  rw [List.length_set] at d1 d2
  refine h p e s m args below meth c H locs la F ⟨by rw [List.length_set]; exact d1, by rw [List.length_set]; exact d2, ?_, d4⟩
  intro k q hq
  rw [← gp_cc_set] at d3 hq
  by_cases ek : k = i
  · subst ek
    rw [List.getElem?_set_self'] at hq
    cases eX : (gp_cc G Z)[k]? with
    | none => rw [eX] at hq; cases hq
    | some x =>
      rw [eX] at hq
      cases hq
      have := d3 k (G.1 + k, gp_ce G (.inl (t, n, .inr (.inr (.inr (.inr f)))))) (by rw [List.getElem?_set_self', eX]; rfl)
      refine Eq.trans this (congrArg some ?_)
      have key : (fun j : Fin n => va_rf ((f j.val).map (fun a => G.1 + a))) = fun j : Fin n => va_rf ((g j.val).map (fun a => G.1 + a)) := by
        funext j
        rw [hfg j.val j.isLt]
      simp only [vp_cell_q]
      unfold arrV
      rw [key]
  · refine d3 k q ?_
    rw [List.getElem?_set_ne (Ne.symm ek)] at hq ⊢
    exact hq
/-- the draft and mind k change places -/
def gq_sw (q : Nat → Nat) (k : Nat) : Nat → Nat := fun i => if i = k then q 6 else if i = 6 then q k else q i
set_option maxRecDepth 100000 in
theorem sp_Pa_forget (h : K none (gv (gw (gw (gw w 55 4 0) 55 7 0) 55 8 (-1)) u q)) : gp_Cal l G (d + 0) m_Pa_forget [.ref 55] (gv w u q) K := by
  refine gp_enter od_Pa_forget rfl ?_
  (repeat refine gp_gc [] od_Pa_forget rfl rfl ?_)
  exact h
set_option maxRecDepth 100000 in
theorem sp_Mi_clear {m : Nat} (hm : m < 7) (h : ∀ W, (∀ b, b ≠ gp_ma m → W b = w b) → (∀ k, 4 ≤ k → k < 14 → W (gp_ma m) k = 0) → K none (gv W u q)) : gp_Cal l G d m_Mi_clear [.ref (gp_ma m)] (gv w u q) K := by
  refine gp_enter od_Mi_clear rfl ?_
  (repeat refine gp_gc [] od_Mi_clear rfl rfl ?_)
  refine gs_put (gv_mind hm) rfl rfl ?_
  rw [gv_mind_set hm (by decide)]
  (repeat refine gp_gc [] od_Mi_clear rfl rfl ?_)
  refine gs_put (gv_mind hm) rfl rfl ?_
  rw [gv_mind_set hm (by decide)]
  (repeat refine gp_gc [] od_Mi_clear rfl rfl ?_)
  refine gs_put (gv_mind hm) rfl rfl ?_
  rw [gv_mind_set hm (by decide)]
  (repeat refine gp_gc [] od_Mi_clear rfl rfl ?_)
  refine gs_put (gv_mind hm) rfl rfl ?_
  rw [gv_mind_set hm (by decide)]
  (repeat refine gp_gc [] od_Mi_clear rfl rfl ?_)
  refine gs_put (gv_mind hm) rfl rfl ?_
  rw [gv_mind_set hm (by decide)]
  (repeat refine gp_gc [] od_Mi_clear rfl rfl ?_)
  refine gs_put (gv_mind hm) rfl rfl ?_
  rw [gv_mind_set hm (by decide)]
  (repeat refine gp_gc [] od_Mi_clear rfl rfl ?_)
  refine gs_put (gv_mind hm) rfl rfl ?_
  rw [gv_mind_set hm (by decide)]
  (repeat refine gp_gc [] od_Mi_clear rfl rfl ?_)
  refine gs_put (gv_mind hm) rfl rfl ?_
  rw [gv_mind_set hm (by decide)]
  (repeat refine gp_gc [] od_Mi_clear rfl rfl ?_)
  refine gs_putZ (gv_mind hm) rfl rfl (Or.inl rfl) ?_
  rw [gv_mind_set hm (by decide)]
  (repeat refine gp_gc [] od_Mi_clear rfl rfl ?_)
  refine gs_putZ (gv_mind hm) rfl rfl (Or.inl rfl) ?_
  rw [gv_mind_set hm (by decide)]
  (repeat refine gp_gc [] od_Mi_clear rfl rfl ?_)
  refine h _ (fun b hb => by simp only [gw_ne hb]) (fun k h1 h2 => ?_)
  simp only [gw_at]
  repeat' split
  all_goals first | rfl | omega
section
variable {tp : Nat → Nat} {n t : Nat}
set_option maxRecDepth 100000 in
theorem sp_Pa_readsText (hm : q 6 < 7) (B : gpB w tp n t) (hS : ∀ W D c, gy_text tp n = .inr D → (∀ b, b ≠ 55 → (∀ j, j ≤ 4 → b ≠ gp_ma (q 6) + j) → W b = w b) → W 55 4 = 0 → W 55 7 = 0 → W 55 8 = -1 → c ≤ 500 → gcD W (q 6) c D → W (gp_ma (q 6)) 7 = nI D.1 → K (some (.int 1)) (gv W u q)) (hF : ∀ W e p, gy_text tp n = .inl (e, p) → (∀ b, b ≠ 55 → (∀ j, j ≤ 4 → b ≠ gp_ma (q 6) + j) → W b = w b) → W 55 4 = 0 → W 55 7 = nI e → W 55 8 = nI (gx_sp tp n p) → K (some (.int 0)) (gv W u q)) : gp_Cal l G (d + 22) m_Pa_readsText [.ref 55] (gv w u q) K := by
  have ht := B.2.1
  have a0 : gp_ma (q 6) ≠ 55 := gp_ma_55 hm 0 (by decide)
  have at51 : ∀ (W : Nat → Nat → Int32) (c j : Nat) (D : gy_D) (x : Int32), gy_text tp n = .inr D → (∀ b, b ≠ 55 → (∀ j, j ≤ 4 → b ≠ gp_ma (q 6) + j) → W b = w b) → W 55 4 = 0 → gpO (q 6) t W j c → gcD W (q 6) c D → W (gp_ma (q 6)) 7 = nI D.1 → gp_Go l G (d + 22) m_Pa_readsText K 51 [some (.ref 55), some (.int x)] [] (gv W u q) 0 0 := by
    intro W c j D x e f h4 O G1 z7
    refine gp_go od_Pa_readsText rfl ?_
    (repeat refine gp_gc [9, 18, 51] od_Pa_readsText rfl rfl ?_)
    refine gb1_ne_f O.2.2.1 ?_
    (repeat refine gp_gc [9, 18, 51] od_Pa_readsText rfl rfl ?_)
    exact And.intro (Or.inr rfl) (hS W D c e f h4 O.2.2.1 O.2.2.2.1 O.2.2.2.2.2 G1 z7)
  have headX : ∀ (W : Nat → Nat → Int32) (e p : Nat) (x : Int32), gy_text tp n = .inl (e, p) → (∀ b, b ≠ 55 → (∀ j, j ≤ 4 → b ≠ gp_ma (q 6) + j) → W b = w b) → W 55 4 = 0 → gpX (q 6) W e (gx_sp tp n p) → gp_Go l G (d + 22) m_Pa_readsText K 18 [some (.ref 55), some (.int x)] [] (gv W u q) 0 0 := by
    intro W e p x ee f h4 X
    have fin : gp_Go l G (d + 22) m_Pa_readsText K 51 [some (.ref 55), some (.int x)] [] (gv W u q) 0 0 := by
      refine gp_go od_Pa_readsText rfl ?_
      (repeat refine gp_gc [9, 18, 51] od_Pa_readsText rfl rfl ?_)
      refine gb1_ne_t (gpX_f X) ?_
      (repeat refine gp_gc [9, 18, 51] od_Pa_readsText rfl rfl ?_)
      exact And.intro (Or.inl rfl) (hF W e p ee f h4 X.1 X.2.2.2.1)
    refine gp_go od_Pa_readsText rfl ?_
    (repeat refine gp_gc [9, 18, 51] od_Pa_readsText rfl rfl ?_)
    by_cases c : 500 < x
    · refine gb_gt_t c ?_
      (repeat refine gp_gc [9, 18, 51] od_Pa_readsText rfl rfl ?_)
      exact fin
    · refine gb_gt_f c ?_
      (repeat refine gp_gc [9, 18, 51] od_Pa_readsText rfl rfl ?_)
      refine gb1_ne_t (gpX_f X) ?_
      (repeat refine gp_gc [9, 18, 51] od_Pa_readsText rfl rfl ?_)
      exact fin
  have main : ∀ (r j i c : Nat) (W : Nat → Nat → Int32) (D : gy_D), 600 ≤ j + r → i ≤ j → gy_text tp n = gy_tx (gx_kd tp n) (gx_nu tp n) (600 - i) j D → (∀ b, b ≠ 55 → (∀ j, j ≤ 4 → b ≠ gp_ma (q 6) + j) → W b = w b) → W 55 4 = 0 → gpB W tp n t → gpO (q 6) t W j c → c ≤ j → gcD W (q 6) c D → W (gp_ma (q 6)) 7 = nI D.1 → gp_Go l G (d + 22) m_Pa_readsText K 18 [some (.ref 55), some (.int (nI i))] [] (gv W u q) 0 0 := by
    intro r
    induction r with
    | zero =>
      intro j i c W D hr hij hE f h4 BW O hc G1 z7
      have := O.2.1
      omega
    | succ r ih =>
      intro j i c W D hr hij hE f h4 BW O hc G1 z7
      have hjt := O.2.1
      have kb := gx_kd_b tp n j
      have inci : nI i + Int32.ofInt 1 = nI (i + 1) := gp_inc rfl
      rw [show 600 - i = (600 - (i + 1)) + 1 by omega, gy_tx] at hE
      refine gp_go od_Pa_readsText rfl ?_
      (repeat refine gp_gc [9, 18, 51] od_Pa_readsText rfl rfl ?_)
      refine gb_gt_f (nI_nlt (a := 500) (by omega) (by decide)) ?_
      (repeat refine gp_gc [9, 18, 51] od_Pa_readsText rfl rfl ?_)
      refine gb1_ne_f O.2.2.1 ?_
      (repeat refine gp_gc [9, 18, 51] od_Pa_readsText rfl rfl ?_)
      refine sp_Pa_kind (d := d + 21) (w := W) BW (fun k _ hk => ?_)
      have hk := hk j O.1 hjt
      subst hk
      (repeat refine gp_gc [9, 18, 51] od_Pa_readsText rfl rfl ?_)
      by_cases c31 : gx_kd tp n j = 31
      · rw [if_pos c31] at hE
        refine gb_eq_t (by rw [c31]; rfl) ?_
        (repeat refine gp_gc [9, 18, 51] od_Pa_readsText rfl rfl ?_)
        exact at51 W c j D _ hE f h4 O G1 z7
      · rw [if_neg c31] at hE
        refine gb_eq_f (fun z => c31 ((nI_eq (b := 31) (by omega) (by decide)).mp z)) ?_
        (repeat refine gp_gc [9, 18, 51] od_Pa_readsText rfl rfl ?_)
        refine gp_readLine (d := d) (w := W) hm BW O hc G1 z7 (fun W2 j2 D2 c2 e2 l2 f2 O2 hc2 G2 z2 => ?_) (fun W2 e p e2 f2 X2 => ?_)
        · rw [e2] at hE
          (repeat refine gp_gc [9, 18, 51] od_Pa_readsText rfl rfl ?_)
          rw [inci]
          exact ih j2 (i + 1) c2 W2 D2 (by omega) (by omega) hE (fun b h1 h2 => (f2.1 b h1 h2).trans (f b h1 h2)) ((f2.2 4 (by decide) (by decide) (by decide)).trans h4) (gLF_B hm f2 BW) O2 hc2 G2 z2
        · rw [e2] at hE
          (repeat refine gp_gc [9, 18, 51] od_Pa_readsText rfl rfl ?_)
          rw [inci]
          exact headX W2 e p _ hE (fun b h1 h2 => (f2.1 b h1 h2).trans (f b h1 h2)) ((f2.2 4 (by decide) (by decide) (by decide)).trans h4) X2
  have at9 : ∀ (W : Nat → Nat → Int32), (∀ b, b ≠ 55 → W b = w b) → gpB W tp n t → W 55 4 = 0 → W 55 6 = 0 → W 55 7 = 0 → W 55 8 = -1 → gp_Go l G (d + 22) m_Pa_readsText K 9 [some (.ref 55), none] [] (gv W u q) 0 0 := by
    intro W f BW h4 h6 h7 h8
    refine gp_go od_Pa_readsText rfl ?_
    (repeat refine gp_gc [9, 18, 51] od_Pa_readsText rfl rfl ?_)
    refine gs_inv rfl rfl rfl (gv_mind hm) rfl ?_
    refine sp_Mi_clear (d := d + 21) (w := W) hm (fun W2 f2 z2 => ?_)
    have e55 : W2 55 = W 55 := f2 55 (Ne.symm a0)
    (repeat refine gp_gc [9, 18, 51] od_Pa_readsText rfl rfl ?_)
    refine main 600 0 0 0 W2 gy_D0 (by omega) (Nat.le_refl 0) rfl (fun b h1 h2 => (f2 b (h2 0 (by decide))).trans (f b h1)) (by rw [e55]; exact h4) ?_ ⟨by rw [e55]; exact h6, Nat.zero_le _, by rw [e55]; exact h7, by rw [e55]; exact h8, z2 9 (by decide) (by decide), by decide⟩ (Nat.le_refl 0) ⟨z2 4 (by decide) (by decide), z2 5 (by decide) (by decide), z2 6 (by decide) (by decide), z2 12 (by decide) (by decide), z2 8 (by decide) (by decide), Nat.le_refl _, by decide, trivial, z2 13 (by decide) (by decide)⟩ (z2 7 (by decide) (by decide))
    exact gLF_B hm ⟨fun b _ h2 => f2 b (h2 0 (by decide)), fun k _ _ _ => by rw [e55]⟩ BW
  refine gp_enter od_Pa_readsText rfl ?_
  (repeat refine gp_gc [9, 18, 51] od_Pa_readsText rfl rfl ?_)
  refine sp_Pa_forget (d := d + 21) (w := w) ?_
  (repeat refine gp_gc [9, 18, 51] od_Pa_readsText rfl rfl ?_)
  refine at9 (gw (gw (gw (gw w 55 4 0) 55 7 0) 55 8 (-1)) 55 6 0) (fun b hb => by simp only [gw_ne hb]) ?_ rfl rfl rfl rfl
  obtain ⟨b1, b2, b3, b4, b5⟩ := B
  exact ⟨b1, b2, b3, b4, b5⟩
end

end
