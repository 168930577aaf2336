section
variable {l : Launch} {G : gp_G} {d : Nat} {w : Nat → Nat → Int32} {u : Int64 × (Nat → Int64)} {q : Nat → Nat} {K : Option Value → gp_H → Prop}
/-! ===== the class's mind ===== -/
theorem gs_aast {l : Launch} {G : gp_G} {d : Nat} {M : gp_M} {K : Option Value → gp_H → Prop} {k : gp_K} {pc : Nat} {ls : List (Option Value)} {r : List Value} {V : gp_H} {cs ss a b n : Nat} {f : Nat → Option Nat} {fs : List Value} {j : Int32} (hA : gp_nth V a = some (.inl (5, n, .inr (.inr (.inr (.inr f)))))) (hB : gp_nth V b = some (.inr (3, fs))) (hj : vp_in j n) (h : k (pc + 1) ls r (V.set a (.inl (5, n, .inr (.inr (.inr (.inr (va_up f j.toNatClampNeg (some b)))))))) cs ss) : gp_step l G d M K k .aastore 1 pc ls (.ref b :: .int j :: .ref a :: r) V cs ss := by
  simp only [gp_step, gp_ln, gp_aq, hA, gp_ob, hB, Nat.beq_refl]
  exact ⟨hj, h⟩
theorem gy_line_h {kd nm : Nat → Nat} {D D' : gy_D} {j j' : Nat} (h : D.2.2.2.1 = 0 ∨ D.2.2.2.1 = 1) (e : gy_line kd nm D j = .inr (j', D')) : D'.2.2.2.1 = 0 ∨ D'.2.2.2.1 = 1 := by
  have hb : ∀ j1 D1, gy_body kd nm D j = .inr (j1, D1) → D1.2.2.2.1 = 0 ∨ D1.2.2.2.1 = 1 := by
    intro j1 D1 eb
    unfold gy_body at eb
    by_cases c1 : kd j = 3
    · rw [if_pos c1] at eb
      cases ep : gy_pr kd nm (j + 1) with
      | inl x => rw [ep] at eb; cases eb
      | inr x => rw [ep] at eb; cases eb; exact h
    rw [if_neg c1] at eb
    by_cases c2 : kd j = 4
    · rw [if_pos c2] at eb
      cases ep : gy_E kd nm (j + 1) with
      | inl x => rw [ep] at eb; cases eb
      | inr x => rw [ep] at eb; cases eb; exact h
    rw [if_neg c2] at eb
    by_cases c3 : kd (j + 1) = 30
    · rw [if_pos c3] at eb
      by_cases c4 : nm (j + 1) ≤ gy_mo (kd j)
      · rw [if_pos c4] at eb
        cases eb
        show (if kd j = 2 then nI (nm (j + 1)) else D.2.2.2.1) = 0 ∨ (if kd j = 2 then nI (nm (j + 1)) else D.2.2.2.1) = 1
        by_cases c5 : kd j = 2
        · rw [if_pos c5]
          rw [c5] at c4
          rcases (show nm (j + 1) = 0 ∨ nm (j + 1) = 1 by have : gy_mo 2 = 1 := rfl; omega) with z | z <;> rw [z]
          · exact Or.inl rfl
          · exact Or.inr rfl
        · rw [if_neg c5]
          exact h
      · rw [if_neg c4] at eb
        cases eb
    · rw [if_neg c3] at eb
      cases eb
  unfold gy_line at e
  split at e
  · cases e
  · split at e
    · cases e
    · unfold gy_semi at e
      cases eb : gy_body kd nm D j with
      | inl x => rw [eb] at e; cases e
      | inr x =>
        rw [eb] at e
        obtain ⟨j1, D1⟩ := x
        have e : (if kd j1 = 59 then Sum.inr (j1 + 1, (D1.1 + 1, D1.2)) else Sum.inl (1, j1) : (Nat × Nat) ⊕ (Nat × gy_D)) = .inr (j', D') := e
        split at e
        · cases e
          exact hb j1 D1 eb
        · cases e
theorem gy_tx_h {kd nm : Nat → Nat} : ∀ (f j : Nat) (D D' : gy_D), (D.2.2.2.1 = 0 ∨ D.2.2.2.1 = 1) → gy_tx kd nm f j D = .inr D' → D'.2.2.2.1 = 0 ∨ D'.2.2.2.1 = 1 := by
  intro f
  induction f with
  | zero => intro j D D' h e; cases e; exact h
  | succ f ih =>
    intro j D D' h e
    rw [gy_tx] at e
    split at e
    · cases e; exact h
    · cases el : gy_line kd nm D j with
      | inl x => rw [el] at e; cases e
      | inr x =>
        rw [el] at e
        exact ih x.1 x.2 D' (gy_line_h h el) e
theorem gy_text_h {tp : Nat → Nat} {n : Nat} {D : gy_D} (e : gy_text tp n = .inr D) : D.2.2.2.1 = 0 ∨ D.2.2.2.1 = 1 := gy_tx_h 600 0 gy_D0 D (Or.inl rfl) e
/-- what the class's mind leaves as it was -/
def gMF (m : Nat) (w W : Nat → Nat → Int32) : Prop := ∀ b, b ≠ 55 → b ≠ 57 → b ≠ 58 → b ≠ 59 → (∀ j, j ≤ 4 → b ≠ gp_ma m + j) → W b = w b
section
variable {tp : Nat → Nat} {n : Nat}
set_option maxRecDepth 100000 in
theorem sp_Gp_mind {k : Int32} (T : gcx_T w tp n) (hq : gc_q q) (h0 : ¬ (0 ≤ k ∧ k ≤ 5) → K (some (.int (-1))) (gv (gw (gw (gw w 55 4 0) 55 7 0) 55 8 (-1)) u q)) (hF : ∀ kn W e p, k = nI kn → kn < 6 → gy_text tp n = .inl (e, p) → gMF (q 6) w W → W 55 4 = 0 → W 55 7 = nI e → W 55 8 = nI (gx_sp tp n p) → K (some (.int (-1))) (gv W u q)) (hS : ∀ kn W D, k = nI kn → kn < 6 → gy_text tp n = .inr D → gMF (q 6) w W → W 55 4 = 0 → W 55 7 = 0 → W 55 8 = -1 → (gy_wD D → gcm_R W (q 6) D) → K (some (.int (nI D.1))) (gv W u (gq_sw q kn))) : gp_Cal l G (d + 23) m_Gp_mind [.ref 0, .int k] (gv w u q) K := by
  have hm : q 6 < 7 := hq.1 6 (by decide)
  refine gp_enter od_Gp_mind rfl ?_
  (repeat refine gp_gc [35, 63] od_Gp_mind rfl rfl ?_)
  refine sp_Gp_isMind (d := d + 21) (fun k0 k1 => ?_) (fun k0 => ?_)
  rotate_left
  · have h0 := h0 k0
    (repeat refine gp_gc [35, 63] od_Gp_mind rfl rfl ?_)
    refine gb1_ne_f rfl ?_
    (repeat refine gp_gc [35, 63] od_Gp_mind rfl rfl ?_)
    refine sp_Pa_forget (d := d + 22) (w := w) ?_
    (repeat refine gp_gc [35, 63] od_Gp_mind rfl rfl ?_)
    exact h0
  obtain ⟨kn, hk, ek, ec, ik⟩ := gc_mi k0 k1
  (repeat refine gp_gc [35, 63] od_Gp_mind rfl rfl ?_)
  refine gb1_ne_t (by decide) ?_
  (repeat refine gp_gc [35, 63] od_Gp_mind rfl rfl ?_)
  refine sp_Pa_scan (d := d + 14) (w := w) T (fun W t fQ e5 ht hK h31 hne => ?_)
  (repeat refine gp_gc [35, 63] od_Gp_mind rfl rfl ?_)
  have fM : ∀ W2, (∀ b, b ≠ 55 → (∀ j, j ≤ 4 → b ≠ gp_ma (q 6) + j) → W2 b = W b) → gMF (q 6) w W2 := fun W2 h2 b b1 b2 b3 b4 b5 => (h2 b b1 b5).trans (fQ.1 b b1 b2 b3 b4)
  refine sp_Pa_readsText (d := d) (w := W) hm ⟨e5, ht, hK, h31, hne⟩ (fun W2 D c e f h4 h7 h8 hc G2 z7 => ?_) (fun W2 e p ee f h4 h7 h8 => ?_)
  · (repeat refine gp_gc [35, 63] od_Gp_mind rfl rfl ?_)
    refine gb1_ne_t (by decide) ?_
    (repeat refine gp_gc [35, 63] od_Gp_mind rfl rfl ?_)
    have eA : gq_sw q kn kn = q 6 := by unfold gq_sw; rw [if_pos rfl]
    have eB : gq_sw q kn 6 = q kn := by unfold gq_sw; rw [if_neg (by omega), if_pos rfl]
    have at63 : gp_Go l G (d + 23) m_Gp_mind K 63 [some (.ref 0), some (.int k), some (.ref (gp_ma (gq_sw q kn 6)))] [] (gv W2 u (gq_sw q kn)) 0 0 := by
      refine gp_go od_Gp_mind rfl ?_
      (repeat refine gp_gc [35, 63] od_Gp_mind rfl rfl ?_)
      refine And.intro ik ⟨gp_ma (q 6), by rw [ec]; exact congrArg (fun x => some (gp_ma x)) eA, ?_⟩
      (repeat refine gp_gc [35, 63] od_Gp_mind rfl rfl ?_)
      refine gs_get (gv_mind hm) rfl rfl ?_
      (repeat refine gp_gc [35, 63] od_Gp_mind rfl rfl ?_)
      rw [z7]
      exact hS kn W2 D ek hk e (fM W2 f) h4 h7 h8 (fun hw => gcD_R hc hw G2)
    have at63' : gp_Go l G (d + 23) m_Gp_mind K 63 [some (.ref 0), some (.int k), some (.ref (gp_ma (gq_sw q kn 6)))] [] (((gv W2 u q).set 55 (gc_55 W2 u (gq_sw q kn))).set 21 (.inl (5, 6, .inr (.inr (.inr (.inr (va_up (fun j => some (gp_ma (q j))) kn (some (gp_ma (q 6)))))))))) 0 0 := by
      refine gp_Go_ar (g := fun j => some (gp_ma (gq_sw q kn j))) (fun j hj => ?_) at63
      unfold gq_sw
      by_cases z : j = kn
      · rw [if_pos z, z, va_up_self]
      · rw [if_neg z, if_neg (by omega), va_up_ne _ _ z]
    refine gp_go od_Gp_mind rfl ?_
    (repeat refine gp_gc [35, 63] od_Gp_mind rfl rfl ?_)
    refine And.intro ik ⟨gp_ma (gq_sw q kn 6), by rw [ec]; exact congrArg (fun x => some (gp_ma x)) eB.symm, ?_⟩
    (repeat refine gp_gc [35, 63] od_Gp_mind rfl rfl ?_)
    refine gs_aast (f := fun j => some (gp_ma (q j))) rfl (gv_mind hm) ik ?_
    rw [ec]
    (repeat refine gp_gc [35, 63] od_Gp_mind rfl rfl ?_)
    exact at63'
  · (repeat refine gp_gc [35, 63] od_Gp_mind rfl rfl ?_)
    refine gb1_ne_f rfl ?_
    (repeat refine gp_gc [35, 63] od_Gp_mind rfl rfl ?_)
    exact hF kn W2 e p ek hk ee (fM W2 f) h4 h7 h8
end

end
