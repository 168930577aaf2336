section
variable {l : Launch} {G : gp_G} {d : Nat} {w : Nat → Nat → Int32} {u : Int64 × (Nat → Int64)} {q : Nat → Nat} {K : Option Value → gp_H → Prop}
/-! ===== the class's methods: laid ===== -/
section
variable {N Ng a b kn : Nat} {D : Nat → gy_D}
theorem gq_laid {k hd : Int32} {y x : Nat} (Jb : gJ_bi w N Ng) (eab : a * b = N) (hh : w 109 k.toNatClampNeg = hd) (h01 : hd = 0 ∨ hd = 1) (hy : y < b) (hx : x < a) : gf_laid w k (nI a) (nI y) (nI x) = w 77 (gq_ix hd a y x) := by
  have lt := gq_ix_lt (h := hd) hy hx
  rw [Jb.2.2.2.1 _ (by omega)]
  unfold gf_laid
  congr 1
  have hN := Jb.2.2.1
  have e : nI a * nI y + (if w 109 k.toNatClampNeg = 0 then nI x else nI a - 1 - nI x) = nI (gq_ix hd a y x) := by
    rw [hh]
    unfold gq_ix
    rcases h01 with z | z
    · rw [if_pos z, if_neg (by rw [z]; decide), pk_mul, nI_add]
    · rw [if_neg (by rw [z]; decide), if_pos z, show nI a - 1 = nI (a - 1) from pk_sub (b := 1) (by omega), pk_sub (by omega), pk_mul, nI_add]
  rw [e]
  exact nI_clamp (by omega)
theorem gq_ld1 {k hd : Int32} {y : Nat} (Jb : gJ_bi w N Ng) (eab : a * b = N) (eg : Ng = N) (hh : w 109 k.toNatClampNeg = hd) (h01 : hd = 0 ∨ hd = 1) (hy : y < b) : ∀ (r x : Nat) (s : Int32 × Bool), x + r = a → (gp_it (gf_ldS w k (nI a) a b y) x r s).1 = gp_it (gc_agS w hd a y) x r s.1 ∧ ((gp_it (gf_ldS w k (nI a) a b y) x r s).2 = true ↔ s.2 = true ∧ ∀ x', x ≤ x' → x' < a → w 77 (gq_ix hd a y x') = w 79 (b * x' + y))
  | 0, x, s, hx => ⟨rfl, fun z => ⟨z, fun x' h1 h2 => absurd h2 (by omega)⟩, fun z => z.1⟩
  | r + 1, x, s, hx => by
    have ih := gq_ld1 Jb eab eg hh h01 hy r (x + 1) (gf_ldS w k (nI a) a b y x s) (by omega)
    have el := gq_laid (k := k) Jb eab hh h01 hy (show x < a by omega)
    have hya : a * y + a ≤ a * b := by rw [← Nat.mul_succ]; exact Nat.mul_le_mul_left a (by omega)
    have l2 : b * x + y < a * b := gf_mn (by omega) (by omega)
    have g1 : w 127 (a * y + x) = w 79 (a * y + x) := (Jb.2.2.2.2.2.2.2 _ (by omega)).symm
    have g2 : w 127 (b * x + y) = w 79 (b * x + y) := (Jb.2.2.2.2.2.2.2 _ (by omega)).symm
    have es : gf_ldS w k (nI a) a b y x s = (gc_agS w hd a y x s.1, s.2 && decide (w 77 (gq_ix hd a y x) = w 79 (b * x + y))) := by
      unfold gf_ldS gc_agS
      rw [el, g1, g2]
    rw [es] at ih
    show (gp_it (gf_ldS w k (nI a) a b y) (x + 1) r (gf_ldS w k (nI a) a b y x s)).1 = gp_it (gc_agS w hd a y) (x + 1) r (gc_agS w hd a y x s.1) ∧ ((gp_it (gf_ldS w k (nI a) a b y) (x + 1) r (gf_ldS w k (nI a) a b y x s)).2 = true ↔ _)
    rw [es]
    refine ⟨ih.1, ih.2.trans ?_⟩
    simp only [Bool.and_eq_true, decide_eq_true_iff]
    constructor
    · intro ⟨⟨z1, z2⟩, z3⟩
      refine ⟨z1, fun x' h1 h2 => ?_⟩
      by_cases c : x' = x
      · rw [c]; exact z2
      · exact z3 x' (by omega) h2
    · intro ⟨z1, z2⟩
      exact ⟨⟨z1, z2 x (Nat.le_refl _) (by omega)⟩, fun x' h1 h2 => z2 x' (by omega) h2⟩
theorem gq_ld2 {k hd : Int32} (Jb : gJ_bi w N Ng) (eab : a * b = N) (eg : Ng = N) (hh : w 109 k.toNatClampNeg = hd) (h01 : hd = 0 ∨ hd = 1) : ∀ (r y : Nat) (s : Int32 × Bool), y + r = b → (gp_it (gf_ldR w k (nI a) a b) y r s).1 = gp_it (gc_agR w hd a) y r s.1 ∧ ((gp_it (gf_ldR w k (nI a) a b) y r s).2 = true ↔ s.2 = true ∧ ∀ y' x', y ≤ y' → y' < b → x' < a → w 77 (gq_ix hd a y' x') = w 79 (b * x' + y'))
  | 0, y, s, hy => ⟨rfl, fun z => ⟨z, fun y' x' h1 h2 => absurd h2 (by omega)⟩, fun z => z.1⟩
  | r + 1, y, s, hy => by
    have i1 := gq_ld1 (y := y) Jb eab eg hh h01 (by omega) a 0 s (by omega)
    have ih := gq_ld2 Jb eab eg hh h01 r (y + 1) (gf_ldR w k (nI a) a b y s) (by omega)
    have e1 : (gf_ldR w k (nI a) a b y s).1 = gc_agR w hd a y s.1 := i1.1
    have e2 : (gf_ldR w k (nI a) a b y s).2 = true ↔ s.2 = true ∧ ∀ x', 0 ≤ x' → x' < a → w 77 (gq_ix hd a y x') = w 79 (b * x' + y) := i1.2
    rw [e1] at ih
    refine ⟨ih.1, ih.2.trans ?_⟩
    rw [e2]
    constructor
    · intro ⟨⟨z1, z2⟩, z3⟩
      refine ⟨z1, fun y' x' h1 h2 h3 => ?_⟩
      by_cases c : y' = y
      · rw [c]; exact z2 x' (by omega) h3
      · exact z3 y' x' (by omega) h2 h3
    · intro ⟨z1, z2⟩
      exact ⟨⟨z1, fun x' _ h2 => z2 y x' (Nat.le_refl _) (by omega) h2⟩, fun y' x' h1 h2 h3 => z2 y' x' (by omega) h2 h3⟩
set_option maxRecDepth 100000 in
theorem sp_Gp_laid {k wd what : Int32} (Jb : gJ_bi w N Ng) (Q : gJ_q w q D) (h1 : ∀ a b, 0 ≤ k → k ≤ 5 → wd = nI a → 1 < a → a < N → N = a * b → w 95 51 = w 95 50 → 0 ≤ what → what ≤ 1 → K (some (.int (if what = 0 then (gf_ld w k wd a b).1 else if (gf_ld w k wd a b).2 then 1 else 0))) (gv w u q)) (h0 : ¬ ((0 ≤ k ∧ k ≤ 5) ∧ (∃ a b, wd = nI a ∧ 1 < a ∧ a < N ∧ N = a * b) ∧ w 95 51 = w 95 50 ∧ 0 ≤ what ∧ what ≤ 1) → K (some (.int (-1))) (gv w u q)) : gp_Cal l G (d + 2) m_Gp_laid [.ref 0, .int k, .int wd, .int what] (gv w u q) K := by
  refine gp_enter od_Gp_laid rfl ?_
  have hN := Jb.2.2.1
  have hG := Jb.2.2.2.2.2.2.1
  (repeat refine gp_gc [] od_Gp_laid rfl rfl ?_)
  refine sp_Gp_isMind (fun a1 b1 => ?_) (fun n1 => ?_)
  rotate_left
  · repeat refine gp_gc [] od_Gp_laid rfl rfl ?_
    first | refine And.intro (fun _ => ?_) (fun c => absurd rfl c) | refine And.intro (fun c => absurd rfl c) (fun _ => ?_)
    repeat refine gp_gc [] od_Gp_laid rfl rfl ?_
    exact h0 (fun z => n1 z.1)
  repeat refine gp_gc [] od_Gp_laid rfl rfl ?_
  first | refine And.intro (fun c => absurd c (by decide)) (fun _ => ?_) | refine And.intro (fun _ => ?_) (fun c => absurd c (by decide))
  repeat refine gp_gc [] od_Gp_laid rfl rfl ?_
  refine sp_Gp_within (fun a2 b2 => ?_) (fun n1 => ?_)
  rotate_left
  · repeat refine gp_gc [] od_Gp_laid rfl rfl ?_
    first | refine And.intro (fun _ => ?_) (fun c => absurd rfl c) | refine And.intro (fun c => absurd rfl c) (fun _ => ?_)
    repeat refine gp_gc [] od_Gp_laid rfl rfl ?_
    exact h0 (fun z => n1 z.2.2.2)
  repeat refine gp_gc [] od_Gp_laid rfl rfl ?_
  first | refine And.intro (fun c => absurd c (by decide)) (fun _ => ?_) | refine And.intro (fun _ => ?_) (fun c => absurd c (by decide))
  repeat refine gp_gc [] od_Gp_laid rfl rfl ?_
  refine sp_Br_foldsBy (d := d + 1) Jb.1 hN (fun a b ew ha haN eab => ?_) (fun n1 => ?_)
  rotate_left
  · (repeat refine gp_gc [] od_Gp_laid rfl rfl ?_)
    refine gb1_eq_t rfl ?_
    (repeat refine gp_gc [] od_Gp_laid rfl rfl ?_)
    exact h0 (fun z => n1 z.2.1)
  (repeat refine gp_gc [] od_Gp_laid rfl rfl ?_)
  refine gb1_eq_f (by decide) ?_
  (repeat refine gp_gc [] od_Gp_laid rfl rfl ?_)
  rw [Jb.1, Jb.2.2.2.2.1]
  by_cases c : N = Ng
  rotate_left
  · refine gb_eq_f (fun z => c ((nI_eq (by omega) (by omega)).mp z)) ?_
    (repeat refine gp_gc [] od_Gp_laid rfl rfl ?_)
    refine h0 (fun z => c ?_)
    have z := z.2.2.1
    rw [Jb.2.1, Jb.2.2.2.2.2.1] at z
    exact ((nI_eq (by omega) (by omega)).mp z).symm
  refine gb_eq_t (by rw [c]) ?_
  (repeat refine gp_gc [] od_Gp_laid rfl rfl ?_)
  obtain ⟨kn, hk, ek, ec, ik⟩ := gc_mi a1 b1
  have hq := Q.1.1 kn (by omega)
  refine And.intro ik ⟨_, rfl, ?_⟩
  rw [ec]
  (repeat refine gp_gc [] od_Gp_laid rfl rfl ?_)
  refine gs_get (gv_mind hq) rfl rfl ?_
  have h109 : w 109 kn = w (gp_ma (q kn)) 6 := (Q.2 kn hk).1.2.2.1.trans (Q.2 kn hk).2.1.2.2.1.symm
  have h01 : w (gp_ma (q kn)) 6 = 0 ∨ w (gp_ma (q kn)) 6 = 1 := by rw [(Q.2 kn hk).2.1.2.2.1]; exact (Q.2 kn hk).2.2
  have hb : 0 < b := by
    rcases Nat.eq_zero_or_pos b with z | z
    · rw [z] at eab; omega
    · exact z
  have h1 := h1 a b a1 b1 ew ha haN eab (by rw [Jb.2.1, Jb.2.2.2.2.2.1, c]) a2 b2
  have L := gq_ld2 (k := k) (hd := w (gp_ma (q kn)) 6) Jb eab.symm c.symm (by rw [ec]; exact h109) h01 b 0 (0, true) (by omega)
  have eN : w 76 1 = nI (a * b) := by rw [Jb.1, eab]
  have L1 : (gf_ld w k (nI a) a b).1 = gp_it (gc_agR w (w (gp_ma (q kn)) 6) a) 0 b 0 := L.1
  have L2 : (gf_ld w k (nI a) a b).2 = true ↔ true = true ∧ ∀ y' x', 0 ≤ y' → y' < b → x' < a → w 77 (gq_ix (w (gp_ma (q kn)) 6) a y' x') = w 79 (b * x' + y') := L.2
  (repeat refine gp_gc [] od_Gp_laid rfl rfl ?_)
  by_cases c0 : what = 0
  · rw [if_pos c0, ew, L1] at h1
    refine gb1_ne_f c0 ?_
    (repeat refine gp_gc [] od_Gp_laid rfl rfl ?_)
    refine sp_Br_agreements (d := d) eN (by omega) (by omega) hb ew ?_
    (repeat refine gp_gc [] od_Gp_laid rfl rfl ?_)
    exact h1
  · rw [if_neg c0, ew] at h1
    refine gb1_ne_t c0 ?_
    (repeat refine gp_gc [] od_Gp_laid rfl rfl ?_)
    refine sp_Br_isHalf (d := d) eN (by omega) (by omega) hb ew (fun hh => ?_) (fun hh => ?_)
    · rw [if_pos (L2.mpr ⟨rfl, fun y' x' _ h2 h3 => hh y' x' h2 h3⟩)] at h1
      (repeat refine gp_gc [] od_Gp_laid rfl rfl ?_)
      refine gb1_eq_f (by decide) ?_
      (repeat refine gp_gc [] od_Gp_laid rfl rfl ?_)
      exact h1
    · rw [if_neg (fun z => hh (fun y x hy hx => (L2.mp z).2 y x (Nat.zero_le _) hy hx))] at h1
      (repeat refine gp_gc [] od_Gp_laid rfl rfl ?_)
      refine gb1_eq_t rfl ?_
      (repeat refine gp_gc [] od_Gp_laid rfl rfl ?_)
      exact h1
end

end
