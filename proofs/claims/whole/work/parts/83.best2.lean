section
variable {l : Launch} {G : gp_G} {d : Nat} {w : Nat → Nat → Int32} {u : Int64 × (Nat → Int64)} {q : Nat → Nat} {K : Option Value → gp_H → Prop}
/-! ===== best: the reference's choice, and the class's method ===== -/
section
variable {n t bu kn : Nat} {wo : Int32} {D : Nat → gy_D}
theorem gB_ref {y minds : Int32} {wt : Nat → Int32} {cs : Nat → Nat} (hbu : bu ≤ 9999) (ht : t ≤ 12) (hw : ∀ s, s < 2 ^ t → gf_worth w (nI s) minds wo y n = wt s) (hc : ∀ s, s < 2 ^ t → gf_cost (w 98) (nI s) n = nI (cs s) ∧ cs s < 2000) (h0 : cs 0 = 0) : ∀ k, k + 1 ≤ 2 ^ t → ∃ s1, s1 < k + 1 ∧ cs s1 ≤ bu ∧ gp_it (gf_beS w (nI bu) minds wo y n) 1 k (0, gf_worth w 0 minds wo y n) = (nI s1, wt s1) ∧ ∀ s, s < k + 1 → cs s ≤ bu → ¬ gB_bt wt (s, cs s) (s1, cs s1)
  | 0, hk => by
    refine ⟨0, by omega, by omega, ?_, fun s hs _ => ?_⟩
    · show (0, gf_worth w 0 minds wo y n) = _
      have := hw 0 (by omega)
      rw [show gf_worth w 0 minds wo y n = wt 0 from this]
      rfl
    · rw [show s = 0 by omega]
      exact gB_bt_r
  | k + 1, hk => by
    have p12 := gf_p2b ht
    obtain ⟨s1, l1, c1, e1, b1⟩ := gB_ref hbu ht hw hc h0 k (by omega)
    rw [gp_it_snoc, e1, show 1 + k = k + 1 by omega]
    have hck := hc (k + 1) (by omega)
    have hcs := hc s1 (by omega)
    unfold gf_beS
    rw [hck.1, hw (k + 1) (by omega)]
    have old : ¬ (cs (k + 1) ≤ bu ∧ gB_bt wt (k + 1, cs (k + 1)) (s1, cs s1)) → ∃ s2, s2 < k + 1 + 1 ∧ cs s2 ≤ bu ∧ ((nI s1, wt s1) : Int32 × Int32) = (nI s2, wt s2) ∧ ∀ s, s < k + 1 + 1 → cs s ≤ bu → ¬ gB_bt wt (s, cs s) (s2, cs s2) := by
      intro z
      refine ⟨s1, by omega, c1, rfl, fun s hs hsb => ?_⟩
      by_cases e : s = k + 1
      · rw [e] at hsb ⊢
        exact fun y => z ⟨hsb, y⟩
      · exact b1 s (by omega) hsb
    by_cases a1 : nI bu < nI (cs (k + 1))
    · rw [if_pos a1]
      exact old (fun z => absurd ((nI_ltI (by omega) (by omega)).mp a1) (by omega))
    · rw [if_neg a1]
      have a1 : cs (k + 1) ≤ bu := Nat.not_lt.mp (fun z => a1 (nI_lt z (by omega)))
      have eb : (wt (k + 1) < wt s1 ∨ (wt (k + 1) = wt s1 ∧ gf_cost (w 98) (nI s1) n ≤ nI (cs (k + 1)))) ↔ ¬ gB_bt wt (k + 1, cs (k + 1)) (s1, cs s1) := by
        rw [hcs.1, nI_leI (by omega) (by omega)]
        unfold gB_bt
        simp only [Int32.lt_iff_toInt_lt, ← Int32.toInt_inj]
        omega
      by_cases a2 : gB_bt wt (k + 1, cs (k + 1)) (s1, cs s1)
      · rw [if_neg (fun z => (eb.mp z) a2)]
        refine ⟨k + 1, by omega, a1, rfl, fun s hs hsb => ?_⟩
        by_cases e : s = k + 1
        · rw [e]; exact gB_bt_r
        · have b1 := b1 s (by omega) hsb
          unfold gB_bt at *
          simp only [Int32.lt_iff_toInt_lt, ← Int32.toInt_inj] at *
          omega
      · rw [if_pos (eb.mpr a2)]
        exact old (fun z => a2 z.2)
theorem gB_nb {s i : Nat} (hs : s < 2 ^ 32) (hi : i < 32) : gb (nI s) i = s.testBit i := by
  show (BitVec.ofNat 32 s).getLsbD i = _
  rw [BitVec.getLsbD_ofNat, decide_eq_true hi, Bool.true_and]
theorem gB_cost (J : gJ_m w n) {s : Nat} (hs : s < 2 ^ 16) : ∀ k, k ≤ 16 → gp_it (gf_coS (w 98) (nI s)) 0 k 0 = nI (gB_cs (gB_co w) s k) ∧ gB_cs (gB_co w) s k ≤ 99 * k
  | 0, _ => ⟨rfl, Nat.le_refl _⟩
  | k + 1, hk => by
    have ih := gB_cost J hs k (by omega)
    obtain ⟨a, ha, e⟩ := (J.2.2.2.2.2.2.2.2.1 k (by omega)).2.2.1
    have e2 := (J.2.2.2.2.2.2.2.1 k (by omega)).2.2.1
    have ec : gB_co w k = a := by
      unfold gB_co
      rw [e2, e, nI_clamp (by omega)]
    rw [gp_it_snoc, Nat.zero_add, ih.1]
    unfold gf_coS
    show nI (gB_cs (gB_co w) s k) + _ = nI (gB_cs (gB_co w) s k + (if s.testBit k = true then gB_co w k else 0)) ∧ gB_cs (gB_co w) s k + (if s.testBit k = true then gB_co w k else 0) ≤ 99 * (k + 1)
    have q1 : ((nI s >>> (nI k &&& 31)) &&& 1 = 1) ↔ s.testBit k = true := by rw [gb_t1 _ (by omega), gB_nb (by omega) (by omega)]
    by_cases c : s.testBit k = true
    · rw [if_pos (q1.mpr c), if_pos c, ec, e, nI_add]
      exact ⟨rfl, by omega⟩
    · rw [if_neg (fun z => c (q1.mp z)), if_neg c, Int32.add_zero]
      exact ⟨rfl, by omega⟩
theorem gB_told (J : gJ_m w n) {m : Nat} (h4 : w (gp_ma m) 4 = w 107 kn) (h5 : w (gp_ma m) 5 = w 108 kn) (hk : kn < 7) (et : t = min n 12) {s : Nat} (hs : s < 2 ^ t) : gf_told w (nI kn) (nI s) (w 95 1) n = (gB_p (gp_it (gB_aS w m) 0 t 0) (fun i => w (5 + i) 5) (fun i => w (5 + i) 1) s t).2 := by
  have hn := J.2.2.1
  have p12 := gf_p2b (t := t) (by omega)
  have it : ∀ k, k ≤ t → gp_it (gf_tS w (nI kn) (nI s) (w 95 1)) 0 k (0, 0) = gB_p (gp_it (gB_aS w m) 0 t 0) (fun i => w (5 + i) 5) (fun i => w (5 + i) 1) s k := by
    intro k
    induction k with
    | zero => intro _; rfl
    | succ k ih =>
      intro hkt
      rw [gp_it_snoc, gB_p_s, Nat.zero_add, ih (by omega)]
      have e := J.2.2.2.2.2.2.2.1 k (by omega)
      generalize gB_p (gp_it (gB_aS w m) 0 t 0) (fun i => w (5 + i) 5) (fun i => w (5 + i) 1) s k = p
      have hc : gf_tC w (nI kn) (nI s) (w 95 1) k p.1 ↔ (s.testBit k = true ∧ gb (gp_it (gB_aS w m) 0 t 0) k = true ∧ w (5 + k) 5 &&& (p.1 ^^^ -1) = 0) := by
        unfold gf_tC
        have ea := gJ_abl J h4 h5 hk (i := k) (by omega) (w 1 4) (-1)
        rw [gw_self J.2.2.2.2.2.1, J.2.2.2.1] at ea
        have q2 : (¬ (nI s >>> (nI k &&& 31)) &&& 1 = 0) ↔ s.testBit k = true := by
          rw [gb_t0 _ (by omega), gB_nb (by omega) (by omega)]
          cases s.testBit k <;> simp
        rw [q2, gB_a_b t (by omega) k (by omega), J.2.2.2.1, ea, e.2.2.2.2.2.1]
        exact ⟨fun z => ⟨z.1, ⟨by omega, z.2.1, z.2.2.2⟩, z.2.2.1⟩, fun z => ⟨z.1, z.2.1.2.1, z.2.2, z.2.1.2.2⟩⟩
      unfold gB_s
      by_cases c : s.testBit k = true ∧ gb (gp_it (gB_aS w m) 0 t 0) k = true ∧ w (5 + k) 5 &&& (p.1 ^^^ -1) = 0
      · rw [if_pos c, gf_tS_y (hc.mpr c)]
        show (_, p.2 ||| 1 <<< (w 97 k &&& 31)) = (_, p.2 ||| 1 <<< (w (5 + k) 1 &&& 31))
        rw [e.2.1]
      · rw [if_neg c, gf_tS_n (fun z => c (hc.mp z))]
  unfold gf_told
  have en : n = t + (n - t) := by omega
  rw [en, gp_it_app, it t (Nat.le_refl _)]
  rw [gp_it_id (fun i x h1 h2 => gf_tS_n (fun z => z.1 ?_))]
  rw [gb_t0 _ (by omega), gB_nb (by omega) (by omega)]
  exact Nat.testBit_lt_two_pow (Nat.lt_of_lt_of_le hs (Nat.pow_le_pow_right (by decide) (by omega)))
/-- worth, mind by mind -/
theorem gB_worth (T : Nat → Int32) (hT : ∀ k, k < 6 → ∃ c : Nat, c ≤ 16 ∧ gf_count (T k) = nI c) {minds : Int32} (set y : Int32) (hto : ∀ k, k < 6 → gf_told w (nI k) set y n = T k) : ∀ k, k ≤ 6 → (gB_f (fun j => T ((gB_k minds k).getD j 0)) (gB_k minds k).length).1 = gp_it (gf_woS w set minds 0 y n) 0 k 0 ∧ ((gB_k minds k = [] ∧ (gB_f (fun j => T ((gB_k minds k).getD j 0)) (gB_k minds k).length).2 = 16 ∧ gp_it (gf_woS w set minds 1 y n) 0 k 17 = 17) ∨ (gB_k minds k ≠ [] ∧ (gB_f (fun j => T ((gB_k minds k).getD j 0)) (gB_k minds k).length).2 = gp_it (gf_woS w set minds 1 y n) 0 k 17 ∧ ∃ c : Nat, c ≤ 16 ∧ gp_it (gf_woS w set minds 1 y n) 0 k 17 = nI c))
  | 0, _ => ⟨rfl, Or.inl ⟨rfl, rfl, rfl⟩⟩
  | k + 1, hk => by
    have ih := gB_worth T hT (minds := minds) set y hto k (by omega)
    obtain ⟨cn, hcn, ecn⟩ := hT k (by omega)
    have to := hto k (by omega)
    rw [gp_it_snoc, gp_it_snoc, Nat.zero_add]
    by_cases c : (minds >>> (nI k &&& 31)) &&& 1 = 1
    · have ek : gB_k minds (k + 1) = gB_k minds k ++ [k] := by rw [gB_k_s, if_pos c]
      have n0 : ¬ (minds >>> (nI k &&& 31)) &&& 1 = 0 := by rw [c]; decide
      have fs : gB_f (fun j => T ((gB_k minds (k + 1)).getD j 0)) (gB_k minds (k + 1)).length = ((gB_f (fun j => T ((gB_k minds k).getD j 0)) (gB_k minds k).length).1 + gf_count (T k), if gf_count (T k) < (gB_f (fun j => T ((gB_k minds k).getD j 0)) (gB_k minds k).length).2 then gf_count (T k) else (gB_f (fun j => T ((gB_k minds k).getD j 0)) (gB_k minds k).length).2) := by
        unfold gB_f
        rw [ek, List.length_append, show [k].length = 1 from rfl, gp_it_snoc, Nat.zero_add]
        have e1 : (gB_k minds k ++ [k]).getD (gB_k minds k).length 0 = k := by simp [List.getD]
        have e2 : gp_it (fun j (p : Int32 × Int32) => (p.1 + gf_count (T ((gB_k minds k ++ [k]).getD j 0)), if gf_count (T ((gB_k minds k ++ [k]).getD j 0)) < p.2 then gf_count (T ((gB_k minds k ++ [k]).getD j 0)) else p.2)) 0 (gB_k minds k).length (0, 16) = gp_it (fun j (p : Int32 × Int32) => (p.1 + gf_count (T ((gB_k minds k).getD j 0)), if gf_count (T ((gB_k minds k).getD j 0)) < p.2 then gf_count (T ((gB_k minds k).getD j 0)) else p.2)) 0 (gB_k minds k).length (0, 16) := gp_it_congr (fun j _ hj => by
          have : (gB_k minds k ++ [k]).getD j 0 = (gB_k minds k).getD j 0 := by
            have hj : j < (gB_k minds k).length := by omega
            simp [List.getD, List.getElem?_append, hj]
          rw [this])
        rw [e2]
        simp only [e1]
      rw [fs]
      refine ⟨?_, Or.inr ⟨by rw [ek]; simp, ?_⟩⟩
      · show _ = gf_woS w set minds 0 y n k (gp_it (gf_woS w set minds 0 y n) 0 k 0)
        unfold gf_woS
        rw [if_neg n0, if_pos rfl, to, ← show gp_it (gf_woS w set minds 0 y n) 0 k 0 = gp_it (fun k v => if (minds >>> (nI k &&& 31)) &&& 1 = 0 then v else if (0 : Int32) = 0 then v + gf_count (gf_told w (nI k) set y n) else if gf_count (gf_told w (nI k) set y n) < v then gf_count (gf_told w (nI k) set y n) else v) 0 k 0 from rfl, ← ih.1]
      · have ws : ∀ v, gf_woS w set minds 1 y n k v = if gf_count (T k) < v then gf_count (T k) else v := fun v => by
          unfold gf_woS
          rw [if_neg n0, if_neg (by decide), to]
        rw [ws]
        rcases ih.2 with ⟨i1, i2, i3⟩ | ⟨i1, i2, c2, hc2, i3⟩
        · rw [i3]
          show (if gf_count (T k) < (gB_f (fun j => T ((gB_k minds k).getD j 0)) (gB_k minds k).length).2 then gf_count (T k) else (gB_f (fun j => T ((gB_k minds k).getD j 0)) (gB_k minds k).length).2) = _ ∧ _
          rw [i2, ecn]
          have g17 : nI cn < 17 := nI_lt (b := 17) (by omega) (by decide)
          rw [if_pos g17]
          by_cases g : cn < 16
          · have g16 : nI cn < 16 := nI_lt (b := 16) g (by decide)
            rw [if_pos g16]
            exact ⟨rfl, cn, hcn, rfl⟩
          · have g16 : ¬ nI cn < 16 := nI_nlt (b := 16) (by omega) (by omega)
            rw [if_neg g16, show cn = 16 by omega]
            exact ⟨rfl, 16, by omega, rfl⟩
        · show (if gf_count (T k) < (gB_f (fun j => T ((gB_k minds k).getD j 0)) (gB_k minds k).length).2 then gf_count (T k) else (gB_f (fun j => T ((gB_k minds k).getD j 0)) (gB_k minds k).length).2) = _ ∧ _
          rw [i2]
          refine ⟨rfl, ?_⟩
          split
          · exact ⟨cn, hcn, ecn⟩
          · exact ⟨c2, hc2, i3⟩
    · have ek : gB_k minds (k + 1) = gB_k minds k := by rw [gB_k_s, if_neg c]
      have c0 : (minds >>> (nI k &&& 31)) &&& 1 = 0 := by
        rw [gb_t0 _ (by omega)]
        cases z : gb minds k with
        | false => rfl
        | true => exact absurd ((gb_t1 _ (by omega)).mpr z) c
      have ws : ∀ wo v, gf_woS w set minds wo y n k v = v := fun wo v => if_pos c0
      rw [ws, ws, ek]
      exact ih
theorem gB_k_ne {minds : Int32} (h1 : 1 ≤ minds) (h2 : minds ≤ 63) : gB_k minds 6 ≠ [] := by
  obtain ⟨a, ha, e⟩ := nI_of2 (n := 63) (M := 63) rfl (Int32.not_lt.mpr (Int32.le_trans (by decide) h1)) h2
  have a1 : 1 ≤ a := by
    rcases Nat.eq_zero_or_pos a with z | z
    · rw [e, z] at h1; exact absurd h1 (by decide)
    · exact z
  rw [e]
  have key : ∀ a, a < 64 → 1 ≤ a → gB_k (nI a) 6 ≠ [] := by decide +kernel
  exact key a (by omega) a1
set_option maxRecDepth 100000 in
theorem sp_Gp_best {budget minds what : Int32} (J : gJ_m w n) (Q : gJ_q w q D) (h1 : ∀ worst : Int32, (1 < what ∧ worst = 1) ∨ (¬ 1 < what ∧ worst = 0) → (0 ≤ budget ∧ budget ≤ 9999) ∧ (1 ≤ minds ∧ minds ≤ 63) ∧ 0 ≤ what ∧ what ≤ 3 → ∀ W, gs_R w W → K (some (.int (if what - what / 2 * 2 = 0 then (gf_best w budget minds worst (w 95 1) n).1 else (gf_best w budget minds worst (w 95 1) n).2))) (gv W u q)) (h0 : ¬ ((0 ≤ budget ∧ budget ≤ 9999) ∧ (1 ≤ minds ∧ minds ≤ 63) ∧ 0 ≤ what ∧ what ≤ 3) → K (some (.int (-1))) (gv w u q)) : gp_Cal l G (d + 17) m_Gp_best [.ref 0, .int budget, .int minds, .int what] (gv w u q) K := by
  refine gp_enter od_Gp_best rfl ?_
  have hn := J.2.2.1
  (repeat refine gp_gc [] od_Gp_best rfl rfl ?_)
  refine sp_Gp_within (fun a1 b1 => ?_) (fun n1 => ?_)
  rotate_left
  · repeat refine gp_gc [] od_Gp_best rfl rfl ?_
    first | refine And.intro (fun _ => ?_) (fun c => absurd rfl c) | refine And.intro (fun c => absurd rfl c) (fun _ => ?_)
    repeat refine gp_gc [] od_Gp_best rfl rfl ?_
    exact h0 (fun z => n1 z.1)
  repeat refine gp_gc [] od_Gp_best rfl rfl ?_
  first | refine And.intro (fun c => absurd c (by decide)) (fun _ => ?_) | refine And.intro (fun _ => ?_) (fun c => absurd c (by decide))
  repeat refine gp_gc [] od_Gp_best rfl rfl ?_
  refine sp_Gp_within (fun a2 b2 => ?_) (fun n1 => ?_)
  rotate_left
  · repeat refine gp_gc [] od_Gp_best rfl rfl ?_
    first | refine And.intro (fun _ => ?_) (fun c => absurd rfl c) | refine And.intro (fun c => absurd rfl c) (fun _ => ?_)
    repeat refine gp_gc [] od_Gp_best rfl rfl ?_
    exact h0 (fun z => n1 z.2.1)
  repeat refine gp_gc [] od_Gp_best rfl rfl ?_
  first | refine And.intro (fun c => absurd c (by decide)) (fun _ => ?_) | refine And.intro (fun _ => ?_) (fun c => absurd c (by decide))
  repeat refine gp_gc [] od_Gp_best rfl rfl ?_
  refine sp_Gp_within (fun a3 b3 => ?_) (fun n1 => ?_)
  rotate_left
  · repeat refine gp_gc [] od_Gp_best rfl rfl ?_
    first | refine And.intro (fun _ => ?_) (fun c => absurd rfl c) | refine And.intro (fun c => absurd rfl c) (fun _ => ?_)
    repeat refine gp_gc [] od_Gp_best rfl rfl ?_
    exact h0 (fun z => n1 z.2.2)
  repeat refine gp_gc [] od_Gp_best rfl rfl ?_
  first | refine And.intro (fun c => absurd c (by decide)) (fun _ => ?_) | refine And.intro (fun _ => ?_) (fun c => absurd c (by decide))
  repeat refine gp_gc [] od_Gp_best rfl rfl ?_
  obtain ⟨bu, hbu, ebu⟩ := nI_of2 (n := 9999) (M := 9999) rfl (Int32.not_lt.mpr a1) b1
  have main : ∀ wo : Int32, (1 < what ∧ wo = 1) ∨ (¬ 1 < what ∧ wo = 0) → gp_Go l G (d + 17) m_Gp_best K 48 [some (.ref 0), some (.int budget), some (.int minds), some (.int what)] [.int wo, .int minds, .int budget, .ref 72] (gv w u q) 0 0 := by
    intro wo hwo
    have h01 : wo = 0 ∨ wo = 1 := hwo.elim (fun z => Or.inr z.2) (fun z => Or.inl z.2)
    have p12 := gf_p2b (t := min n 12) (by omega)
    -- the reference's choice
    have hT : ∀ s, s < 2 ^ min n 12 → ∀ k, k < 6 → gf_told w (nI k) (nI s) (w 95 1) n = (gB_p (gp_it (gB_aS w (q k)) 0 (min n 12) 0) (fun i => w (5 + i) 5) (fun i => w (5 + i) 1) s (min n 12)).2 := fun s hs k hk => gB_told J (gJ_q4 Q hk).1 (gJ_q4 Q hk).2 (by omega) rfl hs
    have hw : ∀ s, s < 2 ^ min n 12 → gf_worth w (nI s) minds wo (w 95 1) n = gB_w (gB_k minds 6).length (min n 12) (gB_ab w q (min n 12) (gB_k minds 6)) (fun i => w (5 + i) 5) (fun i => w (5 + i) 1) wo s := by
      intro s hs
      have wo' := gB_worth (w := w) (n := n) (fun k => (gB_p (gp_it (gB_aS w (q k)) 0 (min n 12) 0) (fun i => w (5 + i) 5) (fun i => w (5 + i) 1) s (min n 12)).2) (fun k hk => by
        obtain ⟨a, ha, ea⟩ := gb_16 (gB_p_16 (ab := gp_it (gB_aS w (q k)) 0 (min n 12) 0) (nd := fun i => w (5 + i) 5) (th := fun i => w (5 + i) 1) (s := s) (k := min n 12) (by omega) (fun i hi => gJ_th J i (by omega)))
        refine ⟨gk_ct a 16, ?_, ?_⟩
        · have ct : ∀ k, gk_ct a k ≤ k := by
            intro k
            induction k with
            | zero => exact Nat.le_refl _
            | succ k ih => show gk_ct a k + (a >>> k) % 2 ≤ k + 1; omega
          exact ct 16
        · rw [ea]
          exact gk_cnt ha 16 (Nat.le_refl _)) (minds := minds) (nI s) (w 95 1) (fun k hk => hT s hs k hk) 6 (Nat.le_refl _)
      unfold gf_worth gB_w
      rcases h01 with z | z
      · rw [z, if_pos rfl, if_pos rfl]
        exact wo'.1.symm
      · rw [z, if_neg (by decide), if_neg (by decide)]
        rcases wo'.2 with ⟨e, _, _⟩ | ⟨_, e, _⟩
        · exact absurd e (gB_k_ne a2 b2)
        · exact e.symm
    have hcs : ∀ s, s < 2 ^ min n 12 → gB_cs (gB_co w) s n = gB_cs (gB_co w) s (min n 12) := fun s hs => by
      have := gB_cs_up (co := gB_co w) hs (n - min n 12)
      rw [show min n 12 + (n - min n 12) = n by omega] at this
      exact this
    have hc : ∀ s, s < 2 ^ min n 12 → gf_cost (w 98) (nI s) n = nI (gB_cs (gB_co w) s (min n 12)) ∧ gB_cs (gB_co w) s (min n 12) < 2000 := fun s hs => by
      have := gB_cost J (s := s) (by omega) n hn
      rw [hcs s hs] at this
      exact ⟨this.1, by omega⟩
    have z0 : gB_cs (gB_co w) 0 (min n 12) = 0 := by
      have := gB_cs_up (co := gB_co w) (s := 0) (m := 0) (by decide) (min n 12)
      rw [Nat.zero_add] at this
      exact this
    obtain ⟨T, t1, t2, t3, t4⟩ := gB_ref (w := w) (n := n) (wo := wo) (y := w 95 1) (minds := minds) hbu (show min n 12 ≤ 12 by omega) hw hc z0 (2 ^ min n 12 - 1) (by omega)
    have eB : gf_best w budget minds wo (w 95 1) n = (nI T, gB_w (gB_k minds 6).length (min n 12) (gB_ab w q (min n 12) (gB_k minds 6)) (fun i => w (5 + i) 5) (fun i => w (5 + i) 1) wo T) := by
      unfold gf_best
      rw [ebu]
      exact t3
    have cls := gB_cls (A := (gB_k minds 6).length) (t := min n 12) (bu := bu) (wo := wo) (ab := gB_ab w q (min n 12) (gB_k minds 6)) (nd := fun i => w (5 + i) 5) (th := fun i => w (5 + i) 1) (co := gB_co w) (by omega) gB_k_l hbu (fun i hi => by
      obtain ⟨a, ha1, ha, e⟩ := (J.2.2.2.2.2.2.2.2.2.1 i (by omega)).2.2.2.2
      unfold gB_co
      rw [(J.2.2.2.2.2.2.2.1 i (by omega)).2.2.1, e, nI_clamp (by omega)]
      exact ha1) (T := T) (by omega) t2 (fun s hs hb => t4 s (by omega) hb)
    have h1 := h1 wo hwo ⟨⟨a1, b1⟩, ⟨a2, b2⟩, a3, b3⟩
    refine gp_go od_Gp_best rfl ?_
    refine sp_Ch_findBest (d := d) (n := n) (t := min n 12) (bu := bu) (wo := wo) J Q.1 ebu hbu rfl h01 rfl (fun W hR hS => ?_)
    rw [cls] at hS
    have h1 := h1 W hR
    rw [eB] at h1
    obtain ⟨s1, s2, s3⟩ := hS
    (repeat refine gp_gc [] od_Gp_best rfl rfl ?_)
    by_cases c0 : what = 0
    · rw [if_pos (by rw [c0]; decide)] at h1
      refine gb1_eq_t c0 ?_
      (repeat refine gp_gc [] od_Gp_best rfl rfl ?_)
      rw [show W 72 10 = nI T from s3]
      exact h1
    refine gb1_eq_f c0 ?_
    (repeat refine gp_gc [] od_Gp_best rfl rfl ?_)
    by_cases c2 : what = 2
    · rw [if_pos (by rw [c2]; decide)] at h1
      refine gb_ne_f c2 ?_
      (repeat refine gp_gc [] od_Gp_best rfl rfl ?_)
      rw [show W 72 10 = nI T from s3]
      exact h1
    · refine gb_ne_t c2 ?_
      (repeat refine gp_gc [] od_Gp_best rfl rfl ?_)
      have nz : ¬ what - what / 2 * 2 = 0 := by
        rcases gf_w3 a3 b3 with z | z | z | z
        · exact absurd z c0
        · rw [z]; decide
        · exact absurd z c2
        · rw [z]; decide
      rw [if_neg nz] at h1
      rw [show W 72 11 = gB_w (gB_k minds 6).length (min n 12) (gB_ab w q (min n 12) (gB_k minds 6)) (fun i => w (5 + i) 5) (fun i => w (5 + i) 1) wo T from s1]
      exact h1
  by_cases c : what < 2
  · have c' : ¬ 1 < what := by
      intro z
      rcases gf_w3 a3 b3 with y | y | y | y <;> (rw [y] at c z; revert c z; decide)
    refine gb_lt_t c ?_
    (repeat refine gp_gc [48] od_Gp_best rfl rfl ?_)
    exact main 0 (Or.inr ⟨c', rfl⟩)
  · have c' : 1 < what := by
      rcases gf_w3 a3 b3 with y | y | y | y
      · rw [y] at c; exact absurd c (by decide)
      · rw [y] at c; exact absurd c (by decide)
      · rw [y]; decide
      · rw [y]; decide
    refine gb_lt_f c ?_
    (repeat refine gp_gc [48] od_Gp_best rfl rfl ?_)
    exact main 1 (Or.inl ⟨c', rfl⟩)
end

end
