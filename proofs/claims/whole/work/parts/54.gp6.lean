section
variable {l : Launch} {G : gp_G} {d : Nat} {w : Nat → Nat → Int32} {u : Int64 × (Nat → Int64)} {q : Nat → Nat} {K : Option Value → gp_H → Prop}
/-! ===== the class's methods: of ===== -/
def gc_chS (nd : Int32) (T : Nat → Int32) (k : Nat) (n : Int32) : Int32 := if (nd >>> (nI k &&& 31)) &&& 1 = 1 then (if n < T k then T k else n) else n
def gc_chV (nd : Int32) (T : Nat → Int32) (m : Nat) : Int32 := gp_it (gc_chS nd T) 0 m 0 + 1
def gc_chF (k : Nat) (w : Nat → Nat → Int32) : Nat → Nat → Int32 := gw w 4 k (gc_chV (w (5 + k) 5) (w 4) k)
theorem gc_chF_ne : ∀ (k i : Nat) (w : Nat → Nat → Int32) (a : Nat), a ≠ 4 → gp_it gc_chF i k w a = w a
  | 0, _, _, _, _ => rfl
  | k + 1, i, w, a, h => by
    show gp_it gc_chF (i + 1) k (gc_chF i w) a = w a
    rw [gc_chF_ne k (i + 1) _ a h]
    exact gw_ne h
set_option maxRecDepth 100000 in
theorem sp_Pl_chainOf {x : Int32} {n i : Nat} (ok : gc_ok w n) (ex : x = nI i) (hi : i < n) (h : K (some (.int (gp_it gc_chF 0 (i + 1) w 4 i))) (gv (gp_it gc_chF 0 (i + 1) w) u q)) : gp_Cal l G (d + 1) m_Pl_chainOf [.ref 1, .int x] (gv w u q) K := by
  refine gp_enter od_Pl_chainOf rfl ?_
  have hn := ok.2.1
  subst ex
  (repeat refine gp_gc [2, 20] od_Pl_chainOf rfl rfl ?_)
  refine gp_iter (P := fun j W => (∀ a, a ≠ 4 → W a = w a) → ∀ y, y = nI j → gp_Go l G (d + 1) m_Pl_chainOf K 2 [some (.ref 1), some (.int (nI i)), some (.int y), none, none] [] (gv W u q) 0 0) gc_chF (i + 1) ?_ (i + 1) 0 w (by omega) ?_ (fun _ _ => rfl) 0 rfl
  · intro j W hj hp hW y ey
    subst ey
    have ec : (nI j).toNatClampNeg = j := nI_clamp (by omega)
    have hp := hp (fun a ha => by rw [← hW a ha]; exact gw_ne ha) _ (gp_inc rfl)
    have en : W 1 3 = nI n := by rw [hW 1 (by decide)]; exact ok.1
    refine gp_go od_Pl_chainOf rfl ?_
    (repeat refine gp_gc [2, 20] od_Pl_chainOf rfl rfl ?_)
    refine gb_gt_f (nI_nlt (by omega) (by omega)) ?_
    (repeat refine gp_gc [2, 20] od_Pl_chainOf rfl rfl ?_)
    refine gb_ge_f (by rw [en]; exact nI_ge (by omega) (by omega)) ?_
    (repeat refine gp_gc [2, 20] od_Pl_chainOf rfl rfl ?_)
    refine gp_iter (P := fun k s => ∀ z, z = nI k → gp_Go l G (d + 1) m_Pl_chainOf K 20 [some (.ref 1), some (.int (nI i)), some (.int (nI j)), some (.int s), some (.int z)] [] (gv W u q) 0 0) (gc_chS (W (5 + j) 5) (W 4)) j ?_ j 0 0 (by omega) ?_ 0 rfl
    · intro k s hk hq z ez
      subst ez
      have ec2 : (nI k).toNatClampNeg = k := nI_clamp (by omega)
      have hq := hq _ (gp_inc rfl)
      unfold gc_chS at hq
      refine gp_go od_Pl_chainOf rfl ?_
      (repeat refine gp_gc [2, 20] od_Pl_chainOf rfl rfl ?_)
      refine gb_ge_f (nI_ge hk (by omega)) ?_
      (repeat refine gp_gc [2, 20] od_Pl_chainOf rfl rfl ?_)
      refine And.intro (gc_ix (by omega)) ⟨_, rfl, ?_⟩
      rw [ec]
      (repeat refine gp_gc [2, 20] od_Pl_chainOf rfl rfl ?_)
      refine gs_get (gv_mark (by omega)) rfl rfl ?_
      (repeat refine gp_gc [2, 20] od_Pl_chainOf rfl rfl ?_)
      by_cases b1 : (W (5 + j) 5 >>> (nI k &&& 31)) &&& 1 = 1
      rotate_left
      · rw [if_neg b1] at hq
        refine gb_ne_t b1 ?_
        (repeat refine gp_gc [2, 20] od_Pl_chainOf rfl rfl ?_)
        exact hq
      rw [if_pos b1] at hq
      refine gb_ne_f b1 ?_
      (repeat refine gp_gc [2, 20] od_Pl_chainOf rfl rfl ?_)
      refine And.intro (gc_ix (by omega)) ?_
      rw [ec2]
      (repeat refine gp_gc [2, 20] od_Pl_chainOf rfl rfl ?_)
      exact hq
    · intro z ez
      subst ez
      refine gp_go od_Pl_chainOf rfl ?_
      (repeat refine gp_gc [2, 20] od_Pl_chainOf rfl rfl ?_)
      refine gb_ge_t (Int32.le_refl _) ?_
      (repeat refine gp_gc [2, 20] od_Pl_chainOf rfl rfl ?_)
      refine And.intro (gc_ix (by omega)) ?_
      rw [ec]
      (repeat refine gp_gc [2, 20] od_Pl_chainOf rfl rfl ?_)
      refine gp_drop 3 (gp_drop 4 ?_)
      exact hp
  · intro hW y ey
    subst ey
    have ec : (nI i).toNatClampNeg = i := nI_clamp (by omega)
    refine gp_go od_Pl_chainOf rfl ?_
    (repeat refine gp_gc [2, 20] od_Pl_chainOf rfl rfl ?_)
    refine gb_gt_t (nI_lt (by omega) (by omega)) ?_
    (repeat refine gp_gc [2, 20] od_Pl_chainOf rfl rfl ?_)
    refine And.intro (gc_ix (by omega)) ?_
    rw [ec]
    (repeat refine gp_gc [2, 20] od_Pl_chainOf rfl rfl ?_)
    exact h
set_option maxRecDepth 100000 in
theorem sp_Gp_of {m what : Int32} {n : Nat} (ok : gc_ok w n) (h0 : ¬ ((0 ≤ m ∧ m < w 1 3) ∧ 0 ≤ what ∧ what ≤ 2) → K (some (.int (-1000000))) (gv w u q)) (hA : ∀ i, i < n → m = nI i → what = 0 → K (some (.int (gc_left w i (w 1 4)))) (gv w u q)) (hB : ∀ i, i < n → m = nI i → what = 1 → K (some (.int (gc_wear w i))) (gv w u q)) (hC : ∀ i, i < n → m = nI i → what = 2 → K (some (.int (gp_it gc_chF 0 (i + 1) w 4 i))) (gv (gp_it gc_chF 0 (i + 1) w) u q)) : gp_Cal l G (d + 2) m_Gp_of [.ref 0, .int m, .int what] (gv w u q) K := by
  refine gp_enter od_Gp_of rfl ?_
  have hn := ok.2.1
  (repeat refine gp_gc [] od_Gp_of rfl rfl ?_)
  refine sp_Pl_has (fun a1 b1 => ?_) (fun n1 => ?_)
  rotate_left
  · repeat refine gp_gc [] od_Gp_of rfl rfl ?_
    first | refine And.intro (fun _ => ?_) (fun c => absurd rfl c) | refine And.intro (fun c => absurd rfl c) (fun _ => ?_)
    repeat refine gp_gc [] od_Gp_of rfl rfl ?_
    exact h0 (fun z => n1 z.1)
  repeat refine gp_gc [] od_Gp_of rfl rfl ?_
  first | refine And.intro (fun c => absurd c (by decide)) (fun _ => ?_) | refine And.intro (fun _ => ?_) (fun c => absurd c (by decide))
  repeat refine gp_gc [] od_Gp_of rfl rfl ?_
  obtain ⟨i, hi, em⟩ := gc_has ok.1 ok.2.1 a1 b1
  have ec : m.toNatClampNeg = i := by rw [em]; exact nI_clamp (by omega)
  have im : vp_in m 16 := by rw [em]; exact gc_ix (by omega)
  have ik := ok.2.2 i hi
  refine And.intro (fun c => ?_) (And.intro (by decide) (And.intro (fun c => ?_) (And.intro (fun c => ?_) (And.intro (fun c => ?_) trivial))))
  · (repeat refine gp_gc [] od_Gp_of rfl rfl ?_)
    refine h0 (fun z => ?_)
    have c1 := Int32.le_iff_toInt_le.mp z.2.1
    have c2 := Int32.le_iff_toInt_le.mp z.2.2
    have e0 : (0 : Int32).toInt = 0 := by decide
    have e2 : (2 : Int32).toInt = 2 := by decide
    omega
  · have ew : what = 0 := Int32.toInt_inj.mp c
    (repeat refine gp_gc [] od_Gp_of rfl rfl ?_)
    refine And.intro im ⟨_, rfl, ?_⟩
    rw [ec]
    (repeat refine gp_gc [] od_Gp_of rfl rfl ?_)
    refine sp_Pl_leftOf (d := d + 1) (by omega) ik ?_
    (repeat refine gp_gc [] od_Gp_of rfl rfl ?_)
    exact hA i hi em ew
  · have ew : what = 1 := Int32.toInt_inj.mp c
    (repeat refine gp_gc [] od_Gp_of rfl rfl ?_)
    refine And.intro im ⟨_, rfl, ?_⟩
    rw [ec]
    (repeat refine gp_gc [] od_Gp_of rfl rfl ?_)
    refine sp_Pl_wearOf (d := d) (by omega) ik ?_
    (repeat refine gp_gc [] od_Gp_of rfl rfl ?_)
    exact hB i hi em ew
  · have ew : what = 2 := Int32.toInt_inj.mp c
    (repeat refine gp_gc [] od_Gp_of rfl rfl ?_)
    refine sp_Pl_chainOf (d := d) ok em hi ?_
    (repeat refine gp_gc [] od_Gp_of rfl rfl ?_)
    exact hC i hi em ew

end
