section
variable {l : Launch} {G : gp_G} {d : Nat} {w : Nat → Nat → Int32} {u : Int64 × (Nat → Int64)} {q : Nat → Nat} {K : Option Value → gp_H → Prop}
/-! ===== the reference's methods: widths ===== -/
def gf_isP (n : Nat) : Prop := (∀ e, 2 ≤ e → e < n → ¬ n % e = 0) ∧ 1 < n
def gf_pr (a b : Nat) : Int32 := if (∀ e, e < a → 2 ≤ e → ¬ a % e = 0) ∧ 1 < a ∧ (∀ e, e < b → 2 ≤ e → ¬ b % e = 0) ∧ 1 < b then 1 else 0
theorem gf_pr_y {a b : Nat} (h1 : gf_isP a) (h2 : gf_isP b) : gf_pr a b = 1 := if_pos ⟨fun e a c => h1.1 e c a, h1.2, fun e a c => h2.1 e c a, h2.2⟩
theorem gf_pr_n {a b : Nat} (h : ¬ (gf_isP a ∧ gf_isP b)) : gf_pr a b = 0 := if_neg (fun z => h ⟨⟨fun e a c => z.1 e c a, z.2.1⟩, fun e a c => z.2.2.1 e c a, z.2.2.2⟩)
def gf_G (wd hh pr ed fr : Int32) (j : Nat) : Int32 := match j with
  | 9 => wd
  | 10 => hh
  | 11 => pr
  | 12 => ed
  | 13 => fr
  | _ => 0
/-- the try line of mind kn, if there is one -/
def gf_try (w : Nat → Nat → Int32) (kn : Nat) (TL : Option gf_L) : Prop := match TL with
  | none => w 122 kn = 0
  | some L => w 122 kn = 1 ∧ ∃ a : Nat, w 112 kn = nI a ∧ w 113 kn = nI (a + L.length) ∧ a + L.length ≤ 510 ∧ gf_seg (w 117) kn a L ∧ gf_wfE L
def gf_rk (ed : Int32) (a b : Nat) (TL : Option gf_L) : Int32 := match TL with
  | none => 0
  | some L => gf_val (gf_G (nI a) (nI b) (gf_pr a b) ed (if nI b < nI a then nI a - nI b else nI b - nI a)) L
def gf_tW (w : Nat → Nat → Int32) (f g : Nat → Int32) : Nat → Nat → Int32 := gr (gr w 119 f) 120 g
section
variable {k wd : Int32} {kn a b : Nat} {TL : Option gf_L}
set_option maxRecDepth 100000 in
theorem sp_Rf_triedAs (ek : k = nI kn) (hk : kn < 7) (ew : wd = nI a) (eN : w 95 50 = nI (a * b)) (hab : a * b ≤ 400) (ha : 0 < a) (hb : 0 < b) (hT : gf_try w kn TL) (h : ∀ f g, K (some (.int (gf_rk (gf_edges w k wd a b) a b TL))) (gv (gf_tW w f g) u q)) : gp_Cal l G (d + 2) m_Rf_triedAs [.ref 95, .int k, .int wd] (gv w u q) K := by
  refine gp_enter od_Rf_triedAs rfl ?_
  have hba : b ≤ a * b := Nat.le_mul_of_pos_left b ha
  have hab2 : a ≤ a * b := Nat.le_mul_of_pos_right a hb
  have i0 : vp_in k 7 := by rw [ek]; exact vp_in_nI hk (by decide)
  have ck : k.toNatClampNeg = kn := by rw [ek]; exact nI_clamp (by omega)
  have eh : w 95 50 / wd = nI b := by
    rw [eN, ew, pk_div (by omega) ha (by omega), Nat.mul_div_cancel_left b ha]
  (repeat refine gp_gc [10, 72, 106] od_Rf_triedAs rfl rfl ?_)
  refine And.intro (fun z => by rw [ew] at z; exact nI_ne0 ha (by omega) z) ?_
  (repeat refine gp_gc [10, 72, 106] od_Rf_triedAs rfl rfl ?_)
  rw [eh]
  have fin : ∀ (g : Nat → Int32) (fr : Int32), fr = (if nI b < nI a then nI a - nI b else nI b - nI a) → (∀ j, j < 14 → j ≠ 13 → g j = gf_G (nI a) (nI b) (gf_pr a b) (gf_edges w k wd a b) fr j) → gp_Go l G (d + 2) m_Rf_triedAs K 106 [some (.ref 95), some (.int k), some (.int wd), some (.int (nI b)), some (.int (nI 14))] [.int fr, .int 13, .ref 120] (gv (gf_tW w (w 119) g) u q) 0 0 := by
    intro g fr ef hg
    have hg2 : ∀ j, j < 14 → upd g 13 fr j = gf_G (nI a) (nI b) (gf_pr a b) (gf_edges w k wd a b) fr j := by
      intro j hj
      by_cases e : j = 13
      · subst e; rfl
      · exact (pk_un e).trans (hg j hj e)
    refine gp_go od_Rf_triedAs rfl ?_
    (repeat refine gp_gc [10, 72, 106] od_Rf_triedAs rfl rfl ?_)
    refine And.intro (vp_in_nI (n := 13) (by decide) (by decide)) ?_
    (repeat refine gp_gc [10, 72, 106] od_Rf_triedAs rfl rfl ?_)
    refine And.intro i0 ?_
    (repeat refine gp_gc [10, 72, 106] od_Rf_triedAs rfl rfl ?_)
    rw [show gf_tW w (w 119) g 122 k.toNatClampNeg = w 122 kn by rw [ck]; rfl]
    cases TL with
    | none =>
      have hT : w 122 kn = 0 := hT
      refine gb1_eq_t hT ?_
      (repeat refine gp_gc [10, 72, 106] od_Rf_triedAs rfl rfl ?_)
      exact h (w 119) (upd g 13 fr)
    | some L =>
      obtain ⟨t0, x, t1, t2, t3, t4, t5⟩ := hT
      refine gb1_eq_f (by rw [t0]; decide) ?_
      (repeat refine gp_gc [10, 72, 106] od_Rf_triedAs rfl rfl ?_)
      refine And.intro i0 ?_
      (repeat refine gp_gc [10, 72, 106] od_Rf_triedAs rfl rfl ?_)
      refine And.intro i0 ?_
      (repeat refine gp_gc [10, 72, 106] od_Rf_triedAs rfl rfl ?_)
      refine sp_Rf_comesTo (d := d) (w := gf_tW w (w 119) (upd g 13 fr)) (L := L) (r := gf_rk (gf_edges w k wd a b) a b (some L)) ek hk (show w 112 k.toNatClampNeg = nI x by rw [ck]; exact t1) (show w 113 k.toNatClampNeg = _ by rw [ck]; exact t2) t3 t4 ?_ (fun f => ?_)
      · rw [gf_wfE_v t5]
        refine congrArg (fun z => some [z]) ?_
        show _ = gf_val _ L
        rw [← ef]
        exact gf_val_congr hg2 L
      · (repeat refine gp_gc [10, 72, 106] od_Rf_triedAs rfl rfl ?_)
        exact h f (upd g 13 fr)
  have mid : ∀ (g : Nat → Int32) (p : Int32), p = gf_pr a b → (∀ j, j < 14 → j ≠ 11 → j ≠ 12 → j ≠ 13 → g j = gf_G (nI a) (nI b) 0 0 0 j) → gp_Go l G (d + 2) m_Rf_triedAs K 72 [some (.ref 95), some (.int k), some (.int wd), some (.int (nI b)), some (.int (nI 14))] [.int p, .int 11, .ref 120] (gv (gf_tW w (w 119) g) u q) 0 0 := by
    intro g p ep hg
    have hg2 : ∀ fr j, j < 14 → j ≠ 13 → upd (upd g 11 p) 12 (gf_edges w k wd a b) j = gf_G (nI a) (nI b) (gf_pr a b) (gf_edges w k wd a b) fr j := by
      intro fr j hj h13
      by_cases e12 : j = 12
      · subst e12; rfl
      · rw [pk_un e12]
        by_cases e11 : j = 11
        · subst e11; exact pk_us.trans ep
        · rw [pk_un e11, hg j hj e11 e12 h13]
          unfold gf_G
          split <;> first | rfl | omega
    refine gp_go od_Rf_triedAs rfl ?_
    (repeat refine gp_gc [10, 72, 106] od_Rf_triedAs rfl rfl ?_)
    refine And.intro (vp_in_nI (n := 11) (by decide) (by decide)) ?_
    (repeat refine gp_gc [10, 72, 106] od_Rf_triedAs rfl rfl ?_)
    refine sp_Rf_edges (d := d) (w := gf_tW w (w 119) (upd g 11 p)) i0 ew eN hab ha hb ?_
    have ee : gf_edges (gf_tW w (w 119) (upd g 11 p)) k wd a b = gf_edges w k wd a b := rfl
    rw [ee]
    (repeat refine gp_gc [10, 72, 106] od_Rf_triedAs rfl rfl ?_)
    refine And.intro (vp_in_nI (n := 12) (by decide) (by decide)) ?_
    (repeat refine gp_gc [10, 72, 106] od_Rf_triedAs rfl rfl ?_)
    by_cases c : nI b < wd
    · have c' : nI b < nI a := by rw [← ew]; exact c
      refine gb_le_f' c ?_
      (repeat refine gp_gc [10, 72, 106] od_Rf_triedAs rfl rfl ?_)
      refine fin (upd (upd g 11 p) 12 (gf_edges w k wd a b)) (wd - nI b) (by rw [if_pos c', ew]) (fun j hj h13 => hg2 _ j hj h13)
    · have c' : ¬ nI b < nI a := by rw [← ew]; exact c
      refine gb_le_t' c ?_
      (repeat refine gp_gc [10, 72, 106] od_Rf_triedAs rfl rfl ?_)
      refine fin (upd (upd g 11 p) 12 (gf_edges w k wd a b)) (nI b - wd) (by rw [if_neg c', ew]) (fun j hj h13 => hg2 _ j hj h13)
  have key : ∀ (r j : Nat), j + r = 14 → ∀ g, (∀ x, x < j → g x = 0) → gp_Go l G (d + 2) m_Rf_triedAs K 10 [some (.ref 95), some (.int k), some (.int wd), some (.int (nI b)), some (.int (nI j))] [] (gv (gf_tW w (w 119) g) u q) 0 0 := by
    intro r
    induction r with
    | zero =>
      intro j e g hg
      obtain rfl : j = 14 := by omega
      have hg2 : ∀ j, j < 14 → j ≠ 11 → j ≠ 12 → j ≠ 13 → upd (upd g 9 wd) 10 (nI b) j = gf_G (nI a) (nI b) 0 0 0 j := by
        intro j hj h1 h2 h3
        by_cases e10 : j = 10
        · subst e10; rfl
        · rw [pk_un e10]
          by_cases e9 : j = 9
          · subst e9; exact pk_us.trans ew
          · rw [pk_un e9, hg j hj]
            unfold gf_G
            split <;> first | rfl | omega
      refine gp_go od_Rf_triedAs rfl ?_
      (repeat refine gp_gc [10, 72, 106] od_Rf_triedAs rfl rfl ?_)
      refine gb_ge_t (by decide) ?_
      (repeat refine gp_gc [10, 72, 106] od_Rf_triedAs rfl rfl ?_)
      refine And.intro (vp_in_nI (n := 9) (by decide) (by decide)) ?_
      (repeat refine gp_gc [10, 72, 106] od_Rf_triedAs rfl rfl ?_)
      refine And.intro (vp_in_nI (n := 10) (by decide) (by decide)) ?_
      (repeat refine gp_gc [10, 72, 106] od_Rf_triedAs rfl rfl ?_)
      refine sp_Rf_isPrime (d := d + 1) (w := gf_tW w (w 119) (upd (upd g 9 wd) 10 (nI b))) ew (by omega) (fun p1 p2 => ?_) (fun n1 => ?_)
      rotate_left
      · (repeat refine gp_gc [10, 72, 106] od_Rf_triedAs rfl rfl ?_)
        refine gb1_eq_t rfl ?_
        (repeat refine gp_gc [10, 72, 106] od_Rf_triedAs rfl rfl ?_)
        exact mid _ 0 (gf_pr_n (fun z => n1 z.1)).symm hg2
      (repeat refine gp_gc [10, 72, 106] od_Rf_triedAs rfl rfl ?_)
      refine gb1_eq_f (by decide) ?_
      (repeat refine gp_gc [10, 72, 106] od_Rf_triedAs rfl rfl ?_)
      refine sp_Rf_isPrime (d := d + 1) (w := gf_tW w (w 119) (upd (upd g 9 wd) 10 (nI b))) (n := b) rfl (by omega) (fun p3 p4 => ?_) (fun n1 => ?_)
      · (repeat refine gp_gc [10, 72, 106] od_Rf_triedAs rfl rfl ?_)
        refine gb1_eq_f (by decide) ?_
        (repeat refine gp_gc [10, 72, 106] od_Rf_triedAs rfl rfl ?_)
        exact mid _ 1 (gf_pr_y ⟨p1, p2⟩ ⟨p3, p4⟩).symm hg2
      · (repeat refine gp_gc [10, 72, 106] od_Rf_triedAs rfl rfl ?_)
        refine gb1_eq_t rfl ?_
        (repeat refine gp_gc [10, 72, 106] od_Rf_triedAs rfl rfl ?_)
        exact mid _ 0 (gf_pr_n (fun z => n1 z.2)).symm hg2
    | succ r ih =>
      intro j e g hg
      refine gp_go od_Rf_triedAs rfl ?_
      (repeat refine gp_gc [10, 72, 106] od_Rf_triedAs rfl rfl ?_)
      refine gb_ge_f (show ¬ nI 14 ≤ nI j from nI_ge (by omega) (by decide)) ?_
      (repeat refine gp_gc [10, 72, 106] od_Rf_triedAs rfl rfl ?_)
      refine And.intro (vp_in_nI (by omega) (by decide)) ?_
      (repeat refine gp_gc [10, 72, 106] od_Rf_triedAs rfl rfl ?_)
      rw [gp_inc (i := j) rfl, show (nI j).toNatClampNeg = j from nI_clamp (by omega)]
      refine ih (j + 1) (by omega) (upd g j 0) (fun x hx => ?_)
      by_cases hxj : x = j
      · exact if_pos hxj
      · exact (if_neg hxj).trans (hg x (by omega))
  exact key 14 0 rfl (w 120) (fun x hx => by omega)
end

end
