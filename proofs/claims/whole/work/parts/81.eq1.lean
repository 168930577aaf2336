section
variable {l : Launch} {G : gp_G} {d : Nat} {w : Nat → Nat → Int32} {u : Int64 × (Nat → Int64)} {q : Nat → Nat} {K : Option Value → gp_H → Prop}
/-! ===== the class's answers are the reference's: told, never, deeper, alone, of ===== -/
section
variable {n m kn : Nat}
theorem gJ_dep2 (J : gJ_m w n) {i : Nat} (hi : i < 16) (dp : Int32) : gf_depth (gw w 95 13 dp) (nI i) = gc_dep w i dp := by
  obtain ⟨a, ha, e⟩ := (J.2.2.2.2.2.2.2.2.1 i hi).2.2.2.1
  have e3 := (J.2.2.2.2.2.2.2.1 i hi).2.2.2.1
  unfold gf_depth gc_dep
  have e13 : gw w 95 13 dp 95 13 = dp := rfl
  have e99 : gw w 95 13 dp 99 = w 99 := rfl
  rw [e13, e99, nI_clamp (by omega), e3, e]
  by_cases c : nI i = dp
  · rw [if_pos c, if_pos c]
    have q1 : nI a + 100 = nI (a + 100) := nI_add a 100
    rw [q1]
    by_cases d : a + 100 < 999
    · have g1 : nI (a + 100) < 999 := nI_lt (b := 999) d (by decide)
      have g2 : ¬ 999 < nI (a + 100) := nI_nlt (a := 999) (by omega) (by decide)
      rw [if_pos g1, if_neg g2]
    · have g1 : ¬ nI (a + 100) < 999 := nI_nlt (b := 999) (by omega) (by omega)
      rw [if_neg g1]
      by_cases d2 : a + 100 = 999
      · rw [d2]; rfl
      · have g2 : 999 < nI (a + 100) := nI_lt (a := 999) (by omega) (by omega)
        rw [if_pos g2]
  · rw [if_neg c, if_neg c]
    exact if_neg (nI_nlt (a := 999) ha (by decide))
theorem gJ_abl (J : gJ_m w n) (h4 : w (gp_ma m) 4 = w 107 kn) (h5 : w (gp_ma m) 5 = w 108 kn) (hk : kn < 7) {i : Nat} (hi : i < 16) (y dp : Int32) : gc_abl w m y dp i ↔ gf_abl (gw w 95 13 dp) (nI kn) y i := by
  have e := J.2.2.2.2.2.2.2.1 i hi
  unfold gc_abl gf_abl gf_left
  rw [gJ_dep2 J hi dp]
  have a1 : gw w 95 13 dp 100 = w 100 := rfl
  have a2 : gw w 95 13 dp 107 = w 107 := rfl
  have a3 : gw w 95 13 dp 102 = w 102 := rfl
  have a4 : gw w 95 13 dp 108 = w 108 := rfl
  have a5 : gw w 95 13 dp 104 = w 104 := rfl
  have a6 : gw w 95 13 dp 96 = w 96 := rfl
  rw [a1, a2, a3, a4, a5, a6, nI_clamp (show kn < 2 ^ 31 by omega), nI_clamp (show i < 2 ^ 31 by omega), e.2.2.2.2.1, e.2.2.2.2.2.2, h4, h5, gJ_hd J hi]
  exact ⟨fun z => ⟨⟨z.1, z.2.2⟩, z.2.1⟩, fun z => ⟨z.1.1, z.2, z.1.2⟩⟩
/-- bits of the set so far are below -/
theorem gc_rts_lt {set y dp : Int32} : ∀ (k : Nat), k ≤ 16 → ∀ b, b < 32 → gb (gp_it (gc_rS w m set y dp) 0 k 0) b = true → b < k
  | 0, _, b, hb, h => by
    have h : gb 0 b = true := h
    rw [gb_0] at h
    exact absurd h (by decide)
  | k + 1, hk, b, hb, h => by
    rw [gp_it_snoc, Nat.zero_add] at h
    have ih := gc_rts_lt (set := set) (y := y) (dp := dp) k (by omega) b hb
    generalize gp_it (gc_rS w m set y dp) 0 k 0 = x at h ih
    unfold gc_rS at h
    by_cases c : gc_rC w m set y dp k x
    · rw [if_pos c, gb_or, Bool.or_eq_true] at h
      rcases h with h | h
      · have := ih h; omega
      · rw [gb_1 (by omega) hb] at h
        have := of_decide_eq_true h
        omega
    · rw [if_neg c] at h
      have := ih h
      omega
theorem gc_ths_ext {set set' : Int32} : ∀ (k : Nat), k ≤ 16 → (∀ b, b < k → gb set b = gb set' b) → gp_it (gc_thS w set) 0 k 0 = gp_it (gc_thS w set') 0 k 0 := by
  intro k hk h
  refine gp_it_congr (fun i _ hi => ?_)
  funext t
  unfold gc_thS
  have e : ((set >>> (nI i &&& 31)) &&& 1 = 1) = ((set' >>> (nI i &&& 31)) &&& 1 = 1) := by
    apply propext
    rw [gb_t1 _ (by omega), gb_t1 _ (by omega), h i (by omega)]
  simp only [e]
theorem gJ_told_it (J : gJ_m w n) (h4 : w (gp_ma m) 4 = w 107 kn) (h5 : w (gp_ma m) 5 = w 108 kn) (hk : kn < 7) {set y dp : Int32} : ∀ (k : Nat), k ≤ 16 → gp_it (gf_tS (gw w 95 13 dp) (nI kn) set y) 0 k (0, 0) = (gp_it (gc_rS w m set y dp) 0 k 0, gp_it (gc_thS w (gp_it (gc_rS w m set y dp) 0 k 0)) 0 k 0)
  | 0, _ => rfl
  | k + 1, hk16 => by
    have ih := gJ_told_it J h4 h5 hk (set := set) (y := y) (dp := dp) k (by omega)
    have lt := gc_rts_lt (w := w) (m := m) (set := set) (y := y) (dp := dp) k (by omega)
    rw [gp_it_snoc, gp_it_snoc, gp_it_snoc, Nat.zero_add, ih]
    have e := J.2.2.2.2.2.2.2.1 k (by omega)
    generalize hr : gp_it (gc_rS w m set y dp) 0 k 0 = r at ih lt ⊢
    have hc : gf_tC (gw w 95 13 dp) (nI kn) set y k r ↔ gc_rC w m set y dp k r := by
      unfold gf_tC gc_rC
      have ea := gJ_abl J h4 h5 hk (i := k) (by omega) y dp
      rw [ea]
      have q1 : gw w 95 13 dp 101 = w 101 := rfl
      rw [q1, e.2.2.2.2.2.1]
      have q2 : (¬ (set >>> (nI k &&& 31)) &&& 1 = 0) ↔ (set >>> (nI k &&& 31)) &&& 1 = 1 := by
        rw [gb_t1 _ (by omega), gb_t0 _ (by omega)]
        cases gb set k <;> simp
      rw [q2]
      exact ⟨fun z => ⟨z.1, z.2.2.1, z.2.1, z.2.2.2⟩, fun z => ⟨z.1, z.2.2.1, z.2.1, z.2.2.2⟩⟩
    have rk : gb r k = false := by
      by_cases z : gb r k = true
      · exact absurd (lt k (by omega) z) (by omega)
      · simpa using z
    by_cases c : gc_rC w m set y dp k r
    · have x1 : gc_rS w m set y dp k r = r ||| 1 <<< (nI k &&& 31) := if_pos c
      rw [x1, gf_tS_y (hc.mpr c)]
      have x2 : gc_thS w (r ||| 1 <<< (nI k &&& 31)) k (gp_it (gc_thS w (r ||| 1 <<< (nI k &&& 31))) 0 k 0) = gp_it (gc_thS w (r ||| 1 <<< (nI k &&& 31))) 0 k 0 ||| 1 <<< (w (5 + k) 1 &&& 31) := by
        refine if_pos ((gb_t1 _ (by omega)).mpr ?_)
        rw [gb_or, gb_1 (by omega) (by omega), decide_eq_true rfl, Bool.or_true]
      rw [x2, gc_ths_ext (set := r ||| 1 <<< (nI k &&& 31)) (set' := r) k (by omega) (fun b hb => by rw [gb_or, gb_1 (by omega) (by omega), decide_eq_false (by omega), Bool.or_false])]
      have q3 : gw w 95 13 dp 97 = w 97 := rfl
      rw [q3, e.2.1]
    · have x1 : gc_rS w m set y dp k r = r := if_neg c
      rw [x1, gf_tS_n (fun z => c (hc.mp z))]
      have x2 : gc_thS w r k (gp_it (gc_thS w r) 0 k 0) = gp_it (gc_thS w r) 0 k 0 := by
        refine if_neg (fun z => ?_)
        rw [gb_t1 _ (by omega), rk] at z
        exact absurd z (by decide)
      rw [x2]
theorem gJ_told (J : gJ_m w n) (h4 : w (gp_ma m) 4 = w 107 kn) (h5 : w (gp_ma m) 5 = w 108 kn) (hk : kn < 7) {set y dp : Int32} : gc_told w m set y dp n = gf_told (gw w 95 13 dp) (nI kn) set y n := by
  unfold gc_told gf_told
  rw [gJ_told_it J h4 h5 hk n J.2.2.1]
  rfl
theorem gJ_told1 (J : gJ_m w n) (h4 : w (gp_ma m) 4 = w 107 kn) (h5 : w (gp_ma m) 5 = w 108 kn) (hk : kn < 7) {set y : Int32} : gc_told w m set y (-1) n = gf_told w (nI kn) set y n := by
  rw [gJ_told J h4 h5 hk, gw_self J.2.2.2.2.2.1]
theorem gb_all : ∀ n, n ≤ 16 → ∀ b, b < 32 → gb ((1 : Int32) <<< (nI n &&& 31) - 1) b = decide (b < n) := by decide +kernel
theorem gJ_allth (J : gJ_m w n) : gc_ths w (1 <<< (w 1 3 &&& 31) - 1) n = gp_it (gf_thS (w 97)) 0 n 0 := by
  have hn := J.2.2.1
  rw [J.1]
  unfold gc_ths
  refine gp_it_congr (fun i _ hi => ?_)
  funext t
  have e := J.2.2.2.2.2.2.2.1 i (by omega)
  have x : gc_thS w (1 <<< (nI n &&& 31) - 1) i t = t ||| 1 <<< (w (5 + i) 1 &&& 31) := by
    refine if_pos ((gb_t1 _ (by omega)).mpr ?_)
    rw [gb_all n hn i (by omega), decide_eq_true (by omega)]
  rw [x, e.2.1]
  rfl
/-! alone -/
def gB_Rt (P : Nat → Prop) (nd : Nat → Int32) : Nat → Nat → Prop
  | 0, _ => True
  | f + 1, i => P i ∧ ∀ b, b < 32 → gb (nd i) b = true → gB_Rt P nd f b
theorem gB_Rt_up {P : Nat → Prop} {nd : Nat → Int32} (hnd : ∀ i, i < 16 → ∀ b, b < 32 → gb (nd i) b = true → b < i) : ∀ (f i : Nat), i < f → i < 16 → (gB_Rt P nd f i ↔ gB_Rt P nd (f + 1) i)
  | 0, i, h, _ => absurd h (by omega)
  | f + 1, i, h, hi => by
    constructor
    · intro z
      refine ⟨z.1, fun b hb hg => ?_⟩
      have hbi := hnd i hi b hb hg
      exact (gB_Rt_up hnd f b (by omega) (by omega)).mp (z.2 b hb hg)
    · intro z
      refine ⟨z.1, fun b hb hg => ?_⟩
      have hbi := hnd i hi b hb hg
      exact (gB_Rt_up hnd f b (by omega) (by omega)).mpr (z.2 b hb hg)
theorem gB_Rt_17 {P : Nat → Prop} {nd : Nat → Int32} (hnd : ∀ i, i < 16 → ∀ b, b < 32 → gb (nd i) b = true → b < i) {i : Nat} (hi : i < 16) : gB_Rt P nd 17 i ↔ P i ∧ ∀ b, b < 32 → gb (nd i) b = true → gB_Rt P nd 17 b := by
  constructor
  · intro z
    refine ⟨z.1, fun b hb hg => ?_⟩
    have hbi := hnd i hi b hb hg
    exact (gB_Rt_up hnd 16 b (by omega) (by omega)).mp (z.2 b hb hg)
  · intro z
    refine ⟨z.1, fun b hb hg => ?_⟩
    have hbi := hnd i hi b hb hg
    exact (gB_Rt_up hnd 16 b (by omega) (by omega)).mpr (z.2 b hb hg)
/-- the roots: closed, and all reached -/
theorem gf_an_b {nd : Nat → Int32} (hnd : ∀ i, i < 16 → ∀ b, b < 32 → gb (nd i) b = true → b < i) : ∀ (k : Nat) (s : Int32), k < 16 → (∀ b, b < 32 → gb s b = true → gb (gf_an nd k s) b = true) ∧ (∀ b, b < 32 → k < b → (gb (gf_an nd k s) b = gb s b)) ∧ (gb (gf_an nd k s) k = gb s k) ∧ (∀ i, i ≤ k → gb (gf_an nd k s) i = true → ∀ b, b < 32 → gb (nd i) b = true → gb (gf_an nd k s) b = true) ∧ ∀ Q : Nat → Prop, (∀ b, b < 32 → gb s b = true → Q b) → (∀ i, i ≤ k → Q i → ∀ b, b < 32 → gb (nd i) b = true → Q b) → ∀ b, b < 32 → gb (gf_an nd k s) b = true → Q b
  | 0, s, hk => by
    have e : gf_an nd 0 s = s := by
      unfold gf_an
      have n0 : nd 0 = 0 := gb_eq (fun b hb => by rw [gb_0]; exact ⟨fun z => absurd (hnd 0 (by decide) b hb z) (by omega), fun z => absurd z (by decide)⟩)
      rw [n0]
      split <;> exact Int32.or_zero
    rw [e]
    refine ⟨fun _ _ h => h, fun _ _ _ => rfl, rfl, fun i hi _ b hb hg => ?_, fun Q h1 _ b hb hg => h1 b hb hg⟩
    have : i = 0 := by omega
    rw [this] at hg
    exact absurd (hnd 0 (by decide) b hb hg) (by omega)
  | k + 1, s, hk => by
    show (∀ b, b < 32 → gb s b = true → gb (gf_an nd k (s ||| (if (s >>> (nI (k + 1) &&& 31)) &&& 1 = 1 then nd (k + 1) else 0))) b = true) ∧ (∀ b, b < 32 → k + 1 < b → (gb (gf_an nd k (s ||| (if (s >>> (nI (k + 1) &&& 31)) &&& 1 = 1 then nd (k + 1) else 0))) b = gb s b)) ∧ (gb (gf_an nd k (s ||| (if (s >>> (nI (k + 1) &&& 31)) &&& 1 = 1 then nd (k + 1) else 0))) (k + 1) = gb s (k + 1)) ∧ (∀ i, i ≤ k + 1 → gb (gf_an nd k (s ||| (if (s >>> (nI (k + 1) &&& 31)) &&& 1 = 1 then nd (k + 1) else 0))) i = true → ∀ b, b < 32 → gb (nd i) b = true → gb (gf_an nd k (s ||| (if (s >>> (nI (k + 1) &&& 31)) &&& 1 = 1 then nd (k + 1) else 0))) b = true) ∧ ∀ Q : Nat → Prop, (∀ b, b < 32 → gb s b = true → Q b) → (∀ i, i ≤ k + 1 → Q i → ∀ b, b < 32 → gb (nd i) b = true → Q b) → ∀ b, b < 32 → gb (gf_an nd k (s ||| (if (s >>> (nI (k + 1) &&& 31)) &&& 1 = 1 then nd (k + 1) else 0))) b = true → Q b
    have ex : ∀ b, b < 32 → (gb (s ||| (if (s >>> (nI (k + 1) &&& 31)) &&& 1 = 1 then nd (k + 1) else 0)) b = true ↔ gb s b = true ∨ (gb s (k + 1) = true ∧ gb (nd (k + 1)) b = true)) := by
      intro b hb
      rw [gb_or, Bool.or_eq_true]
      by_cases c : (s >>> (nI (k + 1) &&& 31)) &&& 1 = 1
      · rw [if_pos c]
        have c := (gb_t1 s (by omega)).mp c
        exact ⟨fun z => z.imp id (fun z => ⟨c, z⟩), fun z => z.imp id (fun z => z.2)⟩
      · rw [if_neg c, gb_0]
        have c : ¬ gb s (k + 1) = true := fun z => c ((gb_t1 s (by omega)).mpr z)
        exact ⟨fun z => z.imp id (fun z => absurd z (by decide)), fun z => z.imp id (fun z => absurd z.1 c)⟩
    generalize hx : (s ||| (if (s >>> (nI (k + 1) &&& 31)) &&& 1 = 1 then nd (k + 1) else 0)) = x at ex ⊢
    obtain ⟨i1, i2, i3, i4, i5⟩ := gf_an_b hnd k x (by omega)
    have hi : ∀ b, b < 32 → k + 1 ≤ b → gb x b = gb s b := by
      intro b hb h
      rw [Bool.eq_iff_iff, ex b hb]
      exact ⟨fun z => z.elim id (fun z => absurd (hnd (k + 1) hk b hb z.2) (by omega)), Or.inl⟩
    refine ⟨fun b hb h => i1 b hb ((ex b hb).mpr (Or.inl h)), fun b hb h => by rw [i2 b hb (by omega)]; exact hi b hb (by omega), by rw [i2 (k + 1) (by omega) (by omega)]; exact hi _ (by omega) (Nat.le_refl _), fun i hik h b hb hg => ?_, fun Q h1 h2 b hb hg => ?_⟩
    · by_cases c : i = k + 1
      · rw [c] at h hg
        rw [i2 (k + 1) (by omega) (by omega), hi _ (by omega) (Nat.le_refl _)] at h
        exact i1 b hb ((ex b hb).mpr (Or.inr ⟨h, hg⟩))
      · exact i4 i (by omega) h b hb hg
    · refine i5 Q (fun b hb h => ?_) (fun i hik => h2 i (by omega)) b hb hg
      rcases (ex b hb).mp h with z | z
      · exact h1 b hb z
      · exact h2 (k + 1) (Nat.le_refl _) (h1 _ (by omega) z.1) b hb z.2
theorem gJ_alone (J : gJ_m w n) (h4 : w (gp_ma m) 4 = w 107 kn) (h5 : w (gp_ma m) 5 = w 108 kn) (hk : kn < 7) {i : Nat} (hi : i < n) : ((gc_rts w m (1 <<< (w 1 3 &&& 31) - 1) (w 1 4) (-1) n >>> (nI i &&& 31)) &&& 1 = 1) ↔ (∀ j, j ≤ i → gf_alC w (nI kn) (gf_an (w 101) i (1 <<< (nI i &&& 31))) (w 95 1) j) := by
  have hn := J.2.2.1
  have hnd : ∀ i, i < 16 → ∀ b, b < 32 → gb (w 101 i) b = true → b < i := fun i hi => (J.2.2.2.2.2.2.2.2.1 i hi).2.2.2.2
  have ea : ∀ i, i < 16 → (gc_abl w m (w 1 4) (-1) i ↔ gf_abl w (nI kn) (w 95 1) i) := by
    intro i hi
    rw [gJ_abl J h4 h5 hk hi, gw_self J.2.2.2.2.2.1, J.2.2.2.1]
  rw [gb_t1 _ (by omega)]
  -- the class's set is that of the marks that are right by themselves
  have c1 : ∀ k, k ≤ n → ∀ b, b < k → (gb (gp_it (gc_rS w m (1 <<< (w 1 3 &&& 31) - 1) (w 1 4) (-1)) 0 k 0) b = true ↔ gB_Rt (gf_abl w (nI kn) (w 95 1)) (w 101) 17 b) := by
    intro k
    induction k with
    | zero => intro _ b hb; exact absurd hb (by omega)
    | succ k ih =>
      intro hkn b hb
      have ih := ih (by omega)
      have lt := gc_rts_lt (w := w) (m := m) (set := 1 <<< (w 1 3 &&& 31) - 1) (y := w 1 4) (dp := -1) k (by omega)
      rw [gp_it_snoc, Nat.zero_add]
      generalize gp_it (gc_rS w m (1 <<< (w 1 3 &&& 31) - 1) (w 1 4) (-1)) 0 k 0 = r at ih lt ⊢
      have hc : gc_rC w m (1 <<< (w 1 3 &&& 31) - 1) (w 1 4) (-1) k r ↔ gB_Rt (gf_abl w (nI kn) (w 95 1)) (w 101) 17 k := by
        unfold gc_rC
        rw [gB_Rt_17 hnd (by omega), ea k (by omega), (J.2.2.2.2.2.2.2.1 k (by omega)).2.2.2.2.2.1, gb_sub]
        have q1 : ((1 <<< (w 1 3 &&& 31) - 1) >>> (nI k &&& 31)) &&& 1 = 1 := by
          rw [gb_t1 _ (by omega), J.1, gb_all n hn k (by omega), decide_eq_true (by omega)]
        constructor
        · intro z
          exact ⟨z.2.2, fun b hb hg => (ih b (hnd k (by omega) b hb hg)).mp (z.2.1 b hb hg)⟩
        · intro z
          exact ⟨q1, fun b hb hg => (ih b (hnd k (by omega) b hb hg)).mpr (z.2 b hb hg), z.1⟩
      by_cases c : gc_rC w m (1 <<< (w 1 3 &&& 31) - 1) (w 1 4) (-1) k r
      · have x1 : gc_rS w m (1 <<< (w 1 3 &&& 31) - 1) (w 1 4) (-1) k r = r ||| 1 <<< (nI k &&& 31) := if_pos c
        rw [x1, gb_or, Bool.or_eq_true, gb_1 (by omega) (by omega), decide_eq_true_iff]
        by_cases e : b = k
        · rw [e]
          exact ⟨fun _ => hc.mp c, fun _ => Or.inr rfl⟩
        · rw [ih b (by omega)]
          exact ⟨fun z => z.elim id (fun z => absurd z e), Or.inl⟩
      · have x1 : gc_rS w m (1 <<< (w 1 3 &&& 31) - 1) (w 1 4) (-1) k r = r := if_neg c
        rw [x1]
        by_cases e : b = k
        · rw [e]
          exact ⟨fun z => absurd (lt k (by omega) z) (by omega), fun z => absurd (hc.mpr z) c⟩
        · exact ih b (by omega)
  rw [show gc_rts w m (1 <<< (w 1 3 &&& 31) - 1) (w 1 4) (-1) n = gp_it (gc_rS w m (1 <<< (w 1 3 &&& 31) - 1) (w 1 4) (-1)) 0 n 0 from rfl, c1 n (Nat.le_refl _) i hi]
  obtain ⟨i1, i2, i3, i4, i5⟩ := gf_an_b hnd i (1 <<< (nI i &&& 31)) (by omega)
  have hself : gb (gf_an (w 101) i (1 <<< (nI i &&& 31))) i = true := by rw [i3, gb_1 (by omega) (by omega)]; exact decide_eq_true rfl
  have hlow : ∀ b, b < 32 → gb (gf_an (w 101) i (1 <<< (nI i &&& 31))) b = true → b ≤ i := by
    intro b hb h
    rcases Nat.lt_or_ge i b with z | z
    · rw [i2 b hb z, gb_1 (by omega) hb] at h
      have := of_decide_eq_true h
      omega
    · exact z
  constructor
  · intro h j hj hbit
    have hbit := (gb_t1 _ (by omega)).mp hbit
    have := i5 (fun b => b < 16 ∧ gB_Rt (gf_abl w (nI kn) (w 95 1)) (w 101) 17 b) (fun b hb hg => by
      rw [gb_1 (by omega) hb] at hg
      rw [of_decide_eq_true hg]
      exact ⟨by omega, h⟩) (fun a ha hQ b hb hg => ⟨by have := hnd a (by omega) b hb hg; omega, ((gB_Rt_17 hnd hQ.1).mp hQ.2).2 b hb hg⟩) j (by omega) hbit
    exact ((gB_Rt_17 hnd this.1).mp this.2).1
  · intro h
    have all : ∀ f b, b < f → b < 16 → gb (gf_an (w 101) i (1 <<< (nI i &&& 31))) b = true → gB_Rt (gf_abl w (nI kn) (w 95 1)) (w 101) 17 b := by
      intro f
      induction f with
      | zero => intro b hb; exact absurd hb (by omega)
      | succ f ih =>
        intro b hb hb16 hg
        have hbi := hlow b (by omega) hg
        rw [gB_Rt_17 hnd hb16]
        refine ⟨h b hbi ((gb_t1 _ (by omega)).mpr hg), fun c hc hgc => ?_⟩
        have hcb := hnd b hb16 c hc hgc
        exact ih c (by omega) (by omega) (i4 b hbi hg c hc hgc)
    exact all 16 i (by omega) (by omega) hself
end

end
