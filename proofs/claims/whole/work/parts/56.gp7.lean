section
variable {l : Launch} {G : gp_G} {d : Nat} {w : Nat → Nat → Int32} {u : Int64 × (Nat → Int64)} {q : Nat → Nat} {K : Option Value → gp_H → Prop}
/-! ===== the class's methods: told, never, deeper, alone ===== -/
section
set_option maxRecDepth 100000 in
theorem sp_Gp_isMind {V : gp_H} {k : Int32} (h1 : 0 ≤ k → k ≤ 5 → K (some (.int 1)) V) (h0 : ¬ (0 ≤ k ∧ k ≤ 5) → K (some (.int 0)) V) : gp_Cal l G (d + 1) m_Gp_isMind [.int k] V K := by
  refine gp_enter od_Gp_isMind rfl ?_
  (repeat refine gp_gc [] od_Gp_isMind rfl rfl ?_)
  refine sp_Gp_within (d := d) (fun a b => ?_) (fun c => ?_)
  · (repeat refine gp_gc [] od_Gp_isMind rfl rfl ?_)
    exact And.intro (Or.inr rfl) (h1 a b)
  · (repeat refine gp_gc [] od_Gp_isMind rfl rfl ?_)
    exact And.intro (Or.inl rfl) (h0 c)
theorem gc_mi {k : Int32} (h0 : 0 ≤ k) (h1 : k ≤ 5) : ∃ kn, kn < 6 ∧ k = nI kn ∧ k.toNatClampNeg = kn ∧ vp_in k 6 := by
  obtain ⟨kn, hk, ek⟩ := nI_of2 (n := 5) (M := 5) rfl (Int32.not_lt.mpr h0) h1
  refine ⟨kn, by omega, ek, ?_, ?_⟩
  · rw [ek]; exact nI_clamp (by omega)
  · rw [ek]; exact vp_in_nI (by omega) (by decide)
/-- where the minds stand -/
def gc_q (q : Nat → Nat) : Prop := (∀ k, k < 7 → q k < 7) ∧ ∀ j k, j < 7 → k < 7 → q j = q k → j = k
def gc_told (w : Nat → Nat → Int32) (m : Nat) (set y dp : Int32) (n : Nat) : Int32 := gc_ths w (gc_rts w m set y dp n) n
set_option maxRecDepth 100000 in
theorem sp_Gp_told {k set : Int32} {n : Nat} (ok : gc_ok w n) (hq : gc_q q) (h1 : ∀ kn, kn < 6 → k = nI kn → 0 ≤ set ∧ set ≤ 65535 → K (some (.int (gc_told w (q kn) set (w 1 4) (-1) n))) (gv w u q)) (h0 : ¬ ((0 ≤ k ∧ k ≤ 5) ∧ 0 ≤ set ∧ set ≤ 65535) → K (some (.int (-1))) (gv w u q)) : gp_Cal l G (d + 3) m_Gp_told [.ref 0, .int k, .int set] (gv w u q) K := by
  refine gp_enter od_Gp_told rfl ?_
  (repeat refine gp_gc [] od_Gp_told rfl rfl ?_)
  refine sp_Gp_isMind (fun a1 b1 => ?_) (fun n1 => ?_)
  rotate_left
  · repeat refine gp_gc [] od_Gp_told rfl rfl ?_
    first | refine And.intro (fun _ => ?_) (fun c => absurd rfl c) | refine And.intro (fun c => absurd rfl c) (fun _ => ?_)
    repeat refine gp_gc [] od_Gp_told rfl rfl ?_
    exact h0 (fun z => n1 z.1)
  repeat refine gp_gc [] od_Gp_told rfl rfl ?_
  first | refine And.intro (fun c => absurd c (by decide)) (fun _ => ?_) | refine And.intro (fun _ => ?_) (fun c => absurd c (by decide))
  repeat refine gp_gc [] od_Gp_told rfl rfl ?_
  refine sp_Gp_within (fun a2 b2 => ?_) (fun n1 => ?_)
  rotate_left
  · repeat refine gp_gc [] od_Gp_told rfl rfl ?_
    first | refine And.intro (fun _ => ?_) (fun c => absurd rfl c) | refine And.intro (fun c => absurd rfl c) (fun _ => ?_)
    repeat refine gp_gc [] od_Gp_told rfl rfl ?_
    exact h0 (fun z => n1 z.2)
  repeat refine gp_gc [] od_Gp_told rfl rfl ?_
  first | refine And.intro (fun c => absurd c (by decide)) (fun _ => ?_) | refine And.intro (fun _ => ?_) (fun c => absurd c (by decide))
  repeat refine gp_gc [] od_Gp_told rfl rfl ?_
  obtain ⟨kn, hk, ek, ec, ik⟩ := gc_mi a1 b1
  refine And.intro ik ⟨_, rfl, ?_⟩
  rw [ec]
  (repeat refine gp_gc [] od_Gp_told rfl rfl ?_)
  refine sp_Pl_rights (d := d) ok (hq.1 kn (by omega)) ?_
  (repeat refine gp_gc [] od_Gp_told rfl rfl ?_)
  refine sp_Pl_thingsOf (d := d + 2) ok ?_
  (repeat refine gp_gc [] od_Gp_told rfl rfl ?_)
  exact h1 kn hk ek ⟨a2, b2⟩
set_option maxRecDepth 100000 in
theorem sp_Gp_never {k : Int32} {n : Nat} (ok : gc_ok w n) (hq : gc_q q) (h1 : ∀ kn, kn < 6 → k = nI kn → K (some (.int (gc_ths w (1 <<< (w 1 3 &&& 31) - 1) n &&& (gc_told w (q kn) (1 <<< (w 1 3 &&& 31) - 1) (w 1 4) (-1) n ^^^ -1)))) (gv w u q)) (h0 : ¬ (0 ≤ k ∧ k ≤ 5) → K (some (.int (-1))) (gv w u q)) : gp_Cal l G (d + 3) m_Gp_never [.ref 0, .int k] (gv w u q) K := by
  refine gp_enter od_Gp_never rfl ?_
  (repeat refine gp_gc [] od_Gp_never rfl rfl ?_)
  refine sp_Gp_isMind (fun a1 b1 => ?_) (fun n1 => ?_)
  rotate_left
  · repeat refine gp_gc [] od_Gp_never rfl rfl ?_
    first | refine And.intro (fun _ => ?_) (fun c => absurd rfl c) | refine And.intro (fun c => absurd rfl c) (fun _ => ?_)
    repeat refine gp_gc [] od_Gp_never rfl rfl ?_
    exact h0 n1
  repeat refine gp_gc [] od_Gp_never rfl rfl ?_
  first | refine And.intro (fun c => absurd c (by decide)) (fun _ => ?_) | refine And.intro (fun _ => ?_) (fun c => absurd c (by decide))
  repeat refine gp_gc [] od_Gp_never rfl rfl ?_
  obtain ⟨kn, hk, ek, ec, ik⟩ := gc_mi a1 b1
  refine sp_Pl_all (d := d + 2) ?_
  (repeat refine gp_gc [] od_Gp_never rfl rfl ?_)
  refine And.intro ik ⟨_, rfl, ?_⟩
  rw [ec]
  (repeat refine gp_gc [] od_Gp_never rfl rfl ?_)
  refine sp_Pl_rights (d := d) ok (hq.1 kn (by omega)) ?_
  (repeat refine gp_gc [] od_Gp_never rfl rfl ?_)
  refine sp_Pl_thingsOf (d := d + 2) ok ?_
  (repeat refine gp_gc [] od_Gp_never rfl rfl ?_)
  refine sp_Pl_all (d := d + 2) ?_
  (repeat refine gp_gc [] od_Gp_never rfl rfl ?_)
  refine sp_Pl_thingsOf (d := d + 2) ok ?_
  (repeat refine gp_gc [] od_Gp_never rfl rfl ?_)
  exact h1 kn hk ek
set_option maxRecDepth 100000 in
theorem sp_Gp_alone {k m : Int32} {n : Nat} (ok : gc_ok w n) (hq : gc_q q) (h1 : ∀ kn i, kn < 6 → k = nI kn → i < n → m = nI i → K (some (.int ((gc_rts w (q kn) (1 <<< (w 1 3 &&& 31) - 1) (w 1 4) (-1) n >>> (nI i &&& 31)) &&& 1))) (gv w u q)) (h0 : ¬ ((0 ≤ k ∧ k ≤ 5) ∧ 0 ≤ m ∧ m < w 1 3) → K (some (.int (-1))) (gv w u q)) : gp_Cal l G (d + 3) m_Gp_alone [.ref 0, .int k, .int m] (gv w u q) K := by
  refine gp_enter od_Gp_alone rfl ?_
  (repeat refine gp_gc [] od_Gp_alone rfl rfl ?_)
  refine sp_Gp_isMind (fun a1 b1 => ?_) (fun n1 => ?_)
  rotate_left
  · repeat refine gp_gc [] od_Gp_alone rfl rfl ?_
    first | refine And.intro (fun _ => ?_) (fun c => absurd rfl c) | refine And.intro (fun c => absurd rfl c) (fun _ => ?_)
    repeat refine gp_gc [] od_Gp_alone rfl rfl ?_
    exact h0 (fun z => n1 z.1)
  repeat refine gp_gc [] od_Gp_alone rfl rfl ?_
  first | refine And.intro (fun c => absurd c (by decide)) (fun _ => ?_) | refine And.intro (fun _ => ?_) (fun c => absurd c (by decide))
  repeat refine gp_gc [] od_Gp_alone rfl rfl ?_
  refine sp_Pl_has (fun a2 b2 => ?_) (fun n1 => ?_)
  rotate_left
  · repeat refine gp_gc [] od_Gp_alone rfl rfl ?_
    first | refine And.intro (fun _ => ?_) (fun c => absurd rfl c) | refine And.intro (fun c => absurd rfl c) (fun _ => ?_)
    repeat refine gp_gc [] od_Gp_alone rfl rfl ?_
    exact h0 (fun z => n1 z.2)
  repeat refine gp_gc [] od_Gp_alone rfl rfl ?_
  first | refine And.intro (fun c => absurd c (by decide)) (fun _ => ?_) | refine And.intro (fun _ => ?_) (fun c => absurd c (by decide))
  repeat refine gp_gc [] od_Gp_alone rfl rfl ?_
  obtain ⟨kn, hk, ek, ec, ik⟩ := gc_mi a1 b1
  obtain ⟨i, hi, em⟩ := gc_has ok.1 ok.2.1 a2 b2
  have h1 := h1 kn i hk ek hi em
  rw [← em] at h1
  refine sp_Pl_all (d := d + 2) ?_
  (repeat refine gp_gc [] od_Gp_alone rfl rfl ?_)
  refine And.intro ik ⟨_, rfl, ?_⟩
  rw [ec]
  (repeat refine gp_gc [] od_Gp_alone rfl rfl ?_)
  refine sp_Pl_rights (d := d) ok (hq.1 kn (by omega)) ?_
  (repeat refine gp_gc [] od_Gp_alone rfl rfl ?_)
  exact h1
/-- things are below 16 -/
def gc_th (w : Nat → Nat → Int32) (n : Nat) : Prop := ∀ i, i < n → ∃ t : Nat, t < 16 ∧ w (5 + i) 1 = nI t
theorem gb_16 {x : Int32} (h : ∀ b, b < 32 → gb x b = true → b < 16) : ∃ a : Nat, a < 65536 ∧ x = nI a := by
  refine ⟨x.toBitVec.toNat, ?_, ?_⟩
  · refine Nat.lt_pow_two_of_testBit (n := 16) _ (fun i hi => ?_)
    show x.toBitVec.getLsbD i = false
    by_cases c : i < 32
    · by_cases e : x.toBitVec.getLsbD i = true
      · exact absurd (h i c e) (by omega)
      · simpa using e
    · exact BitVec.getLsbD_of_ge _ _ (by omega)
  · exact Int32.toBitVec_inj.mp (BitVec.eq_of_toNat_eq (by rw [pk_tn x.toBitVec.isLt]))
theorem gc_thS_16 {w : Nat → Nat → Int32} {set : Int32} : ∀ (k a : Nat) (t : Int32), (∀ i, i < a + k → ∃ t : Nat, t < 16 ∧ w (5 + i) 1 = nI t) → (∀ b, b < 32 → gb t b = true → b < 16) → ∀ b, b < 32 → gb (gp_it (gc_thS w set) a k t) b = true → b < 16
  | 0, _, _, _, h, b, hb, hg => h b hb hg
  | k + 1, a, t, ht, h, b, hb, hg => by
    refine gc_thS_16 k (a + 1) (gc_thS w set a t) (fun i hi => ht i (by omega)) (fun b hb hg => ?_) b hb hg
    unfold gc_thS at hg
    by_cases c : (set >>> (nI a &&& 31)) &&& 1 = 1
    · rw [if_pos c, gb_or, Bool.or_eq_true] at hg
      rcases hg with hg | hg
      · exact h b hb hg
      · obtain ⟨t', ht', e⟩ := ht a (by omega)
        rw [e, gb_1 (by omega) hb] at hg
        have := of_decide_eq_true hg
        omega
    · rw [if_neg c] at hg
      exact h b hb hg
theorem gc_ths_16 {w : Nat → Nat → Int32} {set : Int32} {n : Nat} (h : gc_th w n) : ∃ a : Nat, a < 65536 ∧ gc_ths w set n = nI a :=
  gb_16 (gc_thS_16 n 0 0 (fun i hi => h i (by omega)) (fun b _ hg => absurd hg (by rw [gb_0]; decide)))
set_option maxRecDepth 100000 in
theorem sp_Gp_countTold {k y dp : Int32} {n kn : Nat} (ok : gc_ok w n) (th : gc_th w n) (hq : gc_q q) (hk : kn < 6) (ek : k = nI kn) (h : K (some (.int (gf_count (gc_told w (q kn) (1 <<< (w 1 3 &&& 31) - 1) y dp n)))) (gv w u q)) : gp_Cal l G (d + 3) m_Gp_countTold [.ref 0, .int k, .int y, .int dp] (gv w u q) K := by
  refine gp_enter od_Gp_countTold rfl ?_
  have ec : k.toNatClampNeg = kn := by rw [ek]; exact nI_clamp (by omega)
  have ik : vp_in k 6 := by rw [ek]; exact vp_in_nI (by omega) (by decide)
  obtain ⟨a, ha, ea⟩ := gc_ths_16 (set := gc_rts w (q kn) (1 <<< (w 1 3 &&& 31) - 1) y dp n) th
  (repeat refine gp_gc [] od_Gp_countTold rfl rfl ?_)
  refine sp_Pl_all (d := d + 2) ?_
  (repeat refine gp_gc [] od_Gp_countTold rfl rfl ?_)
  refine And.intro ik ⟨_, rfl, ?_⟩
  rw [ec]
  (repeat refine gp_gc [] od_Gp_countTold rfl rfl ?_)
  refine sp_Pl_rights (d := d) ok (hq.1 kn (by omega)) ?_
  (repeat refine gp_gc [] od_Gp_countTold rfl rfl ?_)
  refine sp_Pl_thingsOf (d := d + 2) ok ?_
  (repeat refine gp_gc [] od_Gp_countTold rfl rfl ?_)
  refine sp_Ji_bitCount (d := d + 2) ea ha ?_
  (repeat refine gp_gc [] od_Gp_countTold rfl rfl ?_)
  exact h
def gc_dpS (w : Nat → Nat → Int32) (m : Nat) (y all : Int32) (n i : Nat) (s : Int32 × Int32) : Int32 × Int32 := if s.1 < gf_count (gc_told w m all y (nI i) n) then (gf_count (gc_told w m all y (nI i) n), nI i) else s
set_option maxRecDepth 100000 in
theorem sp_Gp_deeper {k y : Int32} {n : Nat} (ok : gc_ok w n) (th : gc_th w n) (hq : gc_q q) (h1 : ∀ kn, kn < 6 → k = nI kn → 0 ≤ y ∧ y ≤ 999 → K (some (.int (gp_it (gc_dpS w (q kn) y (1 <<< (w 1 3 &&& 31) - 1) n) 0 n (gf_count (gc_told w (q kn) (1 <<< (w 1 3 &&& 31) - 1) y (-1) n), -1)).2)) (gv w u q)) (h0 : ¬ ((0 ≤ k ∧ k ≤ 5) ∧ 0 ≤ y ∧ y ≤ 999) → K (some (.int (-1))) (gv w u q)) : gp_Cal l G (d + 4) m_Gp_deeper [.ref 0, .int k, .int y] (gv w u q) K := by
  refine gp_enter od_Gp_deeper rfl ?_
  have hn := ok.2.1
  (repeat refine gp_gc [34] od_Gp_deeper rfl rfl ?_)
  refine sp_Gp_isMind (fun a1 b1 => ?_) (fun n1 => ?_)
  rotate_left
  · repeat refine gp_gc [34] od_Gp_deeper rfl rfl ?_
    first | refine And.intro (fun _ => ?_) (fun c => absurd rfl c) | refine And.intro (fun c => absurd rfl c) (fun _ => ?_)
    repeat refine gp_gc [34] od_Gp_deeper rfl rfl ?_
    exact h0 (fun z => n1 z.1)
  repeat refine gp_gc [34] od_Gp_deeper rfl rfl ?_
  first | refine And.intro (fun c => absurd c (by decide)) (fun _ => ?_) | refine And.intro (fun _ => ?_) (fun c => absurd c (by decide))
  repeat refine gp_gc [34] od_Gp_deeper rfl rfl ?_
  refine sp_Gp_within (fun a2 b2 => ?_) (fun n1 => ?_)
  rotate_left
  · repeat refine gp_gc [34] od_Gp_deeper rfl rfl ?_
    first | refine And.intro (fun _ => ?_) (fun c => absurd rfl c) | refine And.intro (fun c => absurd rfl c) (fun _ => ?_)
    repeat refine gp_gc [34] od_Gp_deeper rfl rfl ?_
    exact h0 (fun z => n1 z.2)
  repeat refine gp_gc [34] od_Gp_deeper rfl rfl ?_
  first | refine And.intro (fun c => absurd c (by decide)) (fun _ => ?_) | refine And.intro (fun _ => ?_) (fun c => absurd c (by decide))
  repeat refine gp_gc [34] od_Gp_deeper rfl rfl ?_
  obtain ⟨kn, hk, ek, -, -⟩ := gc_mi a1 b1
  refine sp_Gp_countTold (d := d) ok th hq hk ek ?_
  (repeat refine gp_gc [34] od_Gp_deeper rfl rfl ?_)
  refine gp_iter (P := fun j s => ∀ x, x = nI j → gp_Go l G (d + 4) m_Gp_deeper K 34 [some (.ref 0), some (.int k), some (.int y), some (.int s.1), some (.int s.2), some (.int x), none] [] (gv w u q) 0 0) (gc_dpS w (q kn) y (1 <<< (w 1 3 &&& 31) - 1) n) n ?_ n 0 (gf_count (gc_told w (q kn) (1 <<< (w 1 3 &&& 31) - 1) y (-1) n), -1) (by omega) ?_ 0 rfl
  · intro j s hj hp x ex
    subst ex
    have hp := hp _ (gp_inc rfl)
    unfold gc_dpS at hp
    refine gp_go od_Gp_deeper rfl ?_
    (repeat refine gp_gc [34] od_Gp_deeper rfl rfl ?_)
    refine gb_ge_f (by rw [ok.1]; exact nI_ge hj (by omega)) ?_
    (repeat refine gp_gc [34] od_Gp_deeper rfl rfl ?_)
    refine sp_Gp_countTold (d := d) ok th hq hk ek ?_
    (repeat refine gp_gc [34] od_Gp_deeper rfl rfl ?_)
    by_cases b : s.1 < gf_count (gc_told w (q kn) (1 <<< (w 1 3 &&& 31) - 1) y (nI j) n)
    · rw [if_pos b] at hp
      refine gb_le_f' b ?_
      (repeat refine gp_gc [34] od_Gp_deeper rfl rfl ?_)
      refine gp_drop 6 ?_
      exact hp
    · rw [if_neg b] at hp
      refine gb_le_t' b ?_
      (repeat refine gp_gc [34] od_Gp_deeper rfl rfl ?_)
      refine gp_drop 6 ?_
      exact hp
  · intro x ex
    subst ex
    refine gp_go od_Gp_deeper rfl ?_
    (repeat refine gp_gc [34] od_Gp_deeper rfl rfl ?_)
    refine gb_ge_t (by rw [ok.1]; exact Int32.le_refl _) ?_
    (repeat refine gp_gc [34] od_Gp_deeper rfl rfl ?_)
    exact h1 kn hk ek ⟨a2, b2⟩
end

end
