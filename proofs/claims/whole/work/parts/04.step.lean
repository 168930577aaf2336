/-! ===== the steps ===== -/
def gp_lk {α : Type} : List (Nat × α) → Nat → Option α
  | [], _ => none
  | (k, a) :: t, i => match Nat.beq k i with
    | true => some a
    | false => gp_lk t i
theorem gp_lk_mem {α : Type} : ∀ {t : List (Nat × α)} {i : Nat} {a : α}, gp_lk t i = some a → (i, a) ∈ t
  | [], _, _, h => by simp [gp_lk] at h
  | (k, b) :: t, i, a, h => by
    unfold gp_lk at h
    split at h
    · rename_i e
      have e := Nat.eq_of_beq_eq_true e
      cases h
      rw [e]
      exact List.mem_cons_self
    · exact List.mem_cons_of_mem _ (gp_lk_mem h)
def gp_nth {α : Type} : List α → Nat → Option α
  | [], _ => none
  | a :: _, 0 => some a
  | _ :: t, n + 1 => gp_nth t n
theorem gp_nth_e {α : Type} : ∀ (t : List α) (n : Nat), gp_nth t n = t[n]?
  | [], _ => by simp [gp_nth]
  | a :: _, 0 => by simp [gp_nth]
  | _ :: t, n + 1 => by simp only [gp_nth, List.getElem?_cons_succ]; exact gp_nth_e t n
abbrev gp_mc (M : gp_M) : Nat := M.2.2.2.2.1
abbrev gp_ms (M : gp_M) : Nat := M.2.2.2.2.2.1
abbrev gp_o (M : gp_M) : Nat := M.2.2.2.2.2.2.1
abbrev gp_np (M : gp_M) : Nat := M.2.2.2.2.2.2.2.1
abbrev gp_cd (M : gp_M) : List (Nat × Instr × Nat) := M.2.2.2.2.2.2.2.2
def gp_ws : List Cond := lw_tbl.filter goodWord
abbrev gp_wM (M : gp_M) : List Cond := Cond.code M.1 M.2.1 M.2.2.1 M.2.2.2.1 :: gp_ws
def gp_rm (d : Nat) (M : gp_M) : Room := { frames := d, cells := gp_mc M, slots := gp_ms M, locals := 64 * d }
def gp_sn : List Nat := gp_sb.map List.length
/-- what the Statement gives beside the words: nest mates, arrays of objects, String constants, two statics -/
def gp_N (G : gp_G) (U : State) (H : Heap) : Prop :=
  (∀ q ∈ gp_nw, va_Nw (.methodLinkNest q.1 q.2.1 q.2.2.1 q.2.2.2) U) ∧ va_AO "GoldPlate$Mark" U ∧ va_AO "GoldPlate$Mind" U ∧
  (∀ (i : Nat) (q : String × Nat × String), gp_sr[i]? = some q → vk_R q.1 q.2.1 q.2.2 (G.2.2.2 i) U) ∧
  vk_S 25 gp_sn gp_sb (fun i => G.2.2.2 i) (fun i => G.2.2.2 (1000 + i)) (gp_A G) U H ∧
  va_Z "java/lang/String" "COMPACT_STRINGS" "Z" (.int 1) (gp_A G) U H ∧
  (va_Z "jdk/internal/util/Preconditions" "SIOOBE_FORMATTER" "Ljava/util/function/BiFunction;" .null (gp_A G) U H ∨ va_Z "jdk/internal/util/Preconditions" "SIOOBE_FORMATTER" "Ljava/util/function/BiFunction;" (.ref (G.2.2.2 2000)) (gp_A G) U H)
def gp_Pre (G : gp_G) (as : List Value) (V : gp_H) : Array Value → State → Prop := va_Pc (as.map (gp_mv G)) (fun U => U.heap.size = G.1 + V.length ∧ va_P G.2.1 gp_cl (gp_cc G V) U.heap ∧ va_K G.2.1 gp_cl (gp_tl G) U ∧ gp_N G U U.heap)
def gp_Post (G : gp_G) (mc : Nat) (K : Option Value → gp_H → Prop) : Array Value → State → Outcome → State → Prop := fun _ st oc t =>
  (∃ (r : Option Value) (V : gp_H), oc = .returned (r.map (gp_mv G)) ∧ K r V ∧ t.heap.size = G.1 + V.length ∧ va_P G.2.1 gp_cl (gp_cc G V) t.heap) ∧ t.heap.size = st.heap.size + mc ∧ va_F (gp_A G) st t
/-- a method, called with these values in this heap, comes back with K -/
def gp_Cal (l : Launch) (G : gp_G) (d : Nat) (M : gp_M) (as : List Value) (V : gp_H) (K : Option Value → gp_H → Prop) : Prop :=
  Met l M.1 (gp_wM M) (gp_rm d M) (gp_Pre G as V) (gp_Post G (gp_mc M) K) (gp_mc M) (gp_ms M) (gp_A G)
theorem gp_Cal.mono {l : Launch} {G : gp_G} {d : Nat} {M : gp_M} {as : List Value} {V : gp_H} {K K' : Option Value → gp_H → Prop} (h : gp_Cal l G d M as V K) (hk : ∀ r V', K r V' → K' r V') : gp_Cal l G d M as V K' := by
  intro p e ha hc hcl s m args below hf hap hP hT
  obtain ⟨n, o, h1, h2, h3, ⟨⟨⟨r, V', e1, e2, e3, e4⟩, hz, hF⟩, hL⟩⟩ := h p e ha hc hcl s m args below hf hap hP hT
  exact ⟨n, o, h1, h2, h3, ⟨⟨r, V', e1, hk r V' e2, e3, e4⟩, hz, hF⟩, hL⟩
def gp_ln (a b : Nat) (P : Prop) : Prop := match Nat.beq a b with
  | true => P
  | false => False
theorem gp_ln_e {a b : Nat} {P : Prop} (h : gp_ln a b P) : a = b ∧ P := by
  unfold gp_ln at h
  split at h
  · rename_i e; exact ⟨Nat.eq_of_beq_eq_true e, h⟩
  · exact h.elim
def gp_bt (b : Bool) (P : Prop) : Prop := match b with
  | true => P
  | false => False
theorem gp_bt_e {b : Bool} {P : Prop} (h : gp_bt b P) : b = true ∧ P := by
  cases b
  · exact h.elim
  · exact ⟨rfl, h⟩
def gp_ldI (o : Option Value) (k : Int32 → Prop) : Prop := match o with
  | some (.int x) => k x
  | _ => False
theorem gp_ldI_e {o : Option Value} {k : Int32 → Prop} (h : gp_ldI o k) : ∃ x, o = some (.int x) ∧ k x := by
  unfold gp_ldI at h
  split at h
  · exact ⟨_, rfl, h⟩
  · exact h.elim
def gp_ldL (o : Option Value) (k : Int64 → Prop) : Prop := match o with
  | some (.long x) => k x
  | _ => False
theorem gp_ldL_e {o : Option Value} {k : Int64 → Prop} (h : gp_ldL o k) : ∃ x, o = some (.long x) ∧ k x := by
  unfold gp_ldL at h
  split at h
  · exact ⟨_, rfl, h⟩
  · exact h.elim
def gp_ldA (o : Option Value) (k : Value → Prop) : Prop := match o with
  | some (.ref x) => k (.ref x)
  | some (.retAddr x) => k (.retAddr x)
  | some .null => k .null
  | _ => False
theorem gp_ldA_e {G : gp_G} {o : Option Value} {k : Value → Prop} (h : gp_ldA o k) : ∃ v, o = some v ∧ (gp_mv G v = .null ∨ ∃ q, gp_mv G v = .ref q) ∧ k v := by
  unfold gp_ldA at h
  split at h
  · exact ⟨_, rfl, Or.inr ⟨_, rfl⟩, h⟩
  · exact ⟨_, rfl, Or.inr ⟨_, rfl⟩, h⟩
  · exact ⟨_, rfl, Or.inl rfl, h⟩
  · exact h.elim
def gp_p1 (st : List Value) (k : Int32 → List Value → Prop) : Prop := match st with
  | .int x :: r => k x r
  | _ => False
theorem gp_p1_e {st : List Value} {k : Int32 → List Value → Prop} (h : gp_p1 st k) : ∃ x r, st = .int x :: r ∧ k x r := by
  unfold gp_p1 at h
  split at h
  · exact ⟨_, _, rfl, h⟩
  · exact h.elim
def gp_p2 (st : List Value) (k : Int32 → Int32 → List Value → Prop) : Prop := match st with
  | .int y :: .int x :: r => k x y r
  | _ => False
theorem gp_p2_e {st : List Value} {k : Int32 → Int32 → List Value → Prop} (h : gp_p2 st k) : ∃ x y r, st = .int y :: .int x :: r ∧ k x y r := by
  unfold gp_p2 at h
  split at h
  · exact ⟨_, _, _, rfl, h⟩
  · exact h.elim
def gp_q1 (st : List Value) (k : Int64 → List Value → Prop) : Prop := match st with
  | .long x :: r => k x r
  | _ => False
theorem gp_q1_e {st : List Value} {k : Int64 → List Value → Prop} (h : gp_q1 st k) : ∃ x r, st = .long x :: r ∧ k x r := by
  unfold gp_q1 at h
  split at h
  · exact ⟨_, _, rfl, h⟩
  · exact h.elim
def gp_q2 (st : List Value) (k : Int64 → Int64 → List Value → Prop) : Prop := match st with
  | .long y :: .long x :: r => k x y r
  | _ => False
theorem gp_q2_e {st : List Value} {k : Int64 → Int64 → List Value → Prop} (h : gp_q2 st k) : ∃ x y r, st = .long y :: .long x :: r ∧ k x y r := by
  unfold gp_q2 at h
  split at h
  · exact ⟨_, _, _, rfl, h⟩
  · exact h.elim
def gp_qs (st : List Value) (k : Int64 → Int32 → List Value → Prop) : Prop := match st with
  | .int y :: .long x :: r => k x y r
  | _ => False
theorem gp_qs_e {st : List Value} {k : Int64 → Int32 → List Value → Prop} (h : gp_qs st k) : ∃ x y r, st = .int y :: .long x :: r ∧ k x y r := by
  unfold gp_qs at h
  split at h
  · exact ⟨_, _, _, rfl, h⟩
  · exact h.elim
def gp_pA (st : List Value) (k : Value → List Value → Prop) : Prop := match st with
  | .ref x :: r => k (.ref x) r
  | .retAddr x :: r => k (.retAddr x) r
  | _ => False
theorem gp_pA_e {st : List Value} {k : Value → List Value → Prop} (h : gp_pA st k) : ∃ v r, st = v :: r ∧ ((∃ q, v = .ref q) ∨ ∃ q, v = .retAddr q) ∧ k v r := by
  unfold gp_pA at h
  split at h
  · exact ⟨_, _, rfl, Or.inl ⟨_, rfl⟩, h⟩
  · exact ⟨_, _, rfl, Or.inr ⟨_, rfl⟩, h⟩
  · exact h.elim
def gp_j (pc : Nat) (off : Int) (k : Nat → Prop) : Prop := match (pc : Int) + off with
  | .ofNat t => k t
  | .negSucc _ => False
theorem gp_j_e {pc : Nat} {off : Int} {k : Nat → Prop} (h : gp_j pc off k) : ∃ t : Nat, (pc : Int) + off = (t : Int) ∧ k t := by
  unfold gp_j at h
  split at h
  · rename_i t e; exact ⟨t, e, h⟩
  · exact h.elim
def gp_b1 (c : Jvm.ClassFile.Cond) (x : Int32) (A B : Prop) : Prop := match c with
  | .eq => (x = 0 → A) ∧ (¬ x = 0 → B)
  | .ne => (¬ x = 0 → A) ∧ (x = 0 → B)
  | .lt => (x < 0 → A) ∧ (¬ x < 0 → B)
  | .ge => (0 ≤ x → A) ∧ (¬ 0 ≤ x → B)
  | .gt => (0 < x → A) ∧ (¬ 0 < x → B)
  | .le => (x ≤ 0 → A) ∧ (¬ x ≤ 0 → B)
def gp_b2 (c : Jvm.ClassFile.Cond) (x y : Int32) (A B : Prop) : Prop := match c with
  | .eq => (x = y → A) ∧ (¬ x = y → B)
  | .ne => (¬ x = y → A) ∧ (x = y → B)
  | .lt => (x < y → A) ∧ (¬ x < y → B)
  | .ge => (y ≤ x → A) ∧ (¬ y ≤ x → B)
  | .gt => (y < x → A) ∧ (¬ y < x → B)
  | .le => (x ≤ y → A) ∧ (¬ x ≤ y → B)
/-- the places of a switch, one behind the other -/
def gp_sw (pc : Nat) (k : Nat → Prop) (x : Int) : List Int → Int → Prop
  | [], _ => True
  | off :: t, c => (x = c → gp_j pc off k) ∧ gp_sw pc k x t (c + 1)
theorem gp_sw_e {pc : Nat} {k : Nat → Prop} {x : Int} : ∀ {l : List Int} {c : Int} {n : Nat} {off : Int}, gp_sw pc k x l c → l[n]? = some off → x = c + n → gp_j pc off k
  | [], _, _, _, _, h, _ => by simp at h
  | a :: t, c, 0, off, h, h1, h2 => by
    simp only [List.getElem?_cons_zero, Option.some.injEq] at h1
    subst h1
    exact h.1 (by simpa using h2)
  | a :: t, c, n + 1, off, h, h1, h2 => gp_sw_e (l := t) (c := c + 1) (n := n) h.2 (by simpa using h1) (by rw [h2]; push_cast; omega)
/-- the words that a stack takes -/
def gp_sz : List Value → Nat
  | [] => 0
  | .long _ :: t => gp_sz t + 2
  | .double _ :: t => gp_sz t + 2
  | _ :: t => gp_sz t + 1
theorem gp_sz_e (G : gp_G) : ∀ st : List Value, ((st.map (gp_mv G)).map fun v => v.category).sum = gp_sz st
  | [] => rfl
  | v :: t => by
    simp only [List.map_cons, List.sum_cons, gp_sz_e G t, gp_mv_cat]
    cases v <;> simp [gp_sz, Value.category] <;> omega
def gp_pop : Nat → List Value → List Value → Option (List Value × List Value)
  | 0, acc, st => some (acc, st)
  | _ + 1, _, [] => none
  | n + 1, acc, v :: st => gp_pop n (v :: acc) st
theorem gp_pop_e : ∀ {n : Nat} {acc st as rest : List Value}, gp_pop n acc st = some (as, rest) → ∃ xs : List Value, xs.length = n ∧ as = xs.reverse ++ acc ∧ st = xs ++ rest
  | 0, acc, st, as, rest, h => by
    simp only [gp_pop, Option.some.injEq, Prod.mk.injEq] at h
    exact ⟨[], rfl, by simp [h.1], by simp [h.2]⟩
  | n + 1, acc, [], as, rest, h => by simp [gp_pop] at h
  | n + 1, acc, v :: st, as, rest, h => by
    obtain ⟨xs, h1, h2, h3⟩ := gp_pop_e (n := n) h
    exact ⟨v :: xs, by simp [h1], by simp [h2], by simp [h3]⟩
theorem gp_pop_0 {n : Nat} {st as rest : List Value} (h : gp_pop n [] st = some (as, rest)) : as.length = n ∧ st = as.reverse ++ rest := by
  obtain ⟨xs, h1, h2, h3⟩ := gp_pop_e h
  simp only [List.append_nil] at h2
  subst h2
  exact ⟨by simp [h1], by simp [h3]⟩
abbrev gp_K : Type := Nat → List (Option Value) → List Value → gp_H → Nat → Nat → Prop
/-- the object at a virtual address, of a class -/
def gp_ob (V : gp_H) (a ci : Nat) (k : List Value → Prop) : Prop := match gp_nth V a with
  | some (.inr (c, fs)) => gp_ln c ci (k fs)
  | _ => False
theorem gp_ob_e {V : gp_H} {a ci : Nat} {k : List Value → Prop} (h : gp_ob V a ci k) : ∃ fs, V[a]? = some (.inr (ci, fs)) ∧ k fs := by
  unfold gp_ob at h
  split at h
  · rename_i c fs e
    obtain ⟨e2, h2⟩ := gp_ln_e h
    subst e2
    exact ⟨fs, by rw [← gp_nth_e]; exact e, h2⟩
  · exact h.elim
def gp_ai (V : gp_H) (a t : Nat) (k : Nat → (Nat → Int32) → Prop) : Prop := match gp_nth V a with
  | some (.inl (t', n, .inl f)) => gp_ln t' t (k n f)
  | _ => False
theorem gp_ai_e {V : gp_H} {a t : Nat} {k : Nat → (Nat → Int32) → Prop} (h : gp_ai V a t k) : ∃ n f, V[a]? = some (.inl (t, n, .inl f)) ∧ k n f := by
  unfold gp_ai at h
  split at h
  · rename_i c n f e
    obtain ⟨e2, h2⟩ := gp_ln_e h
    subst e2
    exact ⟨n, f, by rw [← gp_nth_e]; exact e, h2⟩
  · exact h.elim
/-- bytes or booleans -/
def gp_ab (V : gp_H) (a : Nat) (k : Nat → Nat → (Nat → Int32) → Prop) : Prop := match gp_nth V a with
  | some (.inl (1, n, .inl f)) => k 1 n f
  | some (.inl (2, n, .inl f)) => k 2 n f
  | _ => False
theorem gp_ab_e {V : gp_H} {a : Nat} {k : Nat → Nat → (Nat → Int32) → Prop} (h : gp_ab V a k) : ∃ t n f, (t = 1 ∨ t = 2) ∧ V[a]? = some (.inl (t, n, .inl f)) ∧ k t n f := by
  unfold gp_ab at h
  split at h
  · rename_i n f e; exact ⟨1, n, f, Or.inl rfl, by rw [← gp_nth_e]; exact e, h⟩
  · rename_i n f e; exact ⟨2, n, f, Or.inr rfl, by rw [← gp_nth_e]; exact e, h⟩
  · exact h.elim
def gp_al3 (V : gp_H) (a : Nat) (k : Nat → (Nat → Int64) → Prop) : Prop := match gp_nth V a with
  | some (.inl (3, n, .inr (.inl f))) => k n f
  | _ => False
theorem gp_al3_e {V : gp_H} {a : Nat} {k : Nat → (Nat → Int64) → Prop} (h : gp_al3 V a k) : ∃ n f, V[a]? = some (.inl (3, n, .inr (.inl f))) ∧ k n f := by
  unfold gp_al3 at h
  split at h
  · rename_i n f e; exact ⟨n, f, by rw [← gp_nth_e]; exact e, h⟩
  · exact h.elim
/-- arrays of marks (kind 4: class 2) or minds (kind 5: class 3) -/
def gp_aq (V : gp_H) (a : Nat) (k : Nat → Nat → (Nat → Option Nat) → Prop) : Prop := match gp_nth V a with
  | some (.inl (4, n, .inr (.inr (.inr (.inr f))))) => k 4 n f
  | some (.inl (5, n, .inr (.inr (.inr (.inr f))))) => k 5 n f
  | _ => False
theorem gp_aq_e {V : gp_H} {a : Nat} {k : Nat → Nat → (Nat → Option Nat) → Prop} (h : gp_aq V a k) : ∃ t n f, (t = 4 ∨ t = 5) ∧ V[a]? = some (.inl (t, n, .inr (.inr (.inr (.inr f))))) ∧ k t n f := by
  unfold gp_aq at h
  split at h
  · rename_i n f e; exact ⟨4, n, f, Or.inl rfl, by rw [← gp_nth_e]; exact e, h⟩
  · rename_i n f e; exact ⟨5, n, f, Or.inr rfl, by rw [← gp_nth_e]; exact e, h⟩
  · exact h.elim
def gp_an (V : gp_H) (a : Nat) (k : Nat → Prop) : Prop := match gp_nth V a with
  | some (.inl (t, n, _)) => gp_bt (Nat.blt t 6) (k n)
  | _ => False
theorem gp_an_e {V : gp_H} {a : Nat} {k : Nat → Prop} (h : gp_an V a k) : ∃ t n x, t < 6 ∧ V[a]? = some (.inl (t, n, x)) ∧ k n := by
  unfold gp_an at h
  split at h
  · rename_i t n x e
    obtain ⟨h1, h⟩ := gp_bt_e h
    exact ⟨t, n, x, Nat.blt_eq.mp h1, by rw [← gp_nth_e]; exact e, h⟩
  · exact h.elim
/-- what may be put into a field: 0 an int, 1 a boolean, 2 a long, 3 a reference -/
def gp_pv (t : Nat) (v : Value) (P : Prop) : Prop := match t, v with
  | 0, .int _ => P
  | 1, .int x => (x = 0 ∨ x = 1) ∧ P
  | 2, .long _ => P
  | 3, .ref _ => P
  | _, _ => False
def gp_row {α : Type} (o : Option α) (k : α → Prop) : Prop := match o with
  | some a => k a
  | none => False
theorem gp_row_e {α : Type} {o : Option α} {k : α → Prop} (h : gp_row o k) : ∃ a, o = some a ∧ k a := by
  cases o with
  | none => exact h.elim
  | some a => exact ⟨a, rfl, h⟩
/-- the call itself: a level less, little on the stack beneath, room for what is made -/
def gp_cl1 (l : Launch) (G : gp_G) (d : Nat) (M M' : gp_M) (as rest : List Value) (V : gp_H) (cs ss : Nat) (k : Option Value → gp_H → Nat → Nat → Prop) : Prop := match d with
  | 0 => False
  | d' + 1 => gp_bt (Nat.ble (gp_sz rest) 8) (match gp_mc M', gp_ms M' with
    | 0, 0 => gp_Cal l G d' M' as V (fun r V' => k r V' cs ss)
    | a, b => cs + a ≤ gp_mc M ∧ ss + b ≤ gp_ms M ∧ gp_Cal l G d' M' as V (fun r V' => k r V' (cs + a) (ss + b)))
theorem gp_cl1_e {l : Launch} {G : gp_G} {d : Nat} {M M' : gp_M} {as rest : List Value} {V : gp_H} {cs ss : Nat} {k : Option Value → gp_H → Nat → Nat → Prop} (hc : cs ≤ gp_mc M) (hs : ss ≤ gp_ms M) (h : gp_cl1 l G d M M' as rest V cs ss k) : ∃ d', d = d' + 1 ∧ gp_sz rest ≤ 8 ∧ cs + gp_mc M' ≤ gp_mc M ∧ ss + gp_ms M' ≤ gp_ms M ∧ gp_Cal l G d' M' as V (fun r V' => k r V' (cs + gp_mc M') (ss + gp_ms M')) := by
  unfold gp_cl1 at h
  split at h
  · exact h.elim
  · rename_i d'
    obtain ⟨h1, h⟩ := gp_bt_e h
    refine ⟨d', rfl, Nat.le_of_ble_eq_true h1, ?_⟩
    split at h
    · rename_i e1 e2
      rw [e1, e2]
      exact ⟨by omega, by omega, h⟩
    · exact h
/-- the receiver: a cell of the method's class, or a String constant -/
def gp_rc (V : gp_H) (o : Nat) (v : Value) (P : Prop) : Prop := match v with
  | .ref a => gp_ob V a o (fun _ => P)
  | .retAddr i => gp_ln o 16 (gp_bt (Nat.blt i 25) P)
  | _ => False
def gp_hd (as : List Value) (k : Value → Prop) : Prop := match as with
  | v :: _ => k v
  | [] => False
/-- the bytes of String constant i stand as 1000 + i -/
def gp_sx (i : Nat) : Bool := Nat.blt (i - 1000) 25 && Nat.ble 1000 i
def gp_sN (i : Nat) : Nat := gp_sn.getD (i - 1000) 0
def gp_sB (i j : Nat) : Int32 := (gp_sb.getD (i - 1000) []).getD j 0
theorem gp_sx_e {i : Nat} (h : gp_sx i = true) : i - 1000 < 25 ∧ 1000 + (i - 1000) = i := by
  simp only [gp_sx, Bool.and_eq_true, Nat.blt_eq, Nat.ble_eq] at h
  omega
def gp_step (l : Launch) (G : gp_G) (d : Nat) (M : gp_M) (K : Option Value → gp_H → Prop) (k : gp_K) (i : Instr) (len pc : Nat) (ls : List (Option Value)) (st : List Value) (V : gp_H) (cs ss : Nat) : Prop :=
  match i with
  | .iload_n n => gp_ln len 1 (gp_ldI (gp_gl ls n) fun x => k (pc + 1) ls (.int x :: st) V cs ss)
  | .iload n => gp_ln len 2 (gp_ldI (gp_gl ls n) fun x => k (pc + 2) ls (.int x :: st) V cs ss)
  | .lload_n n => gp_ln len 1 (gp_ldL (gp_gl ls n) fun x => k (pc + 1) ls (.long x :: st) V cs ss)
  | .lload n => gp_ln len 2 (gp_ldL (gp_gl ls n) fun x => k (pc + 2) ls (.long x :: st) V cs ss)
  | .aload_n n => gp_ln len 1 (gp_ldA (gp_gl ls n) fun v => k (pc + 1) ls (v :: st) V cs ss)
  | .aload n => gp_ln len 2 (gp_ldA (gp_gl ls n) fun v => k (pc + 2) ls (v :: st) V cs ss)
  | .istore_n n => gp_ln len 1 (gp_bt (gp_lt ls n) (gp_p1 st fun x r => k (pc + 1) (gp_s1 ls n (.int x)) r V cs ss))
  | .istore n => gp_ln len 2 (gp_bt (gp_lt ls n) (gp_p1 st fun x r => k (pc + 2) (gp_s1 ls n (.int x)) r V cs ss))
  | .lstore_n n => gp_ln len 1 (gp_bt (gp_lt ls (n + 1)) (gp_q1 st fun x r => k (pc + 1) (gp_s2 ls n (.long x)) r V cs ss))
  | .lstore n => gp_ln len 2 (gp_bt (gp_lt ls (n + 1)) (gp_q1 st fun x r => k (pc + 2) (gp_s2 ls n (.long x)) r V cs ss))
  | .astore_n n => gp_ln len 1 (gp_bt (gp_lt ls n) (gp_pA st fun v r => k (pc + 1) (gp_s1 ls n v) r V cs ss))
  | .astore n => gp_ln len 2 (gp_bt (gp_lt ls n) (gp_pA st fun v r => k (pc + 2) (gp_s1 ls n v) r V cs ss))
  | .iinc n c => gp_ln len 3 (gp_bt (gp_lt ls n) (gp_ldI (gp_gl ls n) fun x => k (pc + 3) (gp_s1 ls n (.int (x + Int32.ofInt c))) st V cs ss))
  | .iconst c => gp_ln len 1 (k (pc + 1) ls (.int (Int32.ofInt c) :: st) V cs ss)
  | .bipush c => gp_ln len 2 (k (pc + 2) ls (.int (Int8.ofInt c).toInt32 :: st) V cs ss)
  | .sipush c => gp_ln len 3 (k (pc + 3) ls (.int (Int16.ofInt c).toInt32 :: st) V cs ss)
  | .lconst c => gp_ln len 1 (k (pc + 1) ls (.long (Int64.ofNat (c : Nat)) :: st) V cs ss)
  | .ldc idx => gp_ln len 2 (match gp_lk (gp_sl (gp_o M)) idx with
    | some i => k (pc + 2) ls (.retAddr i :: st) V cs ss
    | none => gp_row (gp_lk (gp_kl (gp_o M)) idx) fun v => k (pc + 2) ls (.int v :: st) V cs ss)
  | .ldc_w idx => gp_ln len 3 (gp_row (gp_lk (gp_kl (gp_o M)) idx) fun v => k (pc + 3) ls (.int v :: st) V cs ss)
  | .ldc2_w idx => gp_ln len 3 (gp_row (gp_lk (gp_Ll (gp_o M)) idx) fun v => k (pc + 3) ls (.long v :: st) V cs ss)
  | .iadd => gp_ln len 1 (gp_p2 st fun x y r => k (pc + 1) ls (.int (x + y) :: r) V cs ss)
  | .isub => gp_ln len 1 (gp_p2 st fun x y r => k (pc + 1) ls (.int (x - y) :: r) V cs ss)
  | .imul => gp_ln len 1 (gp_p2 st fun x y r => k (pc + 1) ls (.int (x * y) :: r) V cs ss)
  | .idiv => gp_ln len 1 (gp_p2 st fun x y r => ¬ y = 0 ∧ k (pc + 1) ls (.int (x / y) :: r) V cs ss)
  | .irem => gp_ln len 1 (gp_p2 st fun x y r => ¬ y = 0 ∧ k (pc + 1) ls (.int (x - x / y * y) :: r) V cs ss)
  | .iand => gp_ln len 1 (gp_p2 st fun x y r => k (pc + 1) ls (.int (x &&& y) :: r) V cs ss)
  | .ior => gp_ln len 1 (gp_p2 st fun x y r => k (pc + 1) ls (.int (x ||| y) :: r) V cs ss)
  | .ixor => gp_ln len 1 (gp_p2 st fun x y r => k (pc + 1) ls (.int (x ^^^ y) :: r) V cs ss)
  | .ishl => gp_ln len 1 (gp_p2 st fun x y r => k (pc + 1) ls (.int (x <<< (y &&& 31)) :: r) V cs ss)
  | .ishr => gp_ln len 1 (gp_p2 st fun x y r => k (pc + 1) ls (.int (x >>> (y &&& 31)) :: r) V cs ss)
  | .iushr => gp_ln len 1 (gp_p2 st fun x y r => k (pc + 1) ls (.int (x.toUInt32 >>> (y.toUInt32 &&& Int32.toUInt32 31)).toInt32 :: r) V cs ss)
  | .ineg => gp_ln len 1 (gp_p1 st fun x r => k (pc + 1) ls (.int (-x) :: r) V cs ss)
  | .i2l => gp_ln len 1 (gp_p1 st fun x r => k (pc + 1) ls (.long x.toInt64 :: r) V cs ss)
  | .l2i => gp_ln len 1 (gp_q1 st fun x r => k (pc + 1) ls (.int x.toInt32 :: r) V cs ss)
  | .i2b => gp_ln len 1 (gp_p1 st fun x r => k (pc + 1) ls (.int x.toInt8.toInt32 :: r) V cs ss)
  | .i2c => gp_ln len 1 (gp_p1 st fun x r => k (pc + 1) ls (.int (x.toUInt32 % 65536).toInt32 :: r) V cs ss)
  | .ladd => gp_ln len 1 (gp_q2 st fun x y r => k (pc + 1) ls (.long (x + y) :: r) V cs ss)
  | .lmul => gp_ln len 1 (gp_q2 st fun x y r => k (pc + 1) ls (.long (x * y) :: r) V cs ss)
  | .lor => gp_ln len 1 (gp_q2 st fun x y r => k (pc + 1) ls (.long (x ||| y) :: r) V cs ss)
  | .ldiv => gp_ln len 1 (gp_q2 st fun x y r => ¬ y = 0 ∧ k (pc + 1) ls (.long (x / y) :: r) V cs ss)
  | .lcmp => gp_ln len 1 (gp_q2 st fun x y r => k (pc + 1) ls (.int (lg_cmp x y) :: r) V cs ss)
  | .lshl => gp_ln len 1 (gp_qs st fun x y r => k (pc + 1) ls (.long (x <<< (y.toInt64 &&& 63)) :: r) V cs ss)
  | .lushr => gp_ln len 1 (gp_qs st fun x y r => k (pc + 1) ls (.long (x.toUInt64 >>> (y.toInt64.toUInt64 &&& Int64.toUInt64 63)).toInt64 :: r) V cs ss)
  | .dup => gp_ln len 1 (match st with
    | v :: r => gp_ln (gp_sz [v]) 1 (k (pc + 1) ls (v :: v :: r) V cs ss)
    | _ => False)
  | .dup2 => gp_ln len 1 (match st with
    | v :: w :: r => gp_ln (gp_sz [v]) 1 (gp_ln (gp_sz [w]) 1 (k (pc + 1) ls (v :: w :: v :: w :: r) V cs ss))
    | _ => False)
  | .pop => gp_ln len 1 (match st with
    | v :: r => gp_ln (gp_sz [v]) 1 (k (pc + 1) ls r V cs ss)
    | _ => False)
  | .ifCond c off => gp_ln len 3 (gp_p1 st fun x r => gp_j pc off fun t => gp_b1 c x (k t ls r V cs ss) (k (pc + 3) ls r V cs ss))
  | .if_icmp c off => gp_ln len 3 (gp_p2 st fun x y r => gp_j pc off fun t => gp_b2 c x y (k t ls r V cs ss) (k (pc + 3) ls r V cs ss))
  | .goto off => gp_ln len 3 (gp_j pc off fun t => k t ls st V cs ss)
  | .tableswitch df lo hi offs => gp_p1 st fun x r => (x.toInt < lo ∨ hi < x.toInt → gp_j pc df fun t => k t ls r V cs ss) ∧ (hi - lo + 1 = offs.toList.length ∧ gp_sw pc (fun t => k t ls r V cs ss) x.toInt offs.toList lo)
  | .getfield idx => gp_ln len 3 (gp_pA st fun v r => match v with
    | .ref a => gp_row (gp_lk (gp_fl (gp_o M)) idx) fun q => gp_ob V a q.1 fun fs => gp_row (gp_nth fs q.2.1) fun w => k (pc + 3) ls (w :: r) V cs ss
    | .retAddr i => gp_bt (Nat.blt i 25) (gp_row (gp_lk (gp_vl (gp_o M)) idx) fun q => match q with
      | 0 => k (pc + 3) ls (.retAddr (1000 + i) :: r) V cs ss
      | 1 => k (pc + 3) ls (.int 0 :: r) V cs ss
      | _ => False)
    | _ => False)
  | .putfield idx => gp_ln len 3 (match st with
    | w :: .ref a :: r => gp_row (gp_lk (gp_fl (gp_o M)) idx) fun q => gp_ob V a q.1 fun fs => gp_bt (Nat.blt q.2.1 fs.length) (gp_pv q.2.2.1 w (match q.2.2.2 with
      | false => k (pc + 3) ls r (V.set a (.inr (q.1, fs.set q.2.1 w))) cs ss
      | true => M.1.name = "<init>" ∧ gp_ln q.1 (gp_o M) (k (pc + 3) ls r (V.set a (.inr (q.1, fs.set q.2.1 w))) cs ss)))
    | _ => False)
  | .getstatic idx => gp_ln len 3 (gp_row (gp_lk (gp_zl (gp_o M)) idx) fun q => match q with
    | 0 => k (pc + 3) ls (.int 1 :: st) V cs ss
    | 1 => k (pc + 3) ls (.null :: st) V cs ss ∧ k (pc + 3) ls (.retAddr 2000 :: st) V cs ss
    | _ => False)
  | .iaload => gp_ln len 1 (match st with
    | .int j :: .ref a :: r => gp_ai V a 0 fun n f => vp_in j n ∧ k (pc + 1) ls (.int (f j.toNatClampNeg) :: r) V cs ss
    | _ => False)
  | .iastore => gp_ln len 1 (match st with
    | .int x :: .int j :: .ref a :: r => gp_ai V a 0 fun n f => vp_in j n ∧ k (pc + 1) ls r (V.set a (.inl (0, n, .inl (upd f j.toNatClampNeg x)))) cs ss
    | _ => False)
  | .baload => gp_ln len 1 (match st with
    | .int j :: .ref a :: r => gp_ab V a fun _ n f => vp_in j n ∧ k (pc + 1) ls (.int (f j.toNatClampNeg) :: r) V cs ss
    | .int j :: .retAddr i :: r => gp_bt (gp_sx i) (vp_in j (gp_sN i) ∧ k (pc + 1) ls (.int (gp_sB i j.toNatClampNeg) :: r) V cs ss)
    | _ => False)
  | .bastore => gp_ln len 1 (match st with
    | .int x :: .int j :: .ref a :: r => gp_ab V a fun t n f => vp_in j n ∧ (match t with
      | 1 => k (pc + 1) ls r (V.set a (.inl (1, n, .inl (upd f j.toNatClampNeg (vp_nar .byte x))))) cs ss
      | _ => k (pc + 1) ls r (V.set a (.inl (2, n, .inl (upd f j.toNatClampNeg (vp_nar .boolean x))))) cs ss)
    | _ => False)
  | .laload => gp_ln len 1 (match st with
    | .int j :: .ref a :: r => gp_al3 V a fun n f => vp_in j n ∧ k (pc + 1) ls (.long (f j.toNatClampNeg) :: r) V cs ss
    | _ => False)
  | .lastore => gp_ln len 1 (match st with
    | .long x :: .int j :: .ref a :: r => gp_al3 V a fun n f => vp_in j n ∧ k (pc + 1) ls r (V.set a (.inl (3, n, .inr (.inl (vp_updL f j.toNatClampNeg x))))) cs ss
    | _ => False)
  | .aaload => gp_ln len 1 (match st with
    | .int j :: .ref a :: r => gp_aq V a fun _ n f => vp_in j n ∧ ∃ b, f j.toNatClampNeg = some b ∧ k (pc + 1) ls (.ref b :: r) V cs ss
    | _ => False)
  | .aastore => gp_ln len 1 (match st with
    | .ref b :: .int j :: .ref a :: r => gp_aq V a fun t n f => gp_ob V b (t - 2) fun _ => vp_in j n ∧ k (pc + 1) ls r (V.set a (.inl (t, n, .inr (.inr (.inr (.inr (va_up f j.toNatClampNeg (some b)))))))) cs ss
    | _ => False)
  | .arraylength => gp_ln len 1 (match st with
    | .ref a :: r => gp_an V a fun n => k (pc + 1) ls (.int (Int32.ofNat n) :: r) V cs ss
    | .retAddr i :: r => gp_bt (gp_sx i) (k (pc + 1) ls (.int (Int32.ofNat (gp_sN i)) :: r) V cs ss)
    | _ => False)
  | .newarray at' => gp_ln len 2 (gp_p1 st fun n r => ¬ n < 0 ∧ n.toNatClampNeg ≤ 60000000 ∧ cs + 1 ≤ gp_mc M ∧ ss + n.toNatClampNeg ≤ gp_ms M ∧ (match at' with
    | .int => k (pc + 2) ls (.ref V.length :: r) (V ++ [.inl (0, n.toNatClampNeg, .inl (fun _ => 0))]) (cs + 1) (ss + n.toNatClampNeg)
    | .byte => k (pc + 2) ls (.ref V.length :: r) (V ++ [.inl (1, n.toNatClampNeg, .inl (fun _ => 0))]) (cs + 1) (ss + n.toNatClampNeg)
    | .boolean => k (pc + 2) ls (.ref V.length :: r) (V ++ [.inl (2, n.toNatClampNeg, .inl (fun _ => 0))]) (cs + 1) (ss + n.toNatClampNeg)
    | .long => k (pc + 2) ls (.ref V.length :: r) (V ++ [.inl (3, n.toNatClampNeg, .inr (.inl (fun _ => 0)))]) (cs + 1) (ss + n.toNatClampNeg)
    | _ => False))
  | .anewarray idx => gp_ln len 3 (gp_p1 st fun n r => gp_row (gp_lk (gp_al (gp_o M)) idx) fun t => ¬ n < 0 ∧ n.toNatClampNeg ≤ 60000000 ∧ cs + 1 ≤ gp_mc M ∧ ss + n.toNatClampNeg ≤ gp_ms M ∧ k (pc + 3) ls (.ref V.length :: r) (V ++ [.inl (t, n.toNatClampNeg, .inr (.inr (.inr (.inr (fun _ => none)))))]) (cs + 1) (ss + n.toNatClampNeg))
  | .new idx => gp_ln len 3 (gp_row (gp_lk (gp_nl (gp_o M)) idx) fun ci => cs + 1 ≤ gp_mc M ∧ ss + (gp_df ci).length ≤ gp_ms M ∧ k (pc + 3) ls (.ref V.length :: st) (V ++ [.inr (ci, gp_df ci)]) (cs + 1) (ss + (gp_df ci).length))
  | .invokestatic idx => gp_ln len 3 (match gp_lk (gp_xl (gp_o M)) idx with
    | some t => gp_bt (Nat.ble 1 d) (match t with
      | 0 => gp_p2 st fun x y r => gp_bt (Nat.ble (gp_sz r) 8) (k (pc + 3) ls (.int (if x < y then y else x) :: r) V cs ss)
      | 1 => gp_p2 st fun x y r => gp_bt (Nat.ble (gp_sz r) 8) (k (pc + 3) ls (.int (if y < x then y else x) :: r) V cs ss)
      | _ => gp_p1 st fun x r => gp_bt (Nat.ble (gp_sz r) 8) (k (pc + 3) ls (.int (if 0 ≤ x then x else 0 - x) :: r) V cs ss))
    | none => gp_row (gp_lk (gp_ml (gp_o M)) idx) fun q => gp_row (gp_pop (gp_np q.2) [] st) fun a => gp_bt (Nat.beq q.1 1 || Nat.beq q.1 4) (gp_cl1 l G d M q.2 a.1 a.2 V cs ss fun r V' cs' ss' => k (pc + 3) ls (r.toList ++ a.2) V' cs' ss'))
  | .invokevirtual idx => gp_ln len 3 (gp_row (gp_lk (gp_ml (gp_o M)) idx) fun q => gp_row (gp_pop (gp_np q.2) [] st) fun a => gp_bt (Nat.beq q.1 0 || Nat.beq q.1 3) (match a.2 with
    | v :: rest => gp_rc V (gp_o q.2) v (gp_cl1 l G d M q.2 (v :: a.1) rest V cs ss fun r V' cs' ss' => k (pc + 3) ls (r.toList ++ rest) V' cs' ss')
    | [] => False))
  | .invokespecial idx => gp_ln len 3 (match gp_lk (gp_ol (gp_o M)) idx with
    | some _ => (match st, d with
      | .ref _ :: r, _ + 1 => gp_bt (Nat.ble (gp_sz r) 8) (k (pc + 3) ls r V cs ss)
      | _, _ => False)
    | none => gp_row (gp_lk (gp_ml (gp_o M)) idx) fun q => gp_row (gp_pop (gp_np q.2) [] st) fun a => gp_bt (Nat.beq q.1 2 || Nat.beq q.1 5) (match a.2 with
      | .ref v :: rest => gp_cl1 l G d M q.2 (.ref v :: a.1) rest V cs ss fun r V' cs' ss' => k (pc + 3) ls (r.toList ++ rest) V' cs' ss'
      | _ => False))
  | .ireturn => gp_ln len 1 (gp_ln cs (gp_mc M) (match st with
    | [.int x] => (match M.2.2.2.1 with
      | some .int => K (some (.int x)) V
      | some .boolean => (x = 0 ∨ x = 1) ∧ K (some (.int x)) V
      | some .byte => narrow .byte (.int x) = .int x ∧ K (some (.int x)) V
      | some .char => narrow .char (.int x) = .int x ∧ K (some (.int x)) V
      | _ => False)
    | _ => False))
  | .return_ => gp_ln len 1 (gp_ln cs (gp_mc M) (match st, M.2.2.2.1 with
    | [], none => K none V
    | _, _ => False))
  | _ => False
