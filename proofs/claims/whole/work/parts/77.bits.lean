/-! ===== sets of places as numbers ===== -/
theorem cntB_add {P : Nat → Bool} (a : Nat) : ∀ b, cntB P (a + b) = cntB P a + cntB (fun j => P (a + j)) b
  | 0 => rfl
  | b + 1 => by
    show cntB P (a + b) + _ = cntB P a + (cntB (fun j => P (a + j)) b + _)
    rw [cntB_add a b, Nat.add_assoc]
    rfl
/-- how many bits are set -/
def pop (x : Nat) : Nat := cntB (fun j => x.testBit j) 64
theorem pop8_at (x i : Nat) : pop8 (x / 2 ^ (8 * i) % 256) = cntB (fun j => x.testBit (8 * i + j)) 8 := by
  unfold pop8
  refine cntB_cg 8 (fun j hj => ?_)
  rw [show (256 : Nat) = 2 ^ 8 from rfl, Nat.testBit_mod_two_pow, decide_eq_true hj, Bool.true_and, Nat.testBit_div_two_pow, Nat.add_comm]
theorem popN_e (x : Nat) : popN x = pop x := by
  have h : pop x = cntB (fun j => x.testBit (8 * 0 + j)) 8 + cntB (fun j => x.testBit (8 * 1 + j)) 8 + cntB (fun j => x.testBit (8 * 2 + j)) 8 + cntB (fun j => x.testBit (8 * 3 + j)) 8 + cntB (fun j => x.testBit (8 * 4 + j)) 8 + cntB (fun j => x.testBit (8 * 5 + j)) 8 + cntB (fun j => x.testBit (8 * 6 + j)) 8 + cntB (fun j => x.testBit (8 * 7 + j)) 8 := by
    unfold pop
    rw [show (64 : Nat) = 56 + 8 from rfl, cntB_add 56 8, show (56 : Nat) = 48 + 8 from rfl, cntB_add 48 8, show (48 : Nat) = 40 + 8 from rfl, cntB_add 40 8, show (40 : Nat) = 32 + 8 from rfl, cntB_add 32 8, show (32 : Nat) = 24 + 8 from rfl, cntB_add 24 8, show (24 : Nat) = 16 + 8 from rfl, cntB_add 16 8, show (16 : Nat) = 8 + 8 from rfl, cntB_add 8 8]
    rw [cntB_cg (P := fun j => x.testBit j) (P' := fun j => x.testBit (8 * 0 + j)) 8 (fun j _ => by show x.testBit j = x.testBit (8 * 0 + j); rw [Nat.mul_zero, Nat.zero_add])]
  rw [h, ← pop8_at x 0, ← pop8_at x 1, ← pop8_at x 2, ← pop8_at x 3, ← pop8_at x 4, ← pop8_at x 5, ← pop8_at x 6, ← pop8_at x 7]
  unfold popN
  rw [show x / 2 ^ (8 * 0) = x by rw [Nat.mul_zero, Nat.pow_zero, Nat.div_one]]
theorem pop_ones : ∀ k : Fin 65, pop (2 ^ k.val - 1) = k.val := by decide +kernel
theorem pop_le (x : Nat) : pop x ≤ 64 := cntB_le 64
/-- the least place, 64 if there is none -/
def lwB (n : Nat) : Nat := (fst1 (fun j => n.testBit j) 0 64).getD 64
theorem lwB_0 : lwB 0 = 64 := by decide +kernel
theorem odd_of : ∀ (n : Nat), n ≠ 0 → ∃ a m, n = 2 ^ a * (2 * m + 1)
  | 0, h => absurd rfl h
  | n + 1, _ => by
    by_cases e : (n + 1) % 2 = 1
    · exact ⟨0, (n + 1) / 2, by rw [Nat.pow_zero, Nat.one_mul]; omega⟩
    · obtain ⟨a, m, h⟩ := odd_of ((n + 1) / 2) (by omega)
      refine ⟨a + 1, m, ?_⟩
      rw [Nat.pow_succ, Nat.mul_assoc, Nat.mul_left_comm, ← h]
      omega
theorem odd_tb (a m j : Nat) : (2 ^ a * (2 * m + 1)).testBit j = (decide (a ≤ j) && (decide (j = a) || m.testBit (j - a - 1))) := by
  rw [Nat.mul_comm, Nat.testBit_mul_two_pow]
  by_cases h : a ≤ j
  · rw [decide_eq_true h, Bool.true_and, Bool.true_and]
    by_cases e : j = a
    · subst e
      rw [decide_eq_true rfl, Bool.true_or, Nat.sub_self]
      exact Nat.testBit_zero _ |>.trans (decide_eq_true (by omega))
    · obtain ⟨d, rfl⟩ : ∃ d, j = a + 1 + d := ⟨j - a - 1, by omega⟩
      rw [decide_eq_false e, Bool.false_or, show a + 1 + d - a = d + 1 by omega, show d + 1 - 1 = d by omega, Nat.testBit_succ, show (2 * m + 1) / 2 = m by omega]
  · rw [decide_eq_false h, Bool.false_and, Bool.false_and]
theorem fst1_eq {P : Nat → Bool} {a b j : Nat} (h1 : a ≤ j) (h2 : j < b) (h3 : P j = true) (h4 : ∀ i, a ≤ i → i < j → P i = false) : fst1 P a b = some j := by
  cases e : fst1 P a b with
  | none => exact absurd h3 (by rw [fI_none _ _ e j h1 (by omega)]; decide)
  | some k =>
    obtain ⟨g1, g2, g3, g4⟩ := fst1_some e
    rcases Nat.lt_trichotomy k j with z | z | z
    · exact absurd g3 (by rw [h4 k g1 z]; decide)
    · rw [z]
    · exact absurd h3 (by rw [g4 j h1 z]; decide)
theorem lwB_odd {a m : Nat} (ha : a < 64) : lwB (2 ^ a * (2 * m + 1)) = a := by
  unfold lwB
  rw [fst1_eq (j := a) (Nat.zero_le _) ha ?_ ?_]
  · rfl
  · show (2 ^ a * (2 * m + 1)).testBit a = true
    rw [odd_tb, decide_eq_true (Nat.le_refl _), decide_eq_true rfl]
    rfl
  · intro i _ hi
    show (2 ^ a * (2 * m + 1)).testBit i = false
    rw [odd_tb, decide_eq_false (by omega)]
    rfl
theorem odd_lt {a m : Nat} {k : Nat} (h : 2 ^ a * (2 * m + 1) < 2 ^ k) : a < k ∧ m < 2 ^ (k - 1 - a) := by
  have ha : a < k := by
    apply Nat.lt_of_not_le
    intro z
    have h1 := Nat.pow_le_pow_right (n := 2) (by decide) z
    have h2 : 2 ^ a * 1 ≤ 2 ^ a * (2 * m + 1) := Nat.mul_le_mul_left _ (by omega)
    omega
  refine ⟨ha, ?_⟩
  rw [show k = a + 1 + (k - 1 - a) by omega, Nat.pow_add, Nat.pow_succ, Nat.mul_assoc] at h
  have h3 := Nat.lt_of_mul_lt_mul_left h
  omega
/-- a set and its opposite number have the least place alone in common -/
theorem low_and {a m : Nat} (h : 2 ^ a * (2 * m + 1) < 2 ^ 64) : (2 ^ a * (2 * m + 1)) &&& (2 ^ 64 - 2 ^ a * (2 * m + 1)) = 2 ^ a := by
  obtain ⟨ha, hm⟩ := odd_lt h
  have e : 2 ^ 64 - 2 ^ a * (2 * m + 1) = 2 ^ a * (2 * (2 ^ (63 - a) - (m + 1)) + 1) := by
    have e1 : (2 : Nat) ^ 64 = 2 ^ a * (2 * 2 ^ (63 - a)) := by
      rw [show 2 * 2 ^ (63 - a) = 2 ^ (64 - a) by rw [Nat.mul_comm, ← Nat.pow_succ]; congr 1; omega, ← Nat.pow_add]
      congr 1
      omega
    rw [e1, ← Nat.mul_sub]
    congr 1
    have hm' : m < 2 ^ (63 - a) := hm
    omega
  rw [e]
  apply Nat.eq_of_testBit_eq
  intro j
  rw [Nat.testBit_and, odd_tb, odd_tb, Nat.testBit_two_pow]
  by_cases h1 : a ≤ j
  · rw [decide_eq_true h1]
    by_cases h2 : j = a
    · rw [decide_eq_true h2, decide_eq_true h2.symm]
      rfl
    · rw [decide_eq_false h2, decide_eq_false (fun z => h2 z.symm), Nat.testBit_two_pow_sub_succ hm]
      cases m.testBit (j - a - 1) <;> simp
  · rw [decide_eq_false h1, decide_eq_false (show ¬ a = j by omega)]
    rfl
/-- a set less its least place -/
theorem clr_odd (a m : Nat) : (2 ^ a * (2 * m + 1)) &&& (2 ^ a * (2 * m + 1) - 1) = 2 ^ (a + 1) * m := by
  have e : 2 ^ a * (2 * m + 1) - 1 = 2 ^ a * (2 * m) + (2 ^ a - 1) := by
    have := Nat.two_pow_pos a
    rw [Nat.mul_add, Nat.mul_one]
    omega
  rw [e]
  apply Nat.eq_of_testBit_eq
  intro j
  have hlt : 2 ^ a - 1 < 2 ^ a := Nat.sub_lt (Nat.two_pow_pos a) (by decide)
  rw [Nat.testBit_and, odd_tb, Nat.testBit_two_pow_mul_add _ hlt, Nat.mul_comm (2 ^ (a + 1)), Nat.testBit_mul_two_pow]
  by_cases h1 : j < a
  · rw [decide_eq_false (show ¬ a ≤ j by omega), decide_eq_false (show ¬ a + 1 ≤ j by omega)]
    rfl
  · rw [if_neg h1, decide_eq_true (show a ≤ j by omega), Bool.true_and]
    by_cases h2 : j = a
    · subst h2
      rw [Nat.sub_self, decide_eq_false (show ¬ j + 1 ≤ j by omega), show (2 * m).testBit 0 = false from (Nat.testBit_zero _).trans (decide_eq_false (by omega)), Bool.and_false]
      rfl
    · obtain ⟨d, rfl⟩ : ∃ d, j = a + 1 + d := ⟨j - a - 1, by omega⟩
      rw [decide_eq_false h2, Bool.false_or, show a + 1 + d - a - 1 = d by omega, show a + 1 + d - a = d + 1 by omega, show a + 1 + d - (a + 1) = d by omega, Nat.testBit_succ, show 2 * m / 2 = m by omega, decide_eq_true (show a + 1 ≤ a + 1 + d by omega), Bool.true_and, Bool.and_self]
theorem lN_neg {n : Nat} (h0 : 0 < n) (h : n < 2 ^ 64) : -(lN n) = lN (2 ^ 64 - n) := by
  apply wb_inj
  apply BitVec.eq_of_toNat_eq
  rw [Int64.toBitVec_neg, BitVec.toNat_neg, wb_tn h, wb_tn (by omega), Nat.mod_eq_of_lt (by omega)]
/-- lists of places that rise -/
def asc : List Nat → Nat → Prop
  | [], _ => True
  | a :: t, b => b ≤ a ∧ a < 63 ∧ asc t (a + 1)
def bsN : List Nat → Nat
  | [] => 0
  | a :: t => 2 ^ a + bsN t
theorem bsN_dv : ∀ (l : List Nat) (b : Nat), asc l b → ∃ m, bsN l = 2 ^ b * m ∧ bsN l < 2 ^ 63
  | [], b, _ => ⟨0, rfl, by decide⟩
  | a :: t, b, h => by
    obtain ⟨h1, h2, h3⟩ := h
    obtain ⟨m, e, hl⟩ := bsN_dv t (a + 1) h3
    have e1 : bsN (a :: t) = 2 ^ a * (2 * m + 1) := by
      show 2 ^ a + bsN t = _
      rw [e, Nat.pow_succ, Nat.mul_add, Nat.mul_one, Nat.mul_assoc]
      omega
    refine ⟨2 ^ (a - b) * (2 * m + 1), ?_, ?_⟩
    · rw [e1, ← Nat.mul_assoc, ← Nat.pow_add]
      congr 2
      omega
    · rw [e1]
      have e63 : (2 : Nat) ^ 63 = 2 ^ (a + 1) * 2 ^ (62 - a) := by
        rw [← Nat.pow_add]
        congr 1
        omega
      rw [e, e63] at hl
      have hm := Nat.lt_of_mul_lt_mul_left hl
      have : 2 * m + 1 < 2 ^ (63 - a) := by
        rw [show 63 - a = 62 - a + 1 by omega, Nat.pow_succ]
        omega
      rw [show (2 : Nat) ^ 63 = 2 ^ a * 2 ^ (63 - a) by rw [← Nat.pow_add]; congr 1; omega]
      exact Nat.mul_lt_mul_of_pos_left this (Nat.two_pow_pos a)
theorem bsN_odd {a b : Nat} {t : List Nat} (h : asc (a :: t) b) : ∃ m, bsN (a :: t) = 2 ^ a * (2 * m + 1) ∧ bsN t = 2 ^ (a + 1) * m := by
  obtain ⟨m, e, _⟩ := bsN_dv t (a + 1) h.2.2
  refine ⟨m, ?_, e⟩
  show 2 ^ a + bsN t = _
  rw [e, Nat.pow_succ, Nat.mul_add, Nat.mul_one, Nat.mul_assoc]
  omega
theorem bsN_lt {l : List Nat} {b : Nat} (h : asc l b) : bsN l < 2 ^ 63 := (bsN_dv l b h).choose_spec.2
theorem bsN_pos {a b : Nat} {t : List Nat} (h : asc (a :: t) b) : bsN (a :: t) ≠ 0 := by
  have := Nat.two_pow_pos a
  show 2 ^ a + bsN t ≠ 0
  omega
theorem bsN_low {a b : Nat} {t : List Nat} (h : asc (a :: t) b) : lwB (bsN (a :: t)) = a := by
  obtain ⟨m, e, _⟩ := bsN_odd h
  rw [e]
  exact lwB_odd (by have := h.2.1; omega)
theorem bsN_clr {a b : Nat} {t : List Nat} (h : asc (a :: t) b) : bsN (a :: t) &&& (bsN (a :: t) - 1) = bsN t := by
  obtain ⟨m, e, e2⟩ := bsN_odd h
  rw [e, e2]
  exact clr_odd a m
theorem asc_le {b b' : Nat} : ∀ {l : List Nat}, asc l b → b' ≤ b → asc l b'
  | [], _, _ => trivial
  | _ :: _, h, hb => ⟨by have := h.1; omega, h.2⟩
theorem asc_mem : ∀ {l : List Nat} {b j : Nat}, asc l b → j ∈ l → b ≤ j ∧ j < 63
  | a :: t, b, j, h, hj => by
    rcases List.mem_cons.mp hj with z | z
    · rw [z]; exact ⟨h.1, h.2.1⟩
    · have := asc_mem h.2.2 z
      have := h.1
      omega
theorem bsN_tb : ∀ {l : List Nat} {b : Nat} (j : Nat), asc l b → (bsN l).testBit j = decide (j ∈ l)
  | [], _, j, _ => by rw [show bsN [] = 0 from rfl, Nat.zero_testBit]; exact (decide_eq_false (fun z => by cases z)).symm
  | a :: t, b, j, h => by
    obtain ⟨m, e, e2⟩ := bsN_odd h
    have ih := bsN_tb (l := t) j h.2.2
    rw [e2, Nat.mul_comm, Nat.testBit_mul_two_pow] at ih
    rw [e, odd_tb]
    have hm := fun hj => asc_mem (l := t) (j := j) h.2.2 hj
    by_cases h1 : j = a
    · rw [decide_eq_true h1, decide_eq_true (show a ≤ j by omega), decide_eq_true (List.mem_cons.mpr (Or.inl h1))]
      rfl
    · rw [decide_eq_false h1, Bool.false_or]
      have e3 : decide (j ∈ a :: t) = decide (j ∈ t) := decide_eq_decide.mpr ⟨fun z => (List.mem_cons.mp z).resolve_left h1, fun z => List.mem_cons.mpr (Or.inr z)⟩
      rw [e3, ← ih]
      by_cases h2 : a ≤ j
      · rw [decide_eq_true h2, decide_eq_true (show a + 1 ≤ j by omega), show j - a - 1 = j - (a + 1) by omega]
      · rw [decide_eq_false h2, decide_eq_false (show ¬ a + 1 ≤ j by omega)]
        rfl
theorem cnt_mem : ∀ {l : List Nat} {b n : Nat}, asc l b → (∀ j ∈ l, j < n) → cntB (fun j => decide (j ∈ l)) n = l.length
  | [], b, n, _, _ => (cntB_cg n (fun j _ => decide_eq_false (fun z => by cases z))).trans (cntB_f n)
  | a :: t, b, n, h, hn => by
    have ha := hn a List.mem_cons_self
    have ih := cnt_mem (l := t) (n := n) h.2.2 (fun j hj => hn j (List.mem_cons.mpr (Or.inr hj)))
    have na : a ∉ t := fun z => by
      have := asc_mem h.2.2 z
      omega
    obtain ⟨d, rfl⟩ : ∃ d, n = a + (1 + d) := ⟨n - a - 1, by omega⟩
    rw [cntB_add a, cntB_add 1] at ih ⊢
    have e1 : cntB (fun j => decide (j ∈ a :: t)) a = cntB (fun j => decide (j ∈ t)) a := cntB_cg a (fun j hj => decide_eq_decide.mpr ⟨fun z => (List.mem_cons.mp z).resolve_left (by omega), fun z => List.mem_cons.mpr (Or.inr z)⟩)
    have e2 : cntB (fun j => decide (a + j ∈ a :: t)) 1 = 1 := (cntB_s1 (k := 0) (decide_eq_true List.mem_cons_self))
    have e3 : cntB (fun j => decide (a + j ∈ t)) 1 = 0 := (cntB_s0 (k := 0) (decide_eq_false na))
    have e4 : cntB (fun j => decide (a + (1 + j) ∈ a :: t)) d = cntB (fun j => decide (a + (1 + j) ∈ t)) d := cntB_cg d (fun j hj => decide_eq_decide.mpr ⟨fun z => (List.mem_cons.mp z).resolve_left (by omega), fun z => List.mem_cons.mpr (Or.inr z)⟩)
    rw [e3] at ih
    rw [e1, e2, e4]
    show _ = t.length + 1
    omega
theorem bsN_pop {l : List Nat} {b : Nat} (h : asc l b) : pop (bsN l) = l.length := by
  unfold pop
  rw [cntB_cg 64 (fun j _ => bsN_tb j h)]
  exact cnt_mem h (fun j hj => by have := asc_mem h hj; omega)
theorem bsN_inj : ∀ {l l' : List Nat} {b b' : Nat}, asc l b → asc l' b' → bsN l = bsN l' → l = l'
  | [], [], _, _, _, _, _ => rfl
  | [], a :: t, _, _, _, h, e => absurd e.symm (bsN_pos h)
  | a :: t, [], _, _, h, _, e => absurd e (bsN_pos h)
  | a :: t, a' :: t', _, _, h, h', e => by
    have e1 := bsN_low h
    rw [e, bsN_low h'] at e1
    have e2 := bsN_clr h
    rw [e, bsN_clr h'] at e2
    rw [e1, bsN_inj h.2.2 h'.2.2 e2.symm]
theorem bsN_0 {l : List Nat} {b : Nat} (h : asc l b) : bsN l = 0 ↔ l = [] := by
  cases l with
  | nil => exact ⟨fun _ => rfl, fun _ => rfl⟩
  | cons a t => exact ⟨fun z => absurd z (bsN_pos h), fun z => by cases z⟩
/-- .. of a list's starts and ends -/
def bsA (l : List (Nat × Nat)) : Nat := bsN (l.map Prod.fst)
def bsE (l : List (Nat × Nat)) : Nat := bsN (l.map Prod.snd)
theorem asc_of {f : Nat × Nat → Nat} : ∀ {l : List (Nat × Nat)} {b : Nat}, (∀ i, i < l.length → b ≤ f (l.getD i (0, 0)) ∧ f (l.getD i (0, 0)) < 63) → (∀ i, i + 1 < l.length → f (l.getD i (0, 0)) < f (l.getD (i + 1) (0, 0))) → asc (l.map f) b
  | [], _, _, _ => trivial
  | q :: t, b, h1, h2 => by
    have h0 : b ≤ f q ∧ f q < 63 := h1 0 (Nat.zero_lt_succ _)
    refine ⟨h0.1, h0.2, asc_of (l := t) ?_ ?_⟩
    · intro i hi
      have hk : ∀ k, k < t.length → f q < f (t.getD k (0, 0)) := by
        intro k
        induction k with
        | zero => intro hk; exact h2 0 (by show 0 + 1 < t.length + 1; omega)
        | succ k ih =>
          intro hk
          have a1 := ih (by omega)
          have a2 : f (t.getD k (0, 0)) < f (t.getD (k + 1) (0, 0)) := h2 (k + 1) (by show k + 1 + 1 < t.length + 1; omega)
          omega
      exact ⟨hk i hi, (h1 (i + 1) (by show i + 1 < t.length + 1; omega)).2⟩
    · intro i hi
      exact h2 (i + 1) (by show i + 1 + 1 < t.length + 1; omega)
theorem srt_asc {l : List (Nat × Nat)} {n : Nat} (h : srt l n) (hn : n < 63) : asc (l.map Prod.fst) 0 ∧ asc (l.map Prod.snd) 0 := by
  refine ⟨asc_of (fun i hi => ⟨Nat.zero_le _, ?_⟩) (fun i hi => ?_), asc_of (fun i hi => ⟨Nat.zero_le _, ?_⟩) (fun i hi => ?_)⟩
  · obtain ⟨a1, a2, a3⟩ := h i hi
    omega
  · obtain ⟨a1, a2, a3⟩ := h i (by omega)
    have := a3 hi
    omega
  · obtain ⟨a1, a2, a3⟩ := h i hi
    omega
  · obtain ⟨a1, a2, a3⟩ := h i (by omega)
    obtain ⟨b1, b2, b3⟩ := h (i + 1) hi
    have := a3 hi
    omega
theorem pr_ext : ∀ {l l' : List (Nat × Nat)}, l.map Prod.fst = l'.map Prod.fst → l.map Prod.snd = l'.map Prod.snd → l = l'
  | [], [], _, _ => rfl
  | [], _ :: _, h, _ => by cases h
  | _ :: _, [], h, _ => by cases h
  | (a, b) :: t, (a', b') :: t', h, g => by
    obtain ⟨h1, h2⟩ := List.cons.inj h
    obtain ⟨g1, g2⟩ := List.cons.inj g
    rw [pr_ext h2 g2]
    have h1 : a = a' := h1
    have g1 : b = b' := g1
    rw [h1, g1]
theorem bs_inj {l l' : List (Nat × Nat)} {n n' : Nat} (h : srt l n) (hn : n < 63) (h' : srt l' n') (hn' : n' < 63) (e1 : bsA l = bsA l') (e2 : bsE l = bsE l') : l = l' := pr_ext (bsN_inj (srt_asc h hn).1 (srt_asc h' hn').1 e1) (bsN_inj (srt_asc h hn).2 (srt_asc h' hn').2 e2)
/-- a span of places -/
theorem span_tb {s e : Nat} (h : s ≤ e) (j : Nat) : (2 ^ e - 2 ^ s).testBit j = decide (s ≤ j ∧ j < e) := by
  have e1 : 2 ^ e - 2 ^ s = (2 ^ (e - s) - 1) * 2 ^ s := by
    rw [Nat.sub_mul, ← Nat.pow_add, Nat.one_mul]
    congr 2
    omega
  rw [e1, Nat.testBit_mul_two_pow, Nat.testBit_two_pow_sub_one]
  by_cases h1 : s ≤ j
  · rw [decide_eq_true h1, Bool.true_and]
    exact decide_eq_decide.mpr (by omega)
  · rw [decide_eq_false h1, Bool.false_and]
    exact (decide_eq_false (by omega)).symm
theorem lwB_mask {n s e : Nat} {P : Nat → Bool} (he : e ≤ 64) (h : ∀ j, n.testBit j = (P j && decide (s ≤ j ∧ j < e))) : (n = 0 ↔ fst1 P s e = none) ∧ ∀ j, fst1 P s e = some j → lwB n = j := by
  refine ⟨⟨fun z => ?_, fun z => ?_⟩, fun j hj => ?_⟩
  · cases q : fst1 P s e with
    | none => rfl
    | some j =>
      obtain ⟨g1, g2, g3, _⟩ := fst1_some q
      have := h j
      rw [z, Nat.zero_testBit, g3, decide_eq_true ⟨g1, g2⟩] at this
      cases this
  · apply Nat.eq_of_testBit_eq
    intro j
    rw [Nat.zero_testBit, h j]
    by_cases hj : s ≤ j ∧ j < e
    · rw [fI_none _ _ z j hj.1 (by omega)]
      rfl
    · rw [decide_eq_false hj, Bool.and_false]
  · obtain ⟨g1, g2, g3, g4⟩ := fst1_some hj
    unfold lwB
    rw [fst1_eq (j := j) (Nat.zero_le _) (by omega) ?_ ?_]
    · rfl
    · show n.testBit j = true
      rw [h j, g3, decide_eq_true ⟨g1, g2⟩]
      rfl
    · intro i _ hi
      show n.testBit i = false
      rw [h i]
      by_cases z : s ≤ i
      · rw [g4 i z hi]; rfl
      · rw [decide_eq_false (by omega), Bool.and_false]
theorem lwB_le (n : Nat) : lwB n ≤ 64 := by
  unfold lwB
  cases e : fst1 (fun j => n.testBit j) 0 64 with
  | none => exact Nat.le_refl _
  | some j => exact Nat.le_of_lt (fst1_some e).2.1
