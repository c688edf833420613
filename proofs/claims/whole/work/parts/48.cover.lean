/-! ===== covers: sets of pages as numbers below 64 ===== -/
def cvC (R : Nat × Nat × Nat) (k key : Nat) : Nat × Nat × Nat := (1 + R.1, key / 4294967296 + R.2.1, k)
def btr (B : Nat → Option Nat) (c : Nat × Nat × Nat) (key : Nat) (cur : Option (Nat × Nat × Nat)) : Bool := match cur with
  | none => true
  | some d => if c.1 ≠ d.1 then decide (c.1 < d.1) else if c.2.1 ≠ d.2.1 then decide (c.2.1 < d.2.1) else decide (key < (B d.2.2).getD 0)
/-- the best first rule, by its set k < n that has the bit l -/
def cvG (B : Nat → Option Nat) (rest : Nat → Nat × Nat × Nat) (l : Nat) : Nat → Option (Nat × Nat × Nat)
  | 0 => none
  | k + 1 => match B k with
    | none => cvG B rest l k
    | some key => if k.testBit l = true ∧ btr B (cvC (rest k) k key) key (cvG B rest l k) = true then some (cvC (rest k) k key) else cvG B rest l k
section CV
variable {B : Nat → Option Nat} {rest rest' : Nat → Nat × Nat × Nat} {l : Nat}
theorem cvG_no {k : Nat} (h : B k = none ∨ k.testBit l = false) : cvG B rest l (k + 1) = cvG B rest l k := by
  show (match B k with | none => _ | some key => _) = _
  cases c : B k with
  | none => rfl
  | some key =>
    show (if _ then _ else _) = _
    rw [if_neg]
    rintro ⟨z, _⟩
    rcases h with h | h
    · rw [c] at h
      cases h
    · rw [h] at z
      cases z
theorem cvG_s {k key : Nat} (h : B k = some key) (hl : k.testBit l = true) : cvG B rest l (k + 1) = if btr B (cvC (rest k) k key) key (cvG B rest l k) = true then some (cvC (rest k) k key) else cvG B rest l k := by
  show (match B k with | none => _ | some key => _) = _
  rw [h]
  show (if _ ∧ _ then _ else _) = _
  rw [hl]
  simp only [true_and]
theorem cvG_cg : ∀ n, (∀ k, k < n → k.testBit l = true → B k ≠ none → rest k = rest' k) → cvG B rest l n = cvG B rest' l n
  | 0, _ => rfl
  | n + 1, h => by
    have ih := cvG_cg n (fun k hk => h k (by omega))
    cases c : B n with
    | none => rw [cvG_no (Or.inl c), cvG_no (Or.inl c), ih]
    | some key =>
      cases d : n.testBit l with
      | false => rw [cvG_no (Or.inr d), cvG_no (Or.inr d), ih]
      | true => rw [cvG_s c d, cvG_s c d, ih, h n (by omega) d (by rw [c]; exact fun z => by cases z)]
theorem cvG_bd {a b : Nat} (hB : ∀ k, k < 64 → ∀ key, B k = some key → key < 1099511627776) : ∀ n, n ≤ 64 → (∀ k, k < n → k.testBit l = true → B k ≠ none → (rest k).1 ≤ a ∧ (rest k).2.1 ≤ b) → ∀ d, cvG B rest l n = some d → d.1 ≤ a + 1 ∧ d.2.1 ≤ b + 256 ∧ d.2.2 < n ∧ d.2.2.testBit l = true ∧ (∃ key, B d.2.2 = some key) ∧ d.1 = 1 + (rest d.2.2).1
  | 0, _, _, d, e => by cases e
  | n + 1, hn, h, d, e => by
    have ih := cvG_bd hB n (by omega) (fun k hk => h k (by omega)) d
    have up : (d.1 ≤ a + 1 ∧ d.2.1 ≤ b + 256 ∧ d.2.2 < n ∧ d.2.2.testBit l = true ∧ (∃ key, B d.2.2 = some key) ∧ d.1 = 1 + (rest d.2.2).1) → (d.1 ≤ a + 1 ∧ d.2.1 ≤ b + 256 ∧ d.2.2 < n + 1 ∧ d.2.2.testBit l = true ∧ (∃ key, B d.2.2 = some key) ∧ d.1 = 1 + (rest d.2.2).1) := fun z => ⟨z.1, z.2.1, by omega, z.2.2.2⟩
    cases c : B n with
    | none =>
      rw [cvG_no (Or.inl c)] at e
      exact up (ih e)
    | some key =>
      cases t : n.testBit l with
      | false =>
        rw [cvG_no (Or.inr t)] at e
        exact up (ih e)
      | true =>
        rw [cvG_s c t] at e
        split at e
        · cases e
          have h1 := h n (by omega) t (by rw [c]; exact fun z => by cases z)
          have h2 := hB n (by omega) key c
          refine ⟨?_, ?_, Nat.lt_succ_self n, t, ⟨key, c⟩, rfl⟩
          · show 1 + (rest n).1 ≤ a + 1
            omega
          · show key / 4294967296 + (rest n).2.1 ≤ b + 256
            omega
        · exact up (ih e)
theorem cvG_some : ∀ n, (∃ k, k < n ∧ k.testBit l = true ∧ B k ≠ none) → ∃ d, cvG B rest l n = some d
  | 0, h => by
    obtain ⟨k, hk, _⟩ := h
    omega
  | n + 1, h => by
    cases c : B n with
    | none =>
      rw [cvG_no (Or.inl c)]
      obtain ⟨k, hk, t, z⟩ := h
      refine cvG_some n ⟨k, Nat.lt_of_le_of_ne (by omega) (fun e => ?_), t, z⟩
      subst e
      exact z c
    | some key =>
      cases t : n.testBit l with
      | false =>
        rw [cvG_no (Or.inr t)]
        obtain ⟨k, hk, t2, z⟩ := h
        refine cvG_some n ⟨k, Nat.lt_of_le_of_ne (by omega) (fun e => ?_), t2, z⟩
        subst e
        rw [t] at t2
        cases t2
      | true =>
        rw [cvG_s c t]
        cases e : cvG B rest l n with
        | none => exact ⟨_, if_pos rfl⟩
        | some d =>
          split
          · exact ⟨_, rfl⟩
          · exact ⟨_, rfl⟩
end CV
theorem tb_not {d p : Nat} (hd : d < 64) : (63 - d).testBit p = (decide (p < 6) && !(d.testBit p)) := by
  by_cases hp : p < 6
  · have : ∀ d : Fin 64, ∀ p : Fin 6, (63 - d.val).testBit p.val = !(d.val.testBit p.val) := by decide +kernel
    rw [this ⟨d, hd⟩ ⟨p, hp⟩, decide_eq_true hp, Bool.true_and]
  · rw [decide_eq_false hp, Bool.false_and]
    exact Nat.testBit_lt_two_pow (Nat.lt_of_lt_of_le (show 63 - d < 2 ^ 6 by omega) (Nat.pow_le_pow_right (by decide) (by omega)))
/-- the lowest bit -/
def lb (s : Nat) : Nat := rnF (fun p => !(s.testBit p)) 6 0
theorem lb_eq {s p : Nat} (hp : p < 6) (h : s.testBit p = true) (hl : ∀ j, j < p → s.testBit j = false) : lb s = p := rnF_eq 6 0 p (by omega) (by omega) (fun j _ hj => by rw [hl j hj]; rfl) (Or.inr (by rw [h]; rfl))
theorem lb_ex {s : Nat} (hs : s < 64) (h0 : s ≠ 0) : s.testBit (lb s) = true ∧ lb s < 6 ∧ ∀ j, j < lb s → s.testBit j = false := by
  obtain ⟨q, hq⟩ := Nat.exists_testBit_of_ne_zero h0
  obtain ⟨p, h1, h2⟩ := pk_least (fun p => s.testBit p = true) ⟨q, hq⟩
  have h3 : ∀ j, j < p → s.testBit j = false := fun j hj => by
    cases c : s.testBit j with
    | false => rfl
    | true => exact absurd c (h2 j hj)
  rw [lb_eq (tb6 hs h1) h1 h3]
  exact ⟨h1, tb6 hs h1, h3⟩
def goN (B : Nat → Option Nat) : Nat → Nat
  | 0 => 0
  | k + 1 => goN B k ||| (if B k = none then 0 else k)
theorem goN_tb {B : Nat → Option Nat} : ∀ n p, (goN B n).testBit p = true ↔ ∃ k, k < n ∧ B k ≠ none ∧ k.testBit p = true
  | 0, p => by
    show (0 : Nat).testBit p = true ↔ _
    rw [Nat.zero_testBit]
    exact ⟨fun z => Bool.noConfusion z, fun ⟨k, hk, _⟩ => absurd hk (by omega)⟩
  | n + 1, p => by
    show (goN B n ||| _).testBit p = true ↔ _
    rw [Nat.testBit_or, Bool.or_eq_true, goN_tb n p]
    constructor
    · rintro (⟨k, hk, z⟩ | z)
      · exact ⟨k, by omega, z⟩
      · by_cases c : B n = none
        · rw [if_pos c, Nat.zero_testBit] at z
          cases z
        · rw [if_neg c] at z
          exact ⟨n, by omega, c, z⟩
    · rintro ⟨k, hk, z1, z2⟩
      by_cases e : k = n
      · subst e
        rw [if_neg z1]
        exact Or.inr z2
      · exact Or.inl ⟨k, by omega, z1, z2⟩
theorem goN_lt {B : Nat → Option Nat} : ∀ n, n ≤ 64 → goN B n < 64
  | 0, _ => (by decide : 0 < 64)
  | n + 1, h => by
    show goN B n ||| _ < 64
    refine lt64_or (goN_lt n (by omega)) ?_
    split <;> omega
theorem sub_tb {d g : Nat} (hg : g < 64) (h : d &&& (63 - g) = 0) (hd : d < 64) {p : Nat} (hp : d.testBit p = true) : g.testBit p = true := by
  cases c : g.testBit p with
  | true => rfl
  | false =>
    refine absurd h (and_ne.mpr ⟨p, hp, ?_⟩)
    rw [tb_not hg, decide_eq_true (tb6 hd hp), c]
    rfl
theorem sub_of {d g : Nat} (hg : g < 64) (h : ∀ p, d.testBit p = true → g.testBit p = true) : d &&& (63 - g) = 0 := by
  refine Classical.byContradiction (fun c => ?_)
  obtain ⟨p, h1, h2⟩ := and_ne.mp c
  rw [tb_not hg, h p h1] at h2
  revert h2
  cases decide (p < 6) <;> decide
theorem or_gt {d k l : Nat} (hl : d.testBit l = false) (hk : k.testBit l = true) : d < d ||| k := by
  refine Nat.lt_of_le_of_ne Nat.left_le_or (fun e => ?_)
  have : (d ||| k).testBit l = true := by rw [Nat.testBit_or, hk, Bool.or_true]
  rw [← e, hl] at this
  cases this
theorem cntB_lt {P P' : Nat → Bool} {q : Nat} : ∀ n, (∀ p, p < n → P p = true → P' p = true) → q < n → P' q = true → P q = false → cntB P n < cntB P' n
  | 0, _, h, _, _ => by omega
  | n + 1, h, hq, h1, h2 => by
    by_cases e : q = n
    · subst e
      have : cntB P q ≤ cntB P' q := cntB_mono q (fun p hp => h p (by omega))
      rw [cntB_s0 h2, cntB_s1 h1]
      omega
    · have := cntB_lt n (fun p hp => h p (by omega)) (by omega) h1 h2
      cases c : P n with
      | false =>
        rw [cntB_s0 c]
        have : cntB P' n ≤ cntB P' (n + 1) := Nat.le_add_right _ _
        omega
      | true =>
        rw [cntB_s1 c, cntB_s1 (h n (by omega) c)]
        omega
where
  cntB_mono {P P' : Nat → Bool} : ∀ n, (∀ p, p < n → P p = true → P' p = true) → cntB P n ≤ cntB P' n
    | 0, _ => Nat.le_refl _
    | n + 1, h => by
      have := cntB_mono n (fun p hp => h p (by omega))
      cases c : P n with
      | false =>
        rw [cntB_s0 c]
        have : cntB P' n ≤ cntB P' (n + 1) := Nat.le_add_right _ _
        omega
      | true =>
        rw [cntB_s1 c, cntB_s1 (h n (by omega) c)]
        omega
/-- rows of covers, by what is done -/
def cdP (B : Nat → Option Nat) (D : Nat → Nat × Nat × Nat) (g : Nat) : Prop := D g = (0, 0, 0) ∧ ∀ d, d < 64 → d &&& (63 - g) = 0 → d ≠ g → cvG B (fun k => D (d ||| k)) (lb (g &&& (63 - d))) 64 = some (D d)
def cvLs (B : Nat → Option Nat) (D : Nat → Nat × Nat × Nat) (g : Nat) : Nat → Nat → List Nat
  | 0, _ => []
  | n + 1, d => if d = g then [] else (B (D d).2.2).getD 0 :: cvLs B D g n (d ||| (D d).2.2)
/-- by what is left to cover -/
def cvP (B : Nat → Option Nat) (M : Nat → Nat × Nat × Nat) (g : Nat) : Prop := M 0 = (0, 0, 0) ∧ ∀ s, 0 < s → s < 64 → s &&& (63 - g) = 0 → cvG B (fun k => M (s &&& (63 - k))) (lb s) 64 = some (M s)
def cvLr (B : Nat → Option Nat) (M : Nat → Nat × Nat × Nat) : Nat → Nat → List Nat
  | 0, _ => []
  | n + 1, s => if s = 0 then [] else (B (M s).2.2).getD 0 :: cvLr B M n (s &&& (63 - (M s).2.2))
