/-! ===== rows found by hash ===== -/
theorem pgn : ∀ (n : Nat) (g : Nat → Nat), (∀ i, i ≤ n → g i < n) → ∃ i j, i < j ∧ j ≤ n ∧ g i = g j
  | 0, g, h => absurd (h 0 (by omega)) (by omega)
  | n + 1, g, h => by
    by_cases c : ∃ i, i ≤ n ∧ g i = g (n + 1)
    · obtain ⟨i, hi, e⟩ := c
      exact ⟨i, n + 1, by omega, by omega, e⟩
    · obtain ⟨i, j, hij, hj, e⟩ := pgn n (fun i => if g i = n then g (n + 1) else g i) (fun i hi => by
        have h1 := h i (by omega)
        have h2 := h (n + 1) (by omega)
        have h3 : ¬ g i = g (n + 1) := fun e => c ⟨i, hi, e⟩
        by_cases e : g i = n
        · simp only [e, if_true]
          omega
        · simp only [e, if_false]
          omega)
      refine ⟨i, j, hij, by omega, ?_⟩
      have hi3 : ¬ g i = g (n + 1) := fun e => c ⟨i, by omega, e⟩
      have hj3 : ¬ g j = g (n + 1) := fun e => c ⟨j, by omega, e⟩
      by_cases ei : g i = n
      · by_cases ej : g j = n
        · omega
        · simp only [ei, ej, if_true, if_false] at e
          exact absurd e.symm hj3
      · by_cases ej : g j = n
        · simp only [ei, ej, if_true, if_false] at e
          exact absurd e hi3
        · simp only [ei, ej, if_false] at e
          exact e
/-- slots T of a table of 32768: of n things, each found from its hash on -/
def hsh {κ : Type} (H : κ → Nat) (K : Nat → κ) (n : Nat) (T : Nat → Nat) : Prop := (∀ s, s < 32768 → T s ≤ n) ∧ (∀ s s', s < 32768 → s' < 32768 → T s ≠ 0 → T s = T s' → s = s') ∧ ∀ i, i < n → ∃ d, T ((H (K i) + d) % 32768) = i + 1 ∧ ∀ e, e < d → T ((H (K i) + e) % 32768) ≠ 0
theorem hsh_0 {κ : Type} {H : κ → Nat} {K : Nat → κ} : hsh H K 0 (fun _ => 0) := ⟨fun _ _ => Nat.le_refl _, fun _ _ _ _ h => absurd rfl h, fun i hi => absurd hi (by omega)⟩
theorem hsh_free {κ : Type} {H : κ → Nat} {K : Nat → κ} {n : Nat} {T : Nat → Nat} (q : hsh H K n T) (hn : n < 32768) (x : Nat) : ∃ d, d < 32768 ∧ T ((x + d) % 32768) = 0 := by
  refine Classical.byContradiction (fun c => ?_)
  have h1 : ∀ d, d < 32768 → T ((x + d) % 32768) ≠ 0 := fun d hd e => c ⟨d, hd, e⟩
  obtain ⟨i, j, hij, hj, e⟩ := pgn 32767 (fun d => T ((x + d) % 32768) - 1) (fun d hd => by
    have h2 := q.1 ((x + d) % 32768) (Nat.mod_lt _ (by decide))
    have h3 := h1 d (by omega)
    show T ((x + d) % 32768) - 1 < 32767
    omega)
  have h2 := h1 i (by omega)
  have h3 := h1 j (by omega)
  have e2 : T ((x + i) % 32768) = T ((x + j) % 32768) := by
    have : T ((x + i) % 32768) - 1 = T ((x + j) % 32768) - 1 := e
    omega
  have := q.2.1 _ _ (Nat.mod_lt _ (by decide)) (Nat.mod_lt _ (by decide)) h2 e2
  omega
/-- an empty slot behind a way that is full: the thing isn't there -/
theorem hsh_no {κ : Type} {H : κ → Nat} {K : Nat → κ} {n : Nat} {T : Nat → Nat} (q : hsh H K n T) {k : κ} {d : Nat} (hw : ∀ e, e < d → T ((H k + e) % 32768) ≠ 0 ∧ K (T ((H k + e) % 32768) - 1) ≠ k) (h0 : T ((H k + d) % 32768) = 0) : ∀ i, i < n → K i ≠ k := by
  intro i hi e
  obtain ⟨d1, h1, h2⟩ := q.2.2 i hi
  rw [e] at h1 h2
  rcases Nat.lt_trichotomy d1 d with z | z | z
  · have := (hw d1 z).2
    rw [h1] at this
    exact this (by rw [show i + 1 - 1 = i by omega]; exact e)
  · subst z
    omega
  · exact h2 d z h0
theorem hsh_add {κ : Type} {H : κ → Nat} {K : Nat → κ} {n : Nat} {T : Nat → Nat} (q : hsh H K n T) {k : κ} {d : Nat} (hw : ∀ e, e < d → T ((H k + e) % 32768) ≠ 0) (h0 : T ((H k + d) % 32768) = 0) : hsh H (fun i => if i = n then k else K i) (n + 1) (fun s => if s = (H k + d) % 32768 then n + 1 else T s) := by
  have hm : (H k + d) % 32768 < 32768 := Nat.mod_lt _ (by decide)
  refine ⟨fun s hs => ?_, fun s s' hs hs' hz e => ?_, fun i hi => ?_⟩
  · have := q.1 s hs
    show (if s = (H k + d) % 32768 then n + 1 else T s) ≤ n + 1
    split <;> omega
  · have h1 := q.1 s hs
    have h2 := q.1 s' hs'
    simp only at hz e
    by_cases a : s = (H k + d) % 32768
    · by_cases b : s' = (H k + d) % 32768
      · omega
      · rw [if_pos a, if_neg b] at e
        omega
    · by_cases b : s' = (H k + d) % 32768
      · rw [if_neg a, if_pos b] at e
        omega
      · rw [if_neg a, if_neg b] at e
        rw [if_neg a] at hz
        exact q.2.1 s s' hs hs' hz e
  · by_cases c : i = n
    · subst c
      refine ⟨d, ?_, fun e he => ?_⟩
      · simp only [if_true]
      · simp only [if_true]
        split
        · omega
        · exact hw e he
    · obtain ⟨d1, h1, h2⟩ := q.2.2 i (by omega)
      refine ⟨d1, ?_, fun e he => ?_⟩
      · simp only [if_neg c]
        rw [if_neg (fun z => by rw [z, h0] at h1; omega)]
        exact h1
      · simp only [if_neg c]
        split
        · omega
        · exact h2 e he
