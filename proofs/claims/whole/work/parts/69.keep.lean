/-! ===== what holds of a row is kept ===== -/
theorem nOf_l {n : Nat} (h : n < 2147483648) : nOf (lN n) = n := by
  unfold nOf
  rw [lN_toInt h]
  exact Int.toNat_natCast n
/-- the numbers of a mark -/
def mkN (r' : Nat → Int64) (f p m : Nat) (A B : Nat → Nat) : Prop := r' (rX f p) = lN m ∧ m ≤ 8 ∧ ∀ i, i < 8 → r' (rX f p + 1 + 2 * i) = lN (A i) ∧ r' (rX f p + 2 + 2 * i) = lN (B i) ∧ A i ≤ B i ∧ B i ≤ 40 ∧ (m ≤ i → A i = 0 ∧ B i = 0) ∧ (i < m → A i < B i ∧ (i + 1 < m → B i ≤ A (i + 1)))
theorem mkN_r {r' : Nat → Int64} {f p m : Nat} {A B : Nat → Nat} (q : mkN r' f p m A B) : rM r' f p = m ∧ ∀ i, i < 8 → rA r' f p i = A i ∧ rB r' f p i = B i := by
  have h1 := q.2.1
  refine ⟨?_, fun i hi => ?_⟩
  · unfold rM
    rw [q.1, nOf_l (by omega)]
  · have h2 := q.2.2 i hi
    unfold rA rB
    rw [h2.1, h2.2.1, nOf_l (by omega), nOf_l (by omega)]
    exact ⟨rfl, rfl⟩
theorem rX_oth {r r' : Nat → Int64} {f p f' p' : Nat} (h : ∀ y, y < rX f p ∨ rX f p + 17 ≤ y → r' y = r y) (hp : p < 6) (hp' : p' < 6) (hne : ¬ (f' = f ∧ p' = p)) : (r' (rX f' p') = r (rX f' p') ∧ rM r' f' p' = rM r f' p') ∧ ∀ i, i < 8 → (r' (rX f' p' + 1 + 2 * i) = r (rX f' p' + 1 + 2 * i) ∧ rA r' f' p' i = rA r f' p' i) ∧ (r' (rX f' p' + 2 + 2 * i) = r (rX f' p' + 2 + 2 * i) ∧ rB r' f' p' i = rB r f' p' i) := by
  have hd : rX f' p' + 17 ≤ rX f p ∨ rX f p + 17 ≤ rX f' p' := by
    unfold rX
    omega
  refine ⟨?_, fun i hi => ⟨?_, ?_⟩⟩
  · have e := h (rX f' p') (by omega)
    exact ⟨e, by unfold rM; rw [e]⟩
  · have e := h (rX f' p' + 1 + 2 * i) (by omega)
    exact ⟨e, by unfold rA; rw [e]⟩
  · have e := h (rX f' p' + 2 + 2 * i) (by omega)
    exact ⟨e, by unfold rB; rw [e]⟩
theorem rX_lo {r r' : Nat → Int64} {f p : Nat} (h : ∀ y, y < rX f p ∨ rX f p + 17 ≤ y → r' y = r y) (hf : f < 4) (hp : p < 6) : rP r' = rP r ∧ (∀ q, q < 6 → rT r' q = rT r q) ∧ (∀ q k, q < 6 → k < 40 → rW r' q k = rW r q k) ∧ r' 0 = r 0 ∧ (∀ q, q < 6 → r' (1 + q) = r (1 + q)) ∧ ∀ y, 655 ≤ y → r' y = r y := by
  have hx : 247 ≤ rX f p ∧ rX f p + 17 ≤ 655 := by
    unfold rX
    omega
  have e0 := h 0 (by omega)
  refine ⟨by unfold rP; rw [e0], fun q hq => ?_, fun q k hq hk => ?_, e0, fun q hq => h _ (by omega), fun y hy => h y (by omega)⟩
  · unfold rT
    rw [h (1 + q) (by omega)]
  · unfold rW
    rw [h (7 + 40 * q + k) (by omega)]
theorem sOK_mark {r r' : Nat → Int64} {F : Nat} {pa my : Nat → Int32} {f p m : Nat} {A B : Nat → Nat} (s : sOK r F pa my) (hf : f < F) (hp : p < rP r) (h : ∀ y, y < rX f p ∨ rX f p + 17 ≤ y → r' y = r y) (q : mkN r' f p m A B) (hT : ∀ i, i < 8 → B i ≤ rT r p) (hpar : 0 < m → ∀ g, pa f = nI g → g < 4 → 0 < rM r g p ∧ rA r g p 0 ≤ A 0 ∧ B (m - 1) ≤ rB r g p 0) (hch : ∀ c, c < F → pa c = nI f → 0 < rM r c p → 0 < m ∧ A 0 ≤ rA r c p 0 ∧ rB r c p (rM r c p - 1) ≤ B 0) : sOK r' F pa my := by
  have hF4 := s.f4
  have hP6 := s.w.1.2
  have hlo := rX_lo h (by omega) (by omega)
  have hm := mkN_r q
  have hm8 := q.2.1
  have ho := fun f' p' (hp' : p' < 6) (hne : ¬ (f' = f ∧ p' = p)) => rX_oth h (show p < 6 by omega) hp' hne
  have hl : ∀ f', f' < 4 → r' (655 + 70 * f') = r (655 + 70 * f') ∧ lrN r' f' = lrN r f' ∧ r' (655 + 70 * f' + 1) = r (655 + 70 * f' + 1) ∧ (∀ k w, lrI r' f' k w = lrI r f' k w) ∧ (∀ w, r' (655 + 70 * f' + 26 + w) = r (655 + 70 * f' + 26 + w) ∧ lrS r' f' w = lrS r f' w) := fun f' _ => by
    refine ⟨hlo.2.2.2.2.2 _ (by omega), ?_, hlo.2.2.2.2.2 _ (by omega), fun k w => ?_, fun w => ⟨hlo.2.2.2.2.2 _ (by omega), ?_⟩⟩
    · unfold lrN
      rw [hlo.2.2.2.2.2 _ (by omega)]
    · unfold lrI
      rw [hlo.2.2.2.2.2 _ (by omega)]
    · unfold lrS
      rw [hlo.2.2.2.2.2 _ (by omega)]
  refine ⟨⟨⟨?_, ?_⟩, ?_, ?_⟩, s.f4, s.par, s.my, ?_, ?_, ?_, ?_, ?_, ?_, ?_, ?_, ?_, ?_, ?_, ?_, ?_, ?_⟩
  · rw [hlo.1, hlo.2.2.2.1]
    exact s.w.1.1
  · rw [hlo.1]
    exact hP6
  · intro q' hq'
    rw [hlo.2.1 q' hq', hlo.2.2.2.2.1 q' hq']
    exact s.w.2.1 q' hq'
  · intro f' p' hf' hp'
    by_cases e : f' = f ∧ p' = p
    · obtain ⟨e1, e2⟩ := e
      subst e1
      subst e2
      refine ⟨⟨by rw [hm.1]; exact q.1, by rw [hm.1]; exact hm8⟩, fun i hi => ?_⟩
      have h2 := q.2.2 i hi
      rw [(hm.2 i hi).1, (hm.2 i hi).2]
      exact ⟨⟨h2.1, by omega⟩, h2.2.1, by omega⟩
    · have h3 := ho f' p' hp' e
      have h4 := s.w.2.2 f' p' hf' hp'
      rw [h3.1.1, h3.1.2]
      refine ⟨h4.1, fun i hi => ?_⟩
      rw [(h3.2 i hi).1.1, (h3.2 i hi).1.2, (h3.2 i hi).2.1, (h3.2 i hi).2.2]
      exact h4.2 i hi
  · intro f' p' i hf' hp' hi
    rw [hlo.2.1 p' hp']
    by_cases e : f' = f ∧ p' = p
    · obtain ⟨e1, e2⟩ := e
      subst e1
      subst e2
      rw [(hm.2 i hi).1, (hm.2 i hi).2]
      exact ⟨(q.2.2 i hi).2.2.1, hT i hi⟩
    · have h3 := (ho f' p' hp' e).2 i hi
      rw [h3.1.2, h3.2.2]
      exact s.ab f' p' i hf' hp' hi
  · intro f' p' hf' hp' hz
    rw [hlo.1] at hz
    by_cases e : f' = f ∧ p' = p
    · omega
    · rw [(ho f' p' hp' e).1.2]
      exact s.zM f' p' hf' hp' hz
  · intro f' p' i hf' hp' hi hz
    by_cases e : f' = f ∧ p' = p
    · obtain ⟨e1, e2⟩ := e
      subst e1
      subst e2
      rw [hm.1] at hz
      rw [(hm.2 i hi).1, (hm.2 i hi).2]
      exact (q.2.2 i hi).2.2.2.2.1 hz
    · have h3 := ho f' p' hp' e
      rw [h3.1.2] at hz
      rw [(h3.2 i hi).1.2, (h3.2 i hi).2.2]
      exact s.zA f' p' i hf' hp' hi hz
  · intro f' p' i hf' hp' hi
    by_cases e : f' = f ∧ p' = p
    · obtain ⟨e1, e2⟩ := e
      subst e1
      subst e2
      rw [hm.1] at hi ⊢
      rw [(hm.2 i (by omega)).1, (hm.2 i (by omega)).2]
      have h5 := (q.2.2 i (by omega)).2.2.2.2.2 hi
      refine ⟨h5.1, fun z => ?_⟩
      rw [(hm.2 (i + 1) (by omega)).1]
      exact h5.2 z
    · have h3 := ho f' p' hp' e
      have h8 := (s.w.2.2 f' p' hf' hp').1.2
      rw [h3.1.2] at hi ⊢
      rw [(h3.2 i (by omega)).1.2, (h3.2 i (by omega)).2.2]
      have h5 := s.so f' p' i hf' hp' hi
      refine ⟨h5.1, fun z => ?_⟩
      rw [(h3.2 (i + 1) (by omega)).1.2]
      exact h5.2 z
  · intro f' p' g hf' hp' hz hg hg4
    by_cases e : f' = f ∧ p' = p
    · obtain ⟨e1, e2⟩ := e
      subst e1
      subst e2
      rw [hm.1] at hz ⊢
      have hgf : g < f' := by
        rcases s.par f' hf' with e9 | ⟨g9, hg9, e9, _⟩
        · rw [e9] at hg
          exact absurd hg.symm (nI_ne_m1 (by omega))
        · rw [e9] at hg
          have := (nI_eq (by omega) (by omega)).mp hg
          omega
      have h3 := ho g p' hp' (by omega)
      rw [h3.1.2, (h3.2 0 (by omega)).1.2, (h3.2 0 (by omega)).2.2, (hm.2 0 (by omega)).1, (hm.2 (m - 1) (by omega)).2]
      exact hpar hz g hg hg4
    · have h3 := ho f' p' hp' e
      have h8 := (s.w.2.2 f' p' (by omega) hp').1.2
      rw [h3.1.2] at hz ⊢
      rw [(h3.2 0 (by omega)).1.2, (h3.2 _ (show rM r f' p' - 1 < 8 by omega)).2.2]
      have h9 := s.ne f' p' g hf' hp' hz hg hg4
      by_cases e2 : g = f ∧ p' = p
      · obtain ⟨e3, e4⟩ := e2
        subst e3
        subst e4
        rw [hm.1, (hm.2 0 (by omega)).1, (hm.2 0 (by omega)).2]
        exact hch f' hf' hg hz
      · have h4 := ho g p' hp' e2
        rw [h4.1.2, (h4.2 0 (by omega)).1.2, (h4.2 0 (by omega)).2.2]
        exact h9
  · intro p' hp' hz
    rw [hlo.1] at hz
    rw [hlo.2.1 p' hp']
    exact s.zT p' hp' hz
  · intro p' k hp' hk
    rw [hlo.1] at hp'
    rw [hlo.2.1 p' (by omega)] at hk
    have := (s.w.2.1 p' (by omega)).2
    rw [hlo.2.2.1 p' k (by omega) (by omega)]
    exact s.wd p' k hp' hk
  · intro p' k hp' hk hz
    rw [hlo.2.1 p' hp'] at hz
    rw [hlo.2.2.1 p' k hp' hk]
    exact s.zW p' k hp' hk hz
  · intro f' hf'
    rw [(hl f' hf').1]
    exact s.lf f' hf'
  · intro f' hf'
    rw [(hl f' hf').2.1, (hl f' hf').2.2.1]
    exact s.ln f' hf'
  · intro f' k w hf' hk hw
    rw [(hl f' hf').2.1] at hk
    rw [(hl f' hf').2.2.2.1]
    exact s.li f' k w hf' hk hw
  · intro f' w hf' hw
    rw [((hl f' hf').2.2.2.2 w).1, ((hl f' hf').2.2.2.2 w).2]
    exact s.ls f' w hf' hw
  · intro f' hf' hz
    rw [(hl f' hf').1] at hz
    rw [(hl f' hf').2.1]
    exact ⟨(s.lz f' hf' hz).1, fun w hw => by rw [((hl f' hf').2.2.2.2 w).2]; exact (s.lz f' hf' hz).2 w hw⟩
  · intro f' hf' hz
    rw [(hl f' hf').1] at hz
    have h9 := s.l1 f' hf' hz
    rw [((hl f' hf').2.2.2.2 0).2, ((hl f' hf').2.2.2.2 2).2, ((hl f' hf').2.2.2.2 3).2]
    exact ⟨h9.1, h9.2.1, h9.2.2.1, h9.2.2.2.1, fun k hk => by rw [((hl f' hf').2.2.2.2 (4 + k)).2]; exact h9.2.2.2.2 k hk⟩
