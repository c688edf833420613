/-! ===== opinions are what they are ===== -/
theorem op_set {r : Nat → Int64} {F : Nat} {pa my : Nat → Int32} {p f N N' : Nat} {OL OL' : Nat → List (Nat × Nat)} {V V' FK FK' : Nat → Nat} (hd : sOK r F pa my) (q : opC r pa my p f N OL V FK) (q' : opP r pa my p f N' OL' V' FK') : (∀ o, o < N → ∃ o', o' < N' ∧ OL' o' = OL o) ∧ (∀ o', o' < N' → ∃ o, o < N ∧ OL o = OL' o') ∧ ∀ o o', o < N → o' < N' → OL o = OL' o' → V o = V' o' ∧ FK o = FK' o' := by
  obtain ⟨c, K, O, ru, cv⟩ := q
  obtain ⟨n, L, en, vo, inj⟩ := q'
  have hs := ru_same hd ru en
  refine ⟨fun o ho => ?_, fun o' ho' => ?_, fun o o' ho ho' e => ⟨?_, ?_⟩⟩
  · obtain ⟨i, hi, hg, hl, _⟩ := (cv.1.2.2 o ho).2.1
    obtain ⟨j, hj, ej⟩ := hs.2 i hi
    obtain ⟨o', ho', e⟩ := vo.2.1 j hj (by show gdB r pa my f (exE r f) (L j) = true; rw [ej]; exact hg)
    exact ⟨o', ho', e.trans (by show vtL r pa my p f (L j) = _; rw [ej]; exact hl)⟩
  · obtain ⟨i, hi, hg, hl, _⟩ := (vo.2.2 o' ho').2.1
    obtain ⟨j, hj, ej⟩ := hs.1 i hi
    obtain ⟨o, ho, e⟩ := cv.1.2.1 j hj (by show gdB r pa my f (exE r f) (K j) = true; rw [ej]; exact hg)
    exact ⟨o, ho, e.trans (by show vtL r pa my p f (K j) = _; rw [ej]; exact hl)⟩
  · rw [(cv.1.2.2 o ho).1, (vo.2.2 o' ho').1, ← e]
    exact cnt_en (P := fun k => gdB r pa my f (exE r f) k && decide (vtL r pa my p f k = OL o)) (ru_en ru) en.2.2.1 hs.2 hs.1
  · obtain ⟨i, hi, hg, hl, e1⟩ := (cv.1.2.2 o ho).2.1
    obtain ⟨i', hi', hg', hl', e1'⟩ := (vo.2.2 o' ho').2.1
    obtain ⟨j, hj, ej⟩ := hs.2 i hi
    obtain ⟨j', hj', ej'⟩ := hs.1 i' hi'
    have a1 := (cv.1.2.2 o ho).2.2 j' hj' (by show gdB r pa my f (exE r f) (K j') = true; rw [ej']; exact hg') (by show vtL r pa my p f (K j') = _; rw [ej', e]; exact hl')
    have a2 := (vo.2.2 o' ho').2.2 j hj (by show gdB r pa my f (exE r f) (L j) = true; rw [ej]; exact hg) (by show vtL r pa my p f (L j) = _; rw [ej, ← e]; exact hl)
    rw [ej', e1'] at a1
    rw [ej, e1] at a2
    omega
theorem ol_le {N N' : Nat} {OL OL' : Nat → List (Nat × Nat)} (inj : ∀ o o', o < N → o' < N → OL o = OL o' → o = o') (h : ∀ o, o < N → ∃ o', o' < N' ∧ OL' o' = OL o) : N ≤ N' := by
  obtain ⟨X, hX⟩ : ∃ X : Nat → Nat, ∀ i, i < N → X i < N' ∧ OL' (X i) = OL i := by
    refine ⟨fun i => if hi : i < N then (h i hi).choose else 0, fun i hi9 => ?_⟩
    have e : (fun i => if hi : i < N then (h i hi).choose else 0) i = (h i hi9).choose := dif_pos hi9
    rw [e]
    exact (h i hi9).choose_spec
  exact en_le (K := X) (L := fun j => j) (fun i j hi hj e => inj i j hi hj (by rw [← (hX i hi).2, ← (hX j hj).2, e])) (fun i hi => ⟨X i, (hX i hi).1, rfl⟩)
theorem op_N {r : Nat → Int64} {F : Nat} {pa my : Nat → Int32} {p f N N' : Nat} {OL OL' : Nat → List (Nat × Nat)} {V V' FK FK' : Nat → Nat} (hd : sOK r F pa my) (q : opC r pa my p f N OL V FK) (q' : opP r pa my p f N' OL' V' FK') : N = N' := by
  have h := op_set hd q q'
  obtain ⟨c, K, O, ru, cv⟩ := id q
  obtain ⟨n, L, en, vo, inj⟩ := id q'
  exact Nat.le_antisymm (ol_le cv.2.1 h.1) (ol_le inj h.2.1)
theorem op_b {r : Nat → Int64} {F : Nat} {pa my : Nat → Int32} {p f N N' b b' : Nat} {OL OL' : Nat → List (Nat × Nat)} {V V' FK FK' : Nat → Nat} {ok : List (Nat × Nat) → Prop} (hd : sOK r F pa my) (q : opC r pa my p f N OL V FK) (q' : opP r pa my p f N' OL' V' FK') (hb : bstO N V FK (fun o => ok (OL o)) b) (hb' : bstO N' V' FK' (fun o => ok (OL' o)) b') : OL b = OL' b' ∧ V b = V' b' := by
  have h := op_set hd q q'
  obtain ⟨c, K, O, ru, cv⟩ := id q
  obtain ⟨o, ho, eo⟩ := h.2.1 b' hb'.1
  obtain ⟨o', ho', eo'⟩ := h.1 b hb.1
  have v1 := h.2.2 o b' ho hb'.1 eo
  have v2 := h.2.2 b o' hb.1 ho' eo'.symm
  have c1 := hb.2.2 o ho (by show ok (OL o); rw [eo]; exact hb'.2.1)
  have c2 := hb'.2.2 o' ho' (by show ok (OL' o'); rw [eo']; exact hb.2.1)
  have ef : FK b = FK o := by omega
  have e : b = o := by
    rcases Nat.lt_trichotomy b o with z | z | z
    · have := cv.2.2 b o z ho; omega
    · exact z
    · have := cv.2.2 o b z hb.1; omega
  rw [e]
  exact ⟨eo, v1.1⟩
theorem op_8 {r : Nat → Int64} {F : Nat} {pa my : Nat → Int32} {p f N : Nat} {OL : Nat → List (Nat × Nat)} {V FK : Nat → Nat} (hd : sOK r F pa my) (q : opC r pa my p f N OL V FK) (hf : f < F) (hp : p < 6) : (∀ o, o < N → (OL o).length ≤ 8) ∧ (∀ o, o < N → V o < 65536) ∧ N ≤ 10206 := by
  have hF4 := hd.f4
  obtain ⟨c, K, O, ru, cv⟩ := q
  have hc := ru_c hd (by omega) ru
  have hv := cv_V cv
  refine ⟨fun o ho => ?_, fun o ho => by have := hv.2 o ho; omega, by omega⟩
  obtain ⟨i, hi, hg, hl, _⟩ := (cv.1.2.2 o ho).2.1
  rw [← hl]
  show (vtL r pa my p f (K i)).length ≤ 8
  unfold vtL
  cases e : rgX r pa my p f with
  | none => exact Nat.zero_le _
  | some ab =>
    have h1 := vtL_ok hd hf hp e
    have h2 := (cutL_ok (P := pmR r p (-1)) (b := ab.2) (far := itm (kI (K i) 0)) (near := itm (kI (K i) 1)) (sec := itm (kI (K i) 2)) (stop := itm (kI (K i) 3)) (mzN (my f)) ab.1 h1.1).1
    have h3 : mzN (my f) ≤ 8 := by unfold mzN; split <;> decide
    exact Nat.le_trans h2 h3
