/-! ===== parts packed into two numbers ===== -/
def cd (l : List (Nat × Nat)) (i : Nat) : Nat := if i < l.length then (l.getD i (0, 0)).1 * 64 + (l.getD i (0, 0)).2 else 0
def pkN (l : List (Nat × Nat)) (s : Nat) : Nat → Nat
  | 0 => 1
  | j + 1 => pkN l s j * 4096 + cd l (s + j)
def pk1 (l : List (Nat × Nat)) : Nat := pkN l 0 4
def pk2 (l : List (Nat × Nat)) : Nat := pkN l 4 4
def okP (l : List (Nat × Nat)) : Prop := l.length ≤ 8 ∧ ∀ i, i < l.length → (l.getD i (0, 0)).1 < 64 ∧ 0 < (l.getD i (0, 0)).2 ∧ (l.getD i (0, 0)).2 < 64
theorem cd_lt {l : List (Nat × Nat)} (h : okP l) (i : Nat) : cd l i < 4096 := by
  unfold cd
  split
  · rename_i c
    have := h.2 i c
    omega
  · omega
theorem pk1_e (l : List (Nat × Nat)) : pk1 l = (((1 * 4096 + cd l 0) * 4096 + cd l 1) * 4096 + cd l 2) * 4096 + cd l 3 := rfl
theorem pk2_e (l : List (Nat × Nat)) : pk2 l = (((1 * 4096 + cd l 4) * 4096 + cd l 5) * 4096 + cd l 6) * 4096 + cd l 7 := rfl
theorem pkk_lt {l : List (Nat × Nat)} (h : okP l) : pk1 l < 562949953421312 ∧ pk2 l < 562949953421312 := by
  have h0 := cd_lt h 0
  have h1 := cd_lt h 1
  have h2 := cd_lt h 2
  have h3 := cd_lt h 3
  have h4 := cd_lt h 4
  have h5 := cd_lt h 5
  have h6 := cd_lt h 6
  have h7 := cd_lt h 7
  rw [pk1_e, pk2_e]
  omega
theorem pk_cd {l : List (Nat × Nat)} (h : okP l) (k : Nat) (hk : k < 8) : (if k < 4 then pk1 l / 4096 ^ (3 - k) else pk2 l / 4096 ^ (7 - k)) % 4096 = cd l k := by
  have h0 := cd_lt h 0
  have h1 := cd_lt h 1
  have h2 := cd_lt h 2
  have h3 := cd_lt h 3
  have h4 := cd_lt h 4
  have h5 := cd_lt h 5
  have h6 := cd_lt h 6
  have h7 := cd_lt h 7
  rw [pk1_e, pk2_e]
  rcases (by omega : k = 0 ∨ k = 1 ∨ k = 2 ∨ k = 3 ∨ k = 4 ∨ k = 5 ∨ k = 6 ∨ k = 7) with e | e | e | e | e | e | e | e <;> subst e
  · show _ / 68719476736 % 4096 = _
    omega
  · show _ / 16777216 % 4096 = _
    omega
  · show _ / 4096 % 4096 = _
    omega
  · show _ / 1 % 4096 = _
    omega
  · show _ / 68719476736 % 4096 = _
    omega
  · show _ / 16777216 % 4096 = _
    omega
  · show _ / 4096 % 4096 = _
    omega
  · show _ / 1 % 4096 = _
    omega
theorem cd_0 {l : List (Nat × Nat)} (h : okP l) (i : Nat) : cd l i = 0 ↔ l.length ≤ i := by
  unfold cd
  split
  · rename_i c
    have := h.2 i c
    omega
  · omega
theorem pair_ext {L L' : List (Nat × Nat)} (h : L.length = L'.length) (h2 : ∀ j, j < L.length → L.getD j (0, 0) = L'.getD j (0, 0)) : L = L' := by
  apply List.ext_getElem h
  intro j h3 h4
  have := h2 j h3
  rw [List.getD_eq_getElem?_getD, List.getD_eq_getElem?_getD, List.getElem?_eq_getElem h3, List.getElem?_eq_getElem h4] at this
  exact this
theorem pk_inj {l l' : List (Nat × Nat)} (h : okP l) (h' : okP l') (e1 : pk1 l = pk1 l') (e2 : pk2 l = pk2 l') : l = l' := by
  have hc : ∀ k, k < 8 → cd l k = cd l' k := fun k hk => by
    rw [← pk_cd h k hk, ← pk_cd h' k hk, e1, e2]
  have hlen : l.length = l'.length := by
    have a1 := h.1
    have a2 := h'.1
    rcases Nat.lt_trichotomy l.length l'.length with z | z | z
    · have := (cd_0 h l.length).mpr (Nat.le_refl _)
      rw [hc _ (by omega)] at this
      have := (cd_0 h' _).mp this
      omega
    · exact z
    · have := (cd_0 h' l'.length).mpr (Nat.le_refl _)
      rw [← hc _ (by omega)] at this
      have := (cd_0 h _).mp this
      omega
  refine pair_ext hlen (fun j hj => ?_)
  have a1 := hc j (by have := h.1; omega)
  have a2 := h.2 j hj
  have a3 := h'.2 j (by omega)
  unfold cd at a1
  rw [if_pos hj, if_pos (by omega)] at a1
  have e3 : (l.getD j (0, 0)).1 = (l'.getD j (0, 0)).1 := by omega
  have e4 : (l.getD j (0, 0)).2 = (l'.getD j (0, 0)).2 := by omega
  exact Prod.ext e3 e4
/-- where the way of an opinion begins -/
def vH (l : List (Nat × Nat)) : Nat := (((lN (pk1 l) * 2654435761 + lN (pk2 l) * 40503) >>> ((nI 11).toInt64 &&& 63)) &&& 32767).toInt32.toNatClampNeg
theorem vH_e (l : List (Nat × Nat)) : (((lN (pk1 l) * 2654435761 + lN (pk2 l) * 40503) >>> ((nI 11).toInt64 &&& 63)) &&& 32767).toInt32 = nI (vH l) ∧ vH l < 32768 := by
  obtain ⟨j, hj, e⟩ := and15 ((lN (pk1 l) * 2654435761 + lN (pk2 l) * 40503) >>> ((nI 11).toInt64 &&& 63))
  unfold vH
  rw [e, nI_clamp (by omega)]
  exact ⟨rfl, hj⟩
theorem cutsOK.okp {h : mH} {l : List (Nat × Nat)} (q : cutsOK h l) (hp : ∀ i, i < l.length → 0 < (l.getD i (0, 0)).2) : okP l := ⟨q.2.1, fun i hi => ⟨by have := (q.2.2 i hi).2.2; omega, hp i hi, by have := (q.2.2 i hi).2.2; omega⟩⟩
theorem okP_nil : okP [] := ⟨by decide, fun i hi => absurd hi (by show ¬ i < 0; omega)⟩
