/-! ===== a new book, one page more: what holds ===== -/
theorem nOf_z : nOf 0 = 0 := rfl
theorem sOK_new {r : Nat → Int64} {F P : Nat} {pa my : Nat → Int32} {ct : Nat → Nat} (hF : F ≤ 4) (hpar : ∀ f, f < F → pa f = -1 ∨ ∃ g, g < f ∧ pa f = nI g ∧ my g = 0) (hmy : ∀ f, f < 4 → my f = 0 ∨ my f = 1) (hP : P ≤ 6) (h0 : r 0 = lN P) (h1 : ∀ p, p < 6 → r (1 + p) = lN (ct p) ∧ ct p ≤ 40 ∧ (P ≤ p → ct p = 0)) (hw : ∀ p k, p < 6 → k < 40 → (k < ct p → goodW (r (7 + 40 * p + k))) ∧ (ct p ≤ k → r (7 + 40 * p + k) = 0)) (hz : ∀ y, 247 ≤ y → y < 935 → r y = 0) : sOK r F pa my := by
  have eP : rP r = P := by unfold rP; rw [h0, nOf_l (by omega)]
  have eT : ∀ p, p < 6 → rT r p = ct p := fun p hp => by
    have := (h1 p hp).2.1
    unfold rT
    rw [(h1 p hp).1, nOf_l (by omega)]
  have hX : ∀ f' p', f' < 4 → p' < 6 → 247 ≤ rX f' p' ∧ rX f' p' + 17 ≤ 655 := fun f' p' a b => by unfold rX; omega
  have eM : ∀ f p, f < 4 → p < 6 → r (rX f p) = 0 ∧ rM r f p = 0 := fun f p a b => by
    have := hX f p a b
    have e := hz (rX f p) (by omega) (by omega)
    exact ⟨e, by unfold rM; rw [e]; rfl⟩
  have eA : ∀ f p i, f < 4 → p < 6 → i < 8 → (r (rX f p + 1 + 2 * i) = 0 ∧ rA r f p i = 0) ∧ (r (rX f p + 2 + 2 * i) = 0 ∧ rB r f p i = 0) := fun f p i a b c => by
    have := hX f p a b
    have e1 := hz (rX f p + 1 + 2 * i) (by omega) (by omega)
    have e2 := hz (rX f p + 2 + 2 * i) (by omega) (by omega)
    exact ⟨⟨e1, by unfold rA; rw [e1]; rfl⟩, e2, by unfold rB; rw [e2]; rfl⟩
  have eN : ∀ f, f < 4 → lrN r f = 0 := fun f a => by unfold lrN; rw [hz _ (by omega) (by omega)]; rfl
  have eS : ∀ f w, f < 4 → w < 44 → r (655 + 70 * f + 26 + w) = 0 ∧ lrS r f w = 0 := fun f w a b => by
    have e := hz (655 + 70 * f + 26 + w) (by omega) (by omega)
    exact ⟨e, by unfold lrS; rw [e]; rfl⟩
  refine ⟨⟨⟨?_, ?_⟩, ?_, ?_⟩, hF, hpar, hmy, ?_, ?_, ?_, ?_, ?_, ?_, ?_, ?_, ?_, ?_, ?_, ?_, ?_, ?_⟩
  · rw [eP]
    exact h0
  · rw [eP]
    exact hP
  · intro p hp
    rw [eT p hp]
    exact ⟨(h1 p hp).1, (h1 p hp).2.1⟩
  · intro f p a b
    rw [(eM f p a b).2]
    refine ⟨⟨(eM f p a b).1, by omega⟩, fun i hi => ?_⟩
    rw [(eA f p i a b hi).1.2, (eA f p i a b hi).2.2]
    exact ⟨⟨(eA f p i a b hi).1.1, by omega⟩, (eA f p i a b hi).2.1, by omega⟩
  · intro f p i a b hi
    rw [(eA f p i a b hi).1.2, (eA f p i a b hi).2.2]
    exact ⟨Nat.le_refl _, Nat.zero_le _⟩
  · intro f p a b _
    exact (eM f p a b).2
  · intro f p i a b hi _
    exact ⟨(eA f p i a b hi).1.2, (eA f p i a b hi).2.2⟩
  · intro f p i a b hi
    rw [(eM f p a b).2] at hi
    omega
  · intro f p g a b hm
    rw [(eM f p (by omega) b).2] at hm
    omega
  · intro p hp hq
    rw [eP] at hq
    rw [eT p hp]
    exact (h1 p hp).2.2 hq
  · intro p k hp hk
    rw [eP] at hp
    rw [eT p (by omega)] at hk
    have := (h1 p (by omega)).2.1
    exact (hw p k (by omega) (by omega)).1 hk
  · intro p k hp hk hq
    rw [eT p hp] at hq
    exact (hw p k hp hk).2 hq
  · intro f a
    exact Or.inl (hz _ (by omega) (by omega))
  · intro f a
    rw [eN f a]
    exact ⟨hz _ (by omega) (by omega), by omega⟩
  · intro f k w a hk
    rw [eN f a] at hk
    omega
  · intro f w a b
    rw [(eS f w a b).2]
    exact ⟨(eS f w a b).1, by omega⟩
  · intro f a _
    exact ⟨eN f a, fun w b => (eS f w a b).2⟩
  · intro f a h9
    rw [hz _ (by omega) (by omega)] at h9
    exact absurd h9 (by decide)
theorem pgK_at {r : Nat → Int64} {p n : Nat} {W : Nat → Int64} {y : Nat} (hp : p < 6) : (y = 1 + p → pgK r p n W 40 y = lN n) ∧ (∀ k, k < 40 → y = 7 + 40 * p + k → pgK r p n W 40 y = if k < n then W k else 0) ∧ (y ≠ 1 + p → ¬ (7 + 40 * p ≤ y ∧ y < 47 + 40 * p) → pgK r p n W 40 y = r y) := by
  unfold pgK
  refine ⟨fun e => if_pos e, fun k hk e => ?_, fun e1 e2 => ?_⟩
  · rw [if_neg (by omega), if_pos (by omega), show y - (7 + 40 * p) = k by omega]
  · rw [if_neg e1, if_neg (by omega)]
theorem bkR_at {P : Nat} {ct : Nat → Nat} {rw : Nat → Nat → Int64} : ∀ n, n ≤ 6 → bkR P ct rw n 0 = lN P ∧ (∀ p, p < 6 → bkR P ct rw n (1 + p) = if p < n then lN (ct p) else 0) ∧ (∀ p k, p < 6 → k < 40 → bkR P ct rw n (7 + 40 * p + k) = if p < n then (if k < ct p then rw p k else 0) else 0) ∧ ∀ y, 247 ≤ y → bkR P ct rw n y = 0
  | 0, _ => by
    refine ⟨up1_at _ _ _, fun p hp => ?_, fun p k hp hk => ?_, fun y hy => ?_⟩
    · rw [if_neg (by omega)]
      exact up1_ne (by omega)
    · rw [if_neg (by omega)]
      exact up1_ne (by omega)
    · exact up1_ne (by omega)
  | n + 1, hn => by
    obtain ⟨i1, i2, i3, i4⟩ := bkR_at (P := P) (ct := ct) (rw := rw) n (by omega)
    have hk := fun y => pgK_at (r := bkR P ct rw n) (p := n) (n := ct n) (W := rw n) (y := y) (by omega)
    refine ⟨?_, fun p hp => ?_, fun p k hp hk9 => ?_, fun y hy => ?_⟩
    · show pgK _ _ _ _ _ 0 = _
      rw [(hk 0).2.2 (by omega) (by omega)]
      exact i1
    · show pgK _ _ _ _ _ (1 + p) = _
      by_cases e : p = n
      · rw [(hk (1 + p)).1 (by omega), if_pos (by omega), e]
      · rw [(hk (1 + p)).2.2 (by omega) (by omega), i2 p hp]
        by_cases c : p < n
        · rw [if_pos c, if_pos (show p < n + 1 by omega)]
        · rw [if_neg c, if_neg (show ¬ p < n + 1 by omega)]
    · show pgK _ _ _ _ _ (7 + 40 * p + k) = _
      by_cases e : p = n
      · rw [(hk _).2.1 k hk9 (by rw [e]), if_pos (show p < n + 1 by omega), e]
      · rw [(hk _).2.2 (by omega) (by omega), i3 p k hp hk9]
        by_cases c : p < n
        · rw [if_pos c, if_pos (show p < n + 1 by omega)]
        · rw [if_neg c, if_neg (show ¬ p < n + 1 by omega)]
    · show pgK _ _ _ _ _ y = _
      rw [(hk y).2.2 (by omega) (by omega)]
      exact i4 y hy
theorem lP_ok {tb : Nat → Int32} {N a a' n : Nat} (hb : byt tb) (h : lP tb N a = .ok (a', n)) : 0 < n ∧ n ≤ 40 ∧ ∀ j, j < n → goodW (tW tb N (psT tb N a j)) := by
  have e : n = pcT tb N a ∧ pcT tb N a ≠ 0 := by
    unfold lP at h
    split at h
    · cases h
    · rename_i c
      split at h
      · split at h
        · cases h
          exact ⟨rfl, c⟩
        · cases h
      · cases h
  have hge := rnF_ge (P := fun k => isPT tb N (psT tb N a k)) 40 0
  have e2 : pcT tb N a = rnF (fun k => isPT tb N (psT tb N a k)) 40 0 := rfl
  refine ⟨by omega, by omega, fun j hj => tok_good hb (rnF_all (P := fun k => isPT tb N (psT tb N a k)) 40 0 j (by omega) (by omega))⟩
theorem bkL_good {tb : Nat → Int32} {N : Nat} (hb : byt tb) : ∀ n a f nm rp mn P ct rw f' rp' mn' P' ct' rw', (∀ p, p < P → ∀ j, j < ct p → goodW (rw p j)) → bkL tb N n a f nm rp mn P ct rw = .ok (f', rp', mn', P', ct', rw') → ∀ p, p < P' → ∀ j, j < ct' p → goodW (rw' p j)
  | 0, a, f, nm, rp, mn, P, ct, rw, f', rp', mn', P', ct', rw', _, h => by cases h
  | n + 1, a, f, nm, rp, mn, P, ct, rw, f', rp', mn', P', ct', rw', hg, h => by
    unfold bkL at h
    split at h
    · cases h
      exact hg
    · split at h
      · split at h
        · cases h
        · split at h
          · cases h
          · exact bkL_good hb n _ _ _ _ _ _ _ _ _ _ _ _ _ _ hg h
      · split at h
        · split at h
          · cases h
          · split at h
            · cases h
            · rename_i x e
              have h9 := lP_ok hb (a' := x.1) (n := x.2) e
              refine bkL_good hb n _ _ _ _ _ _ _ _ _ _ _ _ _ _ (fun p hp j hj => ?_) h
              by_cases c : p = P
              · simp only [if_pos c] at hj ⊢
                exact h9.2.2 j hj
              · simp only [if_neg c] at hj ⊢
                exact hg p (by omega) j hj
        · cases h
theorem sOK_bk {r0 : Nat → Int64} {F0 : Nat} {pa my : Nat → Int32} {tb : Nat → Int32} {N f P : Nat} {nm : Nat → Int64} {rp mn : Nat → Int32} {ct : Nat → Nat} {rw : Nat → Nat → Int64} (s : sOK r0 F0 pa my) (hb : byt tb) (h : bkL tb N 11 0 0 (fun _ => 0) (fun _ => 0) (fun _ => 0) 0 (fun _ => 0) (fun _ _ => 0) = .ok (f, rp, mn, P, ct, rw)) (hi : bkI f nm rp mn P ct) : sOK (bkR P ct rw P) f (mgI rp pa f) (mgI mn my f) := by
  have hg := bkL_good hb 11 _ _ _ _ _ _ _ _ _ _ _ _ _ _ (fun p hp => by omega) h
  obtain ⟨h1, h2, _, h4, h5, h6⟩ := hi
  have hat := bkR_at (P := P) (ct := ct) (rw := rw) P h2
  refine sOK_new (P := P) (ct := fun p => if p < P then ct p else 0) h1 (fun k hk => ?_) (fun k hk => ?_) h2 hat.1 (fun p hp => ?_) (fun p k hp hk => ?_) (fun y a _ => hat.2.2.2 y a)
  · unfold mgI
    rw [if_pos hk]
    rcases h5 k hk with z | ⟨g, z1, z2, z3⟩
    · exact Or.inl z
    · exact Or.inr ⟨g, z1, z2, by rw [if_pos (by omega)]; exact z3⟩
  · unfold mgI
    split
    · rename_i c
      exact h4 k c
    · exact s.my k hk
  · by_cases c : p < P
    · simp only [if_pos c]
      refine ⟨by rw [hat.2.1 p hp, if_pos c], (h6 p c).2, fun z => by omega⟩
    · simp only [if_neg c]
      exact ⟨by rw [hat.2.1 p hp, if_neg c]; rfl, by omega, fun _ => trivial⟩
  · by_cases c : p < P
    · simp only [if_pos c]
      rw [hat.2.2.1 p k hp hk, if_pos c]
      refine ⟨fun z => ?_, fun z => ?_⟩
      · rw [if_pos z]
        exact hg p c k z
      · rw [if_neg (by omega)]
    · simp only [if_neg c]
      rw [hat.2.2.1 p k hp hk, if_neg c]
      exact ⟨fun z => by omega, fun _ => rfl⟩
theorem pgS_ok {tb : Nat → Int32} {N n : Nat} (hb : byt tb) (h : pgS tb N = .ok n) : 0 < n ∧ n ≤ 40 ∧ ∀ j, j < n → goodW (tW tb N (psT tb N 0 j)) := by
  unfold pgS at h
  split at h
  · split at h
    · cases h
    · rename_i x e
      split at h
      · cases h
        exact lP_ok hb (a' := x.1) (n := x.2) e
      · cases h
  · cases h
theorem sOK_pg {r : Nat → Int64} {F n : Nat} {pa my : Nat → Int32} {W : Nat → Int64} (s : sOK r F pa my) (hP : rP r < 6) (hn : 0 < n ∧ n ≤ 40) (hW : ∀ j, j < n → goodW (W j)) : sOK (up1 (pgK r (rP r) n W 40) 0 (lN (rP r + 1))) F pa my := by
  have hF4 := s.f4
  obtain ⟨P, eP⟩ : ∃ P, P = rP r := ⟨_, rfl⟩
  rw [← eP] at hP ⊢
  have hk := fun y => pgK_at (r := r) (p := P) (n := n) (W := W) (y := y) hP
  have e0 : up1 (pgK r P n W 40) 0 (lN (P + 1)) 0 = lN (P + 1) := up1_at _ _ _
  have eh : ∀ y, 247 ≤ y → up1 (pgK r P n W 40) 0 (lN (P + 1)) y = r y := fun y hy => by
    rw [up1_ne (by omega), (hk y).2.2 (by omega) (by omega)]
  have e1 : ∀ p, p < 6 → up1 (pgK r P n W 40) 0 (lN (P + 1)) (1 + p) = if p = P then lN n else r (1 + p) := fun p hp => by
    rw [up1_ne (by omega)]
    by_cases c : p = P
    · rw [if_pos c, (hk (1 + p)).1 (by omega)]
    · rw [if_neg c, (hk (1 + p)).2.2 (by omega) (by omega)]
  have ew : ∀ p k, p < 6 → k < 40 → rW (up1 (pgK r P n W 40) 0 (lN (P + 1))) p k = if p = P then (if k < n then W k else 0) else rW r p k := fun p k hp hk9 => by
    unfold rW
    rw [up1_ne (by omega)]
    by_cases c : p = P
    · rw [if_pos c, (hk _).2.1 k hk9 (by rw [c])]
    · rw [if_neg c, (hk _).2.2 (by omega) (by omega)]
  have eP' : rP (up1 (pgK r P n W 40) 0 (lN (P + 1))) = P + 1 := by unfold rP; rw [e0, nOf_l (by omega)]
  have eT : ∀ p, p < 6 → rT (up1 (pgK r P n W 40) 0 (lN (P + 1))) p = if p = P then n else rT r p := fun p hp => by
    unfold rT
    rw [e1 p hp]
    by_cases c : p = P
    · rw [if_pos c, if_pos c, nOf_l (by omega)]
    · rw [if_neg c, if_neg c]
  have hX : ∀ f' p', f' < 4 → p' < 6 → 247 ≤ rX f' p' ∧ rX f' p' + 17 ≤ 655 := fun f' p' a b => by unfold rX; omega
  have eM : ∀ f p, rM (up1 (pgK r P n W 40) 0 (lN (P + 1))) f p = rM r f p := fun f p => by
    unfold rM
    rw [eh _ (by unfold rX; omega)]
  have eA : ∀ f p i, rA (up1 (pgK r P n W 40) 0 (lN (P + 1))) f p i = rA r f p i ∧ rB (up1 (pgK r P n W 40) 0 (lN (P + 1))) f p i = rB r f p i := fun f p i => by
    unfold rA rB
    rw [eh _ (by unfold rX; omega), eh _ (by unfold rX; omega)]
    exact ⟨rfl, rfl⟩
  refine ⟨⟨⟨?_, ?_⟩, ?_, ?_⟩, s.f4, s.par, s.my, ?_, ?_, ?_, ?_, ?_, ?_, ?_, ?_, ?_, ?_, ?_, ?_, ?_, ?_⟩
  · rw [eP']
    exact e0
  · rw [eP']
    omega
  · intro p hp
    rw [eT p hp, e1 p hp]
    by_cases c : p = P
    · rw [if_pos c, if_pos c]
      exact ⟨rfl, hn.2⟩
    · rw [if_neg c, if_neg c]
      exact s.w.2.1 p hp
  · intro f p a b
    have := hX f p a b
    rw [eM, eh _ (by omega)]
    refine ⟨(s.w.2.2 f p a b).1, fun i hi => ?_⟩
    rw [(eA f p i).1, (eA f p i).2, eh _ (by omega), eh _ (by omega)]
    exact (s.w.2.2 f p a b).2 i hi
  · intro f p i a b hi
    rw [(eA f p i).1, (eA f p i).2, eT p b]
    have h9 := s.ab f p i a b hi
    by_cases c : p = P
    · rw [if_pos c]
      have h8 := s.zM f p a b (Or.inr (by omega))
      have h7 := s.zA f p i a b hi (by omega)
      omega
    · rw [if_neg c]
      exact h9
  · intro f p a b hz
    rw [eM]
    rw [eP'] at hz
    exact s.zM f p a b (by omega)
  · intro f p i a b hi hz
    rw [eM] at hz
    rw [(eA f p i).1, (eA f p i).2]
    exact s.zA f p i a b hi hz
  · intro f p i a b hi
    rw [eM] at hi ⊢
    rw [(eA f p i).1, (eA f p i).2, (eA f p (i + 1)).1]
    exact s.so f p i a b hi
  · intro f p g a b hm hg hg4
    rw [eM] at hm ⊢
    rw [eM, (eA g p 0).1, (eA g p 0).2, (eA f p 0).1, (eA f p _).2]
    exact s.ne f p g a b hm hg hg4
  · intro p hp hz
    rw [eP'] at hz
    rw [eT p hp, if_neg (by omega)]
    exact s.zT p hp (by omega)
  · intro p k hp hk9
    rw [eP'] at hp
    rw [eT p (by omega)] at hk9
    by_cases c : p = P
    · rw [if_pos c] at hk9
      rw [ew p k (by omega) (by omega), if_pos c, if_pos hk9]
      exact hW k hk9
    · rw [if_neg c] at hk9
      have := (s.w.2.1 p (by omega)).2
      rw [ew p k (by omega) (by omega), if_neg c]
      exact s.wd p k (by omega) hk9
  · intro p k hp hk9 hz
    rw [eT p hp] at hz
    rw [ew p k hp hk9]
    by_cases c : p = P
    · rw [if_pos c] at hz
      rw [if_pos c, if_neg (by omega)]
    · rw [if_neg c] at hz
      rw [if_neg c]
      exact s.zW p k hp hk9 hz
  · intro f a
    rw [eh _ (by omega)]
    exact s.lf f a
  · intro f a
    unfold lrN
    rw [eh _ (by omega)]
    exact s.ln f a
  · intro f k w a hk9 hw
    unfold lrN at hk9
    rw [eh _ (by omega)] at hk9
    unfold lrI
    rw [eh _ (by omega)]
    exact s.li f k w a hk9 hw
  · intro f w a b
    unfold lrS
    rw [eh _ (by omega)]
    exact s.ls f w a b
  · intro f a h9
    rw [eh _ (by omega)] at h9
    unfold lrN lrS
    exact ⟨by rw [eh _ (by omega)]; exact (s.lz f a h9).1, fun w b => by rw [eh _ (by omega)]; exact (s.lz f a h9).2 w b⟩
  · intro f a h9
    rw [eh _ (by omega)] at h9
    unfold lrS
    rw [eh _ (by omega), eh _ (by omega), eh _ (by omega)]
    have h8 := s.l1 f a h9
    exact ⟨h8.1, h8.2.1, h8.2.2.1, h8.2.2.2.1, fun k b => by rw [eh _ (by omega)]; exact h8.2.2.2.2 k b⟩
