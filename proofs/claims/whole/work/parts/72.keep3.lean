/-! ===== what is learnt keeps what holds ===== -/
theorem mem_uq : ∀ n (l : List Int64), l.length = n → ∀ x, x ∈ uq l ↔ x ∈ l
  | 0, l, h, x => by
    rw [List.length_eq_zero_iff.mp h]
    exact Iff.rfl
  | n + 1, l, h, x => by
    rcases List.eq_nil_or_concat l with e | ⟨L, b, e⟩
    · rw [e] at h
      cases h
    · rw [List.concat_eq_append] at e
      subst e
      rw [List.length_append] at h
      have ih := mem_uq n L (by have : L.length + 1 = n + 1 := h; omega) x
      rw [mem_uq_snoc, ih, List.mem_append, List.mem_singleton]
theorem tk_mem {r : Nat → Int64} {p k : Nat} : ∀ P, p < P → k < rT r p → rW r p k ∈ tk r P
  | 0, h, _ => by omega
  | P + 1, h, hk => by
    show _ ∈ tk r P ++ pg r P (rT r P)
    by_cases e : p = P
    · subst e
      refine List.mem_append.mpr (Or.inr ?_)
      unfold pg
      exact List.mem_map.mpr ⟨k, List.mem_range.mpr hk, rfl⟩
    · exact List.mem_append.mpr (Or.inl (tk_mem P (by omega) hk))
theorem rW_mem {r : Nat → Int64} {p k : Nat} (hp : p < rP r) (hk : k < rT r p) : rW r p k ∈ uqA r := (mem_uq _ _ rfl _).mpr (tk_mem _ hp hk)
theorem asC_le {r : Nat → Int64} {F : Nat} {pa my : Nat → Int32} {p k w : Nat} (s : sOK r F pa my) (hp : p < rP r) (hk : k < rT r p) : asC r p k w ≤ 243 := by
  have h1 := List.idxOf_lt_length_of_mem (rW_mem hp hk)
  have h2 := uqA_len s.w
  have h3 := kd_lt (rW r p k)
  unfold asC
  split <;> omega
def cod (x : Nat) : Prop := ∃ a b c d, a ≤ 243 ∧ b ≤ 243 ∧ c ≤ 243 ∧ d ≤ 243 ∧ x = kN a b c d
theorem cod_it {x : Nat} (h : cod x) : x < 1099511627776 ∧ ∀ w, w < 4 → kI x w ≤ 243 := by
  obtain ⟨a, b, c, d, ha, hb, hc, hd, e⟩ := h
  subst e
  have h1 := kN_it (show a < 256 by omega) (show b < 256 by omega) (show c < 256 by omega) (show d < 256 by omega)
  refine ⟨kN_lt (by omega) (by omega) (by omega) (by omega), fun w hw => ?_⟩
  rcases (by omega : w = 0 ∨ w = 1 ∨ w = 2 ∨ w = 3) with e | e | e | e <;> subst e
  · omega
  · omega
  · omega
  · omega
theorem bS_cod {r : Nat → Int64} {F : Nat} {pa my : Nat → Int32} {f p a b c x : Nat} (s : sOK r F pa my) (hf : f < F) (hp : p < rP r) (ha : a ≤ 243) (hb : b ≤ 243) (hc : c ≤ 243) (h : bS r pa f p a b c x) : cod x := by
  have hP6 := s.w.1.2
  rcases h with h | ⟨h1, w, _, h2⟩
  · exact ⟨a, b, c, 0, ha, hb, hc, by omega, h⟩
  · have h3 := rg_le s hf (show p < 6 by omega)
    exact ⟨a, b, c, _, ha, hb, hc, asC_le s hp (by omega), h2⟩
theorem bF_cod {r : Nat → Int64} {F : Nat} {pa my : Nat → Int32} {f p e b c x : Nat} (s : sOK r F pa my) (hf : f < F) (hp : p < rP r) (he : e ≤ rT r p) (hb : b ≤ 243) (hc : c ≤ 243) (h : bF r pa f p e b c x) : cod x := by
  rcases h with h | ⟨k, _, h1, w, _, h2⟩
  · exact bS_cod s hf hp (by omega) hb hc h
  · exact bS_cod s hf hp (asC_le s hp (by omega)) hb hc h2
theorem bNr_cod {r : Nat → Int64} {F : Nat} {pa my : Nat → Int32} {f p x : Nat} (s : sOK r F pa my) (hf : f < F) (hp : p < rP r) (hm : 0 < rM r f p) (h : bNr r pa f p x) : cod x := by
  have hP6 := s.w.1.2
  have h0 := rgA_le s hf (show p < 6 by omega) hm
  rcases h with h | ⟨h1, w, _, h2⟩ | ⟨h1, w, _, h2⟩
  · exact bF_cod s hf hp (by omega) (by omega) (by omega) h
  · exact bF_cod s hf hp (by omega) (asC_le s hp (by omega)) (by omega) h2
  · exact bF_cod s hf hp (by omega) (asC_le s hp (by omega)) (asC_le s hp (by omega)) h2
theorem gdK_cod {r : Nat → Int64} {F : Nat} {pa my : Nat → Int32} {f S x : Nat} (s : sOK r F pa my) (hf : f < F) (hS : ∀ p, S.testBit p = true → p < rP r ∧ 0 < rM r f p) (h : gdK r pa my f S x) : cod x := by
  obtain ⟨⟨p, hp, h1, h2⟩, _⟩ := h
  exact bNr_cod s hf (hS p h1).1 (hS p h1).2 h2
theorem coP_cod {r : Nat → Int64} {F : Nat} {pa my : Nat → Int32} {f S hop : Nat} {L : List Nat} (s : sOK r F pa my) (hf : f < F) (hS : ∀ p, S.testBit p = true → p < rP r ∧ 0 < rM r f p) (h : coP r pa my f S L hop) : ∀ x ∈ L, cod x := by
  obtain ⟨B, D, hB, hcd, hL, _⟩ := h
  have key : ∀ n d, d < 64 → d &&& (63 - goN B 64) = 0 → ∀ x ∈ cvLs B D (goN B 64) n d, cod x := fun n => by
    induction n with
    | zero => intro d _ _ x hx; cases hx
    | succ n ih =>
      intro d h1 h2 x hx
      have hx : x ∈ (if d = goN B 64 then [] else (B (D d).2.2).getD 0 :: cvLs B D (goN B 64) n (d ||| (D d).2.2)) := hx
      by_cases e : d = goN B 64
      · rw [if_pos e] at hx
        cases hx
      · rw [if_neg e] at hx
        have h3 := cd_step hcd h1 h2 e
        obtain ⟨key, hk⟩ := h3.2.1
        rcases List.mem_cons.mp hx with z | z
        · rw [hk] at z
          rcases hB.2 _ h3.1 with ⟨z2, _⟩ | ⟨m, z2, _, _, z3, _⟩
          · rw [z2] at hk
            cases hk
          · rw [z2] at hk
            cases hk
            subst z
            exact gdK_cod s hf hS z3
        · exact ih _ h3.2.2.1 h3.2.2.2.1 x z
  rw [hL]
  exact key 7 0 (by omega) (Nat.zero_and _)
theorem shA_ge {r : Nat → Int64} : ∀ (l : List (Nat × Nat × Nat)) a, 0 < a.1 → (∀ x ∈ l, 0 < x.2.2 - x.2.1) → 0 < (l.foldl (shF r) a).1
  | [], a, h, _ => h
  | x :: l, a, h, hx => by
    refine shA_ge l (shF r a x) ?_ (fun y hy => hx y (List.mem_cons_of_mem _ hy))
    have := hx x List.mem_cons_self
    show 0 < min _ _
    omega
theorem shA_mx {r : Nat → Int64} : ∀ (l : List (Nat × Nat × Nat)) a, a.2.1 ≤ 40 → (∀ x ∈ l, x.2.2 - x.2.1 ≤ 40) → (l.foldl (shF r) a).2.1 ≤ 40
  | [], a, h, _ => h
  | x :: l, a, h, hx => by
    refine shA_mx l (shF r a x) ?_ (fun y hy => hx y (List.mem_cons_of_mem _ hy))
    have := hx x List.mem_cons_self
    show max _ _ ≤ 40
    omega
theorem sh_all {r : Nat → Int64} {F : Nat} {pa my : Nat → Int32} {f : Nat} (s : sOK r F pa my) (hf : f < F) (hne : exE r f ≠ 0) : 0 < shV r f 0 ∧ (∀ w, shV r f w ≤ 40) ∧ shV r f 2 < 8 ∧ shV r f 3 < 8 ∧ ∀ k, k < 40 → shV r f (4 + k) ≤ 3 := by
  have hF4 := s.f4
  have hP6 := s.w.1.2
  have hx : ∀ x ∈ ptU r f (rP r) ++ ptI r f (rP r) 0, 0 < x.2.2 - x.2.1 ∧ x.2.2 - x.2.1 ≤ 40 := fun x hx => by
    rcases List.mem_append.mp hx with h | h
    · obtain ⟨q, j, h1, h2, h3⟩ := (pt_mem _).mp h
      have h4 := (s.w.2.2 f q (by omega) (by omega)).1.2
      have h5 := (s.ab f q j (by omega) (by omega) (by omega)).2
      have h6 := (s.w.2.1 q (by omega)).2
      have h7 := (s.so f q j (by omega) (by omega) h2).1
      subst h3
      show 0 < rB r f q j - rA r f q j ∧ rB r f q j - rA r f q j ≤ 40
      omega
    · cases h
  have hb := shA_bd3 s hf
  have h1 : 0 < (shA r f (rP r) 0).1 := shA_ge _ _ (by decide) (fun x h => (hx x h).1)
  have h2 : (shA r f (rP r) 0).2.1 ≤ 40 := shA_mx _ _ (by decide) (fun x h => (hx x h).2)
  have h3 : (shA r f (rP r) 0).1 ≤ 40 := by
    obtain ⟨p, hp⟩ := Nat.exists_testBit_of_ne_zero hne
    have h4 := exE_tb hp
    have h5 := shA_all h4.1 h4.2
    have h6 := (hx (p, rA r f p 0, rB r f p 0) (List.mem_append.mpr (Or.inl ((pt_mem _).mpr ⟨p, 0, h4.1, h4.2, rfl⟩)))).2
    have h6 : rB r f p 0 - rA r f p 0 ≤ 40 := h6
    omega
  have h4 : ∀ k, kaA r f k (rP r) 0 ≤ 4 := fun k => (ka_pos (k := k) hne).2
  refine ⟨h1, fun w => ?_, hb.2.2.1, hb.2.2.2, fun k hk => ?_⟩
  · have := h4 (w - 4)
    unfold shV
    repeat' split
    all_goals omega
  · have := h4 k
    rw [shV_k]
    split <;> omega
theorem i64_32 (x : Int32) : x.toInt64.toInt32 = x := Int32.toInt32_toInt64 x
theorem lnS_out {r : Nat → Int64} {f n y : Nat} {L : List Nat} (hL : L.length ≤ 6) (hn : n ≤ 44) (h : y < 655 + 70 * f ∨ 655 + 70 * f + 70 ≤ y) : lnS r f L n y = r y := by
  unfold lnS lnB lnZ
  rw [if_neg (by omega), if_neg (by omega), if_neg (by omega), if_neg (by omega), if_neg (by omega)]
theorem lnS_in {r : Nat → Int64} {f : Nat} {L : List Nat} (hL : L.length ≤ 6) : lnS r f L 44 (655 + 70 * f) = 1 ∧ lnS r f L 44 (655 + 70 * f + 1) = lN L.length ∧ (∀ k w, k < L.length → w < 4 → lnS r f L 44 (655 + 70 * f + 2 + 4 * k + w) = (itm (kI (L.getD k 0) w)).toInt64) ∧ ∀ w, w < 44 → lnS r f L 44 (655 + 70 * f + 26 + w) = lN (shV r f w) := by
  unfold lnS lnB
  refine ⟨?_, ?_, fun k w hk hw => ?_, fun w hw => ?_⟩
  · rw [if_neg (by omega), if_pos rfl]
  · rw [if_neg (by omega), if_neg (by omega), if_pos rfl]
  · rw [if_neg (by omega), if_neg (by omega), if_neg (by omega), if_pos (by omega), show (655 + 70 * f + 2 + 4 * k + w - (655 + 70 * f + 2)) / 4 = k by omega, show (655 + 70 * f + 2 + 4 * k + w - (655 + 70 * f + 2)) % 4 = w by omega]
  · rw [if_pos (by omega), show 655 + 70 * f + 26 + w - (655 + 70 * f + 26) = w by omega]
theorem sOK_ln {r : Nat → Int64} {F : Nat} {pa my : Nat → Int32} {f hop : Nat} {L : List Nat} (s : sOK r F pa my) (hf : f < F) (hne : exE r f ≠ 0) (hL : L.length ≤ 6) (hc : coP r pa my f (exE r f) L hop) : sOK (lnS r f L 44) F pa my := by
  have hF4 := s.f4
  have hP6 := s.w.1.2
  have hcod := coP_cod s hf (fun p hp => exE_tb hp) hc
  have hsh := sh_all s hf hne
  have hin := lnS_in (r := r) (f := f) hL
  have hlo : ∀ y, y < 655 → lnS r f L 44 y = r y := fun y hy => lnS_out hL (by omega) (by omega)
  have hP : rP (lnS r f L 44) = rP r := by unfold rP; rw [hlo 0 (by omega)]
  have hTt : ∀ p, p < 6 → rT (lnS r f L 44) p = rT r p := fun p hp => by unfold rT; rw [hlo (1 + p) (by omega)]
  have hX : ∀ f' p', f' < 4 → p' < 6 → rX f' p' + 17 ≤ 655 := fun f' p' h1 h2 => by unfold rX; omega
  have hM : ∀ f' p', f' < 4 → p' < 6 → rM (lnS r f L 44) f' p' = rM r f' p' := fun f' p' h1 h2 => by
    have := hX f' p' h1 h2
    unfold rM
    rw [hlo _ (by omega)]
  have hA : ∀ f' p' i, f' < 4 → p' < 6 → i < 8 → rA (lnS r f L 44) f' p' i = rA r f' p' i ∧ rB (lnS r f L 44) f' p' i = rB r f' p' i := fun f' p' i h1 h2 h3 => by
    have := hX f' p' h1 h2
    unfold rA rB
    rw [hlo _ (by omega), hlo _ (by omega)]
    exact ⟨rfl, rfl⟩
  have hW : ∀ p k, p < 6 → k < 40 → rW (lnS r f L 44) p k = rW r p k := fun p k h1 h2 => by
    unfold rW
    rw [hlo _ (by omega)]
  have ho : ∀ f', f' ≠ f → ∀ y, 655 + 70 * f' ≤ y → y < 655 + 70 * f' + 70 → lnS r f L 44 y = r y := fun f' h1 y h2 h3 => lnS_out hL (by omega) (by omega)
  have hlN : lrN (lnS r f L 44) f = L.length := by
    unfold lrN
    rw [hin.2.1, nOf_l (by omega)]
  have hlS : ∀ w, w < 44 → lrS (lnS r f L 44) f w = shV r f w := fun w hw => by
    have := hsh.2.1 w
    unfold lrS
    rw [hin.2.2.2 w hw, nOf_l (by omega)]
  refine ⟨⟨⟨?_, ?_⟩, ?_, ?_⟩, s.f4, s.par, s.my, ?_, ?_, ?_, ?_, ?_, ?_, ?_, ?_, ?_, ?_, ?_, ?_, ?_, ?_⟩
  · rw [hP, hlo 0 (by omega)]
    exact s.w.1.1
  · rw [hP]
    exact hP6
  · intro q hq
    rw [hTt q hq, hlo _ (by omega)]
    exact s.w.2.1 q hq
  · intro f' p' h1 h2
    have hx := hX f' p' h1 h2
    rw [hM f' p' h1 h2, hlo _ (by omega)]
    refine ⟨(s.w.2.2 f' p' h1 h2).1, fun i hi => ?_⟩
    rw [(hA f' p' i h1 h2 hi).1, (hA f' p' i h1 h2 hi).2, hlo _ (by omega), hlo _ (by omega)]
    exact (s.w.2.2 f' p' h1 h2).2 i hi
  · intro f' p' i h1 h2 hi
    rw [(hA f' p' i h1 h2 hi).1, (hA f' p' i h1 h2 hi).2, hTt p' h2]
    exact s.ab f' p' i h1 h2 hi
  · intro f' p' h1 h2 hz
    rw [hP] at hz
    rw [hM f' p' h1 h2]
    exact s.zM f' p' h1 h2 hz
  · intro f' p' i h1 h2 hi hz
    rw [hM f' p' h1 h2] at hz
    rw [(hA f' p' i h1 h2 hi).1, (hA f' p' i h1 h2 hi).2]
    exact s.zA f' p' i h1 h2 hi hz
  · intro f' p' i h1 h2 hi
    rw [hM f' p' h1 h2] at hi ⊢
    have h8 := (s.w.2.2 f' p' h1 h2).1.2
    rw [(hA f' p' i h1 h2 (by omega)).1, (hA f' p' i h1 h2 (by omega)).2]
    have h9 := s.so f' p' i h1 h2 hi
    exact ⟨h9.1, fun z => by rw [(hA f' p' (i + 1) h1 h2 (by omega)).1]; exact h9.2 z⟩
  · intro f' p' g h1 h2 hz hg hg4
    rw [hM f' p' (by omega) h2] at hz ⊢
    have h8 := (s.w.2.2 f' p' (by omega) h2).1.2
    rw [hM g p' hg4 h2, (hA g p' 0 hg4 h2 (by omega)).1, (hA g p' 0 hg4 h2 (by omega)).2, (hA f' p' 0 (by omega) h2 (by omega)).1, (hA f' p' (rM r f' p' - 1) (by omega) h2 (by omega)).2]
    exact s.ne f' p' g h1 h2 hz hg hg4
  · intro p' h2 hz
    rw [hP] at hz
    rw [hTt p' h2]
    exact s.zT p' h2 hz
  · intro p' k h1 hk
    rw [hP] at h1
    rw [hTt p' (by omega)] at hk
    have := (s.w.2.1 p' (by omega)).2
    rw [hW p' k (by omega) (by omega)]
    exact s.wd p' k h1 hk
  · intro p' k h1 h2 hz
    rw [hTt p' h1] at hz
    rw [hW p' k h1 h2]
    exact s.zW p' k h1 h2 hz
  · intro f' h1
    by_cases e : f' = f
    · subst e
      exact Or.inr hin.1
    · rw [ho f' e _ (by omega) (by omega)]
      exact s.lf f' h1
  · intro f' h1
    by_cases e : f' = f
    · subst e
      rw [hlN]
      exact ⟨hin.2.1, hL⟩
    · unfold lrN
      rw [ho f' e _ (by omega) (by omega)]
      exact s.ln f' h1
  · intro f' k w h1 hk hw
    by_cases e : f' = f
    · subst e
      rw [hlN] at hk
      unfold lrI
      rw [hin.2.2.1 k w hk hw, i64_32]
      have h9 := (cod_it (hcod (L.getD k 0) (by rw [List.getD_eq_getElem?_getD, List.getElem?_eq_getElem hk]; exact List.getElem_mem hk))).2 w hw
      unfold itm
      split
      · exact Or.inl rfl
      · exact Or.inr ⟨_, by omega, rfl⟩
    · have e9 : lrN (lnS r f L 44) f' = lrN r f' := by
        unfold lrN
        rw [ho f' e _ (by omega) (by omega)]
      rw [e9] at hk
      have h6 := (s.ln f' h1).2
      unfold lrI
      rw [ho f' e _ (by omega) (by omega)]
      exact s.li f' k w h1 hk hw
  · intro f' w h1 hw
    by_cases e : f' = f
    · subst e
      rw [hlS w hw]
      exact ⟨hin.2.2.2 w hw, hsh.2.1 w⟩
    · unfold lrS
      rw [ho f' e _ (by omega) (by omega)]
      exact s.ls f' w h1 hw
  · intro f' h1 hz
    by_cases e : f' = f
    · subst e
      rw [hin.1] at hz
      exact absurd hz (by decide)
    · rw [ho f' e _ (by omega) (by omega)] at hz
      have h9 := s.lz f' h1 hz
      unfold lrN lrS
      refine ⟨by rw [ho f' e _ (by omega) (by omega)]; exact h9.1, fun w hw => by rw [ho f' e _ (by omega) (by omega)]; exact h9.2 w hw⟩
  · intro f' h1 hz
    by_cases e : f' = f
    · subst e
      rw [hlS 0 (by omega), hlS 2 (by omega), hlS 3 (by omega)]
      exact ⟨hf, hsh.1, hsh.2.2.1, hsh.2.2.2.1, fun k hk => by rw [hlS (4 + k) (by omega)]; exact hsh.2.2.2.2 k hk⟩
    · rw [ho f' e _ (by omega) (by omega)] at hz
      have h9 := s.l1 f' h1 hz
      unfold lrS
      rw [ho f' e _ (by omega) (by omega), ho f' e _ (by omega) (by omega), ho f' e _ (by omega) (by omega)]
      exact ⟨h9.1, h9.2.1, h9.2.2.1, h9.2.2.2.1, fun k hk => by rw [ho f' e _ (by omega) (by omega)]; exact h9.2.2.2.2 k hk⟩
