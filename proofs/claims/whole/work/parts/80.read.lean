/-! ===== what the class holds of a row; what it reads there ===== -/
def pgR (ow : Nat → Nat) (h : mH) (q : Nat) (r : Nat → Int64) (p : Nat) : Prop := ∃ pt pk pn, zP ow h q 0 (rT r p) (nI (rT r p)) pt pk pn (nI (uq (tk r (p + 1))).length) ∧ ∀ i, i < rT r p → pt i = rW r p i ∧ pk i = nI (kd (rW r p i)) ∧ pn i = nI ((uq (tk r (p + 1))).idxOf (rW r p i))
def lnR (ow : Nat → Nat) (h : mH) (q : Nat) (r : Nat → Int64) (f : Nat) : Prop := ∃ nr np, zN ow h q 0 (lrN r f) (lrS r f 0) nr np (nI (lrS r f 0)) (nI (lrS r f 1)) (nI (lrS r f 2)) (nI (lrS r f 3)) ∧ (∀ k, k < lrN r f → ∃ key, cod key ∧ nr k = lN key ∧ ∀ w, w < 4 → itm (kI key w) = lrI r f k w) ∧ ∀ j, j < lrS r f 0 → np j = nI (lrS r f (4 + j))
def stR (ow : Nat → Nat) (h : mH) (a ρ : Nat) (r : Nat → Int64) : Prop := ∃ sp sl ss se, zS ow h a ρ sp sl ss se (nI (rP r)) ∧ (∀ p, p < rP r → ∃ q, sp p = some q ∧ pgR ow h q r p) ∧ (∀ f, f < 4 → (r (655 + 70 * f) = 1 → ∃ q, sl f = some q ∧ lnR ow h q r f) ∧ (¬ r (655 + 70 * f) = 1 → sl f = none)) ∧ ∀ f p, f < 4 → p < 6 → ss (6 * f + p) = lN (bsA (mkL r f p)) ∧ se (6 * f + p) = lN (bsE (mkL r f p))
def flR (ow : Nat → Nat) (h : mH) (q F : Nat) (pa my : Nat → Int32) : Prop := ∃ fn fp fm, zF ow h q 0 fn fp fm (nI F) ∧ ∀ f, f < F → fp f = pa f ∧ fm f = my f
/-- rows that never change; the model's cells, the script's -/
def kB (ow : Nat → Nat) (h : mH) : Prop := (hA h 21 17 17 ∧ ow 21 = 0 ∧ ∀ j, j < 17 → hR h 21 j = some (22 + 5 * j)) ∧ (hA h 108 18 4 ∧ ow 108 = 0 ∧ ∀ t, t < 4 → hR h 108 t = some (125 + 7 * t)) ∧ (hA h 7 21 6 ∧ ow 7 = 0 ∧ ∀ p, p < 6 → hR h 7 p = some (8 + p)) ∧ (∀ x, 153 ≤ x → x ≤ 191 → x < hN h ∧ ow x = 17) ∧ ow scrA = 17
abbrev nowA (o d : Nat) : Nat := 22 + 5 * ((o + d) % 17)
abbrev nowR (o d : Nat) : Nat := 20 + (o + d) % 17
/-- all that a question reads -/
def eS (ow : Nat → Nat) (h : mH) (F : Nat) (pa my : Nat → Int32) (r : Nat → Int64) (fa o d u : Nat) : Prop := (∃ xt xf xp, zX ow h xt xf xp (some fa)) ∧ zH ow h (nI o) (nI d) (nI u) ∧ kB ow h ∧ flR ow h fa F pa my ∧ stR ow h (nowA o d) (nowR o d) r ∧ o < 17 ∧ d ≤ 16
abbrev scrR : List Nat := [1, 2, 3, 4, 10, 11, 12, 13, 14, 18]
section
variable {S : List Nat} {u9 : Nat} {ow ow' : Nat → Nat} {h h' : mH} {q : Nat} {r : Nat → Int64}
theorem pgR.fr {p : Nat} (g : pgR ow h q r p) (f : cFr S u9 ow h ow' h') (h0 : 0 ∉ S) : pgR ow' h' q r p := by
  obtain ⟨pt, pk, pn, z, hz⟩ := g
  exact ⟨pt, pk, pn, z.fr f h0, hz⟩
theorem lnR.fr {p : Nat} (g : lnR ow h q r p) (f : cFr S u9 ow h ow' h') (h0 : 0 ∉ S) : lnR ow' h' q r p := by
  obtain ⟨nr, np, z, hz⟩ := g
  exact ⟨nr, np, z.fr f h0, hz⟩
theorem flR.fr {F : Nat} {pa my : Nat → Int32} (g : flR ow h q F pa my) (f : cFr S u9 ow h ow' h') (h0 : 0 ∉ S) : flR ow' h' q F pa my := by
  obtain ⟨fn, fp, fm, z, hz⟩ := g
  exact ⟨fn, fp, fm, z.fr f h0, hz⟩
theorem stR.fr {a ρ : Nat} (g : stR ow h a ρ r) (f : cFr S u9 ow h ow' h') (h0 : 0 ∉ S) (h1 : ρ ∉ S) : stR ow' h' a ρ r := by
  obtain ⟨sp, sl, ss, se, z, hp, hl, hb⟩ := g
  refine ⟨sp, sl, ss, se, z.fr f h1, fun p hp9 => ?_, fun f9 hf9 => ⟨fun e => ?_, (hl f9 hf9).2⟩, hb⟩
  · obtain ⟨q, e, g⟩ := hp p hp9
    exact ⟨q, e, g.fr f h0⟩
  · obtain ⟨q, e, g⟩ := (hl f9 hf9).1 e
    exact ⟨q, e, g.fr f h0⟩
theorem kB.fr (g : kB ow h) (f : cFr S u9 ow h ow' h') (h0 : 0 ∉ S) (h1 : 0 ∉ S) : kB ow' h' := by
  obtain ⟨⟨a1, a2, a3⟩, ⟨b1, b2, b3⟩, ⟨c1, c2, c3⟩, m, w⟩ := g
  have sa := (f.s a1.1 a2 h0).2.2
  have sb := (f.s b1.1 b2 h0).2.2
  have sc := (f.s c1.1 c2 h0).2.2
  refine ⟨⟨f.a a1, (f.w a1.1).trans a2, fun j hj => (congrFun sa j).trans (a3 j hj)⟩, ⟨f.a b1, (f.w b1.1).trans b2, fun j hj => (congrFun sb j).trans (b3 j hj)⟩, ⟨f.a c1, (f.w c1.1).trans c2, fun j hj => (congrFun sc j).trans (c3 j hj)⟩, fun x h1 h2 => ?_, ?_⟩
  · obtain ⟨m1, m2⟩ := m x h1 h2
    exact ⟨Nat.lt_of_lt_of_le m1 f.1.1, (f.w m1).trans m2⟩
  · exact (f.2 scrA (Or.inr rfl)).2.1.trans w
theorem eS.fr {F fa o d u : Nat} {pa my : Nat → Int32} (g : eS ow h F pa my r fa o d u) (f : cFr S u9 ow h ow' h') (hs : ∀ x ∈ S, x ∈ scrR) : eS ow' h' F pa my r fa o d u := by
  obtain ⟨⟨xt, xf, xp, x⟩, hh, kb, fl, st, ho, hd⟩ := g
  have h0 : 0 ∉ S := fun z => absurd (hs _ z) (by decide)
  have hn : nowR o d ∉ S := fun z => by
    have := hs _ z
    simp [scrR, nowR] at this
    omega
  exact ⟨⟨xt, xf, xp, x.fr f (fun z => absurd (hs _ z) (by decide))⟩, hh.fr f (fun z => absurd (hs _ z) (by decide)), kb.fr f h0 h0, fl.fr f h0, st.fr f h0 hn, ho, hd⟩
end
section
variable {ow : Nat → Nat} {h : mH} {F fa oo dd uu : Nat} {pa my : Nat → Int32} {r : Nat → Int64}
theorem eS.o (e : eS ow h F pa my r fa oo dd uu) : hO h 0 11 := e.1.choose_spec.choose_spec.choose_spec.o
theorem eS.f4 (e : eS ow h F pa my r fa oo dd uu) : hR h 0 4 = some fa := e.1.choose_spec.choose_spec.choose_spec.f4
theorem eS.hh (e : eS ow h F pa my r fa oo dd uu) : zH ow h (nI oo) (nI dd) (nI uu) := e.2.1
theorem eS.kb (e : eS ow h F pa my r fa oo dd uu) : kB ow h := e.2.2.1
theorem eS.fl (e : eS ow h F pa my r fa oo dd uu) : flR ow h fa F pa my := e.2.2.2.1
theorem eS.st (e : eS ow h F pa my r fa oo dd uu) : stR ow h (nowA oo dd) (nowR oo dd) r := e.2.2.2.2.1
theorem eS.od (e : eS ow h F pa my r fa oo dd uu) : oo < 17 ∧ dd ≤ 16 := e.2.2.2.2.2
theorem flR.o {q : Nat} (e : flR ow h q F pa my) : hO h q 1 := e.choose_spec.choose_spec.choose_spec.1.o
theorem stR.o {a ρ : Nat} (e : stR ow h a ρ r) : hO h a 8 := e.choose_spec.choose_spec.choose_spec.choose_spec.1.o
theorem pgR.o {q p : Nat} (e : pgR ow h q r p) : hO h q 6 := e.choose_spec.choose_spec.choose_spec.1.o
theorem lnR.o {q p : Nat} (e : lnR ow h q r p) : hO h q 4 := e.choose_spec.choose_spec.1.o
theorem eS.r0 (e : eS ow h F pa my r fa oo dd uu) : hR h 0 0 = some 1 := e.1.choose_spec.choose_spec.choose_spec.r0
theorem eS.r5 (e : eS ow h F pa my r fa oo dd uu) : hR h 0 5 = some 6 := e.1.choose_spec.choose_spec.choose_spec.r5
theorem eS.r6 (e : eS ow h F pa my r fa oo dd uu) : hR h 0 6 = some 20 := e.1.choose_spec.choose_spec.choose_spec.r6
theorem eS.r7 (e : eS ow h F pa my r fa oo dd uu) : hR h 0 7 = some 107 := e.1.choose_spec.choose_spec.choose_spec.r7
theorem eS.r8 (e : eS ow h F pa my r fa oo dd uu) : hR h 0 8 = some 108 := e.1.choose_spec.choose_spec.choose_spec.r8
theorem eS.r9 (e : eS ow h F pa my r fa oo dd uu) : hR h 0 9 = some 109 := e.1.choose_spec.choose_spec.choose_spec.r9
theorem eS.r10 (e : eS ow h F pa my r fa oo dd uu) : hR h 0 10 = some 115 := e.1.choose_spec.choose_spec.choose_spec.r10
theorem eS.r11 (e : eS ow h F pa my r fa oo dd uu) : hR h 0 11 = some 117 := e.1.choose_spec.choose_spec.choose_spec.r11
theorem eS.r12 (e : eS ow h F pa my r fa oo dd uu) : hR h 0 12 = some 121 := e.1.choose_spec.choose_spec.choose_spec.r12
theorem eS.r13 (e : eS ow h F pa my r fa oo dd uu) : hR h 0 13 = some 123 := e.1.choose_spec.choose_spec.choose_spec.r13
end
theorem uq_app (l : List Int64) : ∀ m : List Int64, ∃ t, uq (l ++ m) = uq l ++ t := by
  have h : ∀ m' : List Int64, ∃ t, uq (l ++ m'.reverse) = uq l ++ t := by
    intro m'
    induction m' with
    | nil => exact ⟨[], by rw [List.reverse_nil, List.append_nil, List.append_nil]⟩
    | cons w t ih =>
      obtain ⟨t', e⟩ := ih
      rw [List.reverse_cons, ← List.append_assoc, uq_snoc]
      split
      · exact ⟨t', e⟩
      · exact ⟨t' ++ [w], by rw [e, List.append_assoc]⟩
  intro m
  have := h m.reverse
  rwa [List.reverse_reverse] at this
theorem tk_app (r : Nat → Int64) (p : Nat) : ∀ k, ∃ t, tk r (p + k) = tk r p ++ t
  | 0 => ⟨[], (List.append_nil _).symm⟩
  | k + 1 => by
    obtain ⟨t, e⟩ := tk_app r p k
    exact ⟨t ++ pg r (p + k) (rT r (p + k)), by show tk r (p + k) ++ _ = _; rw [e, List.append_assoc]; rfl⟩
theorem mem_tk {r : Nat → Int64} {p i : Nat} (hi : i < rT r p) : rW r p i ∈ tk r (p + 1) := List.mem_append.mpr (Or.inr (List.mem_map.mpr ⟨i, List.mem_range.mpr hi, rfl⟩))
theorem idx_uqA {r : Nat → Int64} {p i : Nat} (hp : p < rP r) (hi : i < rT r p) : (uqA r).idxOf (rW r p i) = (uq (tk r (p + 1))).idxOf (rW r p i) := by
  obtain ⟨t, e⟩ := tk_app r (p + 1) (rP r - (p + 1))
  rw [show p + 1 + (rP r - (p + 1)) = rP r by omega] at e
  obtain ⟨t', e'⟩ := uq_app (tk r (p + 1)) t
  unfold uqA
  rw [e, e']
  exact idxOf_left ((mem_uq _ _ rfl _).mpr (mem_tk hi))
theorem srt_mk {r : Nat → Int64} {F : Nat} {pa my : Nat → Int32} {f p : Nat} (hd : sOK r F pa my) (hf : f < 4) (hp : p < 6) : srt (mkL r f p) (rT r p) := by
  intro i hi
  rw [mkL_len] at hi
  have hm := (hd.w.2.2 f p hf hp).1.2
  rw [mkL_getD hi]
  have h1 := hd.so f p i hf hp hi
  have h2 := (hd.ab f p i hf hp (by omega)).2
  refine ⟨h1.1, h2, fun z => ?_⟩
  rw [mkL_len] at z
  rw [mkL_getD z]
  exact h1.2 z
theorem bsA0 {r : Nat → Int64} {F : Nat} {pa my : Nat → Int32} {f p : Nat} (hd : sOK r F pa my) (hf : f < 4) (hp : p < 6) : bsA (mkL r f p) = 0 ↔ rM r f p = 0 := by
  have hT := (hd.w.2.1 p hp).2
  have := bsN_0 (srt_asc (srt_mk hd hf hp) (by omega)).1
  unfold bsA
  rw [this, List.map_eq_nil_iff, ← List.length_eq_zero_iff, mkL_len]
theorem bsA_lt {r : Nat → Int64} {F : Nat} {pa my : Nat → Int32} {f p : Nat} (hd : sOK r F pa my) (hf : f < 4) (hp : p < 6) : bsA (mkL r f p) < 2 ^ 63 ∧ bsE (mkL r f p) < 2 ^ 63 := by
  have hT := (hd.w.2.1 p hp).2
  have := srt_asc (srt_mk hd hf hp) (by omega)
  exact ⟨bsN_lt this.1, bsN_lt this.2⟩
theorem lN0 {n : Nat} (h : n < 2 ^ 63) : lN n = 0 ↔ n = 0 := pk_lEQ (b := 0) h (by decide)
set_option maxRecDepth 20000 in
theorem pX1_has {h : mH} {Q : Option Value → mH → Prop} {ow : Nat → Nat} {q F : Nat} {pa my : Nat → Int32} {x : Int32} (fl : flR ow h q F pa my) (h4 : F ≤ 4) (ht : ∀ f, f < F → x = nI f → Q (some (.int (nI 1))) h) (hf : ix x F = none → Q (some (.int (nI 0))) h) : Wp mX1_has 0 0 0 [some (.ref q), some (.int x)] [] h Q := by
  obtain ⟨fn, fp, fm, fz, hz⟩ := fl
  refine wp_iload_n dX1_has_0 rfl rfl ?_
  refine wp_if_lt dX1_has_1 (fun c2 => ?_) (fun c2 => ?_)
  · refine wp_iconst (v := (nI 0)) dX1_has_16 (by decide +kernel) ?_
    refine wp_zreturn dX1_has_17 rfl (Or.inl rfl) ?_
    exact hf (ix_lt0 c2)
  · refine wp_iload_n dX1_has_4 rfl rfl ?_
    refine wp_aload_n dX1_has_5 rfl rfl ?_
    refine wp_getIV dX1_has_6 lX1_23 rfl fz.o fz.f3 ?_
    refine wp_icmp_ge dX1_has_9 (fun c4 => ?_) (fun c4 => ?_)
    · refine wp_iconst (v := (nI 0)) dX1_has_16 (by decide +kernel) ?_
      refine wp_zreturn dX1_has_17 rfl (Or.inl rfl) ?_
      exact hf (ix_ge (by omega) c4)
    · obtain ⟨j1, hj1, ej1⟩ := ix_pos (by omega) c2 c4
      subst ej1
      refine wp_iconst (v := (nI 1)) dX1_has_12 (by decide +kernel) ?_
      refine wp_goto dX1_has_13 ?_
      refine wp_zreturn dX1_has_17 rfl (Or.inr rfl) ?_
      exact ht _ (by omega) rfl
set_option maxRecDepth 20000 in
theorem pX6_kindAt {h : mH} {Q : Option Value → mH → Prop} {ow : Nat → Nat} {q F p : Nat} {pa my : Nat → Int32} {r : Nat → Int64} {x : Int32} (hd : sOK r F pa my) (hp : p < rP r) (pg : pgR ow h q r p) (ht : ∀ i, i < rT r p → x = nI i → Q (some (.int (nI (kd (rW r p i))))) h) (hf : ix x (rT r p) = none → Q (some (.int (-1))) h) : Wp mX6_kindAt 0 0 0 [some (.ref q), some (.int x)] [] h Q := by
  obtain ⟨pt, pk, pn, pz, hz⟩ := pg
  have hP6 := hd.w.1.2
  have hT := (hd.w.2.1 p (by omega)).2
  refine wp_iload_n dX6_kindAt_0 rfl rfl ?_
  refine wp_if_lt dX6_kindAt_1 (fun c2 => ?_) (fun c2 => ?_)
  · refine wp_iconst (v := (-1)) dX6_kindAt_21 (by decide +kernel) ?_
    refine wp_ireturn dX6_kindAt_22 rfl ?_
    exact hf (ix_lt0 c2)
  · refine wp_iload_n dX6_kindAt_4 rfl rfl ?_
    refine wp_aload_n dX6_kindAt_5 rfl rfl ?_
    refine wp_getIV dX6_kindAt_6 lX6_18 rfl pz.o pz.f0 ?_
    refine wp_icmp_ge dX6_kindAt_9 (fun c4 => ?_) (fun c4 => ?_)
    · refine wp_iconst (v := (-1)) dX6_kindAt_21 (by decide +kernel) ?_
      refine wp_ireturn dX6_kindAt_22 rfl ?_
      exact hf (ix_ge (by omega) c4)
    · obtain ⟨j1, hj1, ej1⟩ := ix_pos (by omega) c2 c4
      subst ej1
      refine wp_aload_n dX6_kindAt_12 rfl rfl ?_
      refine wp_getR dX6_kindAt_13 lX6_34 rfl pz.o pz.r2 ?_
      refine wp_iload_n dX6_kindAt_16 rfl rfl ?_
      refine wp_ialdV dX6_kindAt_17 pz.a2 rfl ⟨by omega, by omega⟩ ((congrFun pz.c2 _).trans (hz _ (by omega)).2.1) ?_
      refine wp_goto dX6_kindAt_18 ?_
      refine wp_ireturn dX6_kindAt_22 rfl ?_
      exact ht _ (by omega) rfl
theorem it0 {r : Nat → Int64} {p i : Nat} (_hi : i < rT r p) : nI (kd (rW r p i)) = itm (asC r p i 0) := by
  unfold asC itm
  rw [if_pos rfl, if_neg (by omega), Nat.add_sub_cancel]
theorem it1 {r : Nat → Int64} {p i : Nat} (hp : p < rP r) (hi : i < rT r p) : nI 3 + nI ((uq (tk r (p + 1))).idxOf (rW r p i)) = itm (asC r p i 1) := by
  have e : asC r p i 1 = (uqA r).idxOf (rW r p i) + 4 := if_neg (by decide)
  unfold itm
  rw [e, if_neg (by omega), idx_uqA hp hi, nI_add]
  congr 1
  omega
set_option maxRecDepth 20000 in
theorem pX6_itemAt {h : mH} {Q : Option Value → mH → Prop} {ow : Nat → Nat} {q F p z : Nat} {pa my : Nat → Int32} {r : Nat → Int64} {x : Int32} (hd : sOK r F pa my) (hp : p < rP r) (pg : pgR ow h q r p) (hz2 : z < 2) (ht : ∀ i, i < rT r p → x = nI i → ∀ v, (z = 0 ∧ v = itm (asC r p i 0) ∨ z = 1 ∧ v = itm (asC r p i 1)) → Q (some (.int v)) h) (hf : ix x (rT r p) = none → Q (some (.int (-1))) h) : Wp mX6_itemAt 0 0 0 [some (.ref q), some (.int x), some (.int (nI z))] [] h Q := by
  obtain ⟨pt, pk, pn, pz, hz⟩ := pg
  have hP6 := hd.w.1.2
  have hT := (hd.w.2.1 p (by omega)).2
  refine wp_iload_n dX6_itemAt_0 rfl rfl ?_
  refine wp_if_lt dX6_itemAt_1 (fun c2 => ?_) (fun c2 => ?_)
  · refine wp_iconst (v := (-1)) dX6_itemAt_12 (by decide +kernel) ?_
    refine wp_ireturn dX6_itemAt_13 rfl ?_
    exact hf (ix_lt0 c2)
  · refine wp_iload_n dX6_itemAt_4 rfl rfl ?_
    refine wp_aload_n dX6_itemAt_5 rfl rfl ?_
    refine wp_getIV dX6_itemAt_6 lX6_18 rfl pz.o pz.f0 ?_
    refine wp_icmp_lt dX6_itemAt_9 (fun c4 => ?_) (fun c4 => ?_)
    · obtain ⟨j1, hj1, ej1⟩ := ix_lt (by omega) c2 c4
      subst ej1
      refine wp_iload_n dX6_itemAt_14 rfl rfl ?_
      refine wp_if_eqN dX6_itemAt_15 rfl (by omega) (fun c5 => ?_) (fun c5 => ?_)
      · refine wp_aload_n dX6_itemAt_29 rfl rfl ?_
        refine wp_getR dX6_itemAt_30 lX6_34 rfl pz.o pz.r2 ?_
        refine wp_iload_n dX6_itemAt_33 rfl rfl ?_
        refine wp_ialdV dX6_itemAt_34 pz.a2 rfl ⟨by omega, by omega⟩ ((congrFun pz.c2 _).trans (hz _ (by omega)).2.1) ?_
        refine wp_ireturn dX6_itemAt_35 rfl ?_
        exact ht j1 (by omega) rfl _ (by first | exact Or.inl ⟨by omega, it0 (by omega)⟩ | exact Or.inr ⟨by omega, it1 hp (by omega)⟩)
      · refine wp_iconst (v := (nI 3)) dX6_itemAt_18 (by decide +kernel) ?_
        refine wp_aload_n dX6_itemAt_19 rfl rfl ?_
        refine wp_getR dX6_itemAt_20 lX6_38 rfl pz.o pz.r3 ?_
        refine wp_iload_n dX6_itemAt_23 rfl rfl ?_
        refine wp_ialdV dX6_itemAt_24 pz.a3 rfl ⟨by omega, by omega⟩ ((congrFun pz.c3 _).trans (hz _ (by omega)).2.2) ?_
        refine wp_iadd dX6_itemAt_25 ?_
        refine wp_goto dX6_itemAt_26 ?_
        refine wp_ireturn dX6_itemAt_35 rfl ?_
        exact ht j1 (by omega) rfl _ (by first | exact Or.inl ⟨by omega, it0 (by omega)⟩ | exact Or.inr ⟨by omega, it1 hp (by omega)⟩)
    · refine wp_iconst (v := (-1)) dX6_itemAt_12 (by decide +kernel) ?_
      refine wp_ireturn dX6_itemAt_13 rfl ?_
      exact hf (ix_nlt (by omega) c4)
set_option maxRecDepth 20000 in
theorem pX8_pageAt {h : mH} {Q : Option Value → mH → Prop} {ow : Nat → Nat} {a ρ : Nat} {r : Nat → Int64} {x : Int32} (s9 : stR ow h a ρ r) (hP6 : rP r ≤ 6) (h1 : ∀ p q, p < rP r → x = nI p → pgR ow h q r p → Q (some (.ref q)) h) (h2 : ix x (rP r) = none → Q (some .null) h) : Wp mX8_pageAt 0 0 0 [some (.ref a), some (.int x)] [] h Q := by
  obtain ⟨sp, sl, ss, se, st, hpg, hlr, hbs⟩ := s9
  refine wp_iload_n dX8_pageAt_0 rfl rfl ?_
  refine wp_if_lt dX8_pageAt_1 (fun c2 => ?_) (fun c2 => ?_)
  · refine wp_null dX8_pageAt_21 ?_
    refine wp_areturnN dX8_pageAt_22 (Or.inl ⟨_, rfl⟩) ?_
    exact h2 (ix_lt0 c2)
  · refine wp_iload_n dX8_pageAt_4 rfl rfl ?_
    refine wp_aload_n dX8_pageAt_5 rfl rfl ?_
    refine wp_getIV dX8_pageAt_6 lX8_36 rfl st.o st.f4 ?_
    refine wp_icmp_ge dX8_pageAt_9 (fun c4 => ?_) (fun c4 => ?_)
    · refine wp_null dX8_pageAt_21 ?_
      refine wp_areturnN dX8_pageAt_22 (Or.inl ⟨_, rfl⟩) ?_
      exact h2 (ix_ge (by omega) c4)
    · obtain ⟨j1, hj1, ej1⟩ := ix_pos (by omega) c2 c4
      subst ej1
      refine wp_aload_n dX8_pageAt_12 rfl rfl ?_
      refine wp_getR dX8_pageAt_13 lX8_11 rfl st.o st.r0 ?_
      refine wp_iload_n dX8_pageAt_16 rfl rfl ?_
      obtain ⟨q2, eq2, pg2⟩ := hpg j1 (by omega)
      refine wp_aaldJ dX8_pageAt_17 st.a0 (by decide) (by decide) rfl ⟨by omega, by omega⟩ ((congrFun st.c0 _).trans eq2) ?_
      refine wp_goto dX8_pageAt_18 ?_
      refine wp_areturn dX8_pageAt_22 (Or.inl ⟨_, rfl⟩) ?_
      exact h1 _ _ (by omega) rfl pg2
theorem stR.c {ow : Nat → Nat} {h : mH} {a ρ : Nat} {r : Nat → Int64} (e : stR ow h a ρ r) : hI h a 4 = nI (rP r) := e.choose_spec.choose_spec.choose_spec.choose_spec.1.f4
theorem pgR.u {ow : Nat → Nat} {h : mH} {q p : Nat} {r : Nat → Int64} (e : pgR ow h q r p) : hI h q 4 = nI (uq (tk r (p + 1))).length := e.choose_spec.choose_spec.choose_spec.1.f4
theorem pgR.n {ow : Nat → Nat} {h : mH} {q p : Nat} {r : Nat → Int64} (e : pgR ow h q r p) : hI h q 0 = nI (rT r p) := e.choose_spec.choose_spec.choose_spec.1.f0
theorem pred_of {P p : Nat} (e : nI P - nI 1 = nI p) (hp : p < P) (h6 : P ≤ 6) : p + 1 = P := by
  rw [pk_sub (by omega), nI_eq (by omega) (by omega)] at e
  omega
theorem pred_no {P : Nat} (e : ix (nI P - nI 1) P = none) (h6 : P ≤ 6) : P = 0 := by
  rcases Nat.eq_zero_or_pos P with z | z
  · exact z
  · rw [pk_sub (by omega), ix_nI (by omega) (by omega)] at e
    cases e
set_option maxRecDepth 20000 in
theorem pX8_unlikeTokens {h : mH} {Q : Option Value → mH → Prop} {ow : Nat → Nat} {a ρ : Nat} {r : Nat → Int64} (s9 : stR ow h a ρ r) (hP6 : rP r ≤ 6) (hq : Q (some (.int (nI (uqA r).length))) h) : Wp mX8_unlikeTokens 1 21 0 [some (.ref a), none] [] h Q := by
  refine wp_aload_n dX8_unlikeTokens_0 rfl rfl ?_
  refine wp_aload_n dX8_unlikeTokens_1 rfl rfl ?_
  refine wp_getIV dX8_unlikeTokens_2 lX8_36 rfl s9.o (stR.c s9) ?_
  refine wp_iconst (v := (nI 1)) dX8_unlikeTokens_5 (by decide +kernel) ?_
  refine wp_isub dX8_unlikeTokens_6 ?_
  refine wp_cV1 0 0 [some _, some _] dX8_unlikeTokens_7 tX8_pageAt rfl (by decide) nX8_pageAt vX8_pageAt lX8_49 ⟨by decide, by decide⟩ (Nat.le_of_ble_eq_true rfl) s9.o (Nat.le_of_ble_eq_true rfl) rfl ?_
  refine pX8_pageAt s9 hP6 (fun p1 q1 hp1 ep1 pg1 => ?_) (fun xn1 => ?_)
  · skip
    intro _ _
    refine wp_astore_n (ls1 := [_, some _]) dX8_unlikeTokens_10 rfl (by decide) rfl ?_
    refine wp_aload_n dX8_unlikeTokens_11 rfl rfl ?_
    refine wp_ifnonnull dX8_unlikeTokens_12 ?_
    refine wp_aload_n dX8_unlikeTokens_19 rfl rfl ?_
    refine wp_getIV dX8_unlikeTokens_20 lX8_53 rfl pg1.o (pgR.u pg1) ?_
    refine wp_ireturn dX8_unlikeTokens_23 rfl ?_
    rw [show uq (tk r (p1 + 1)) = uqA r by unfold uqA; rw [pred_of ep1 (by omega) hP6]] 
    exact hq
  · intro _ _
    refine wp_astore_nN (ls1 := [_, some _]) dX8_unlikeTokens_10 rfl (by decide) rfl ?_
    refine wp_aload_nN dX8_unlikeTokens_11 rfl rfl ?_
    refine wp_ifnonnullN dX8_unlikeTokens_12 ?_
    refine wp_iconst (v := (nI 0)) dX8_unlikeTokens_15 (by decide +kernel) ?_
    refine wp_goto dX8_unlikeTokens_16 ?_
    refine wp_ireturn dX8_unlikeTokens_23 rfl ?_
    rw [show (uqA r).length = 0 by unfold uqA; rw [pred_no xn1 hP6]; rfl] at hq
    exact hq
set_option maxRecDepth 20000 in
theorem pX8_isExample {h : mH} {Q : Option Value → mH → Prop} {ow : Nat → Nat} {a ρ F : Nat} {r : Nat → Int64} {pa my : Nat → Int32} {f : Nat} {x : Int32} (s9 : stR ow h a ρ r) (hd : sOK r F pa my) (hf4 : f < 4) (ht : ∀ p, p < rP r → x = nI p → 0 < rM r f p → Q (some (.int (nI 1))) h) (hf : (ix x (rP r) = none ∨ ∃ p, p < rP r ∧ x = nI p ∧ rM r f p = 0) → Q (some (.int (nI 0))) h) : Wp mX8_isExample 1 21 0 [some (.ref a), some (.int x), some (.int (nI f))] [] h Q := by
  have hP6 := hd.w.1.2
  obtain ⟨sp, sl, ss, se, st, hpg, hlr, hbs⟩ := s9
  refine wp_iload_n dX8_isExample_0 rfl rfl ?_
  refine wp_if_lt dX8_isExample_1 (fun c2 => ?_) (fun c2 => ?_)
  · refine wp_iconst (v := (nI 0)) dX8_isExample_31 (by decide +kernel) ?_
    refine wp_zreturn dX8_isExample_32 rfl (by first | exact Or.inl rfl | exact Or.inr rfl) ?_
    exact hf (Or.inl (ix_lt0 c2))
  · refine wp_iload_n dX8_isExample_4 rfl rfl ?_
    refine wp_aload_n dX8_isExample_5 rfl rfl ?_
    refine wp_getIV dX8_isExample_6 lX8_36 rfl st.o st.f4 ?_
    refine wp_icmp_ge dX8_isExample_9 (fun c4 => ?_) (fun c4 => ?_)
    · refine wp_iconst (v := (nI 0)) dX8_isExample_31 (by decide +kernel) ?_
      refine wp_zreturn dX8_isExample_32 rfl (by first | exact Or.inl rfl | exact Or.inr rfl) ?_
      exact hf (Or.inl (ix_ge (by omega) c4))
    · obtain ⟨j1, hj1, ej1⟩ := ix_pos (by omega) c2 c4
      subst ej1
      refine wp_aload_n dX8_isExample_12 rfl rfl ?_
      refine wp_getR dX8_isExample_13 lX8_23 rfl st.o st.r2 ?_
      refine wp_iload_n dX8_isExample_16 rfl rfl ?_
      refine wp_iload_n dX8_isExample_17 rfl rfl ?_
      refine wp_cSN2 0 0 [some _, some _] dX8_isExample_18 tX11_spotOf sX11_spotOf lX8_56 ⟨by decide, by decide⟩ (Nat.le_of_ble_eq_true rfl) (Nat.le_of_ble_eq_true rfl) rfl ?_
      refine pX11_spotOf ?_
      intro _ _
      refine wp_laldV dX8_isExample_21 st.a2 rfl ⟨by omega, by omega⟩ ((congrFun st.c2 _).trans (hbs f j1 (by omega) (by omega)).1) ?_
      refine wp_lconst (v := 0) dX8_isExample_22 (by decide +kernel) ?_
      refine wp_lc_eq dX8_isExample_23 dX8_isExample_24 (fun c5 => ?_) (fun c5 => ?_)
      · refine wp_iconst (v := (nI 0)) dX8_isExample_31 (by decide +kernel) ?_
        refine wp_zreturn dX8_isExample_32 rfl (by first | exact Or.inl rfl | exact Or.inr rfl) ?_
        first | exact ht j1 (by omega) rfl (Nat.pos_of_ne_zero (fun z => (by assumption : ¬ lN (bsA (mkL r f j1)) = 0) ((lN0 (bsA_lt hd (by omega) (by omega)).1).mpr ((bsA0 hd (by omega) (by omega)).mpr z)))) | exact hf (Or.inr ⟨j1, by omega, rfl, (bsA0 hd (by omega) (by omega)).mp ((lN0 (bsA_lt hd (by omega) (by omega)).1).mp (by assumption))⟩)
      · refine wp_iconst (v := (nI 1)) dX8_isExample_27 (by decide +kernel) ?_
        refine wp_goto dX8_isExample_28 ?_
        refine wp_zreturn dX8_isExample_32 rfl (by first | exact Or.inl rfl | exact Or.inr rfl) ?_
        first | exact ht j1 (by omega) rfl (Nat.pos_of_ne_zero (fun z => (by assumption : ¬ lN (bsA (mkL r f j1)) = 0) ((lN0 (bsA_lt hd (by omega) (by omega)).1).mpr ((bsA0 hd (by omega) (by omega)).mpr z)))) | exact hf (Or.inr ⟨j1, by omega, rfl, (bsA0 hd (by omega) (by omega)).mp ((lN0 (bsA_lt hd (by omega) (by omega)).1).mp (by assumption))⟩)
