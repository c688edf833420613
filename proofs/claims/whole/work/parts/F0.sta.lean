/-! ===== the memory behind both constructors ===== -/
section TF
variable {h h' : mH} {x c k n : Nat}
theorem eqAt.hO (e : eqAt h h' x) (hx : x < hN h') (o : hO h x c) : hO h' x c := ⟨hx, by rw [e.1]; exact o.2⟩
theorem eqAt.hA (e : eqAt h h' x) (hx : x < hN h') (o : hA h x k n) : hA h' x k n := ⟨hx, by rw [e.1]; exact o.2⟩
theorem eqAt.I (e : eqAt h h' x) (y : Nat) : hI h' x y = hI h x y := congrFun e.2.1 y
theorem eqAt.R (e : eqAt h h' x) (y : Nat) : hR h' x y = hR h x y := congrFun e.2.2.2 y
end TF
def alL (a : Nat) : List (Nat × Nat × Nat) → mH → mH
  | [], h => h
  | p :: l, h => alL a l (al h a p.1 p.2.1 p.2.2)
theorem alL_N {a : Nat} : ∀ (l : List (Nat × Nat × Nat)) (h : mH), hN (alL a l h) = hN h + l.length
  | [], _ => rfl
  | p :: l, h => by
    show hN (alL a l _) = _
    rw [alL_N l, hN_al, List.length_cons]
    omega
theorem alL_e {a x : Nat} (ha : x ≠ a) : ∀ (l : List (Nat × Nat × Nat)) (h : mH), (x < hN h ∨ hN h + l.length ≤ x) → eqAt h (alL a l h) x
  | [], _, _ => eqAt.rf
  | p :: l, h, hx => by
    rw [List.length_cons] at hx
    exact (eqAt_al (by omega) ha).tr (alL_e ha l _ (by rw [hN_al]; omega))
theorem alL_at {a : Nat} : ∀ (l : List (Nat × Nat × Nat)) (h : mH), a < hN h → ∀ j, j < l.length → hK (alL a l h) (hN h + j) = (l.getD j (0, 0, 0)).2 ∧ hI (alL a l h) (hN h + j) = (fun _ => 0) ∧ hL (alL a l h) (hN h + j) = (fun _ => 0)
  | [], _, _, j, hj => absurd hj (Nat.not_lt_zero j)
  | p :: l, h, ha, j, hj => by
    rw [List.length_cons] at hj
    match j, hj with
    | 0, _ =>
      have e := alL_e (a := a) (x := hN h) (by omega) l (al h a p.1 p.2.1 p.2.2) (Or.inl (by rw [hN_al]; omega))
      show hK (alL a l (al h a p.1 p.2.1 p.2.2)) (hN h) = p.2 ∧ hI (alL a l (al h a p.1 p.2.1 p.2.2)) (hN h) = _ ∧ hL (alL a l (al h a p.1 p.2.1 p.2.2)) (hN h) = _
      refine ⟨e.1.trans ?_, e.2.1.trans ?_, e.2.2.1.trans ?_⟩
      · rw [hK_al, if_pos rfl]
      · funext y; rw [hI_al, if_pos rfl]
      · funext y; rw [hL_al, if_pos rfl]
    | j + 1, hj =>
      have ih := alL_at (a := a) l (al h a p.1 p.2.1 p.2.2) (by rw [hN_al]; omega) j (by omega)
      rw [hN_al, show hN h + 1 + j = hN h + (j + 1) by omega] at ih
      exact ih
theorem alL_R0 {a y : Nat} : ∀ (l : List (Nat × Nat × Nat)) (h : mH), a < hN h → y ∉ l.map Prod.fst → hR (alL a l h) a y = hR h a y
  | [], _, _, _ => rfl
  | p :: l, h, ha, hy => by
    show hR (alL a l (al h a p.1 p.2.1 p.2.2)) a y = _
    rw [alL_R0 l _ (by rw [hN_al]; omega) (fun z => hy (List.mem_cons_of_mem _ z)), hR_al_at ha, if_neg (fun z => hy (by rw [z]; exact List.mem_cons_self))]
theorem alL_R {a : Nat} : ∀ (l : List (Nat × Nat × Nat)) (h : mH), a < hN h → (l.map Prod.fst).Nodup → ∀ j, j < l.length → hR (alL a l h) a (l.getD j (0, 0, 0)).1 = some (hN h + j)
  | [], _, _, _, j, hj => absurd hj (Nat.not_lt_zero j)
  | p :: l, h, ha, hn, j, hj => by
    have hn : (p.1 :: l.map Prod.fst).Nodup := hn
    rw [List.nodup_cons] at hn
    rw [List.length_cons] at hj
    match j, hj with
    | 0, _ =>
      show hR (alL a l (al h a p.1 p.2.1 p.2.2)) a p.1 = _
      rw [alL_R0 l _ (by rw [hN_al]; omega) hn.1, hR_al_at ha, if_pos rfl]
      rfl
    | j + 1, hj =>
      have ih := alL_R (a := a) l (al h a p.1 p.2.1 p.2.2) (by rw [hN_al]; omega) hn.2 j (by omega)
      rw [hN_al, show hN h + 1 + j = hN h + (j + 1) by omega] at ih
      exact ih
theorem al_Ia {h : mH} {a f kd n : Nat} (ha : a < hN h) : hI (al h a f kd n) a = hI h a := by
  funext y
  rw [hI_al, if_neg (by omega)]
theorem alL_I {a : Nat} : ∀ (l : List (Nat × Nat × Nat)) (h : mH), a < hN h → hI (alL a l h) a = hI h a
  | [], _, _ => rfl
  | p :: l, h, ha => by
    show hI (alL a l (al h a p.1 p.2.1 p.2.2)) a = _
    rw [alL_I l _ (by rw [hN_al]; omega), al_Ia ha]
theorem alL_K {a : Nat} : ∀ (l : List (Nat × Nat × Nat)) (b : mH), a < hN b → hK (alL a l b) a = hK b a
  | [], _, _ => rfl
  | p :: l, b, ha => by
    show hK (alL a l (al b a p.1 p.2.1 p.2.2)) a = _
    rw [alL_K l _ (by rw [hN_al]; omega), hK_al, if_neg (by omega)]
/-- an object made anew, and its rows -/
theorem nwL {h : mH} {ci n : Nat} {l : List (Nat × Nat × Nat)} {b : mH} (hb : hN b = hN h + 1) (hk : hK b (hN h) = (ci, n)) (hn : (l.map Prod.fst).Nodup) : hO (alL (hN h) l b) (hN h) ci ∧ hI (alL (hN h) l b) (hN h) = hI b (hN h) ∧ ∀ j, j < l.length → hR (alL (hN h) l b) (hN h) (l.getD j (0, 0, 0)).1 = some (hN h + 1 + j) ∧ hA (alL (hN h) l b) (hN h + 1 + j) (l.getD j (0, 0, 0)).2.1 (l.getD j (0, 0, 0)).2.2 := by
  have hlt : hN h < hN b := by omega
  refine ⟨⟨by rw [alL_N]; omega, ?_⟩, alL_I l b hlt, fun j hj => ⟨?_, ?_, ?_⟩⟩
  · rw [alL_K l b hlt, hk]
  · rw [← hb]; exact alL_R l b hlt hn j hj
  · rw [alL_N]; omega
  · rw [← hb]; exact (alL_at l b hlt j hj).1
section TZ
variable {ow ow' : Nat → Nat} {h h' : mH} {a ρ ρ' : Nat}
theorem zS.tf {sp sl : Nat → Option Nat} {ss se : Nat → Int64} {sc : Int32} (z : zS ow h a ρ sp sl ss se sc) (e : ∀ x, a ≤ x → x < a + 5 → eqAt h h' x) (hn : a + 5 ≤ hN h') (w : ∀ x, a ≤ x → x < a + 5 → ow' x = ρ') : zS ow' h' a ρ' sp sl ss se sc :=
  have e0 := e a (by omega) (by omega)
  have e1 := e (a + 1) (by omega) (by omega)
  have e2 := e (a + 2) (by omega) (by omega)
  have e3 := e (a + 3) (by omega) (by omega)
  have e4 := e (a + 4) (by omega) (by omega)
  ⟨e0.hO (by omega) z.o, w _ (by omega) (by omega), (e0.R _).trans z.r0, e1.hA (by omega) z.a0, w _ (by omega) (by omega), e1.2.2.2.trans z.c0, (e0.R _).trans z.r1, e2.hA (by omega) z.a1, w _ (by omega) (by omega), e2.2.2.2.trans z.c1, (e0.R _).trans z.r2, e3.hA (by omega) z.a2, w _ (by omega) (by omega), e3.2.2.1.trans z.c2, (e0.R _).trans z.r3, e4.hA (by omega) z.a3, w _ (by omega) (by omega), e4.2.2.1.trans z.c3, (e0.I _).trans z.f4⟩
theorem zF.tf {fn : Nat → Int64} {fp fm : Nat → Int32} {fc : Int32} (z : zF ow h a ρ fn fp fm fc) (e : ∀ x, a ≤ x → x < a + 4 → eqAt h h' x) (hn : a + 4 ≤ hN h') (w : ∀ x, a ≤ x → x < a + 4 → ow' x = ρ') : zF ow' h' a ρ' fn fp fm fc :=
  have e0 := e a (by omega) (by omega)
  have e1 := e (a + 1) (by omega) (by omega)
  have e2 := e (a + 2) (by omega) (by omega)
  have e3 := e (a + 3) (by omega) (by omega)
  ⟨e0.hO (by omega) z.o, w _ (by omega) (by omega), (e0.R _).trans z.r0, e1.hA (by omega) z.a0, w _ (by omega) (by omega), e1.2.2.1.trans z.c0, (e0.R _).trans z.r1, e2.hA (by omega) z.a1, w _ (by omega) (by omega), e2.2.1.trans z.c1, (e0.R _).trans z.r2, e3.hA (by omega) z.a2, w _ (by omega) (by omega), e3.2.1.trans z.c2, (e0.I _).trans z.f3⟩
end TZ
theorem eqAt_iX7 {h : mH} {a x : Nat} (hx : x < hN h) (ha : x ≠ a) : eqAt h (iX7 h a) x := by
  unfold iX7 iX7b iX7a
  refine ((((((eqAt_mul (Or.inl hx)).tr (eqAt_sR ha)).tr (eqAt_al ?_ ha)).tr (eqAt_nw ?_)).tr (eqAt_iX1 (Or.inl ?_) (by omega))).tr (eqAt_sR ha)).tr (eqAt_al ?_ ha)
  · show x ≠ hN h + 7; omega
  · show x ≠ hN h + 8; omega
  · show x < hN h + 9; omega
  · show x ≠ hN h + 12; omega
theorem eqAt_iX3 {h : mH} {a x : Nat} (hx : x < hN h) (ha : x ≠ a) : eqAt h (iX3 h a) x := (eqAt_al (by omega) ha).tr (eqAt_iRing (by omega) 17 (Or.inl (by rw [hN_al]; omega)))
theorem eqAt_ob {ci n : Nat} {i : mH → Nat → mH} {h : mH} {a f x : Nat} (hi : eqAt (nw h ci n) (i (nw h ci n) (hN h)) x) (hx : x ≠ hN h) (ha : x ≠ a) : eqAt h (ob ci n i h a f) x := ((eqAt_nw hx).tr hi).tr (eqAt_sR ha)
theorem eqAt_obn {ci n : Nat} {i : mH → Nat → mH} {h : mH} {a f x : Nat} (ha : x ≠ a) : eqAt (i (nw h ci n) (hN h)) (ob ci n i h a f) x := eqAt_sR ha
theorem hI_ob {ci n : Nat} {i : mH → Nat → mH} {h : mH} {a f : Nat} (ha : a < hN h) (hi : eqAt (nw h ci n) (i (nw h ci n) (hN h)) a) : hI (ob ci n i h a f) a = hI h a := by
  show hI (i (nw h ci n) (hN h)) a = _
  rw [hi.2.1]
  funext y
  rw [hI_nw, if_neg (by omega)]
theorem cRing {g : Nat} : ∀ (k : Nat) {h : mH}, g < hN h → ∀ j, j < k → ∀ x, hN h + 5 * j ≤ x → x < hN h + 5 * j + 5 → eqAt (iX8 (nw (iRing g j h) 8 5) (hN (iRing g j h))) (iRing g k h) x
  | 0, _, _, j, hj => absurd hj (Nat.not_lt_zero j)
  | k + 1, h, hg, j, hj => fun x h1 h2 => by
    have hn := hN_iRing g k h
    by_cases c : j = k
    · subst c
      exact eqAt_sR (by omega)
    · have ih := cRing (g := g) k hg j (by omega) x h1 h2
      exact ih.tr ((eqAt_nw (by omega)).tr ((eqAt_iX8 (by rw [hN_nw]; omega) (by omega)).tr (eqAt_sR (by omega))))
theorem rRing {g : Nat} : ∀ (k : Nat) {h : mH}, g < hN h → ∀ j, j < k → hR (iRing g k h) g j = some (hN h + 5 * j)
  | 0, _, _, j, hj => absurd hj (Nat.not_lt_zero j)
  | k + 1, h, hg, j, hj => by
    have hn := hN_iRing g k h
    show hR (sR (iX8 (nw (iRing g k h) 8 5) (hN (iRing g k h))) g k (some (hN (iRing g k h)))) g j = _
    rw [hR_sR]
    by_cases c : j = k
    · rw [if_pos ⟨rfl, c⟩, hn, c]
    · rw [if_neg (fun z => c z.2)]
      have e := (eqAt_nw (h := iRing g k h) (kd := 8) (n := 5) (x := g) (by omega)).tr (eqAt_iX8 (a := hN (iRing g k h)) (by rw [hN_nw]; omega) (by omega))
      rw [e.R]
      exact rRing k hg j (by omega)
theorem kRing {g : Nat} (k : Nat) {h : mH} (hg : g < hN h) : hK (iRing g k h) g = hK h g := by
  induction k with
  | zero => rfl
  | succ k ih =>
    have hn := hN_iRing g k h
    have e := (eqAt_nw (h := iRing g k h) (kd := 8) (n := 5) (x := g) (by omega)).tr (eqAt_iX8 (a := hN (iRing g k h)) (by rw [hN_nw]; omega) (by omega))
    exact e.1.trans ih
theorem cTabs {g : Nat} : ∀ (k : Nat) {h : mH}, g < hN h → ∀ j, j < k → ∀ x, hN h + 7 * j ≤ x → x < hN h + 7 * j + 7 → eqAt (iX9 (nw (iTabs g j h) 9 9) (hN (iTabs g j h))) (iTabs g k h) x
  | 0, _, _, j, hj => absurd hj (Nat.not_lt_zero j)
  | k + 1, h, hg, j, hj => fun x h1 h2 => by
    have hn := hN_iTabs g k h
    by_cases c : j = k
    · subst c
      exact eqAt_sR (by omega)
    · have ih := cTabs (g := g) k hg j (by omega) x h1 h2
      exact ih.tr ((eqAt_nw (by omega)).tr ((eqAt_iX9 (by rw [hN_nw]; omega) (by omega)).tr (eqAt_sR (by omega))))
theorem rTabs {g : Nat} : ∀ (k : Nat) {h : mH}, g < hN h → ∀ j, j < k → hR (iTabs g k h) g j = some (hN h + 7 * j)
  | 0, _, _, j, hj => absurd hj (Nat.not_lt_zero j)
  | k + 1, h, hg, j, hj => by
    have hn := hN_iTabs g k h
    show hR (sR (iX9 (nw (iTabs g k h) 9 9) (hN (iTabs g k h))) g k (some (hN (iTabs g k h)))) g j = _
    rw [hR_sR]
    by_cases c : j = k
    · rw [if_pos ⟨rfl, c⟩, hn, c]
    · rw [if_neg (fun z => c z.2)]
      have e := (eqAt_nw (h := iTabs g k h) (kd := 9) (n := 9) (x := g) (by omega)).tr (eqAt_iX9 (a := hN (iTabs g k h)) (by rw [hN_nw]; omega) (by omega))
      rw [e.R]
      exact rTabs k hg j (by omega)
theorem kTabs {g : Nat} (k : Nat) {h : mH} (hg : g < hN h) : hK (iTabs g k h) g = hK h g := by
  induction k with
  | zero => rfl
  | succ k ih =>
    have hn := hN_iTabs g k h
    have e := (eqAt_nw (h := iTabs g k h) (kd := 9) (n := 9) (x := g) (by omega)).tr (eqAt_iX9 (a := hN (iTabs g k h)) (by rw [hN_nw]; omega) (by omega))
    exact e.1.trans ih
def l37 : List (Nat × Nat × Nat) := [(12, 15, 4), (13, 15, 240), (14, 14, 4), (15, 14, 6), (16, 14, 4), (17, 16, 4), (18, 16, 4), (22, 15, 935), (23, 15, 240), (25, 14, 240), (26, 14, 240), (27, 15, 14960), (30, 14, 40), (31, 14, 40), (33, 14, 8), (34, 14, 8), (36, 15, 12000), (37, 14, 12000), (38, 14, 12000), (39, 14, 12000), (40, 14, 32768), (42, 14, 64), (43, 14, 64), (44, 14, 64), (45, 14, 64), (46, 14, 6), (49, 15, 44), (51, 14, 4), (52, 14, 400), (53, 14, 400), (55, 15, 12000), (56, 15, 12000), (57, 15, 12000), (58, 14, 12000), (59, 14, 32768), (63, 15, 1870), (64, 16, 2)]
def bX12 (h : mH) (a : Nat) : mH := sI (sI (al h a 0 14 900) a 8 (-1)) a 10 (-1)
theorem iX12_L (h : mH) (a : Nat) : iX12 h a = sI (sI (sI (alL a l37 (bX12 h a)) a 19 0) a 20 0) a 21 0 := rfl
theorem l37_at : ∀ j, j < 37 → l37.getD j (0, 0, 0) = (mFld.getD (j + 1) 0, mKdl.getD (j + 1) (0, 0)) := by decide
theorem l37_n : (l37.map Prod.fst).Nodup := by decide
theorem eqAt_iX12 {h : mH} {a x : Nat} (hx : x < hN h ∨ hN h + 38 ≤ x) (ha : x ≠ a) : eqAt h (iX12 h a) x := by
  rw [iX12_L]
  have hl : l37.length = 37 := rfl
  have hb : hN (bX12 h a) = hN h + 1 := rfl
  exact ((((eqAt_al (by omega) ha).tr (eqAt_sI ha)).tr (eqAt_sI ha)).tr (alL_e ha l37 (bX12 h a) (by omega))).tr (((eqAt_sI ha).tr (eqAt_sI ha)).tr (eqAt_sI ha))
