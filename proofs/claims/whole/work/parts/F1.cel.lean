/-! ===== the memory behind both constructors: its cells ===== -/
def owF (x : Nat) : Nat := if x < 1 then 7 else if x < 2 then 6 else if x < 6 then 0 else if x < 7 then 5 else if x < 8 then 0 else if x < 14 then 19 else if x < 20 then 5 else if x < 21 then 8 else if x < 22 then 0 else if x < 107 then 20 + (x - 22) / 5 else if x < 108 then 9 else if x < 109 then 0 else if x < 115 then 2 else if x < 117 then 1 else if x < 121 then 10 else if x < 123 then 3 else if x < 125 then 4 else if x < 153 then 11 + (x - 125) / 7 else 17
theorem owF_st {x j : Nat} (h1 : 22 + 5 * j ≤ x) (h2 : x < 22 + 5 * j + 5) (hj : j < 17) : owF x = 20 + j := by
  unfold owF
  rw [if_neg (show ¬ x < 1 by omega), if_neg (show ¬ x < 2 by omega), if_neg (show ¬ x < 6 by omega), if_neg (show ¬ x < 7 by omega), if_neg (show ¬ x < 8 by omega), if_neg (show ¬ x < 14 by omega), if_neg (show ¬ x < 20 by omega), if_neg (show ¬ x < 21 by omega), if_neg (show ¬ x < 22 by omega), if_pos (show x < 107 by omega)]
  omega
theorem owF_tb {x f : Nat} (h1 : 125 + 7 * f ≤ x) (h2 : x < 125 + 7 * f + 7) (hf : f < 4) : owF x = 11 + f := by
  unfold owF
  rw [if_neg (show ¬ x < 1 by omega), if_neg (show ¬ x < 2 by omega), if_neg (show ¬ x < 6 by omega), if_neg (show ¬ x < 7 by omega), if_neg (show ¬ x < 8 by omega), if_neg (show ¬ x < 14 by omega), if_neg (show ¬ x < 20 by omega), if_neg (show ¬ x < 21 by omega), if_neg (show ¬ x < 22 by omega), if_neg (show ¬ x < 107 by omega), if_neg (show ¬ x < 108 by omega), if_neg (show ¬ x < 109 by omega), if_neg (show ¬ x < 115 by omega), if_neg (show ¬ x < 117 by omega), if_neg (show ¬ x < 121 by omega), if_neg (show ¬ x < 123 by omega), if_neg (show ¬ x < 125 by omega), if_pos (show x < 153 by omega)]
  omega
theorem owF_m {x : Nat} (h1 : 153 ≤ x) : owF x = 17 := by
  unfold owF
  rw [if_neg (show ¬ x < 1 by omega), if_neg (show ¬ x < 2 by omega), if_neg (show ¬ x < 6 by omega), if_neg (show ¬ x < 7 by omega), if_neg (show ¬ x < 8 by omega), if_neg (show ¬ x < 14 by omega), if_neg (show ¬ x < 20 by omega), if_neg (show ¬ x < 21 by omega), if_neg (show ¬ x < 22 by omega), if_neg (show ¬ x < 107 by omega), if_neg (show ¬ x < 108 by omega), if_neg (show ¬ x < 109 by omega), if_neg (show ¬ x < 115 by omega), if_neg (show ¬ x < 117 by omega), if_neg (show ¬ x < 121 by omega), if_neg (show ¬ x < 123 by omega), if_neg (show ¬ x < 125 by omega), if_neg (show ¬ x < 153 by omega)]
theorem owF_f {x : Nat} (h1 : 2 ≤ x) (h2 : x < 6) : owF x = 0 := by
  unfold owF
  rw [if_neg (show ¬ x < 1 by omega), if_neg (show ¬ x < 2 by omega), if_pos (show x < 6 by omega)]
theorem owF_r {x : Nat} (h1 : 8 ≤ x) (h2 : x < 14) : owF x = 19 := by
  unfold owF
  rw [if_neg (show ¬ x < 1 by omega), if_neg (show ¬ x < 2 by omega), if_neg (show ¬ x < 6 by omega), if_neg (show ¬ x < 7 by omega), if_neg (show ¬ x < 8 by omega), if_pos (show x < 14 by omega)]
def HH (g : mH) : mH := iX12 (nw (iX11 g 0) 12 65) 153
section CELLS
variable {g : mH}
theorem HH_N (hg : hN g = 1) : hN (HH g) = 192 := by
  unfold HH
  rw [hN_iX12, hN_nw, hN_iX11, hg]
theorem HH_x (hg : hN g = 1) {x : Nat} (hx : x < 153) : eqAt (iX11 g 0) (HH g) x := by
  have e := hN_iX11 g 0
  exact (eqAt_nw (by omega)).tr (eqAt_iX12 (Or.inl (by rw [hN_nw]; omega)) (by omega))
theorem HH_h (hg : hN g = 1) {x : Nat} (h1 : x ≠ 108) (hx : x < 125) : eqAt (iX11h g 0) (HH g) x := by
  have e := hN_iX11h g 0
  have e2 := hN_iX11c g 0
  exact (show eqAt (iX11h g 0) (iX11 g 0) x from eqAt_iTabs (by omega) 4 (Or.inl (by omega))).tr (HH_x hg (by omega))
theorem Hh_h (x : Nat) : eqAt (iX11h g 0) (iX11h g 0) x := eqAt.rf
theorem Hh_h1 (hg : hN g = 1) {x : Nat} (h0 : x ≠ 0) (hx : x < 123) : eqAt (iX11h1 g 0) (iX11h g 0) x := by
  have e := hN_iX11h1 g 0
  exact (show eqAt (iX11h1 g 0) (iX11h g 0) x from eqAt_ob (eqAt_iX5 (Or.inl (by rw [hN_nw]; omega)) (by omega)) (by omega) h0).tr (Hh_h x)
theorem Hh_g (hg : hN g = 1) {x : Nat} (h0 : x ≠ 0) (hx : x < 121) : eqAt (iX11g g 0) (iX11h g 0) x := by
  have e := hN_iX11g g 0
  exact (show eqAt (iX11g g 0) (iX11h1 g 0) x from eqAt_ob (eqAt_iX5 (Or.inl (by rw [hN_nw]; omega)) (by omega)) (by omega) h0).tr (Hh_h1 hg h0 (by omega))
theorem Hh_f (hg : hN g = 1) {x : Nat} (h0 : x ≠ 0) (hx : x < 117) : eqAt (iX11f g 0) (iX11h g 0) x := by
  have e := hN_iX11f g 0
  exact (show eqAt (iX11f g 0) (iX11g g 0) x from eqAt_ob (eqAt_iX10 (Or.inl (by rw [hN_nw]; omega)) (by omega)) (by omega) h0).tr (Hh_g hg h0 (by omega))
theorem Hh_e (hg : hN g = 1) {x : Nat} (h0 : x ≠ 0) (hx : x < 115) : eqAt (iX11e g 0) (iX11h g 0) x := by
  have e := hN_iX11e g 0
  exact (show eqAt (iX11e g 0) (iX11f g 0) x from eqAt_ob (eqAt_iX2 (Or.inl (by rw [hN_nw]; omega)) (by omega)) (by omega) h0).tr (Hh_f hg h0 (by omega))
theorem Hh_d (hg : hN g = 1) {x : Nat} (h0 : x ≠ 0) (hx : x < 109) : eqAt (iX11d g 0) (iX11h g 0) x := by
  have e := hN_iX11d g 0
  exact (show eqAt (iX11d g 0) (iX11e g 0) x from eqAt_ob (eqAt_iX0 (Or.inl (by rw [hN_nw]; omega)) (by omega)) (by omega) h0).tr (Hh_e hg h0 (by omega))
theorem Hh_c (hg : hN g = 1) {x : Nat} (h0 : x ≠ 0) (hx : x < 107) : eqAt (iX11c g 0) (iX11h g 0) x := by
  have e := hN_iX11c g 0
  exact (show eqAt (iX11c g 0) (iX11d g 0) x from (eqAt_al (by omega) h0).tr (eqAt_al (by rw [hN_al]; omega) h0)).tr (Hh_d hg h0 (by omega))
theorem Hh_b (hg : hN g = 1) {x : Nat} (h0 : x ≠ 0) (hx : x < 20) : eqAt (iX11b g 0) (iX11h g 0) x := by
  have e := hN_iX11b g 0
  exact (show eqAt (iX11b g 0) (iX11c g 0) x from eqAt_ob (eqAt_iX3 (by rw [hN_nw]; omega) (by omega)) (by omega) h0).tr (Hh_c hg h0 (by omega))
theorem Hh_a (hg : hN g = 1) {x : Nat} (h0 : x ≠ 0) (hx : x < 6) : eqAt (iX11a g 0) (iX11h g 0) x := by
  have e := hN_iX11a g 0
  exact (show eqAt (iX11a g 0) (iX11b g 0) x from eqAt_ob (eqAt_iX7 (by rw [hN_nw]; omega) (by omega)) (by omega) h0).tr (Hh_b hg h0 (by omega))
/-- the object itself -/
theorem H0R (hg : hN g = 1) (y : Nat) : hR (iX11h g 0) 0 y = if y = 13 then some 123 else if y = 12 then some 121 else if y = 11 then some 117 else if y = 10 then some 115 else if y = 9 then some 109 else if y = 8 then some 108 else if y = 7 then some 107 else if y = 6 then some 20 else if y = 5 then some 6 else if y = 4 then some 2 else if y = 0 then some 1 else hR g 0 y := by
  have e0 := hN_iX11h1 g 0
  have e1 := hN_iX11g g 0
  have e2 := hN_iX11f g 0
  have e3 := hN_iX11e g 0
  have e4 := hN_iX11d g 0
  have e5 := hN_iX11c g 0
  have e6 := hN_iX11b g 0
  have e7 := hN_iX11a g 0
  have e8 : hN (sI (al g 0 0 13 900) 0 3 (-1)) = hN g + 1 := rfl
  unfold iX11h
  rw [hR_ob (by omega) (eqAt_iX5 (by rw [hN_nw]; omega) (by omega)), e0, hg]
  unfold iX11h1
  rw [hR_ob (by omega) (eqAt_iX5 (by rw [hN_nw]; omega) (by omega)), e1, hg]
  unfold iX11g
  rw [hR_ob (by omega) (eqAt_iX10 (by rw [hN_nw]; omega) (by omega)), e2, hg]
  unfold iX11f
  rw [hR_ob (by omega) (eqAt_iX2 (by rw [hN_nw]; omega) (by omega)), e3, hg]
  unfold iX11e
  rw [hR_ob (by omega) (eqAt_iX0 (by rw [hN_nw]; omega) (by omega)), e4, hg]
  unfold iX11d
  rw [hR_al_at (by rw [hN_al]; omega), hR_al_at (by omega), hN_al, e5, hg]
  unfold iX11c
  rw [hR_ob (by omega) (eqAt_iX3 (by rw [hN_nw]; omega) (by omega)), e6, hg]
  unfold iX11b
  rw [hR_ob (by omega) (eqAt_iX7 (by rw [hN_nw]; omega) (by omega)), e7, hg]
  unfold iX11a
  rw [hR_ob (by omega) (eqAt_iX1 (by rw [hN_nw]; omega) (by omega)), e8, hg, hR_sI, hR_al_at (by omega), hg]
theorem H0I (hg : hN g = 1) (y : Nat) : hI (iX11h g 0) 0 y = if y = 3 then -1 else hI g 0 y := by
  have e0 := hN_iX11h1 g 0
  have e1 := hN_iX11g g 0
  have e2 := hN_iX11f g 0
  have e3 := hN_iX11e g 0
  have e4 := hN_iX11d g 0
  have e5 := hN_iX11c g 0
  have e6 := hN_iX11b g 0
  have e7 := hN_iX11a g 0
  have e8 : hN (sI (al g 0 0 13 900) 0 3 (-1)) = hN g + 1 := rfl
  unfold iX11h
  rw [hI_ob (by omega) (eqAt_iX5 (by rw [hN_nw]; omega) (by omega))]
  unfold iX11h1
  rw [hI_ob (by omega) (eqAt_iX5 (by rw [hN_nw]; omega) (by omega))]
  unfold iX11g
  rw [hI_ob (by omega) (eqAt_iX10 (by rw [hN_nw]; omega) (by omega))]
  unfold iX11f
  rw [hI_ob (by omega) (eqAt_iX2 (by rw [hN_nw]; omega) (by omega))]
  unfold iX11e
  rw [hI_ob (by omega) (eqAt_iX0 (by rw [hN_nw]; omega) (by omega))]
  unfold iX11d
  rw [al_Ia (by rw [hN_al]; omega), al_Ia (by omega)]
  unfold iX11c
  rw [hI_ob (by omega) (eqAt_iX3 (by rw [hN_nw]; omega) (by omega))]
  unfold iX11b
  rw [hI_ob (by omega) (eqAt_iX7 (by rw [hN_nw]; omega) (by omega))]
  unfold iX11a
  rw [hI_ob (by omega) (eqAt_iX1 (by rw [hN_nw]; omega) (by omega)), hI_sI]
  by_cases c : y = 3
  · rw [if_pos ⟨rfl, c⟩, if_pos c]
  · rw [if_neg (fun z => c z.2), if_neg c, al_Ia (by omega)]
theorem H0O (ho : hO g 0 11) : hO (iX11 g 0) 0 11 := hO_iTabs 4 (hO_ob hO_iX5 (hO_ob hO_iX5 (hO_ob hO_iX10 (hO_ob hO_iX2 (hO_ob hO_iX0 (hO_al (hO_al (hO_ob hO_iX3 (hO_ob hO_iX7 (hO_ob hO_iX1 (show hO (sI (al g 0 0 13 900) 0 3 (-1)) 0 11 from hO_al (a := 0) (f := 0) ho)))))))))))
theorem c_zx (hg : hN g = 1) (ho : hO g 0 11) (hi : hI g 0 = fun _ => 0) : zX owF (HH g) (nI 0) (nI 0) (-1) (some 2) := by
  have e := HH_h hg (x := 0) (by omega) (by omega)
  have hn := HH_N hg
  have R : ∀ y, hR (HH g) 0 y = _ := fun y => (e.R y).trans (H0R hg y)
  have I : ∀ y, hI (HH g) 0 y = _ := fun y => (e.I y).trans (H0I hg y)
  exact ⟨(HH_x hg (by omega)).hO (by omega) (H0O ho), rfl, R 0, (I 1).trans (by rw [hi]; rfl), (I 2).trans (by rw [hi]; rfl), I 3, R 4, R 5, R 6, R 7, R 8, R 9, R 10, R 11, R 12, R 13⟩
theorem k_V (hg : hN g = 1) : hO (HH g) 109 0 ∧ (∀ y, hI (HH g) 109 y = hI (nw (iX11d g 0) 0 8) 109 y) ∧ ∀ j, j < 5 → hR (HH g) 109 (([(0, 14, 64), (1, 14, 64), (2, 14, 64), (3, 14, 64), (4, 14, 6)] : List (Nat × Nat × Nat)).getD j (0, 0, 0)).1 = some (110 + j) ∧ hA (HH g) (110 + j) (([(0, 14, 64), (1, 14, 64), (2, 14, 64), (3, 14, 64), (4, 14, 6)] : List (Nat × Nat × Nat)).getD j (0, 0, 0)).2.1 (([(0, 14, 64), (1, 14, 64), (2, 14, 64), (3, 14, 64), (4, 14, 6)] : List (Nat × Nat × Nat)).getD j (0, 0, 0)).2.2 := by
  have hn : hN (iX11d g 0) = 109 := by rw [hN_iX11d, hg]
  have hH := HH_N hg
  obtain ⟨oo, ii, K⟩ := nwL (h := iX11d g 0) (ci := 0) (n := 8) (l := [(0, 14, 64), (1, 14, 64), (2, 14, 64), (3, 14, 64), (4, 14, 6)]) (b := nw (iX11d g 0) 0 8) rfl (show hK (nw (iX11d g 0) 0 8) _ = _ by rw [hK_nw, if_pos rfl]) (by decide)
  have E : ∀ x, x ≠ 0 → x ≠ 108 → x < 115 → eqAt (alL (hN (iX11d g 0)) [(0, 14, 64), (1, 14, 64), (2, 14, 64), (3, 14, 64), (4, 14, 6)] (nw (iX11d g 0) 0 8)) (HH g) x := fun x h0 h1 hx => (show eqAt _ (iX11e g 0) x from eqAt_obn (i := iX0) h0).tr ((Hh_e hg (by omega) (by omega)).tr (HH_h hg (by omega) (by omega)))
  rw [hn] at oo ii K E
  refine ⟨(E 109 (by omega) (by omega) (by omega)).hO (by omega) oo, fun y => ((E 109 (by omega) (by omega) (by omega)).I y).trans (congrFun ii y), fun j hj => ⟨((E 109 (by omega) (by omega) (by omega)).R _).trans (K j hj).1, (E (110 + j) (by omega) (by omega) (by omega)).hA (by omega) (K j hj).2⟩⟩
theorem k_G (hg : hN g = 1) : hO (HH g) 115 2 ∧ (∀ y, hI (HH g) 115 y = hI (nw (iX11e g 0) 2 7) 115 y) ∧ ∀ j, j < 1 → hR (HH g) 115 (([(0, 15, 243)] : List (Nat × Nat × Nat)).getD j (0, 0, 0)).1 = some (116 + j) ∧ hA (HH g) (116 + j) (([(0, 15, 243)] : List (Nat × Nat × Nat)).getD j (0, 0, 0)).2.1 (([(0, 15, 243)] : List (Nat × Nat × Nat)).getD j (0, 0, 0)).2.2 := by
  have hn : hN (iX11e g 0) = 115 := by rw [hN_iX11e, hg]
  have hH := HH_N hg
  obtain ⟨oo, ii, K⟩ := nwL (h := iX11e g 0) (ci := 2) (n := 7) (l := [(0, 15, 243)]) (b := nw (iX11e g 0) 2 7) rfl (show hK (nw (iX11e g 0) 2 7) _ = _ by rw [hK_nw, if_pos rfl]) (by decide)
  have E : ∀ x, x ≠ 0 → x ≠ 108 → x < 117 → eqAt (alL (hN (iX11e g 0)) [(0, 15, 243)] (nw (iX11e g 0) 2 7)) (HH g) x := fun x h0 h1 hx => (show eqAt _ (iX11f g 0) x from eqAt_obn (i := iX2) h0).tr ((Hh_f hg (by omega) (by omega)).tr (HH_h hg (by omega) (by omega)))
  rw [hn] at oo ii K E
  refine ⟨(E 115 (by omega) (by omega) (by omega)).hO (by omega) oo, fun y => ((E 115 (by omega) (by omega) (by omega)).I y).trans (congrFun ii y), fun j hj => ⟨((E 115 (by omega) (by omega) (by omega)).R _).trans (K j hj).1, (E (116 + j) (by omega) (by omega) (by omega)).hA (by omega) (K j hj).2⟩⟩
theorem k_Y (hg : hN g = 1) : hO (HH g) 117 10 ∧ (∀ y, hI (HH g) 117 y = hI (sI (sI (nw (iX11f g 0) 10 6) 117 0 (-1)) 117 1 (-1)) 117 y) ∧ ∀ j, j < 3 → hR (HH g) 117 (([(3, 15, 64), (4, 15, 64), (5, 14, 64)] : List (Nat × Nat × Nat)).getD j (0, 0, 0)).1 = some (118 + j) ∧ hA (HH g) (118 + j) (([(3, 15, 64), (4, 15, 64), (5, 14, 64)] : List (Nat × Nat × Nat)).getD j (0, 0, 0)).2.1 (([(3, 15, 64), (4, 15, 64), (5, 14, 64)] : List (Nat × Nat × Nat)).getD j (0, 0, 0)).2.2 := by
  have hn : hN (iX11f g 0) = 117 := by rw [hN_iX11f, hg]
  have hH := HH_N hg
  obtain ⟨oo, ii, K⟩ := nwL (h := iX11f g 0) (ci := 10) (n := 6) (l := [(3, 15, 64), (4, 15, 64), (5, 14, 64)]) (b := sI (sI (nw (iX11f g 0) 10 6) (hN (iX11f g 0)) 0 (-1)) (hN (iX11f g 0)) 1 (-1)) rfl (show hK (nw (iX11f g 0) 10 6) _ = _ by rw [hK_nw, if_pos rfl]) (by decide)
  have E : ∀ x, x ≠ 0 → x ≠ 108 → x < 121 → eqAt (alL (hN (iX11f g 0)) [(3, 15, 64), (4, 15, 64), (5, 14, 64)] (sI (sI (nw (iX11f g 0) 10 6) (hN (iX11f g 0)) 0 (-1)) (hN (iX11f g 0)) 1 (-1))) (HH g) x := fun x h0 h1 hx => (show eqAt _ (iX11g g 0) x from eqAt_obn (i := iX10) h0).tr ((Hh_g hg (by omega) (by omega)).tr (HH_h hg (by omega) (by omega)))
  rw [hn] at oo ii K E
  refine ⟨(E 117 (by omega) (by omega) (by omega)).hO (by omega) oo, fun y => ((E 117 (by omega) (by omega) (by omega)).I y).trans (congrFun ii y), fun j hj => ⟨((E 117 (by omega) (by omega) (by omega)).R _).trans (K j hj).1, (E (118 + j) (by omega) (by omega) (by omega)).hA (by omega) (K j hj).2⟩⟩
theorem k_L1 (hg : hN g = 1) : hO (HH g) 121 5 ∧ (∀ y, hI (HH g) 121 y = hI (nw (iX11g g 0) 5 2) 121 y) ∧ ∀ j, j < 1 → hR (HH g) 121 (([(0, 13, 360)] : List (Nat × Nat × Nat)).getD j (0, 0, 0)).1 = some (122 + j) ∧ hA (HH g) (122 + j) (([(0, 13, 360)] : List (Nat × Nat × Nat)).getD j (0, 0, 0)).2.1 (([(0, 13, 360)] : List (Nat × Nat × Nat)).getD j (0, 0, 0)).2.2 := by
  have hn : hN (iX11g g 0) = 121 := by rw [hN_iX11g, hg]
  have hH := HH_N hg
  obtain ⟨oo, ii, K⟩ := nwL (h := iX11g g 0) (ci := 5) (n := 2) (l := [(0, 13, 360)]) (b := nw (iX11g g 0) 5 2) rfl (show hK (nw (iX11g g 0) 5 2) _ = _ by rw [hK_nw, if_pos rfl]) (by decide)
  have E : ∀ x, x ≠ 0 → x ≠ 108 → x < 123 → eqAt (alL (hN (iX11g g 0)) [(0, 13, 360)] (nw (iX11g g 0) 5 2)) (HH g) x := fun x h0 h1 hx => (show eqAt _ (iX11h1 g 0) x from eqAt_obn (i := iX5) h0).tr ((Hh_h1 hg (by omega) (by omega)).tr (HH_h hg (by omega) (by omega)))
  rw [hn] at oo ii K E
  refine ⟨(E 121 (by omega) (by omega) (by omega)).hO (by omega) oo, fun y => ((E 121 (by omega) (by omega) (by omega)).I y).trans (congrFun ii y), fun j hj => ⟨((E 121 (by omega) (by omega) (by omega)).R _).trans (K j hj).1, (E (122 + j) (by omega) (by omega) (by omega)).hA (by omega) (K j hj).2⟩⟩
theorem k_L2 (hg : hN g = 1) : hO (HH g) 123 5 ∧ (∀ y, hI (HH g) 123 y = hI (nw (iX11h1 g 0) 5 2) 123 y) ∧ ∀ j, j < 1 → hR (HH g) 123 (([(0, 13, 360)] : List (Nat × Nat × Nat)).getD j (0, 0, 0)).1 = some (124 + j) ∧ hA (HH g) (124 + j) (([(0, 13, 360)] : List (Nat × Nat × Nat)).getD j (0, 0, 0)).2.1 (([(0, 13, 360)] : List (Nat × Nat × Nat)).getD j (0, 0, 0)).2.2 := by
  have hn : hN (iX11h1 g 0) = 123 := by rw [hN_iX11h1, hg]
  have hH := HH_N hg
  obtain ⟨oo, ii, K⟩ := nwL (h := iX11h1 g 0) (ci := 5) (n := 2) (l := [(0, 13, 360)]) (b := nw (iX11h1 g 0) 5 2) rfl (show hK (nw (iX11h1 g 0) 5 2) _ = _ by rw [hK_nw, if_pos rfl]) (by decide)
  have E : ∀ x, x ≠ 0 → x ≠ 108 → x < 125 → eqAt (alL (hN (iX11h1 g 0)) [(0, 13, 360)] (nw (iX11h1 g 0) 5 2)) (HH g) x := fun x h0 h1 hx => (show eqAt _ (iX11h g 0) x from eqAt_obn (i := iX5) h0).tr (HH_h hg (by omega) (by omega))
  rw [hn] at oo ii K E
  refine ⟨(E 123 (by omega) (by omega) (by omega)).hO (by omega) oo, fun y => ((E 123 (by omega) (by omega) (by omega)).I y).trans (congrFun ii y), fun j hj => ⟨((E 123 (by omega) (by omega) (by omega)).R _).trans (K j hj).1, (E (124 + j) (by omega) (by omega) (by omega)).hA (by omega) (K j hj).2⟩⟩
theorem c_cz (hg : hN g = 1) : cZ owF (HH g) := by
  obtain ⟨vo, vi, vk⟩ := k_V hg
  obtain ⟨go, gi, gk⟩ := k_G hg
  obtain ⟨lo, li, lk⟩ := k_L1 hg
  obtain ⟨mo, mi, mk⟩ := k_L2 hg
  refine ⟨⟨_, _, _, _, _, _, _, ⟨go, rfl, (gk 0 (by decide)).1, (gk 0 (by decide)).2, rfl, rfl, rfl, rfl, rfl, rfl, rfl, rfl⟩⟩, ⟨_, _, _, _, _, _, _, _, ⟨vo, rfl, (vk 0 (by decide)).1, (vk 0 (by decide)).2, rfl, rfl, (vk 1 (by decide)).1, (vk 1 (by decide)).2, rfl, rfl, (vk 2 (by decide)).1, (vk 2 (by decide)).2, rfl, rfl, (vk 3 (by decide)).1, (vk 3 (by decide)).2, rfl, rfl, (vk 4 (by decide)).1, (vk 4 (by decide)).2, rfl, rfl, rfl, rfl, rfl⟩⟩, ⟨_, _, ⟨lo, rfl, (lk 0 (by decide)).1, (lk 0 (by decide)).2, rfl, rfl, rfl⟩⟩, ⟨_, _, ⟨mo, rfl, (mk 0 (by decide)).1, (mk 0 (by decide)).2, rfl, rfl, rfl⟩⟩⟩
theorem c_ti (hg : hN g = 1) {r : Nat → Int64} {pa my : Nat → Int32} {F : Nat} : tyI owF (HH g) r pa my F 64 := by
  obtain ⟨yo, yi, yk⟩ := k_Y hg
  exact ⟨⟨by omega, by omega⟩, Or.inl ⟨118, 119, 120, _, _, _, _, _, ⟨yo, rfl, ⟨by omega, by omega, by omega, by omega⟩, (yi 0).trans (by rw [hI_sI, if_neg (by omega), hI_sI, if_pos ⟨rfl, rfl⟩]), rfl, rfl, (yk 0 (by decide)).1, (yk 0 (by decide)).2, rfl, rfl, (yk 1 (by decide)).1, (yk 1 (by decide)).2, rfl, rfl, (yk 2 (by decide)).1, (yk 2 (by decide)).2, rfl, rfl⟩⟩⟩
theorem k_T (hg : hN g = 1) {f : Nat} (hf : f < 4) : hO (HH g) (125 + 7 * f) 9 ∧ hI (HH g) (125 + 7 * f) 0 = 0 ∧ ∀ j, j < 6 → hR (HH g) (125 + 7 * f) (([(2, 15, 64), (3, 14, 64), (4, 14, 64), (5, 14, 64), (6, 15, 64), (7, 15, 64)] : List (Nat × Nat × Nat)).getD j (0, 0, 0)).1 = some (125 + 7 * f + 1 + j) ∧ hA (HH g) (125 + 7 * f + 1 + j) (([(2, 15, 64), (3, 14, 64), (4, 14, 64), (5, 14, 64), (6, 15, 64), (7, 15, 64)] : List (Nat × Nat × Nat)).getD j (0, 0, 0)).2.1 (([(2, 15, 64), (3, 14, 64), (4, 14, 64), (5, 14, 64), (6, 15, 64), (7, 15, 64)] : List (Nat × Nat × Nat)).getD j (0, 0, 0)).2.2 := by
  have hh := hN_iX11h g 0
  have hc := hN_iX11c g 0
  have hH := HH_N hg
  have hn := hN_iTabs 108 f (iX11h g 0)
  have hn : hN (iTabs 108 f (iX11h g 0)) = 125 + 7 * f := by omega
  obtain ⟨oo, ii, K⟩ := nwL (h := iTabs 108 f (iX11h g 0)) (ci := 9) (n := 9) (l := [(2, 15, 64), (3, 14, 64), (4, 14, 64), (5, 14, 64), (6, 15, 64), (7, 15, 64)]) (b := nw (iTabs 108 f (iX11h g 0)) 9 9) rfl (by rw [hK_nw, if_pos rfl]) (by decide)
  have e108 : hN (iX11c g 0) + 1 = 108 := by omega
  have E : ∀ x, 125 + 7 * f ≤ x → x < 125 + 7 * f + 7 → eqAt (alL (hN (iTabs 108 f (iX11h g 0))) [(2, 15, 64), (3, 14, 64), (4, 14, 64), (5, 14, 64), (6, 15, 64), (7, 15, 64)] (nw (iTabs 108 f (iX11h g 0)) 9 9)) (HH g) x := fun x h1 h2 => (show eqAt _ (iX11 g 0) x from by
    unfold iX11
    rw [e108]
    exact cTabs (g := 108) 4 (by omega) f hf x (by omega) (by omega)).tr (HH_x hg (by omega))
  rw [hn] at oo ii K E
  refine ⟨(E _ (by omega) (by omega)).hO (by omega) oo, ((E _ (by omega) (by omega)).I 0).trans ((congrFun ii 0).trans (by rw [hI_nw, if_pos hn.symm])), fun j hj => ⟨((E _ (by omega) (by omega)).R _).trans (K j hj).1, (E _ (by omega) (by omega)).hA (by omega) (K j hj).2⟩⟩
theorem c_tb (hg : hN g = 1) {r : Nat → Int64} {pa my : Nat → Int32} {F f : Nat} (hf : f < 4) : tabI owF (HH g) r pa my F f 64 64 := by
  obtain ⟨oo, ii, K⟩ := k_T hg hf
  have w : ∀ k, k < 7 → owF (125 + 7 * f + k) = 11 + f := fun k hk => owF_tb (by omega) (by omega) hf
  refine ⟨125 + 7 * f + 1, 125 + 7 * f + 2, 125 + 7 * f + 3, 125 + 7 * f + 4, 125 + 7 * f + 5, 125 + 7 * f + 6, 0, _, _, _, _, _, _, _, _, ⟨oo, w 0 (by omega), ⟨by omega, by omega, by omega, by omega, by omega, by omega, by omega, by omega, by omega, by omega, by omega, by omega⟩, ii, rfl, (K 0 (by decide)).1, (K 0 (by decide)).2, w 1 (by omega), rfl, (K 1 (by decide)).1, (K 1 (by decide)).2, w 2 (by omega), rfl, (K 2 (by decide)).1, (K 2 (by decide)).2, w 3 (by omega), rfl, (K 3 (by decide)).1, (K 3 (by decide)).2, w 4 (by omega), rfl, (K 4 (by decide)).1, (K 4 (by decide)).2, w 5 (by omega), rfl, (K 5 (by decide)).1, (K 5 (by decide)).2, w 6 (by omega), rfl, rfl⟩, ⟨⟨by omega, by omega⟩, by omega, by omega⟩, Or.inl nI_0.symm⟩
end CELLS
