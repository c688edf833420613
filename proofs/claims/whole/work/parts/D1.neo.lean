/-! ===== states and fields made anew; undo, redo ===== -/
def roN (ow : Nat → Nat) (a n ρ : Nat) : Nat → Nat := fun x => if a ≤ x ∧ x < a + n then ρ else ow x
theorem roN_in {ow : Nat → Nat} {a n ρ x : Nat} (h : a ≤ x ∧ x < a + n) : roN ow a n ρ x = ρ := if_pos h
theorem roN_ne {ow : Nat → Nat} {a n ρ x : Nat} (h : x < a ∨ a + n ≤ x) : roN ow a n ρ x = ow x := if_neg (by omega)
theorem cFr_ob {S : List Nat} {ow : Nat → Nat} {h h' : mH} {k n : Nat} (ρ : Nat) (hz : hN h + k < scrA) (h1 : hN h' = hN h + k) (h2 : hU h' = hU h + n) (h3 : ∀ x, x < hN h ∨ hN h + k ≤ x → eqAt h h' x) : cFr S (n + 8 * k) ow h (roN ow (hN h) k ρ) h' := by
  refine ⟨⟨by omega, by omega, by omega⟩, fun x hx => ?_⟩
  have hx' : x < hN h ∨ hN h + k ≤ x := by rcases hx with z | z <;> omega
  have e := h3 x hx'
  exact ⟨e.1, roN_ne hx', fun _ => ⟨e.2.1, e.2.2.1, e.2.2.2⟩⟩
theorem zS_new {S : List Nat} {ow : Nat → Nat} {h : mH} (ρ : Nat) (hz : hN h + 5 < scrA) : cFr S 103 ow h (roN ow (hN h) 5 ρ) (iX8 (nw h 8 (mCz 8)) (hN h)) ∧ zS (roN ow (hN h) 5 ρ) (iX8 (nw h 8 (mCz 8)) (hN h)) (hN h) ρ (fun _ => none) (fun _ => none) (fun _ => 0) (fun _ => 0) (nI 0) := by
  refine ⟨cFr_ob (k := 5) (n := 63) ρ hz (by rw [hN_iX8, hN_nw]) (by rw [hU_iX8, hU_nw]; show hU h + 5 + 58 = _; omega) (fun x hx => (eqAt_nw (by omega)).tr (eqAt_iX8 (by rw [hN_nw]; omega) (by omega))), ?_⟩
  have o9 : hO (iX8 (nw h 8 (mCz 8)) (hN h)) (hN h) 8 := hO_iX8 (hO_new _ _ _)
  have hk : ∀ x, hK (iX8 (nw h 8 (mCz 8)) (hN h)) x = if x = hN h + 4 then (15, 24) else if x = hN h + 3 then (15, 24) else if x = hN h + 2 then (20, 4) else if x = hN h + 1 then (19, 6) else if x = hN h then (8, mCz 8) else hK h x := fun x => rfl
  have hr : ∀ x y, hR (iX8 (nw h 8 (mCz 8)) (hN h)) x y = if x = hN h ∧ y = 3 then some (hN h + 4) else if x = hN h + 4 then none else if x = hN h ∧ y = 2 then some (hN h + 3) else if x = hN h + 3 then none else if x = hN h ∧ y = 1 then some (hN h + 2) else if x = hN h + 2 then none else if x = hN h ∧ y = 0 then some (hN h + 1) else if x = hN h + 1 then none else if x = hN h then none else hR h x y := fun x y => rfl
  have hl : ∀ x y, hL (iX8 (nw h 8 (mCz 8)) (hN h)) x y = if x = hN h + 4 then 0 else if x = hN h + 3 then 0 else if x = hN h + 2 then 0 else if x = hN h + 1 then 0 else if x = hN h then 0 else hL h x y := fun x y => rfl
  have hi : ∀ x y, hI (iX8 (nw h 8 (mCz 8)) (hN h)) x y = if x = hN h + 4 then 0 else if x = hN h + 3 then 0 else if x = hN h + 2 then 0 else if x = hN h + 1 then 0 else if x = hN h then 0 else hI h x y := fun x y => rfl
  have hn : hN (iX8 (nw h 8 (mCz 8)) (hN h)) = hN h + 5 := rfl
  generalize iX8 (nw h 8 (mCz 8)) (hN h) = h' at *
  refine ⟨o9, roN_in (by omega), ?_, ⟨by omega, ?_⟩, roN_in (by omega), ?_, ?_, ⟨by omega, ?_⟩, roN_in (by omega), ?_, ?_, ⟨by omega, ?_⟩, roN_in (by omega), ?_, ?_, ⟨by omega, ?_⟩, roN_in (by omega), ?_, ?_⟩
  · rw [hr]; simp
  · rw [hk]; simp
  · funext y; rw [hr]; simp
  · rw [hr]; simp
  · rw [hk]; simp
  · funext y; rw [hr]; simp
  · rw [hr]; simp
  · rw [hk]; simp
  · funext y; rw [hl]; simp
  · rw [hr]; simp
  · rw [hk]; simp
  · funext y; rw [hl]; simp
  · rw [hi]; simp [nI_0]
theorem zF_new {S : List Nat} {ow : Nat → Nat} {h : mH} (ρ : Nat) (hz : hN h + 4 < scrA) : cFr S 48 ow h (roN ow (hN h) 4 ρ) (iX1 (nw h 1 (mCz 1)) (hN h)) ∧ zF (roN ow (hN h) 4 ρ) (iX1 (nw h 1 (mCz 1)) (hN h)) (hN h) ρ (fun _ => 0) (fun _ => 0) (fun _ => 0) (nI 0) ∧ hN (iX1 (nw h 1 (mCz 1)) (hN h)) = hN h + 4 := by
  refine ⟨cFr_ob (k := 4) (n := 16) ρ hz (by rw [hN_iX1, hN_nw]) (by rw [hU_iX1, hU_nw]; show hU h + 4 + 12 = _; omega) (fun x hx => (eqAt_nw (by omega)).tr (eqAt_iX1 (by rw [hN_nw]; omega) (by omega))), ?_, rfl⟩
  have o9 : hO (iX1 (nw h 1 (mCz 1)) (hN h)) (hN h) 1 := hO_iX1 (hO_new _ _ _)
  have hk : ∀ x, hK (iX1 (nw h 1 (mCz 1)) (hN h)) x = if x = hN h + 3 then (16, 4) else if x = hN h + 2 then (14, 4) else if x = hN h + 1 then (15, 4) else if x = hN h then (1, mCz 1) else hK h x := fun x => rfl
  have hr : ∀ x y, hR (iX1 (nw h 1 (mCz 1)) (hN h)) x y = if x = hN h ∧ y = 2 then some (hN h + 3) else if x = hN h + 3 then none else if x = hN h ∧ y = 1 then some (hN h + 2) else if x = hN h + 2 then none else if x = hN h ∧ y = 0 then some (hN h + 1) else if x = hN h + 1 then none else if x = hN h then none else hR h x y := fun x y => rfl
  have hl : ∀ x y, hL (iX1 (nw h 1 (mCz 1)) (hN h)) x y = if x = hN h + 3 then 0 else if x = hN h + 2 then 0 else if x = hN h + 1 then 0 else if x = hN h then 0 else hL h x y := fun x y => rfl
  have hi : ∀ x y, hI (iX1 (nw h 1 (mCz 1)) (hN h)) x y = if x = hN h + 3 then 0 else if x = hN h + 2 then 0 else if x = hN h + 1 then 0 else if x = hN h then 0 else hI h x y := fun x y => rfl
  have hn : hN (iX1 (nw h 1 (mCz 1)) (hN h)) = hN h + 4 := rfl
  generalize iX1 (nw h 1 (mCz 1)) (hN h) = h' at *
  refine ⟨o9, roN_in (by omega), ?_, ⟨by omega, ?_⟩, roN_in (by omega), ?_, ?_, ⟨by omega, ?_⟩, roN_in (by omega), ?_, ?_, ⟨by omega, ?_⟩, roN_in (by omega), ?_, ?_⟩
  · rw [hr]; simp
  · rw [hk]; simp
  · funext y; rw [hl]; simp
  · rw [hr]; simp
  · rw [hk]; simp
  · funext y; rw [hi]; simp
  · rw [hr]; simp
  · rw [hk]; simp
  · funext y; rw [hi]; simp
  · rw [hi]; simp [nI_0]
section
variable {ow : Nat → Nat} {h : mH} {o a u : Nat} {r : Nat → Int64} {pr : Nat → Nat → Int64}
theorem ag_un (ha : 0 < a) (i : Nat) : agR (pr (a - 1)) (exP pr (a - 1) r) (a - 1) i = agR r pr a i := by
  unfold agR exP
  by_cases c1 : i < a - 1
  · rw [if_pos c1, if_pos (show i < a by omega), if_neg (by omega)]
  · rw [if_neg c1]
    by_cases c2 : i = a - 1
    · rw [if_pos c2, if_pos (show i < a by omega), c2]
    · rw [if_neg c2, if_neg (show ¬ i < a by omega)]
      by_cases c3 : i = a
      · rw [if_pos c3, if_pos (by omega)]
      · rw [if_neg c3, if_neg (by omega)]
theorem ag_re (i : Nat) : agR (pr a) (exP pr a r) (a + 1) i = agR r pr a i := by
  unfold agR exP
  by_cases c1 : i < a
  · rw [if_pos (show i < a + 1 by omega), if_pos c1, if_neg (by omega)]
  · rw [if_neg c1]
    by_cases c2 : i = a
    · rw [if_pos (show i < a + 1 by omega), if_pos c2, if_pos c2]
    · rw [if_neg (show ¬ i < a + 1 by omega), if_neg c2]
      by_cases c3 : i = a + 1
      · rw [if_pos c3, c3]; rfl
      · rw [if_neg c3, if_neg (by omega)]
theorem rgR.un (g : rgR ow h o a u r pr) (ha : 0 < a) : rgR ow h o (a - 1) (u + 1) (pr (a - 1)) (exP pr (a - 1) r) := ⟨g.1, fun i hi => by rw [ag_un ha]; exact g.2 i (by omega)⟩
theorem rgR.re (g : rgR ow h o a u r pr) (hu : 0 < u) : rgR ow h o (a + 1) (u - 1) (pr a) (exP pr a r) := ⟨g.1, fun i hi => by rw [ag_re]; exact g.2 i (by omega)⟩
end
set_option maxRecDepth 20000 in
theorem pX11_undo {h : mH} {Q : Option Value → mH → Prop} {ow : Nat → Nat} {F : Nat} {pa my : Nat → Int32} {fa o a u : Nat} {r : Nat → Int64} {pr : Nat → Nat → Int64} {bx : Nat → Nat → Int64} {kp tp : Nat → Int32} {t : Nat} {tf tl : Int32} {n w : Nat} (c : cC ow h F pa my fa o a u r pr bx kp tp t tf tl n w) (h0 : a = 0 → ∀ h', cFr [8, 10, 11, 12, 13, 14, 20, 21, 22, 23, 24, 25, 26, 27, 28, 29, 30, 31, 32, 33, 34, 35, 36] 0 ow h ow h' → cC ow h' F pa my fa o a u r pr bx kp tp t tf tl n w → Q (some (.int (nI 0))) h') (h1 : 0 < a → ∀ h', cFr [8, 10, 11, 12, 13, 14, 20, 21, 22, 23, 24, 25, 26, 27, 28, 29, 30, 31, 32, 33, 34, 35, 36] 0 ow h ow h' → cC ow h' F pa my fa o (a - 1) (u + 1) (pr (a - 1)) (exP pr (a - 1) r) bx kp tp t tf tl n w → Q (some (.int (nI 1))) h') : Wp mX11_undo 2 41 0 [some (.ref 0), none] [] h Q := by
  refine wp_aload_n dX11_undo_0 rfl rfl ?_
  refine wp_getR dX11_undo_1 lX11_34 rfl c.zx.o c.zx.r6 ?_
  refine wp_cV0 0 0 [some _] dX11_undo_4 tX3_stepBack rfl (by decide) nX3_stepBack vX3_stepBack lX11_265 ⟨by decide, by decide⟩ (Nat.le_of_ble_eq_true rfl) c.zh.o (Nat.le_of_ble_eq_true rfl) rfl ?_
  refine pX3_stepBack c.zh ⟨by have := c.od.2; omega, by have := c.od.2; omega⟩ (fun z9 => ?_) (fun z9 hh1 f1 zh1 => ?_)
  · intro _ _
    refine wp_istore_n (ls1 := [_, some _]) dX11_undo_7 rfl (by decide) rfl ?_
    refine wp_aload_n dX11_undo_8 rfl rfl ?_
    refine wp_cV0 1 20 [some _, none] dX11_undo_9 tX11_forgetFindings rfl (by decide) nX11_forgetFindings vX11_forgetFindings lX11_120 ⟨by decide, by decide⟩ (Nat.le_of_ble_eq_true rfl) c.zx.o (Nat.le_of_ble_eq_true rfl) rfl ?_
    refine forgetAll c.zx c.kb (tbF.of c.tw c.ti) (fun hh2 f2 g2 => ?_)
    intro _ _
    refine wp_iload_n dX11_undo_12 rfl rfl ?_
    refine wp_zreturn dX11_undo_13 rfl (by first | exact Or.inl rfl | exact Or.inr rfl) ?_
    exact h0 z9 _ (f2.up (by decide) (Nat.le_refl _)) (c.act (f2.up (by decide) (Nat.le_refl _)) (c.zh.fr f2 (by decide)) (c.rg.fr f2 (by decide) (fun j hj => by simp; omega)) c.od g2)
  · intro _ _
    have zx_1 := c.zx.fr f1 (by decide)
    have kb_1 := c.kb.fr f1 (by decide) (by decide)
    have tb_1 := (tbF.of c.tw c.ti).fr f1 (by decide) (fun f9 hf9 => rnS (by omega) rn0)
    refine wp_istore_n (ls1 := [_, some _]) dX11_undo_7 rfl (by decide) rfl ?_
    refine wp_aload_n dX11_undo_8 rfl rfl ?_
    refine wp_cV0 1 20 [some _, none] dX11_undo_9 tX11_forgetFindings rfl (by decide) nX11_forgetFindings vX11_forgetFindings lX11_120 ⟨by decide, by decide⟩ (Nat.le_of_ble_eq_true rfl) zx_1.o (Nat.le_of_ble_eq_true rfl) rfl ?_
    refine forgetAll zx_1 kb_1 tb_1 (fun hh3 f3 g3 => ?_)
    intro _ _
    refine wp_iload_n dX11_undo_12 rfl rfl ?_
    refine wp_zreturn dX11_undo_13 rfl (by first | exact Or.inl rfl | exact Or.inr rfl) ?_
    have FT := cFr.tr (S := [8, 10, 11, 12, 13, 14, 20, 21, 22, 23, 24, 25, 26, 27, 28, 29, 30, 31, 32, 33, 34, 35, 36]) (f1.up (by decide) (Nat.le_refl _)) (f3.up (by decide) (Nat.le_refl _))
    exact h1 z9 _ FT (c.act FT (zh1.fr f3 (by decide)) ((c.rg.un z9).fr (cFr.tr (S := [8, 10, 11, 12, 13, 14]) (f1.up (by decide) (Nat.le_refl _)) (f3.up (by decide) (Nat.le_refl _))) (by decide) (fun j hj => by simp; omega)) ⟨c.od.1, by have := c.od.2; omega⟩ g3)
set_option maxRecDepth 20000 in
theorem pX11_redo {h : mH} {Q : Option Value → mH → Prop} {ow : Nat → Nat} {F : Nat} {pa my : Nat → Int32} {fa o a u : Nat} {r : Nat → Int64} {pr : Nat → Nat → Int64} {bx : Nat → Nat → Int64} {kp tp : Nat → Int32} {t : Nat} {tf tl : Int32} {n w : Nat} (c : cC ow h F pa my fa o a u r pr bx kp tp t tf tl n w) (h0 : u = 0 → ∀ h', cFr [8, 10, 11, 12, 13, 14, 20, 21, 22, 23, 24, 25, 26, 27, 28, 29, 30, 31, 32, 33, 34, 35, 36] 0 ow h ow h' → cC ow h' F pa my fa o a u r pr bx kp tp t tf tl n w → Q (some (.int (nI 0))) h') (h1 : 0 < u → ∀ h', cFr [8, 10, 11, 12, 13, 14, 20, 21, 22, 23, 24, 25, 26, 27, 28, 29, 30, 31, 32, 33, 34, 35, 36] 0 ow h ow h' → cC ow h' F pa my fa o (a + 1) (u - 1) (pr a) (exP pr a r) bx kp tp t tf tl n w → Q (some (.int (nI 1))) h') : Wp mX11_redo 2 41 0 [some (.ref 0), none] [] h Q := by
  refine wp_aload_n dX11_redo_0 rfl rfl ?_
  refine wp_getR dX11_redo_1 lX11_34 rfl c.zx.o c.zx.r6 ?_
  refine wp_cV0 0 0 [some _] dX11_redo_4 tX3_stepOn rfl (by decide) nX3_stepOn vX3_stepOn lX11_269 ⟨by decide, by decide⟩ (Nat.le_of_ble_eq_true rfl) c.zh.o (Nat.le_of_ble_eq_true rfl) rfl ?_
  refine pX3_stepOn c.zh ⟨by have := c.od.2; omega, by have := c.od.2; omega⟩ (fun z9 => ?_) (fun z9 hh1 f1 zh1 => ?_)
  · intro _ _
    refine wp_istore_n (ls1 := [_, some _]) dX11_redo_7 rfl (by decide) rfl ?_
    refine wp_aload_n dX11_redo_8 rfl rfl ?_
    refine wp_cV0 1 20 [some _, none] dX11_redo_9 tX11_forgetFindings rfl (by decide) nX11_forgetFindings vX11_forgetFindings lX11_120 ⟨by decide, by decide⟩ (Nat.le_of_ble_eq_true rfl) c.zx.o (Nat.le_of_ble_eq_true rfl) rfl ?_
    refine forgetAll c.zx c.kb (tbF.of c.tw c.ti) (fun hh2 f2 g2 => ?_)
    intro _ _
    refine wp_iload_n dX11_redo_12 rfl rfl ?_
    refine wp_zreturn dX11_redo_13 rfl (by first | exact Or.inl rfl | exact Or.inr rfl) ?_
    exact h0 z9 _ (f2.up (by decide) (Nat.le_refl _)) (c.act (f2.up (by decide) (Nat.le_refl _)) (c.zh.fr f2 (by decide)) (c.rg.fr f2 (by decide) (fun j hj => by simp; omega)) c.od g2)
  · intro _ _
    have zx_1 := c.zx.fr f1 (by decide)
    have kb_1 := c.kb.fr f1 (by decide) (by decide)
    have tb_1 := (tbF.of c.tw c.ti).fr f1 (by decide) (fun f9 hf9 => rnS (by omega) rn0)
    refine wp_istore_n (ls1 := [_, some _]) dX11_redo_7 rfl (by decide) rfl ?_
    refine wp_aload_n dX11_redo_8 rfl rfl ?_
    refine wp_cV0 1 20 [some _, none] dX11_redo_9 tX11_forgetFindings rfl (by decide) nX11_forgetFindings vX11_forgetFindings lX11_120 ⟨by decide, by decide⟩ (Nat.le_of_ble_eq_true rfl) zx_1.o (Nat.le_of_ble_eq_true rfl) rfl ?_
    refine forgetAll zx_1 kb_1 tb_1 (fun hh3 f3 g3 => ?_)
    intro _ _
    refine wp_iload_n dX11_redo_12 rfl rfl ?_
    refine wp_zreturn dX11_redo_13 rfl (by first | exact Or.inl rfl | exact Or.inr rfl) ?_
    have FT := cFr.tr (S := [8, 10, 11, 12, 13, 14, 20, 21, 22, 23, 24, 25, 26, 27, 28, 29, 30, 31, 32, 33, 34, 35, 36]) (f1.up (by decide) (Nat.le_refl _)) (f3.up (by decide) (Nat.le_refl _))
    exact h1 z9 _ FT (c.act FT (zh1.fr f3 (by decide)) ((c.rg.re z9).fr (cFr.tr (S := [8, 10, 11, 12, 13, 14]) (f1.up (by decide) (Nat.le_refl _)) (f3.up (by decide) (Nat.le_refl _))) (by decide) (fun j hj => by simp; omega)) ⟨c.od.1, by have := c.od.2; omega⟩ g3)
