/-! ===== constructors ===== -/
/-- a new row, put into a field -/
def al (h : mH) (a f kd n : Nat) : mH := sR (nw h kd n) a f (some (hN h))
theorem hN_al (h : mH) (a f kd n : Nat) : hN (al h a f kd n) = hN h + 1 := rfl
theorem hU_al (h : mH) (a f kd n : Nat) : hU (al h a f kd n) = hU h + n := rfl
theorem hK_al (h : mH) (a f kd n x : Nat) : hK (al h a f kd n) x = if x = hN h then (kd, n) else hK h x := rfl
theorem hI_al (h : mH) (a f kd n x y : Nat) : hI (al h a f kd n) x y = if x = hN h then 0 else hI h x y := rfl
theorem hL_al (h : mH) (a f kd n x y : Nat) : hL (al h a f kd n) x y = if x = hN h then 0 else hL h x y := rfl
theorem hR_al (h : mH) (a f kd n x y : Nat) : hR (al h a f kd n) x y = if x = a ∧ y = f then some (hN h) else if x = hN h then none else hR h x y := rfl
theorem hO_nw {h : mH} {kd n b c : Nat} (ho : hO h b c) : hO (nw h kd n) b c := ⟨Nat.lt_succ_of_lt ho.1, by rw [hK_nw, if_neg (Nat.ne_of_lt ho.1)]; exact ho.2⟩
theorem hA_nw {h : mH} {kd n b c m : Nat} (ho : hA h b c m) : hA (nw h kd n) b c m := ⟨Nat.lt_succ_of_lt ho.1, by rw [hK_nw, if_neg (Nat.ne_of_lt ho.1)]; exact ho.2⟩
theorem hO_new (h : mH) (kd n : Nat) : hO (nw h kd n) (hN h) kd := ⟨Nat.lt_succ_self _, by rw [hK_nw, if_pos rfl]⟩
theorem hA_new (h : mH) (kd n : Nat) : hA (nw h kd n) (hN h) kd n := ⟨Nat.lt_succ_self _, by rw [hK_nw, if_pos rfl]⟩
theorem hO_al {h : mH} {a f kd n b c : Nat} (ho : hO h b c) : hO (al h a f kd n) b c := hO_nw ho
theorem hA_al {h : mH} {a f kd n b c m : Nat} (ho : hA h b c m) : hA (al h a f kd n) b c m := hA_nw ho
/-- two memories agree at an address -/
def eqAt (h h' : mH) (x : Nat) : Prop := hK h' x = hK h x ∧ hI h' x = hI h x ∧ hL h' x = hL h x ∧ hR h' x = hR h x
theorem eqAt.rf {h : mH} {x : Nat} : eqAt h h x := ⟨rfl, rfl, rfl, rfl⟩
theorem eqAt.tr {h h1 h2 : mH} {x : Nat} (a : eqAt h h1 x) (b : eqAt h1 h2 x) : eqAt h h2 x := ⟨b.1.trans a.1, b.2.1.trans a.2.1, b.2.2.1.trans a.2.2.1, b.2.2.2.trans a.2.2.2⟩
theorem eqAt_nw {h : mH} {kd n x : Nat} (hx : x ≠ hN h) : eqAt h (nw h kd n) x := ⟨by rw [hK_nw, if_neg hx], by funext y; rw [hI_nw, if_neg hx], by funext y; rw [hL_nw, if_neg hx], by funext y; rw [hR_nw, if_neg hx]⟩
theorem eqAt_sI {h : mH} {a k x : Nat} {v : Int32} (hx : x ≠ a) : eqAt h (sI h a k v) x := ⟨rfl, up2_ne hx, rfl, rfl⟩
theorem eqAt_sL {h : mH} {a k x : Nat} {v : Int64} (hx : x ≠ a) : eqAt h (sL h a k v) x := ⟨rfl, rfl, up2_ne hx, rfl⟩
theorem eqAt_sR {h : mH} {a k x : Nat} {v : Option Nat} (hx : x ≠ a) : eqAt h (sR h a k v) x := ⟨rfl, rfl, rfl, up2_ne hx⟩
theorem eqAt_al {h : mH} {a f kd n x : Nat} (hx : x ≠ hN h) (ha : x ≠ a) : eqAt h (al h a f kd n) x := (eqAt_nw hx).tr (eqAt_sR ha)
theorem eqAt_mul {h : mH} {n k x : Nat} (hx : x < hN h ∨ hN h + n < x) : eqAt h (mul h n k) x := by
  have h1 : ¬ x = hN h := by omega
  have h2 : ¬ (hN h < x ∧ x ≤ hN h + n) := by omega
  have h3 : ¬ (hN h ≤ x ∧ x ≤ hN h + n) := by omega
  exact ⟨by rw [hK_mul, if_neg h1, if_neg h2], by funext y; rw [hI_mul, if_neg h3], by funext y; rw [hL_mul, if_neg h3], by funext y; rw [hR_mul, if_neg h1, if_neg h2]⟩
theorem hO_mul {h : mH} {n k b c : Nat} (ho : hO h b c) : hO (mul h n k) b c := ⟨Nat.lt_of_lt_of_le ho.1 (Nat.le_add_right _ _), by rw [hK_mul, if_neg (Nat.ne_of_lt ho.1), if_neg (by have := ho.1; omega)]; exact ho.2⟩
theorem hA_mul {h : mH} {n k b c m : Nat} (ho : hA h b c m) : hA (mul h n k) b c m := ⟨Nat.lt_of_lt_of_le ho.1 (Nat.le_add_right _ _), by rw [hK_mul, if_neg (Nat.ne_of_lt ho.1), if_neg (by have := ho.1; omega)]; exact ho.2⟩
def iX0 (h : mH) (a : Nat) : mH := al (al (al (al (al h a 0 14 64) a 1 14 64) a 2 14 64) a 3 14 64) a 4 14 6
theorem hN_iX0 (h : mH) (a : Nat) : hN (iX0 h a) = hN h + 5 := rfl
theorem hU_iX0 (h : mH) (a : Nat) : hU (iX0 h a) = hU h + 262 := by
  unfold iX0
  rw [hU_al, hU_al, hU_al, hU_al, hU_al]
  try omega
theorem hO_iX0 {h : mH} {a b c : Nat} (ho : hO h b c) : hO (iX0 h a) b c := (hO_al (hO_al (hO_al (hO_al (hO_al ho)))))
theorem hA_iX0 {h : mH} {a b c m : Nat} (ho : hA h b c m) : hA (iX0 h a) b c m := (hA_al (hA_al (hA_al (hA_al (hA_al ho)))))
theorem eqAt_iX0 {h : mH} {a x : Nat} (hx : x < hN h ∨ hN h + 5 ≤ x) (ha : x ≠ a) : eqAt h (iX0 h a) x := (((((eqAt.rf).tr (eqAt_al (by show x ≠ hN h + 0; omega) ha)).tr (eqAt_al (by show x ≠ hN h + 1; omega) ha)).tr (eqAt_al (by show x ≠ hN h + 2; omega) ha)).tr (eqAt_al (by show x ≠ hN h + 3; omega) ha)).tr (eqAt_al (by show x ≠ hN h + 4; omega) ha)
set_option maxRecDepth 20000 in
theorem pX0_init {h : mH} {a : Nat} {Q : Option Value → mH → Prop} (ho : hO h a 0) (hq : Q none (iX0 h a)) : Wp mX0_init 1 20 0 [some (.ref a)] [] h Q := by
  refine wp_aload_n dX0_init_0 rfl rfl ?_
  refine wp_objInit dX0_init_1 lX0_3 wOi wOc (Nat.le_of_ble_eq_true rfl) (by decide) ?_
  refine wp_aload_n dX0_init_4 rfl rfl ?_
  refine wp_bipush (v := (nI 64)) dX0_init_5 (by decide +kernel) ?_
  refine wp_newI (N := 64) dX0_init_7 wAc14 (by decide +kernel) (by decide +kernel) (by decide +kernel) ?_
  refine wp_putR (v := some _) dX0_init_9 lX0_9 rfl (Or.inr ⟨rfl, rfl, rfl⟩) (hO_nw ho) ?_
  refine wp_aload_n dX0_init_12 rfl rfl ?_
  refine wp_bipush (v := (nI 64)) dX0_init_13 (by decide +kernel) ?_
  refine wp_newI (N := 64) dX0_init_15 wAc14 (by decide +kernel) (by decide +kernel) (by decide +kernel) ?_
  refine wp_putR (v := some _) dX0_init_17 lX0_15 rfl (Or.inr ⟨rfl, rfl, rfl⟩) (hO_nw (hO_nw ho)) ?_
  refine wp_aload_n dX0_init_20 rfl rfl ?_
  refine wp_bipush (v := (nI 64)) dX0_init_21 (by decide +kernel) ?_
  refine wp_newI (N := 64) dX0_init_23 wAc14 (by decide +kernel) (by decide +kernel) (by decide +kernel) ?_
  refine wp_putR (v := some _) dX0_init_25 lX0_18 rfl (Or.inr ⟨rfl, rfl, rfl⟩) (hO_nw (hO_nw (hO_nw ho))) ?_
  refine wp_aload_n dX0_init_28 rfl rfl ?_
  refine wp_bipush (v := (nI 64)) dX0_init_29 (by decide +kernel) ?_
  refine wp_newI (N := 64) dX0_init_31 wAc14 (by decide +kernel) (by decide +kernel) (by decide +kernel) ?_
  refine wp_putR (v := some _) dX0_init_33 lX0_21 rfl (Or.inr ⟨rfl, rfl, rfl⟩) (hO_nw (hO_nw (hO_nw (hO_nw ho)))) ?_
  refine wp_aload_n dX0_init_36 rfl rfl ?_
  refine wp_bipush (v := (nI 6)) dX0_init_37 (by decide +kernel) ?_
  refine wp_newI (N := 6) dX0_init_39 wAc14 (by decide +kernel) (by decide +kernel) (by decide +kernel) ?_
  refine wp_putR (v := some _) dX0_init_41 lX0_24 rfl (Or.inr ⟨rfl, rfl, rfl⟩) (hO_nw (hO_nw (hO_nw (hO_nw (hO_nw ho))))) ?_
  refine wp_vreturn dX0_init_44 rfl ?_
  exact hq
def iX1 (h : mH) (a : Nat) : mH := al (al (al h a 0 15 4) a 1 14 4) a 2 16 4
theorem hN_iX1 (h : mH) (a : Nat) : hN (iX1 h a) = hN h + 3 := rfl
theorem hU_iX1 (h : mH) (a : Nat) : hU (iX1 h a) = hU h + 12 := by
  unfold iX1
  rw [hU_al, hU_al, hU_al]
  try omega
theorem hO_iX1 {h : mH} {a b c : Nat} (ho : hO h b c) : hO (iX1 h a) b c := (hO_al (hO_al (hO_al ho)))
theorem hA_iX1 {h : mH} {a b c m : Nat} (ho : hA h b c m) : hA (iX1 h a) b c m := (hA_al (hA_al (hA_al ho)))
theorem eqAt_iX1 {h : mH} {a x : Nat} (hx : x < hN h ∨ hN h + 3 ≤ x) (ha : x ≠ a) : eqAt h (iX1 h a) x := (((eqAt.rf).tr (eqAt_al (by show x ≠ hN h + 0; omega) ha)).tr (eqAt_al (by show x ≠ hN h + 1; omega) ha)).tr (eqAt_al (by show x ≠ hN h + 2; omega) ha)
set_option maxRecDepth 20000 in
theorem pX1_init {h : mH} {a : Nat} {Q : Option Value → mH → Prop} (ho : hO h a 1) (hq : Q none (iX1 h a)) : Wp mX1_init 1 20 0 [some (.ref a)] [] h Q := by
  refine wp_aload_n dX1_init_0 rfl rfl ?_
  refine wp_objInit dX1_init_1 lX1_3 wOi wOc (Nat.le_of_ble_eq_true rfl) (by decide) ?_
  refine wp_aload_n dX1_init_4 rfl rfl ?_
  refine wp_iconst (v := (nI 4)) dX1_init_5 (by decide +kernel) ?_
  refine wp_newL (N := 4) dX1_init_6 wAc15 (by decide +kernel) (by decide +kernel) (by decide +kernel) ?_
  refine wp_putR (v := some _) dX1_init_8 lX1_9 rfl (Or.inr ⟨rfl, rfl, rfl⟩) (hO_nw ho) ?_
  refine wp_aload_n dX1_init_11 rfl rfl ?_
  refine wp_iconst (v := (nI 4)) dX1_init_12 (by decide +kernel) ?_
  refine wp_newI (N := 4) dX1_init_13 wAc14 (by decide +kernel) (by decide +kernel) (by decide +kernel) ?_
  refine wp_putR (v := some _) dX1_init_15 lX1_15 rfl (Or.inr ⟨rfl, rfl, rfl⟩) (hO_nw (hO_nw ho)) ?_
  refine wp_aload_n dX1_init_18 rfl rfl ?_
  refine wp_iconst (v := (nI 4)) dX1_init_19 (by decide +kernel) ?_
  refine wp_newZ (N := 4) dX1_init_20 wAc16 (by decide +kernel) (by decide +kernel) (by decide +kernel) ?_
  refine wp_putR (v := some _) dX1_init_22 lX1_19 rfl (Or.inr ⟨rfl, rfl, rfl⟩) (hO_nw (hO_nw (hO_nw ho))) ?_
  refine wp_vreturn dX1_init_25 rfl ?_
  exact hq
def iX2 (h : mH) (a : Nat) : mH := al h a 0 15 243
theorem hN_iX2 (h : mH) (a : Nat) : hN (iX2 h a) = hN h + 1 := rfl
theorem hU_iX2 (h : mH) (a : Nat) : hU (iX2 h a) = hU h + 243 := by
  unfold iX2
  rw [hU_al]
  try omega
theorem hO_iX2 {h : mH} {a b c : Nat} (ho : hO h b c) : hO (iX2 h a) b c := (hO_al ho)
theorem hA_iX2 {h : mH} {a b c m : Nat} (ho : hA h b c m) : hA (iX2 h a) b c m := (hA_al ho)
theorem eqAt_iX2 {h : mH} {a x : Nat} (hx : x < hN h ∨ hN h + 1 ≤ x) (ha : x ≠ a) : eqAt h (iX2 h a) x := (eqAt.rf).tr (eqAt_al (by show x ≠ hN h + 0; omega) ha)
set_option maxRecDepth 20000 in
theorem pX2_init {h : mH} {a : Nat} {Q : Option Value → mH → Prop} (ho : hO h a 2) (hq : Q none (iX2 h a)) : Wp mX2_init 1 20 0 [some (.ref a)] [] h Q := by
  refine wp_aload_n dX2_init_0 rfl rfl ?_
  refine wp_objInit dX2_init_1 lX2_3 wOi wOc (Nat.le_of_ble_eq_true rfl) (by decide) ?_
  refine wp_aload_n dX2_init_4 rfl rfl ?_
  refine wp_sipush (v := (nI 243)) dX2_init_5 (by decide +kernel) ?_
  refine wp_newL (N := 243) dX2_init_8 wAc15 (by decide +kernel) (by decide +kernel) (by decide +kernel) ?_
  refine wp_putR (v := some _) dX2_init_10 lX2_9 rfl (Or.inr ⟨rfl, rfl, rfl⟩) (hO_nw ho) ?_
  refine wp_vreturn dX2_init_13 rfl ?_
  exact hq
def iX5 (h : mH) (a : Nat) : mH := al h a 0 13 360
theorem hN_iX5 (h : mH) (a : Nat) : hN (iX5 h a) = hN h + 1 := rfl
theorem hU_iX5 (h : mH) (a : Nat) : hU (iX5 h a) = hU h + 360 := by
  unfold iX5
  rw [hU_al]
  try omega
theorem hO_iX5 {h : mH} {a b c : Nat} (ho : hO h b c) : hO (iX5 h a) b c := (hO_al ho)
theorem hA_iX5 {h : mH} {a b c m : Nat} (ho : hA h b c m) : hA (iX5 h a) b c m := (hA_al ho)
theorem eqAt_iX5 {h : mH} {a x : Nat} (hx : x < hN h ∨ hN h + 1 ≤ x) (ha : x ≠ a) : eqAt h (iX5 h a) x := (eqAt.rf).tr (eqAt_al (by show x ≠ hN h + 0; omega) ha)
set_option maxRecDepth 20000 in
theorem pX5_init {h : mH} {a : Nat} {Q : Option Value → mH → Prop} (ho : hO h a 5) (hq : Q none (iX5 h a)) : Wp mX5_init 1 20 0 [some (.ref a)] [] h Q := by
  refine wp_aload_n dX5_init_0 rfl rfl ?_
  refine wp_objInit dX5_init_1 lX5_3 wOi wOc (Nat.le_of_ble_eq_true rfl) (by decide) ?_
  refine wp_aload_n dX5_init_4 rfl rfl ?_
  refine wp_sipush (v := (nI 360)) dX5_init_5 (by decide +kernel) ?_
  refine wp_newB (N := 360) dX5_init_8 wAc13 (by decide +kernel) (by decide +kernel) (by decide +kernel) ?_
  refine wp_putR (v := some _) dX5_init_10 lX5_9 rfl (Or.inr ⟨rfl, rfl, rfl⟩) (hO_nw ho) ?_
  refine wp_vreturn dX5_init_13 rfl ?_
  exact hq
def iX8 (h : mH) (a : Nat) : mH := al (al (al (al h a 0 19 6) a 1 20 4) a 2 15 24) a 3 15 24
theorem hN_iX8 (h : mH) (a : Nat) : hN (iX8 h a) = hN h + 4 := rfl
theorem hU_iX8 (h : mH) (a : Nat) : hU (iX8 h a) = hU h + 58 := by
  unfold iX8
  rw [hU_al, hU_al, hU_al, hU_al]
  try omega
theorem hO_iX8 {h : mH} {a b c : Nat} (ho : hO h b c) : hO (iX8 h a) b c := (hO_al (hO_al (hO_al (hO_al ho))))
theorem hA_iX8 {h : mH} {a b c m : Nat} (ho : hA h b c m) : hA (iX8 h a) b c m := (hA_al (hA_al (hA_al (hA_al ho))))
theorem eqAt_iX8 {h : mH} {a x : Nat} (hx : x < hN h ∨ hN h + 4 ≤ x) (ha : x ≠ a) : eqAt h (iX8 h a) x := ((((eqAt.rf).tr (eqAt_al (by show x ≠ hN h + 0; omega) ha)).tr (eqAt_al (by show x ≠ hN h + 1; omega) ha)).tr (eqAt_al (by show x ≠ hN h + 2; omega) ha)).tr (eqAt_al (by show x ≠ hN h + 3; omega) ha)
set_option maxRecDepth 20000 in
theorem pX8_init {h : mH} {a : Nat} {Q : Option Value → mH → Prop} (ho : hO h a 8) (hq : Q none (iX8 h a)) : Wp mX8_init 1 20 0 [some (.ref a)] [] h Q := by
  refine wp_aload_n dX8_init_0 rfl rfl ?_
  refine wp_objInit dX8_init_1 lX8_3 wOi wOc (Nat.le_of_ble_eq_true rfl) (by decide) ?_
  refine wp_aload_n dX8_init_4 rfl rfl ?_
  refine wp_bipush (v := (nI 6)) dX8_init_5 (by decide +kernel) ?_
  refine wp_newR (kd := 19) (N := 6) dX8_init_7 (by decide) (by decide) lX8_9 (by decide +kernel) (by decide +kernel) (by decide +kernel) ?_
  refine wp_putR (v := some _) dX8_init_10 lX8_11 rfl (Or.inr ⟨rfl, rfl, rfl⟩) (hO_nw ho) ?_
  refine wp_aload_n dX8_init_13 rfl rfl ?_
  refine wp_iconst (v := (nI 4)) dX8_init_14 (by decide +kernel) ?_
  refine wp_newR (kd := 20) (N := 4) dX8_init_15 (by decide) (by decide) lX8_17 (by decide +kernel) (by decide +kernel) (by decide +kernel) ?_
  refine wp_putR (v := some _) dX8_init_18 lX8_19 rfl (Or.inr ⟨rfl, rfl, rfl⟩) (hO_nw (hO_nw ho)) ?_
  refine wp_aload_n dX8_init_21 rfl rfl ?_
  refine wp_bipush (v := (nI 24)) dX8_init_22 (by decide +kernel) ?_
  refine wp_newL (N := 24) dX8_init_24 wAc15 (by decide +kernel) (by decide +kernel) (by decide +kernel) ?_
  refine wp_putR (v := some _) dX8_init_26 lX8_23 rfl (Or.inr ⟨rfl, rfl, rfl⟩) (hO_nw (hO_nw (hO_nw ho))) ?_
  refine wp_aload_n dX8_init_29 rfl rfl ?_
  refine wp_bipush (v := (nI 24)) dX8_init_30 (by decide +kernel) ?_
  refine wp_newL (N := 24) dX8_init_32 wAc15 (by decide +kernel) (by decide +kernel) (by decide +kernel) ?_
  refine wp_putR (v := some _) dX8_init_34 lX8_27 rfl (Or.inr ⟨rfl, rfl, rfl⟩) (hO_nw (hO_nw (hO_nw (hO_nw ho)))) ?_
  refine wp_vreturn dX8_init_37 rfl ?_
  exact hq
def iX9 (h : mH) (a : Nat) : mH := al (al (al (al (al (al h a 2 15 64) a 3 14 64) a 4 14 64) a 5 14 64) a 6 15 64) a 7 15 64
theorem hN_iX9 (h : mH) (a : Nat) : hN (iX9 h a) = hN h + 6 := rfl
theorem hU_iX9 (h : mH) (a : Nat) : hU (iX9 h a) = hU h + 384 := by
  unfold iX9
  rw [hU_al, hU_al, hU_al, hU_al, hU_al, hU_al]
  try omega
theorem hO_iX9 {h : mH} {a b c : Nat} (ho : hO h b c) : hO (iX9 h a) b c := (hO_al (hO_al (hO_al (hO_al (hO_al (hO_al ho))))))
theorem hA_iX9 {h : mH} {a b c m : Nat} (ho : hA h b c m) : hA (iX9 h a) b c m := (hA_al (hA_al (hA_al (hA_al (hA_al (hA_al ho))))))
theorem eqAt_iX9 {h : mH} {a x : Nat} (hx : x < hN h ∨ hN h + 6 ≤ x) (ha : x ≠ a) : eqAt h (iX9 h a) x := ((((((eqAt.rf).tr (eqAt_al (by show x ≠ hN h + 0; omega) ha)).tr (eqAt_al (by show x ≠ hN h + 1; omega) ha)).tr (eqAt_al (by show x ≠ hN h + 2; omega) ha)).tr (eqAt_al (by show x ≠ hN h + 3; omega) ha)).tr (eqAt_al (by show x ≠ hN h + 4; omega) ha)).tr (eqAt_al (by show x ≠ hN h + 5; omega) ha)
set_option maxRecDepth 20000 in
theorem pX9_init {h : mH} {a : Nat} {Q : Option Value → mH → Prop} (ho : hO h a 9) (hq : Q none (iX9 h a)) : Wp mX9_init 1 20 0 [some (.ref a)] [] h Q := by
  refine wp_aload_n dX9_init_0 rfl rfl ?_
  refine wp_objInit dX9_init_1 lX9_3 wOi wOc (Nat.le_of_ble_eq_true rfl) (by decide) ?_
  refine wp_aload_n dX9_init_4 rfl rfl ?_
  refine wp_bipush (v := (nI 64)) dX9_init_5 (by decide +kernel) ?_
  refine wp_newL (N := 64) dX9_init_7 wAc15 (by decide +kernel) (by decide +kernel) (by decide +kernel) ?_
  refine wp_putR (v := some _) dX9_init_9 lX9_9 rfl (Or.inl rfl) (hO_nw ho) ?_
  refine wp_aload_n dX9_init_12 rfl rfl ?_
  refine wp_bipush (v := (nI 64)) dX9_init_13 (by decide +kernel) ?_
  refine wp_newI (N := 64) dX9_init_15 wAc14 (by decide +kernel) (by decide +kernel) (by decide +kernel) ?_
  refine wp_putR (v := some _) dX9_init_17 lX9_15 rfl (Or.inl rfl) (hO_nw (hO_nw ho)) ?_
  refine wp_aload_n dX9_init_20 rfl rfl ?_
  refine wp_bipush (v := (nI 64)) dX9_init_21 (by decide +kernel) ?_
  refine wp_newI (N := 64) dX9_init_23 wAc14 (by decide +kernel) (by decide +kernel) (by decide +kernel) ?_
  refine wp_putR (v := some _) dX9_init_25 lX9_19 rfl (Or.inl rfl) (hO_nw (hO_nw (hO_nw ho))) ?_
  refine wp_aload_n dX9_init_28 rfl rfl ?_
  refine wp_bipush (v := (nI 64)) dX9_init_29 (by decide +kernel) ?_
  refine wp_newI (N := 64) dX9_init_31 wAc14 (by decide +kernel) (by decide +kernel) (by decide +kernel) ?_
  refine wp_putR (v := some _) dX9_init_33 lX9_22 rfl (Or.inl rfl) (hO_nw (hO_nw (hO_nw (hO_nw ho)))) ?_
  refine wp_aload_n dX9_init_36 rfl rfl ?_
  refine wp_bipush (v := (nI 64)) dX9_init_37 (by decide +kernel) ?_
  refine wp_newL (N := 64) dX9_init_39 wAc15 (by decide +kernel) (by decide +kernel) (by decide +kernel) ?_
  refine wp_putR (v := some _) dX9_init_41 lX9_25 rfl (Or.inl rfl) (hO_nw (hO_nw (hO_nw (hO_nw (hO_nw ho))))) ?_
  refine wp_aload_n dX9_init_44 rfl rfl ?_
  refine wp_bipush (v := (nI 64)) dX9_init_45 (by decide +kernel) ?_
  refine wp_newL (N := 64) dX9_init_47 wAc15 (by decide +kernel) (by decide +kernel) (by decide +kernel) ?_
  refine wp_putR (v := some _) dX9_init_49 lX9_28 rfl (Or.inl rfl) (hO_nw (hO_nw (hO_nw (hO_nw (hO_nw (hO_nw ho)))))) ?_
  refine wp_vreturn dX9_init_52 rfl ?_
  exact hq
def iX10 (h : mH) (a : Nat) : mH := al (al (al (sI (sI h a 0 (-1)) a 1 (-1)) a 3 15 64) a 4 15 64) a 5 14 64
theorem hN_iX10 (h : mH) (a : Nat) : hN (iX10 h a) = hN h + 3 := rfl
theorem hU_iX10 (h : mH) (a : Nat) : hU (iX10 h a) = hU h + 192 := by
  unfold iX10
  rw [hU_al, hU_al, hU_al, hU_sI, hU_sI]
  try omega
theorem hO_iX10 {h : mH} {a b c : Nat} (ho : hO h b c) : hO (iX10 h a) b c := (hO_al (hO_al (hO_al ho)))
theorem hA_iX10 {h : mH} {a b c m : Nat} (ho : hA h b c m) : hA (iX10 h a) b c m := (hA_al (hA_al (hA_al ho)))
theorem eqAt_iX10 {h : mH} {a x : Nat} (hx : x < hN h ∨ hN h + 3 ≤ x) (ha : x ≠ a) : eqAt h (iX10 h a) x := (((((eqAt.rf).tr (eqAt_sI ha)).tr (eqAt_sI ha)).tr (eqAt_al (by show x ≠ hN h + 0; omega) ha)).tr (eqAt_al (by show x ≠ hN h + 1; omega) ha)).tr (eqAt_al (by show x ≠ hN h + 2; omega) ha)
set_option maxRecDepth 20000 in
theorem pX10_init {h : mH} {a : Nat} {Q : Option Value → mH → Prop} (ho : hO h a 10) (hq : Q none (iX10 h a)) : Wp mX10_init 1 20 0 [some (.ref a)] [] h Q := by
  refine wp_aload_n dX10_init_0 rfl rfl ?_
  refine wp_objInit dX10_init_1 lX10_3 wOi wOc (Nat.le_of_ble_eq_true rfl) (by decide) ?_
  refine wp_aload_n dX10_init_4 rfl rfl ?_
  refine wp_iconst (v := (-1)) dX10_init_5 (by decide +kernel) ?_
  refine wp_putI dX10_init_6 lX10_9 rfl (Or.inl rfl) ho rfl rfl ?_
  refine wp_aload_n dX10_init_9 rfl rfl ?_
  refine wp_iconst (v := (-1)) dX10_init_10 (by decide +kernel) ?_
  refine wp_putI dX10_init_11 lX10_15 rfl (Or.inl rfl) ho rfl rfl ?_
  refine wp_aload_n dX10_init_14 rfl rfl ?_
  refine wp_bipush (v := (nI 64)) dX10_init_15 (by decide +kernel) ?_
  refine wp_newL (N := 64) dX10_init_17 wAc15 (by decide +kernel) (by decide +kernel) (by decide +kernel) ?_
  refine wp_putR (v := some _) dX10_init_19 lX10_18 rfl (Or.inl rfl) (hO_nw ho) ?_
  refine wp_aload_n dX10_init_22 rfl rfl ?_
  refine wp_bipush (v := (nI 64)) dX10_init_23 (by decide +kernel) ?_
  refine wp_newL (N := 64) dX10_init_25 wAc15 (by decide +kernel) (by decide +kernel) (by decide +kernel) ?_
  refine wp_putR (v := some _) dX10_init_27 lX10_22 rfl (Or.inl rfl) (hO_nw (hO_nw ho)) ?_
  refine wp_aload_n dX10_init_30 rfl rfl ?_
  refine wp_bipush (v := (nI 64)) dX10_init_31 (by decide +kernel) ?_
  refine wp_newI (N := 64) dX10_init_33 wAc14 (by decide +kernel) (by decide +kernel) (by decide +kernel) ?_
  refine wp_putR (v := some _) dX10_init_35 lX10_25 rfl (Or.inl rfl) (hO_nw (hO_nw (hO_nw ho))) ?_
  refine wp_vreturn dX10_init_38 rfl ?_
  exact hq
