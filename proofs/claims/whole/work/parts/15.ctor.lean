/-! ===== constructors ===== -/
/-- a new row, put into a field -/
def al (h : mH) (a f kd n : Nat) : mH := sR (nw h kd n) a f (some (hN h))
theorem hN_al (h : mH) (a f kd n : Nat) : hN (al h a f kd n) = hN h + 1 := rfl
theorem hU_al (h : mH) (a f kd n : Nat) : hU (al h a f kd n) = hU h + n := rfl
theorem hK_al (h : mH) (a f kd n x : Nat) : hK (al h a f kd n) x = if x = hN h then (kd, n) else hK h x := rfl
theorem hI_al (h : mH) (a f kd n x y : Nat) : hI (al h a f kd n) x y = if x = hN h then 0 else hI h x y := rfl
theorem hL_al (h : mH) (a f kd n x y : Nat) : hL (al h a f kd n) x y = if x = hN h then 0 else hL h x y := rfl
theorem hR_al (h : mH) (a f kd n x y : Nat) : hR (al h a f kd n) x y = if x = a ∧ y = f then some (hN h) else if x = hN h then none else hR h x y := rfl
theorem hO_nw {h : mH} {kd n b c : Nat} (ho : hO h b c) : hO (nw h kd n) b c := ⟨Nat.lt_succ_of_lt ho.1, by rw [hK_nw, if_neg (Nat.ne_of_lt ho.1)]; exact ho.2⟩
theorem hA_nw {h : mH} {kd n b c m : Nat} (ho : hA h b c m) : hA (nw h kd n) b c m := ⟨Nat.lt_succ_of_lt ho.1, by rw [hK_nw, if_neg (Nat.ne_of_lt ho.1)]; exact ho.2⟩
theorem hO_new (h : mH) (kd n : Nat) : hO (nw h kd n) (hN h) kd := ⟨Nat.lt_succ_self _, by rw [hK_nw, if_pos rfl]⟩
theorem hA_new (h : mH) (kd n : Nat) : hA (nw h kd n) (hN h) kd n := ⟨Nat.lt_succ_self _, by rw [hK_nw, if_pos rfl]⟩
theorem hO_al {h : mH} {a f kd n b c : Nat} (ho : hO h b c) : hO (al h a f kd n) b c := hO_nw ho
theorem hA_al {h : mH} {a f kd n b c m : Nat} (ho : hA h b c m) : hA (al h a f kd n) b c m := hA_nw ho
theorem hO_mul {h : mH} {n k b c : Nat} (ho : hO h b c) : hO (mul h n k) b c := ⟨Nat.lt_of_lt_of_le ho.1 (Nat.le_add_right _ _), by rw [hK_mul, if_neg (Nat.ne_of_lt ho.1), if_neg (by have := ho.1; omega)]; exact ho.2⟩
theorem hA_mul {h : mH} {n k b c m : Nat} (ho : hA h b c m) : hA (mul h n k) b c m := ⟨Nat.lt_of_lt_of_le ho.1 (Nat.le_add_right _ _), by rw [hK_mul, if_neg (Nat.ne_of_lt ho.1), if_neg (by have := ho.1; omega)]; exact ho.2⟩
def iX0 (h : mH) (a : Nat) : mH := al (al (al (al (al h a 0 14 64) a 1 14 64) a 2 14 64) a 3 14 64) a 4 14 6
theorem hN_iX0 (h : mH) (a : Nat) : hN (iX0 h a) = hN h + 5 := rfl
theorem hU_iX0 (h : mH) (a : Nat) : hU (iX0 h a) = hU h + 262 := by show hU h + 64 + 64 + 64 + 64 + 6 = _; omega
theorem hO_iX0 {h : mH} {a b c : Nat} (ho : hO h b c) : hO (iX0 h a) b c := (hO_al (hO_al (hO_al (hO_al (hO_al ho)))))
theorem hA_iX0 {h : mH} {a b c m : Nat} (ho : hA h b c m) : hA (iX0 h a) b c m := (hA_al (hA_al (hA_al (hA_al (hA_al ho)))))
set_option maxRecDepth 20000 in
theorem pX0_init {h : mH} {a : Nat} {Q : Option Value → mH → Prop} (ho : hO h a 0) (hq : Q none (iX0 h a)) : Wp mX0_init 1 20 0 [some (.ref a)] [] h Q := by
  refine wp_aload_n dX0_init_0 rfl rfl ?_
  refine wp_objInit dX0_init_1 lX0_3 wOi wOc (Nat.le_of_ble_eq_true rfl) (by decide) ?_
  refine wp_aload_n dX0_init_4 rfl rfl ?_
  refine wp_bipush (v := (nI 64)) dX0_init_5 (by decide) ?_
  refine wp_newI (N := 64) dX0_init_7 wAc14 (by decide) (by decide) (by decide) ?_
  refine wp_putR (v := some _) dX0_init_9 lX0_9 rfl (Or.inr ⟨rfl, rfl, rfl⟩) (hO_nw ho) ?_
  refine wp_aload_n dX0_init_12 rfl rfl ?_
  refine wp_bipush (v := (nI 64)) dX0_init_13 (by decide) ?_
  refine wp_newI (N := 64) dX0_init_15 wAc14 (by decide) (by decide) (by decide) ?_
  refine wp_putR (v := some _) dX0_init_17 lX0_15 rfl (Or.inr ⟨rfl, rfl, rfl⟩) (hO_nw (hO_nw ho)) ?_
  refine wp_aload_n dX0_init_20 rfl rfl ?_
  refine wp_bipush (v := (nI 64)) dX0_init_21 (by decide) ?_
  refine wp_newI (N := 64) dX0_init_23 wAc14 (by decide) (by decide) (by decide) ?_
  refine wp_putR (v := some _) dX0_init_25 lX0_18 rfl (Or.inr ⟨rfl, rfl, rfl⟩) (hO_nw (hO_nw (hO_nw ho))) ?_
  refine wp_aload_n dX0_init_28 rfl rfl ?_
  refine wp_bipush (v := (nI 64)) dX0_init_29 (by decide) ?_
  refine wp_newI (N := 64) dX0_init_31 wAc14 (by decide) (by decide) (by decide) ?_
  refine wp_putR (v := some _) dX0_init_33 lX0_21 rfl (Or.inr ⟨rfl, rfl, rfl⟩) (hO_nw (hO_nw (hO_nw (hO_nw ho)))) ?_
  refine wp_aload_n dX0_init_36 rfl rfl ?_
  refine wp_bipush (v := (nI 6)) dX0_init_37 (by decide) ?_
  refine wp_newI (N := 6) dX0_init_39 wAc14 (by decide) (by decide) (by decide) ?_
  refine wp_putR (v := some _) dX0_init_41 lX0_24 rfl (Or.inr ⟨rfl, rfl, rfl⟩) (hO_nw (hO_nw (hO_nw (hO_nw (hO_nw ho))))) ?_
  refine wp_vreturn dX0_init_44 rfl ?_
  exact hq
def iX1 (h : mH) (a : Nat) : mH := al (al (al h a 0 15 4) a 1 14 4) a 2 16 4
theorem hN_iX1 (h : mH) (a : Nat) : hN (iX1 h a) = hN h + 3 := rfl
theorem hU_iX1 (h : mH) (a : Nat) : hU (iX1 h a) = hU h + 12 := by show hU h + 4 + 4 + 4 = _; omega
theorem hO_iX1 {h : mH} {a b c : Nat} (ho : hO h b c) : hO (iX1 h a) b c := (hO_al (hO_al (hO_al ho)))
theorem hA_iX1 {h : mH} {a b c m : Nat} (ho : hA h b c m) : hA (iX1 h a) b c m := (hA_al (hA_al (hA_al ho)))
set_option maxRecDepth 20000 in
theorem pX1_init {h : mH} {a : Nat} {Q : Option Value → mH → Prop} (ho : hO h a 1) (hq : Q none (iX1 h a)) : Wp mX1_init 1 20 0 [some (.ref a)] [] h Q := by
  refine wp_aload_n dX1_init_0 rfl rfl ?_
  refine wp_objInit dX1_init_1 lX1_3 wOi wOc (Nat.le_of_ble_eq_true rfl) (by decide) ?_
  refine wp_aload_n dX1_init_4 rfl rfl ?_
  refine wp_iconst (v := (nI 4)) dX1_init_5 (by decide) ?_
  refine wp_newL (N := 4) dX1_init_6 wAc15 (by decide) (by decide) (by decide) ?_
  refine wp_putR (v := some _) dX1_init_8 lX1_9 rfl (Or.inr ⟨rfl, rfl, rfl⟩) (hO_nw ho) ?_
  refine wp_aload_n dX1_init_11 rfl rfl ?_
  refine wp_iconst (v := (nI 4)) dX1_init_12 (by decide) ?_
  refine wp_newI (N := 4) dX1_init_13 wAc14 (by decide) (by decide) (by decide) ?_
  refine wp_putR (v := some _) dX1_init_15 lX1_15 rfl (Or.inr ⟨rfl, rfl, rfl⟩) (hO_nw (hO_nw ho)) ?_
  refine wp_aload_n dX1_init_18 rfl rfl ?_
  refine wp_iconst (v := (nI 4)) dX1_init_19 (by decide) ?_
  refine wp_newZ (N := 4) dX1_init_20 wAc16 (by decide) (by decide) (by decide) ?_
  refine wp_putR (v := some _) dX1_init_22 lX1_19 rfl (Or.inr ⟨rfl, rfl, rfl⟩) (hO_nw (hO_nw (hO_nw ho))) ?_
  refine wp_vreturn dX1_init_25 rfl ?_
  exact hq
def iX2 (h : mH) (a : Nat) : mH := al h a 0 15 243
theorem hN_iX2 (h : mH) (a : Nat) : hN (iX2 h a) = hN h + 1 := rfl
theorem hU_iX2 (h : mH) (a : Nat) : hU (iX2 h a) = hU h + 243 := by show hU h + 243 = _; omega
theorem hO_iX2 {h : mH} {a b c : Nat} (ho : hO h b c) : hO (iX2 h a) b c := (hO_al ho)
theorem hA_iX2 {h : mH} {a b c m : Nat} (ho : hA h b c m) : hA (iX2 h a) b c m := (hA_al ho)
set_option maxRecDepth 20000 in
theorem pX2_init {h : mH} {a : Nat} {Q : Option Value → mH → Prop} (ho : hO h a 2) (hq : Q none (iX2 h a)) : Wp mX2_init 1 20 0 [some (.ref a)] [] h Q := by
  refine wp_aload_n dX2_init_0 rfl rfl ?_
  refine wp_objInit dX2_init_1 lX2_3 wOi wOc (Nat.le_of_ble_eq_true rfl) (by decide) ?_
  refine wp_aload_n dX2_init_4 rfl rfl ?_
  refine wp_sipush (v := (nI 243)) dX2_init_5 (by decide) ?_
  refine wp_newL (N := 243) dX2_init_8 wAc15 (by decide) (by decide) (by decide) ?_
  refine wp_putR (v := some _) dX2_init_10 lX2_9 rfl (Or.inr ⟨rfl, rfl, rfl⟩) (hO_nw ho) ?_
  refine wp_vreturn dX2_init_13 rfl ?_
  exact hq
def iX5 (h : mH) (a : Nat) : mH := al h a 0 13 360
theorem hN_iX5 (h : mH) (a : Nat) : hN (iX5 h a) = hN h + 1 := rfl
theorem hU_iX5 (h : mH) (a : Nat) : hU (iX5 h a) = hU h + 360 := by show hU h + 360 = _; omega
theorem hO_iX5 {h : mH} {a b c : Nat} (ho : hO h b c) : hO (iX5 h a) b c := (hO_al ho)
theorem hA_iX5 {h : mH} {a b c m : Nat} (ho : hA h b c m) : hA (iX5 h a) b c m := (hA_al ho)
set_option maxRecDepth 20000 in
theorem pX5_init {h : mH} {a : Nat} {Q : Option Value → mH → Prop} (ho : hO h a 5) (hq : Q none (iX5 h a)) : Wp mX5_init 1 20 0 [some (.ref a)] [] h Q := by
  refine wp_aload_n dX5_init_0 rfl rfl ?_
  refine wp_objInit dX5_init_1 lX5_3 wOi wOc (Nat.le_of_ble_eq_true rfl) (by decide) ?_
  refine wp_aload_n dX5_init_4 rfl rfl ?_
  refine wp_sipush (v := (nI 360)) dX5_init_5 (by decide) ?_
  refine wp_newB (N := 360) dX5_init_8 wAc13 (by decide) (by decide) (by decide) ?_
  refine wp_putR (v := some _) dX5_init_10 lX5_9 rfl (Or.inr ⟨rfl, rfl, rfl⟩) (hO_nw ho) ?_
  refine wp_vreturn dX5_init_13 rfl ?_
  exact hq
def iX8 (h : mH) (a : Nat) : mH := al (al (al (al h a 0 19 6) a 1 20 4) a 2 15 24) a 3 15 24
theorem hN_iX8 (h : mH) (a : Nat) : hN (iX8 h a) = hN h + 4 := rfl
theorem hU_iX8 (h : mH) (a : Nat) : hU (iX8 h a) = hU h + 58 := by show hU h + 6 + 4 + 24 + 24 = _; omega
theorem hO_iX8 {h : mH} {a b c : Nat} (ho : hO h b c) : hO (iX8 h a) b c := (hO_al (hO_al (hO_al (hO_al ho))))
theorem hA_iX8 {h : mH} {a b c m : Nat} (ho : hA h b c m) : hA (iX8 h a) b c m := (hA_al (hA_al (hA_al (hA_al ho))))
set_option maxRecDepth 20000 in
theorem pX8_init {h : mH} {a : Nat} {Q : Option Value → mH → Prop} (ho : hO h a 8) (hq : Q none (iX8 h a)) : Wp mX8_init 1 20 0 [some (.ref a)] [] h Q := by
  refine wp_aload_n dX8_init_0 rfl rfl ?_
  refine wp_objInit dX8_init_1 lX8_3 wOi wOc (Nat.le_of_ble_eq_true rfl) (by decide) ?_
  refine wp_aload_n dX8_init_4 rfl rfl ?_
  refine wp_bipush (v := (nI 6)) dX8_init_5 (by decide) ?_
  refine wp_newR (kd := 19) (N := 6) dX8_init_7 (by decide) (by decide) lX8_9 (by decide) (by decide) (by decide) ?_
  refine wp_putR (v := some _) dX8_init_10 lX8_11 rfl (Or.inr ⟨rfl, rfl, rfl⟩) (hO_nw ho) ?_
  refine wp_aload_n dX8_init_13 rfl rfl ?_
  refine wp_iconst (v := (nI 4)) dX8_init_14 (by decide) ?_
  refine wp_newR (kd := 20) (N := 4) dX8_init_15 (by decide) (by decide) lX8_17 (by decide) (by decide) (by decide) ?_
  refine wp_putR (v := some _) dX8_init_18 lX8_19 rfl (Or.inr ⟨rfl, rfl, rfl⟩) (hO_nw (hO_nw ho)) ?_
  refine wp_aload_n dX8_init_21 rfl rfl ?_
  refine wp_bipush (v := (nI 24)) dX8_init_22 (by decide) ?_
  refine wp_newL (N := 24) dX8_init_24 wAc15 (by decide) (by decide) (by decide) ?_
  refine wp_putR (v := some _) dX8_init_26 lX8_23 rfl (Or.inr ⟨rfl, rfl, rfl⟩) (hO_nw (hO_nw (hO_nw ho))) ?_
  refine wp_aload_n dX8_init_29 rfl rfl ?_
  refine wp_bipush (v := (nI 24)) dX8_init_30 (by decide) ?_
  refine wp_newL (N := 24) dX8_init_32 wAc15 (by decide) (by decide) (by decide) ?_
  refine wp_putR (v := some _) dX8_init_34 lX8_27 rfl (Or.inr ⟨rfl, rfl, rfl⟩) (hO_nw (hO_nw (hO_nw (hO_nw ho)))) ?_
  refine wp_vreturn dX8_init_37 rfl ?_
  exact hq
def iX9 (h : mH) (a : Nat) : mH := al (al (al (al (al (al h a 2 15 64) a 3 14 64) a 4 14 64) a 5 14 64) a 6 15 64) a 7 15 64
theorem hN_iX9 (h : mH) (a : Nat) : hN (iX9 h a) = hN h + 6 := rfl
theorem hU_iX9 (h : mH) (a : Nat) : hU (iX9 h a) = hU h + 384 := by show hU h + 64 + 64 + 64 + 64 + 64 + 64 = _; omega
theorem hO_iX9 {h : mH} {a b c : Nat} (ho : hO h b c) : hO (iX9 h a) b c := (hO_al (hO_al (hO_al (hO_al (hO_al (hO_al ho))))))
theorem hA_iX9 {h : mH} {a b c m : Nat} (ho : hA h b c m) : hA (iX9 h a) b c m := (hA_al (hA_al (hA_al (hA_al (hA_al (hA_al ho))))))
set_option maxRecDepth 20000 in
theorem pX9_init {h : mH} {a : Nat} {Q : Option Value → mH → Prop} (ho : hO h a 9) (hq : Q none (iX9 h a)) : Wp mX9_init 1 20 0 [some (.ref a)] [] h Q := by
  refine wp_aload_n dX9_init_0 rfl rfl ?_
  refine wp_objInit dX9_init_1 lX9_3 wOi wOc (Nat.le_of_ble_eq_true rfl) (by decide) ?_
  refine wp_aload_n dX9_init_4 rfl rfl ?_
  refine wp_bipush (v := (nI 64)) dX9_init_5 (by decide) ?_
  refine wp_newL (N := 64) dX9_init_7 wAc15 (by decide) (by decide) (by decide) ?_
  refine wp_putR (v := some _) dX9_init_9 lX9_9 rfl (Or.inl rfl) (hO_nw ho) ?_
  refine wp_aload_n dX9_init_12 rfl rfl ?_
  refine wp_bipush (v := (nI 64)) dX9_init_13 (by decide) ?_
  refine wp_newI (N := 64) dX9_init_15 wAc14 (by decide) (by decide) (by decide) ?_
  refine wp_putR (v := some _) dX9_init_17 lX9_15 rfl (Or.inl rfl) (hO_nw (hO_nw ho)) ?_
  refine wp_aload_n dX9_init_20 rfl rfl ?_
  refine wp_bipush (v := (nI 64)) dX9_init_21 (by decide) ?_
  refine wp_newI (N := 64) dX9_init_23 wAc14 (by decide) (by decide) (by decide) ?_
  refine wp_putR (v := some _) dX9_init_25 lX9_19 rfl (Or.inl rfl) (hO_nw (hO_nw (hO_nw ho))) ?_
  refine wp_aload_n dX9_init_28 rfl rfl ?_
  refine wp_bipush (v := (nI 64)) dX9_init_29 (by decide) ?_
  refine wp_newI (N := 64) dX9_init_31 wAc14 (by decide) (by decide) (by decide) ?_
  refine wp_putR (v := some _) dX9_init_33 lX9_22 rfl (Or.inl rfl) (hO_nw (hO_nw (hO_nw (hO_nw ho)))) ?_
  refine wp_aload_n dX9_init_36 rfl rfl ?_
  refine wp_bipush (v := (nI 64)) dX9_init_37 (by decide) ?_
  refine wp_newL (N := 64) dX9_init_39 wAc15 (by decide) (by decide) (by decide) ?_
  refine wp_putR (v := some _) dX9_init_41 lX9_25 rfl (Or.inl rfl) (hO_nw (hO_nw (hO_nw (hO_nw (hO_nw ho))))) ?_
  refine wp_aload_n dX9_init_44 rfl rfl ?_
  refine wp_bipush (v := (nI 64)) dX9_init_45 (by decide) ?_
  refine wp_newL (N := 64) dX9_init_47 wAc15 (by decide) (by decide) (by decide) ?_
  refine wp_putR (v := some _) dX9_init_49 lX9_28 rfl (Or.inl rfl) (hO_nw (hO_nw (hO_nw (hO_nw (hO_nw (hO_nw ho)))))) ?_
  refine wp_vreturn dX9_init_52 rfl ?_
  exact hq
def iX10 (h : mH) (a : Nat) : mH := al (al (al (sI (sI h a 0 (-1)) a 1 (-1)) a 3 15 64) a 4 15 64) a 5 14 64
theorem hN_iX10 (h : mH) (a : Nat) : hN (iX10 h a) = hN h + 3 := rfl
theorem hU_iX10 (h : mH) (a : Nat) : hU (iX10 h a) = hU h + 192 := by show hU h + 64 + 64 + 64 = _; omega
theorem hO_iX10 {h : mH} {a b c : Nat} (ho : hO h b c) : hO (iX10 h a) b c := (hO_al (hO_al (hO_al ho)))
theorem hA_iX10 {h : mH} {a b c m : Nat} (ho : hA h b c m) : hA (iX10 h a) b c m := (hA_al (hA_al (hA_al ho)))
set_option maxRecDepth 20000 in
theorem pX10_init {h : mH} {a : Nat} {Q : Option Value → mH → Prop} (ho : hO h a 10) (hq : Q none (iX10 h a)) : Wp mX10_init 1 20 0 [some (.ref a)] [] h Q := by
  refine wp_aload_n dX10_init_0 rfl rfl ?_
  refine wp_objInit dX10_init_1 lX10_3 wOi wOc (Nat.le_of_ble_eq_true rfl) (by decide) ?_
  refine wp_aload_n dX10_init_4 rfl rfl ?_
  refine wp_iconst (v := (-1)) dX10_init_5 (by decide) ?_
  refine wp_putI dX10_init_6 lX10_9 rfl (Or.inl rfl) ho rfl rfl ?_
  refine wp_aload_n dX10_init_9 rfl rfl ?_
  refine wp_iconst (v := (-1)) dX10_init_10 (by decide) ?_
  refine wp_putI dX10_init_11 lX10_15 rfl (Or.inl rfl) ho rfl rfl ?_
  refine wp_aload_n dX10_init_14 rfl rfl ?_
  refine wp_bipush (v := (nI 64)) dX10_init_15 (by decide) ?_
  refine wp_newL (N := 64) dX10_init_17 wAc15 (by decide) (by decide) (by decide) ?_
  refine wp_putR (v := some _) dX10_init_19 lX10_18 rfl (Or.inl rfl) (hO_nw ho) ?_
  refine wp_aload_n dX10_init_22 rfl rfl ?_
  refine wp_bipush (v := (nI 64)) dX10_init_23 (by decide) ?_
  refine wp_newL (N := 64) dX10_init_25 wAc15 (by decide) (by decide) (by decide) ?_
  refine wp_putR (v := some _) dX10_init_27 lX10_22 rfl (Or.inl rfl) (hO_nw (hO_nw ho)) ?_
  refine wp_aload_n dX10_init_30 rfl rfl ?_
  refine wp_bipush (v := (nI 64)) dX10_init_31 (by decide) ?_
  refine wp_newI (N := 64) dX10_init_33 wAc14 (by decide) (by decide) (by decide) ?_
  refine wp_putR (v := some _) dX10_init_35 lX10_25 rfl (Or.inl rfl) (hO_nw (hO_nw (hO_nw ho))) ?_
  refine wp_vreturn dX10_init_38 rfl ?_
  exact hq
def iX7a (h : mH) (a : Nat) : mH := al (sR (mul h 6 40) a 0 (some (hN h))) a 1 14 6
def iX7b (h : mH) (a : Nat) : mH := iX1 (nw (iX7a h a) 1 4) (hN h + 8)
def iX7 (h : mH) (a : Nat) : mH := al (sR (iX7b h a) a 3 (some (hN h + 8))) a 6 13 0
theorem hN_iX7 (h : mH) (a : Nat) : hN (iX7 h a) = hN h + 13 := rfl
theorem hU_iX7 (h : mH) (a : Nat) : hU (iX7 h a) = hU h + 268 := by show hU h + (6 + 6 * 40) + 6 + 4 + 4 + 4 + 4 + 0 = _; omega
theorem hO_iX7 {h : mH} {a b c : Nat} (ho : hO h b c) : hO (iX7 h a) b c := hO_al (hO_iX1 (hO_nw (hO_al (hO_mul ho))))
theorem hA_iX7 {h : mH} {a b c m : Nat} (ho : hA h b c m) : hA (iX7 h a) b c m := hA_al (hA_iX1 (hA_nw (hA_al (hA_mul ho))))
set_option maxRecDepth 20000 in
theorem pX7_init {h : mH} {a : Nat} {Q : Option Value → mH → Prop} (ho : hO h a 7) (hq : Q none (iX7 h a)) : Wp mX7_init 2 40 0 [some (.ref a)] [] h Q := by
  refine wp_aload_n dX7_init_0 rfl rfl ?_
  refine wp_objInit dX7_init_1 lX7_3 wOi wOc (Nat.le_of_ble_eq_true rfl) (by decide) ?_
  refine wp_aload_n dX7_init_4 rfl rfl ?_
  refine wp_bipush (v := (nI 6)) dX7_init_5 (by decide) ?_
  refine wp_bipush (v := (nI 40)) dX7_init_7 (by decide) ?_
  refine wp_mul (N := 6) (K := 40) dX7_init_9 lX7_9 wAc15 (by decide) (by decide) (by decide) (by decide) (by decide) (by decide) ?_
  refine wp_putR (v := some _) dX7_init_13 lX7_11 rfl (Or.inr ⟨rfl, rfl, rfl⟩) (hO_mul ho) ?_
  refine wp_aload_n dX7_init_16 rfl rfl ?_
  refine wp_bipush (v := (nI 6)) dX7_init_17 (by decide) ?_
  refine wp_newI (N := 6) dX7_init_19 wAc14 (by decide) (by decide) (by decide) ?_
  refine wp_putR (v := some _) dX7_init_21 lX7_16 rfl (Or.inr ⟨rfl, rfl, rfl⟩) (hO_nw (hO_mul ho)) ?_
  refine wp_aload_n dX7_init_24 rfl rfl ?_
  refine wp_new dX7_init_25 (by decide) lX7_20 (mInst 1 (by decide)) (mInit 1 (by decide)) ?_
  refine wp_dup dX7_init_28 rfl ?_
  refine wp_cIN0 1 20 [some _] dX7_init_29 tX1_init rfl rfl nX1_init lX7_22 ⟨by decide, by decide⟩ (Nat.le_of_ble_eq_true rfl) (Nat.le_of_ble_eq_true rfl) rfl ?_
  refine pX1_init (hO_new _ _ _) ?_
  intro _ _
  refine wp_putR (v := some _) dX7_init_32 lX7_23 rfl (Or.inl rfl) (hO_iX1 (hO_nw (hO_nw (hO_mul ho)))) ?_
  refine wp_aload_n dX7_init_35 rfl rfl ?_
  refine wp_iconst (v := (nI 0)) dX7_init_36 (by decide) ?_
  refine wp_newB (N := 0) dX7_init_37 wAc13 (by decide) (by decide) (by decide) ?_
  refine wp_putR (v := some _) dX7_init_39 lX7_27 rfl (Or.inl rfl) (hO_nw (hO_iX1 (hO_nw (hO_nw (hO_mul ho))))) ?_
  refine wp_vreturn dX7_init_42 rfl ?_
  exact hq
/-- k states more, in a row g -/
def iRing (g : Nat) : Nat → mH → mH
  | 0, h => h
  | k + 1, h => sR (iX8 (nw (iRing g k h) 8 5) (hN (iRing g k h))) g k (some (hN (iRing g k h)))
theorem hN_iRing (g : Nat) : ∀ (k : Nat) (h : mH), hN (iRing g k h) = hN h + 5 * k
  | 0, h => rfl
  | k + 1, h => by
    show hN (iRing g k h) + 1 + 4 = _
    rw [hN_iRing g k h]
    omega
theorem hU_iRing (g : Nat) : ∀ (k : Nat) (h : mH), hU (iRing g k h) = hU h + 63 * k
  | 0, h => rfl
  | k + 1, h => by
    show hU (iX8 (nw (iRing g k h) 8 5) (hN (iRing g k h))) = _
    rw [hU_iX8, hU_nw, hU_iRing g k h]
    omega
theorem hO_iRing {g b c : Nat} : ∀ (k : Nat) {h : mH}, hO h b c → hO (iRing g k h) b c
  | 0, _, ho => ho
  | k + 1, _, ho => hO_iX8 (hO_nw (hO_iRing k ho))
theorem hA_iRing {g b c m : Nat} : ∀ (k : Nat) {h : mH}, hA h b c m → hA (iRing g k h) b c m
  | 0, _, ho => ho
  | k + 1, _, ho => hA_iX8 (hA_nw (hA_iRing k ho))
def iX3 (h : mH) (a : Nat) : mH := iRing (hN h) 17 (al h a 0 17 17)
theorem hN_iX3 (h : mH) (a : Nat) : hN (iX3 h a) = hN h + 86 := by show hN (iRing _ _ _) = _; rw [hN_iRing, hN_al]
theorem hU_iX3 (h : mH) (a : Nat) : hU (iX3 h a) = hU h + 1088 := by show hU (iRing _ _ _) = _; rw [hU_iRing, hU_al]
theorem hO_iX3 {h : mH} {a b c : Nat} (ho : hO h b c) : hO (iX3 h a) b c := hO_iRing 17 (hO_al ho)
theorem hA_iX3 {h : mH} {a b c m : Nat} (ho : hA h b c m) : hA (iX3 h a) b c m := hA_iRing 17 (hA_al ho)
theorem hR_iRing_ne {g x y : Nat} (hx : x ≠ g) : ∀ (k : Nat) {h : mH}, x < hN h → hR (iRing g k h) x y = hR h x y
  | 0, _, _ => rfl
  | k + 1, h, hl => by
    have ih := hR_iRing_ne (y := y) hx k hl
    have hn := hN_iRing g k h
    show hR (sR (iX8 (nw (iRing g k h) 8 5) (hN (iRing g k h))) g k (some (hN (iRing g k h)))) x y = _
    rw [hR_sR, if_neg (fun q => hx q.1)]
    unfold iX8
    simp only [hR_al, hR_nw, hN_al, hN_nw]
    rw [if_neg (fun q => by omega), if_neg (by omega), if_neg (fun q => by omega), if_neg (by omega), if_neg (fun q => by omega), if_neg (by omega), if_neg (fun q => by omega), if_neg (by omega), if_neg (by omega)]
    exact ih
theorem hA_al_new (h : mH) (a f kd n : Nat) : hA (al h a f kd n) (hN h) kd n := hA_new h kd n
set_option maxRecDepth 20000 in
theorem pX3_init {h : mH} {a : Nat} {Q : Option Value → mH → Prop} (ho : hO h a 3) (hq : Q none (iX3 h a)) : Wp mX3_init 2 40 0 [some (.ref a), none] [] h Q := by
  have hloop : ∀ (n k : Nat), k ≤ 17 → 18 ≤ k + n → Wp mX3_init 2 40 15 [some (.ref a), some (.int (nI k))] [] (iRing (hN h) k (al h a 0 17 17)) Q := by
    intro n
    induction n with
    | zero => intro k h1 h2; omega
    | succ n ih =>
      intro k h1 h2
      have hrg : hR (iRing (hN h) k (al h a 0 17 17)) a 0 = some (hN h) := by
        rw [hR_iRing_ne (by have := ho.1; omega) k (by rw [hN_al]; have := ho.1; omega), hR_al, if_pos ⟨rfl, rfl⟩]
      refine wp_iload_n dX3_init_15 rfl rfl ?_
      refine wp_aload_n dX3_init_16 rfl rfl ?_
      refine wp_getR dX3_init_17 lX3_11 rfl (hO_iRing k (hO_al ho)) hrg ?_
      refine wp_alen dX3_init_20 (hA_iRing k (hA_al_new h a 0 17 17)) (by decide) (by decide) rfl ?_
      refine wp_icmp_geN dX3_init_21 rfl rfl ⟨by omega, by decide⟩ (fun c1 => ?_) (fun c1 => ?_)
      · have e9 : k = 17 := by omega
        subst e9
        refine wp_vreturn dX3_init_43 rfl ?_
        exact hq
      refine wp_aload_n dX3_init_24 rfl rfl ?_
      refine wp_getR dX3_init_25 lX3_11 rfl (hO_iRing k (hO_al ho)) hrg ?_
      refine wp_iload_n dX3_init_28 rfl rfl ?_
      refine wp_new dX3_init_29 (by decide) lX3_9 (mInst 8 (by decide)) (mInit 8 (by decide)) ?_
      refine wp_dup dX3_init_32 rfl ?_
      refine wp_cIN0 1 20 [some _] dX3_init_33 tX8_init rfl rfl nX8_init lX3_17 ⟨by decide, by decide⟩ (Nat.le_of_ble_eq_true rfl) (Nat.le_of_ble_eq_true rfl) rfl ?_
      refine pX8_init (hO_new _ _ _) ?_
      intro _ _
      refine wp_aastJ dX3_init_36 (hA_iX8 (hA_nw (hA_iRing k (hA_al_new h a 0 17 17)))) (by decide) (by decide) rfl ⟨by omega, by decide⟩ (hO_iX8 (hO_new _ _ _)) ?_
      refine wp_iinc1 (ls1 := [_, some _]) dX3_init_37 rfl (by decide) rfl ?_
      refine wp_goto dX3_init_40 ?_
      exact ih (k + 1) (by omega) (by omega)
  refine wp_aload_n dX3_init_0 rfl rfl ?_
  refine wp_objInit dX3_init_1 lX3_3 wOi wOc (Nat.le_of_ble_eq_true rfl) (by decide) ?_
  refine wp_aload_n dX3_init_4 rfl rfl ?_
  refine wp_bipush (v := (nI 17)) dX3_init_5 (by decide) ?_
  refine wp_newR (kd := 17) (N := 17) dX3_init_7 (by decide) (by decide) lX3_9 (by decide) (by decide) (by decide) ?_
  refine wp_putR (v := some _) dX3_init_10 lX3_11 rfl (Or.inr ⟨rfl, rfl, rfl⟩) (hO_nw ho) ?_
  refine wp_iconst (v := (nI 0)) dX3_init_13 (by decide) ?_
  refine wp_istore_n (ls1 := [_, some _]) dX3_init_14 rfl (by decide) rfl ?_
  exact hloop 18 0 (by omega) (by omega)
/-- k tables more, in a row g -/
def iTabs (g : Nat) : Nat → mH → mH
  | 0, h => h
  | k + 1, h => sR (iX9 (nw (iTabs g k h) 9 9) (hN (iTabs g k h))) g k (some (hN (iTabs g k h)))
theorem hN_iTabs (g : Nat) : ∀ (k : Nat) (h : mH), hN (iTabs g k h) = hN h + 7 * k
  | 0, h => rfl
  | k + 1, h => by
    show hN (iTabs g k h) + 1 + 6 = _
    rw [hN_iTabs g k h]
    omega
theorem hU_iTabs (g : Nat) : ∀ (k : Nat) (h : mH), hU (iTabs g k h) = hU h + 393 * k
  | 0, h => rfl
  | k + 1, h => by
    show hU (iX9 (nw (iTabs g k h) 9 9) (hN (iTabs g k h))) = _
    rw [hU_iX9, hU_nw, hU_iTabs g k h]
    omega
theorem hO_iTabs {g b c : Nat} : ∀ (k : Nat) {h : mH}, hO h b c → hO (iTabs g k h) b c
  | 0, _, ho => ho
  | k + 1, _, ho => hO_iX9 (hO_nw (hO_iTabs k ho))
theorem hA_iTabs {g b c m : Nat} : ∀ (k : Nat) {h : mH}, hA h b c m → hA (iTabs g k h) b c m
  | 0, _, ho => ho
  | k + 1, _, ho => hA_iX9 (hA_nw (hA_iTabs k ho))
theorem hR_iTabs_ne {g x y : Nat} (hx : x ≠ g) : ∀ (k : Nat) {h : mH}, x < hN h → hR (iTabs g k h) x y = hR h x y
  | 0, _, _ => rfl
  | k + 1, h, hl => by
    have ih := hR_iTabs_ne (y := y) hx k hl
    have hn := hN_iTabs g k h
    show hR (sR (iX9 (nw (iTabs g k h) 9 9) (hN (iTabs g k h))) g k (some (hN (iTabs g k h)))) x y = _
    rw [hR_sR, if_neg (fun q => hx q.1)]
    unfold iX9
    simp only [hR_al, hR_nw, hN_al, hN_nw]
    rw [if_neg (fun q => by omega), if_neg (by omega), if_neg (fun q => by omega), if_neg (by omega), if_neg (fun q => by omega), if_neg (by omega), if_neg (fun q => by omega), if_neg (by omega), if_neg (fun q => by omega), if_neg (by omega), if_neg (fun q => by omega), if_neg (by omega), if_neg (by omega)]
    exact ih
/-- an object of a class with its constructor's heap, put into a field -/
def ob (ci n : Nat) (i : mH → Nat → mH) (h : mH) (a f : Nat) : mH := sR (i (nw h ci n) (hN h)) a f (some (hN h))
def iX11a (h : mH) (a : Nat) : mH := ob 1 4 iX1 (sI (al h a 0 13 900) a 3 (-1)) a 4
def iX11b (h : mH) (a : Nat) : mH := ob 7 12 iX7 (iX11a h a) a 5
def iX11c (h : mH) (a : Nat) : mH := ob 3 4 iX3 (iX11b h a) a 6
def iX11d (h : mH) (a : Nat) : mH := al (al (iX11c h a) a 7 17 2) a 8 18 4
def iX11e (h : mH) (a : Nat) : mH := ob 0 8 iX0 (iX11d h a) a 9
def iX11f (h : mH) (a : Nat) : mH := ob 2 7 iX2 (iX11e h a) a 10
def iX11g (h : mH) (a : Nat) : mH := ob 10 6 iX10 (iX11f h a) a 11
def iX11h (h : mH) (a : Nat) : mH := ob 5 2 iX5 (ob 5 2 iX5 (iX11g h a) a 12) a 13
theorem hO_ob {ci n : Nat} {i : mH → Nat → mH} (hi : ∀ {h : mH} {a b c : Nat}, hO h b c → hO (i h a) b c) {h : mH} {a f b c : Nat} (ho : hO h b c) : hO (ob ci n i h a f) b c := hi (hO_nw ho)
theorem hA_ob {ci n : Nat} {i : mH → Nat → mH} (hi : ∀ {h : mH} {a b c m : Nat}, hA h b c m → hA (i h a) b c m) {h : mH} {a f b c m : Nat} (ho : hA h b c m) : hA (ob ci n i h a f) b c m := hi (hA_nw ho)
theorem hN_iX11h (h : mH) (a : Nat) : hN (iX11h h a) = hN h + 124 := by
  unfold iX11h iX11g iX11f iX11e iX11d iX11c iX11b iX11a ob
  simp only [hN_sR, hN_iX5, hN_iX10, hN_iX2, hN_iX0, hN_iX3, hN_iX7, hN_iX1, hN_nw, hN_al, hN_sI]
theorem hU_iX11h (h : mH) (a : Nat) : hU (iX11h h a) = hU h + 3802 := by
  unfold iX11h iX11g iX11f iX11e iX11d iX11c iX11b iX11a ob
  simp only [hU_sR, hU_iX5, hU_iX10, hU_iX2, hU_iX0, hU_iX3, hU_iX7, hU_iX1, hU_nw, hU_al, hU_sI]
def iX11 (h : mH) (a : Nat) : mH := iTabs (hN (iX11c h a) + 1) 4 (iX11h h a)
theorem hN_iX11 (h : mH) (a : Nat) : hN (iX11 h a) = hN h + 152 := by show hN (iTabs _ _ _) = _; rw [hN_iTabs, hN_iX11h]
theorem hU_iX11 (h : mH) (a : Nat) : hU (iX11 h a) = hU h + 5374 := by show hU (iTabs _ _ _) = _; rw [hU_iTabs, hU_iX11h]
theorem hN_iX11c (h : mH) (a : Nat) : hN (iX11c h a) = hN h + 106 := by
  unfold iX11c iX11b iX11a ob
  simp only [hN_sR, hN_iX3, hN_iX7, hN_iX1, hN_nw, hN_al, hN_sI]
set_option maxRecDepth 20000 in
theorem pX11_init {h : mH} {a : Nat} {Q : Option Value → mH → Prop} (ho : hO h a 11) (hq : Q none (iX11 h a)) : Wp mX11_init 3 61 0 [some (.ref a), none] [] h Q := by
  have hloop : ∀ (n k : Nat), k ≤ 4 → 5 ≤ k + n → Wp mX11_init 3 61 124 [some (.ref a), some (.int (nI k))] [] (iTabs (hN (iX11c h a) + 1) k (iX11h h a)) Q := by
    intro n
    induction n with
    | zero => intro k h1 h2; omega
    | succ n ih =>
      intro k h1 h2
      have hla := ho.1
      have htb : hR (iTabs (hN (iX11c h a) + 1) k (iX11h h a)) a 8 = some (hN (iX11c h a) + 1) := by
        rw [hR_iTabs_ne (by rw [hN_iX11c]; omega) k (by rw [hN_iX11h]; omega)]
        unfold iX11h iX11g iX11f iX11e iX11d ob iX5 iX10 iX2 iX0
        simp only [hR_sR, hR_al, hR_nw, hR_sI, hN_sR, hN_al, hN_nw, hN_sI, hN_iX11c]
        simp
        omega
      refine wp_iload_n dX11_init_124 rfl rfl ?_
      refine wp_iconst (v := (nI 4)) dX11_init_125 (by decide) ?_
      refine wp_icmp_geN dX11_init_126 rfl rfl ⟨by omega, by decide⟩ (fun c1 => ?_) (fun c1 => ?_)
      · have e9 : k = 4 := by omega
        subst e9
        refine wp_vreturn dX11_init_148 rfl ?_
        exact hq
      refine wp_aload_n dX11_init_129 rfl rfl ?_
      refine wp_getR dX11_init_130 lX11_46 rfl (hO_iTabs k (hO_iX5 (hO_nw (hO_iX5 (hO_nw (hO_iX10 (hO_nw (hO_iX2 (hO_nw (hO_iX0 (hO_nw (hO_al (hO_al (hO_iX3 (hO_nw (hO_iX7 (hO_nw (hO_iX1 (hO_nw (hO_al ho)))))))))))))))))))) htb ?_
      refine wp_iload_n dX11_init_133 rfl rfl ?_
      refine wp_new dX11_init_134 (by decide) lX11_44 (mInst 9 (by decide)) (mInit 9 (by decide)) ?_
      refine wp_dup dX11_init_137 rfl ?_
      refine wp_cIN0 1 20 [some _] dX11_init_138 tX9_init rfl rfl nX9_init lX11_81 ⟨by decide, by decide⟩ (Nat.le_of_ble_eq_true rfl) (Nat.le_of_ble_eq_true rfl) rfl ?_
      refine pX9_init (hO_new _ _ _) ?_
      intro _ _
      refine wp_aastJ dX11_init_141 (hA_iX9 (hA_nw (hA_iTabs k (hA_iX5 (hA_nw (hA_iX5 (hA_nw (hA_iX10 (hA_nw (hA_iX2 (hA_nw (hA_iX0 (hA_nw (hA_al_new (al (iX11c h a) a 7 17 2) a 8 18 4)))))))))))))) (by decide) (by decide) rfl ⟨by omega, by decide⟩ (hO_iX9 (hO_new _ _ _)) ?_
      refine wp_iinc1 (ls1 := [_, some _]) dX11_init_142 rfl (by decide) rfl ?_
      refine wp_goto dX11_init_145 ?_
      exact ih (k + 1) (by omega) (by omega)
  refine wp_aload_n dX11_init_0 rfl rfl ?_
  refine wp_objInit dX11_init_1 lX11_3 wOi wOc (Nat.le_of_ble_eq_true rfl) (by decide) ?_
  refine wp_aload_n dX11_init_4 rfl rfl ?_
  refine wp_sipush (v := (nI 900)) dX11_init_5 (by decide) ?_
  refine wp_newB (N := 900) dX11_init_8 wAc13 (by decide) (by decide) (by decide) ?_
  refine wp_putR (v := some _) dX11_init_10 lX11_9 rfl (Or.inr ⟨rfl, rfl, rfl⟩) (hO_nw ho) ?_
  refine wp_aload_n dX11_init_13 rfl rfl ?_
  refine wp_iconst (v := (-1)) dX11_init_14 (by decide) ?_
  refine wp_putI dX11_init_15 lX11_13 rfl (Or.inl rfl) (hO_nw ho) rfl rfl ?_
  refine wp_aload_n dX11_init_18 rfl rfl ?_
  refine wp_new dX11_init_19 (by decide) lX11_17 (mInst 1 (by decide)) (mInit 1 (by decide)) ?_
  refine wp_dup dX11_init_22 rfl ?_
  refine wp_cIN0 1 20 [some _] dX11_init_23 tX1_init rfl rfl nX1_init lX11_19 ⟨by decide, by decide⟩ (Nat.le_of_ble_eq_true rfl) (Nat.le_of_ble_eq_true rfl) rfl ?_
  refine pX1_init (hO_new _ _ _) ?_
  intro _ _
  refine wp_putR (v := some _) dX11_init_26 lX11_20 rfl (Or.inl rfl) (hO_iX1 (hO_nw (hO_nw ho))) ?_
  refine wp_aload_n dX11_init_29 rfl rfl ?_
  refine wp_new dX11_init_30 (by decide) lX11_24 (mInst 7 (by decide)) (mInit 7 (by decide)) ?_
  refine wp_dup dX11_init_33 rfl ?_
  refine wp_cIN0 2 40 [some _] dX11_init_34 tX7_init rfl rfl nX7_init lX11_26 ⟨by decide, by decide⟩ (Nat.le_of_ble_eq_true rfl) (Nat.le_of_ble_eq_true rfl) rfl ?_
  refine pX7_init (hO_new _ _ _) ?_
  intro _ _
  refine wp_putR (v := some _) dX11_init_37 lX11_27 rfl (Or.inr ⟨rfl, rfl, rfl⟩) (hO_iX7 (hO_nw (hO_iX1 (hO_nw (hO_nw ho))))) ?_
  refine wp_aload_n dX11_init_40 rfl rfl ?_
  refine wp_new dX11_init_41 (by decide) lX11_31 (mInst 3 (by decide)) (mInit 3 (by decide)) ?_
  refine wp_dup dX11_init_44 rfl ?_
  refine wp_cI0 2 40 [some _, none] dX11_init_45 tX3_init rfl rfl nX3_init lX11_33 ⟨by decide, by decide⟩ (Nat.le_of_ble_eq_true rfl) (Nat.le_of_ble_eq_true rfl) rfl ?_
  refine pX3_init (hO_new _ _ _) ?_
  intro _ _
  refine wp_putR (v := some _) dX11_init_48 lX11_34 rfl (Or.inr ⟨rfl, rfl, rfl⟩) (hO_iX3 (hO_nw (hO_iX7 (hO_nw (hO_iX1 (hO_nw (hO_nw ho))))))) ?_
  refine wp_aload_n dX11_init_51 rfl rfl ?_
  refine wp_iconst (v := (nI 2)) dX11_init_52 (by decide) ?_
  refine wp_newR (kd := 17) (N := 2) dX11_init_53 (by decide) (by decide) lX11_38 (by decide) (by decide) (by decide) ?_
  refine wp_putR (v := some _) dX11_init_56 lX11_40 rfl (Or.inr ⟨rfl, rfl, rfl⟩) (hO_nw (hO_iX3 (hO_nw (hO_iX7 (hO_nw (hO_iX1 (hO_nw (hO_nw ho)))))))) ?_
  refine wp_aload_n dX11_init_59 rfl rfl ?_
  refine wp_iconst (v := (nI 4)) dX11_init_60 (by decide) ?_
  refine wp_newR (kd := 18) (N := 4) dX11_init_61 (by decide) (by decide) lX11_44 (by decide) (by decide) (by decide) ?_
  refine wp_putR (v := some _) dX11_init_64 lX11_46 rfl (Or.inr ⟨rfl, rfl, rfl⟩) (hO_nw (hO_nw (hO_iX3 (hO_nw (hO_iX7 (hO_nw (hO_iX1 (hO_nw (hO_nw ho))))))))) ?_
  refine wp_aload_n dX11_init_67 rfl rfl ?_
  refine wp_new dX11_init_68 (by decide) lX11_50 (mInst 0 (by decide)) (mInit 0 (by decide)) ?_
  refine wp_dup dX11_init_71 rfl ?_
  refine wp_cIN0 1 20 [some _] dX11_init_72 tX0_init rfl rfl nX0_init lX11_52 ⟨by decide, by decide⟩ (Nat.le_of_ble_eq_true rfl) (Nat.le_of_ble_eq_true rfl) rfl ?_
  refine pX0_init (hO_new _ _ _) ?_
  intro _ _
  refine wp_putR (v := some _) dX11_init_75 lX11_53 rfl (Or.inr ⟨rfl, rfl, rfl⟩) (hO_iX0 (hO_nw (hO_nw (hO_nw (hO_iX3 (hO_nw (hO_iX7 (hO_nw (hO_iX1 (hO_nw (hO_nw ho))))))))))) ?_
  refine wp_aload_n dX11_init_78 rfl rfl ?_
  refine wp_new dX11_init_79 (by decide) lX11_57 (mInst 2 (by decide)) (mInit 2 (by decide)) ?_
  refine wp_dup dX11_init_82 rfl ?_
  refine wp_cIN0 1 20 [some _] dX11_init_83 tX2_init rfl rfl nX2_init lX11_59 ⟨by decide, by decide⟩ (Nat.le_of_ble_eq_true rfl) (Nat.le_of_ble_eq_true rfl) rfl ?_
  refine pX2_init (hO_new _ _ _) ?_
  intro _ _
  refine wp_putR (v := some _) dX11_init_86 lX11_60 rfl (Or.inr ⟨rfl, rfl, rfl⟩) (hO_iX2 (hO_nw (hO_iX0 (hO_nw (hO_nw (hO_nw (hO_iX3 (hO_nw (hO_iX7 (hO_nw (hO_iX1 (hO_nw (hO_nw ho))))))))))))) ?_
  refine wp_aload_n dX11_init_89 rfl rfl ?_
  refine wp_new dX11_init_90 (by decide) lX11_64 (mInst 10 (by decide)) (mInit 10 (by decide)) ?_
  refine wp_dup dX11_init_93 rfl ?_
  refine wp_cIN0 1 20 [some _] dX11_init_94 tX10_init rfl rfl nX10_init lX11_66 ⟨by decide, by decide⟩ (Nat.le_of_ble_eq_true rfl) (Nat.le_of_ble_eq_true rfl) rfl ?_
  refine pX10_init (hO_new _ _ _) ?_
  intro _ _
  refine wp_putR (v := some _) dX11_init_97 lX11_67 rfl (Or.inr ⟨rfl, rfl, rfl⟩) (hO_iX10 (hO_nw (hO_iX2 (hO_nw (hO_iX0 (hO_nw (hO_nw (hO_nw (hO_iX3 (hO_nw (hO_iX7 (hO_nw (hO_iX1 (hO_nw (hO_nw ho))))))))))))))) ?_
  refine wp_aload_n dX11_init_100 rfl rfl ?_
  refine wp_new dX11_init_101 (by decide) lX11_71 (mInst 5 (by decide)) (mInit 5 (by decide)) ?_
  refine wp_dup dX11_init_104 rfl ?_
  refine wp_cIN0 1 20 [some _] dX11_init_105 tX5_init rfl rfl nX5_init lX11_73 ⟨by decide, by decide⟩ (Nat.le_of_ble_eq_true rfl) (Nat.le_of_ble_eq_true rfl) rfl ?_
  refine pX5_init (hO_new _ _ _) ?_
  intro _ _
  refine wp_putR (v := some _) dX11_init_108 lX11_74 rfl (Or.inr ⟨rfl, rfl, rfl⟩) (hO_iX5 (hO_nw (hO_iX10 (hO_nw (hO_iX2 (hO_nw (hO_iX0 (hO_nw (hO_nw (hO_nw (hO_iX3 (hO_nw (hO_iX7 (hO_nw (hO_iX1 (hO_nw (hO_nw ho))))))))))))))))) ?_
  refine wp_aload_n dX11_init_111 rfl rfl ?_
  refine wp_new dX11_init_112 (by decide) lX11_71 (mInst 5 (by decide)) (mInit 5 (by decide)) ?_
  refine wp_dup dX11_init_115 rfl ?_
  refine wp_cIN0 1 20 [some _] dX11_init_116 tX5_init rfl rfl nX5_init lX11_73 ⟨by decide, by decide⟩ (Nat.le_of_ble_eq_true rfl) (Nat.le_of_ble_eq_true rfl) rfl ?_
  refine pX5_init (hO_new _ _ _) ?_
  intro _ _
  refine wp_putR (v := some _) dX11_init_119 lX11_78 rfl (Or.inr ⟨rfl, rfl, rfl⟩) (hO_iX5 (hO_nw (hO_iX5 (hO_nw (hO_iX10 (hO_nw (hO_iX2 (hO_nw (hO_iX0 (hO_nw (hO_nw (hO_nw (hO_iX3 (hO_nw (hO_iX7 (hO_nw (hO_iX1 (hO_nw (hO_nw ho))))))))))))))))))) ?_
  refine wp_iconst (v := (nI 0)) dX11_init_122 (by decide) ?_
  refine wp_istore_n (ls1 := [_, some _]) dX11_init_123 rfl (by decide) rfl ?_
  exact hloop 5 0 (by omega) (by omega)
def iX12_1 (h : mH) (a : Nat) : mH := al (al (al (al (al (al (al (sI (sI (al (h) a 0 14 900) a 8 (-1)) a 10 (-1)) a 12 15 4) a 13 15 240) a 14 14 4) a 15 14 6) a 16 14 4) a 17 16 4) a 18 16 4
def iX12_2 (h : mH) (a : Nat) : mH := al (al (al (al (al (al (al (al (al (al (iX12_1 h a) a 22 15 935) a 23 15 240) a 25 14 240) a 26 14 240) a 27 15 14960) a 30 14 40) a 31 14 40) a 33 14 8) a 34 14 8) a 36 15 12000
def iX12_3 (h : mH) (a : Nat) : mH := al (al (al (al (al (al (al (al (al (al (iX12_2 h a) a 37 14 12000) a 38 14 12000) a 39 14 12000) a 40 14 32768) a 42 14 64) a 43 14 64) a 44 14 64) a 45 14 64) a 46 14 6) a 49 15 44
def iX12_4 (h : mH) (a : Nat) : mH := al (al (al (al (al (al (al (al (al (al (iX12_3 h a) a 51 14 4) a 52 14 400) a 53 14 400) a 55 15 12000) a 56 15 12000) a 57 15 12000) a 58 14 12000) a 59 14 32768) a 63 15 1870) a 64 16 2
def iX12 (h : mH) (a : Nat) : mH := sI (sI (sI (iX12_4 h a) a 19 (0)) a 20 (0)) a 21 (0)
theorem hN_iX12 (h : mH) (a : Nat) : hN (iX12 h a) = hN h + 38 := by
  unfold iX12 iX12_4 iX12_3 iX12_2 iX12_1
  simp only [hN_al, hN_sI]
theorem hU_iX12 (h : mH) (a : Nat) : hU (iX12 h a) = hU h + 182395 := by
  unfold iX12 iX12_4 iX12_3 iX12_2 iX12_1
  simp only [hU_al, hU_sI]
set_option maxRecDepth 40000 in
theorem pX12_init {h : mH} {a : Nat} {Q : Option Value → mH → Prop} (ho : hO h a 12) (hq : Q none (iX12 h a)) : Wp mX12_init 1 20 0 [some (.ref a)] [] h Q := by
  refine wp_aload_n dX12_init_0 rfl rfl ?_
  refine wp_objInit dX12_init_1 lX12_1 wOi wOc (Nat.le_of_ble_eq_true rfl) (by decide) ?_
  refine wp_aload_n dX12_init_4 rfl rfl ?_
  refine wp_sipush (v := (nI 900)) dX12_init_5 (by decide) ?_
  refine wp_newI (N := 900) dX12_init_8 wAc14 (by decide) (by decide) (by decide) ?_
  refine wp_putR (v := some _) dX12_init_10 lX12_7 rfl (Or.inr ⟨rfl, rfl, rfl⟩) (hO_nw ho) ?_
  refine wp_aload_n dX12_init_13 rfl rfl ?_
  refine wp_iconst (v := (-1)) dX12_init_14 (by decide) ?_
  refine wp_putI dX12_init_15 lX12_13 rfl (Or.inl rfl) (hO_nw ho) rfl rfl ?_
  refine wp_aload_n dX12_init_18 rfl rfl ?_
  refine wp_iconst (v := (-1)) dX12_init_19 (by decide) ?_
  refine wp_putI dX12_init_20 lX12_17 rfl (Or.inl rfl) (hO_nw ho) rfl rfl ?_
  refine wp_aload_n dX12_init_23 rfl rfl ?_
  refine wp_iconst (v := (nI 4)) dX12_init_24 (by decide) ?_
  refine wp_newL (N := 4) dX12_init_25 wAc15 (by decide) (by decide) (by decide) ?_
  refine wp_putR (v := some _) dX12_init_27 lX12_20 rfl (Or.inr ⟨rfl, rfl, rfl⟩) (hO_nw (hO_nw ho)) ?_
  refine wp_aload_n dX12_init_30 rfl rfl ?_
  refine wp_sipush (v := (nI 240)) dX12_init_31 (by decide) ?_
  refine wp_newL (N := 240) dX12_init_34 wAc15 (by decide) (by decide) (by decide) ?_
  refine wp_putR (v := some _) dX12_init_36 lX12_24 rfl (Or.inr ⟨rfl, rfl, rfl⟩) (hO_nw (hO_nw (hO_nw ho))) ?_
  refine wp_aload_n dX12_init_39 rfl rfl ?_
  refine wp_iconst (v := (nI 4)) dX12_init_40 (by decide) ?_
  refine wp_newI (N := 4) dX12_init_41 wAc14 (by decide) (by decide) (by decide) ?_
  refine wp_putR (v := some _) dX12_init_43 lX12_27 rfl (Or.inr ⟨rfl, rfl, rfl⟩) (hO_nw (hO_nw (hO_nw (hO_nw ho)))) ?_
  refine wp_aload_n dX12_init_46 rfl rfl ?_
  refine wp_bipush (v := (nI 6)) dX12_init_47 (by decide) ?_
  refine wp_newI (N := 6) dX12_init_49 wAc14 (by decide) (by decide) (by decide) ?_
  refine wp_putR (v := some _) dX12_init_51 lX12_30 rfl (Or.inr ⟨rfl, rfl, rfl⟩) (hO_nw (hO_nw (hO_nw (hO_nw (hO_nw ho))))) ?_
  refine wp_aload_n dX12_init_54 rfl rfl ?_
  refine wp_iconst (v := (nI 4)) dX12_init_55 (by decide) ?_
  refine wp_newI (N := 4) dX12_init_56 wAc14 (by decide) (by decide) (by decide) ?_
  refine wp_putR (v := some _) dX12_init_58 lX12_33 rfl (Or.inr ⟨rfl, rfl, rfl⟩) (hO_nw (hO_nw (hO_nw (hO_nw (hO_nw (hO_nw ho)))))) ?_
  refine wp_aload_n dX12_init_61 rfl rfl ?_
  refine wp_iconst (v := (nI 4)) dX12_init_62 (by decide) ?_
  refine wp_newZ (N := 4) dX12_init_63 wAc16 (by decide) (by decide) (by decide) ?_
  refine wp_putR (v := some _) dX12_init_65 lX12_36 rfl (Or.inr ⟨rfl, rfl, rfl⟩) (hO_nw (hO_nw (hO_nw (hO_nw (hO_nw (hO_nw (hO_nw ho))))))) ?_
  refine wp_aload_n dX12_init_68 rfl rfl ?_
  refine wp_iconst (v := (nI 4)) dX12_init_69 (by decide) ?_
  refine wp_newZ (N := 4) dX12_init_70 wAc16 (by decide) (by decide) (by decide) ?_
  refine wp_putR (v := some _) dX12_init_72 lX12_40 rfl (Or.inr ⟨rfl, rfl, rfl⟩) (hO_nw (hO_nw (hO_nw (hO_nw (hO_nw (hO_nw (hO_nw (hO_nw ho)))))))) ?_
  refine wp_aload_n dX12_init_75 rfl rfl ?_
  refine wp_sipush (v := (nI 935)) dX12_init_76 (by decide) ?_
  refine wp_newL (N := 935) dX12_init_79 wAc15 (by decide) (by decide) (by decide) ?_
  refine wp_putR (v := some _) dX12_init_81 lX12_43 rfl (Or.inr ⟨rfl, rfl, rfl⟩) (hO_nw (hO_nw (hO_nw (hO_nw (hO_nw (hO_nw (hO_nw (hO_nw (hO_nw ho))))))))) ?_
  refine wp_aload_n dX12_init_84 rfl rfl ?_
  refine wp_sipush (v := (nI 240)) dX12_init_85 (by decide) ?_
  refine wp_newL (N := 240) dX12_init_88 wAc15 (by decide) (by decide) (by decide) ?_
  refine wp_putR (v := some _) dX12_init_90 lX12_46 rfl (Or.inr ⟨rfl, rfl, rfl⟩) (hO_nw (hO_nw (hO_nw (hO_nw (hO_nw (hO_nw (hO_nw (hO_nw (hO_nw (hO_nw ho)))))))))) ?_
  refine wp_aload_n dX12_init_93 rfl rfl ?_
  refine wp_sipush (v := (nI 240)) dX12_init_94 (by decide) ?_
  refine wp_newI (N := 240) dX12_init_97 wAc14 (by decide) (by decide) (by decide) ?_
  refine wp_putR (v := some _) dX12_init_99 lX12_49 rfl (Or.inr ⟨rfl, rfl, rfl⟩) (hO_nw (hO_nw (hO_nw (hO_nw (hO_nw (hO_nw (hO_nw (hO_nw (hO_nw (hO_nw (hO_nw ho))))))))))) ?_
  refine wp_aload_n dX12_init_102 rfl rfl ?_
  refine wp_sipush (v := (nI 240)) dX12_init_103 (by decide) ?_
  refine wp_newI (N := 240) dX12_init_106 wAc14 (by decide) (by decide) (by decide) ?_
  refine wp_putR (v := some _) dX12_init_108 lX12_52 rfl (Or.inr ⟨rfl, rfl, rfl⟩) (hO_nw (hO_nw (hO_nw (hO_nw (hO_nw (hO_nw (hO_nw (hO_nw (hO_nw (hO_nw (hO_nw (hO_nw ho)))))))))))) ?_
  refine wp_aload_n dX12_init_111 rfl rfl ?_
  refine wp_sipush (v := (nI 14960)) dX12_init_112 (by decide) ?_
  refine wp_newL (N := 14960) dX12_init_115 wAc15 (by decide) (by decide) (by decide) ?_
  refine wp_putR (v := some _) dX12_init_117 lX12_55 rfl (Or.inr ⟨rfl, rfl, rfl⟩) (hO_nw (hO_nw (hO_nw (hO_nw (hO_nw (hO_nw (hO_nw (hO_nw (hO_nw (hO_nw (hO_nw (hO_nw (hO_nw ho))))))))))))) ?_
  refine wp_aload_n dX12_init_120 rfl rfl ?_
  refine wp_bipush (v := (nI 40)) dX12_init_121 (by decide) ?_
  refine wp_newI (N := 40) dX12_init_123 wAc14 (by decide) (by decide) (by decide) ?_
  refine wp_putR (v := some _) dX12_init_125 lX12_58 rfl (Or.inr ⟨rfl, rfl, rfl⟩) (hO_nw (hO_nw (hO_nw (hO_nw (hO_nw (hO_nw (hO_nw (hO_nw (hO_nw (hO_nw (hO_nw (hO_nw (hO_nw (hO_nw ho)))))))))))))) ?_
  refine wp_aload_n dX12_init_128 rfl rfl ?_
  refine wp_bipush (v := (nI 40)) dX12_init_129 (by decide) ?_
  refine wp_newI (N := 40) dX12_init_131 wAc14 (by decide) (by decide) (by decide) ?_
  refine wp_putR (v := some _) dX12_init_133 lX12_61 rfl (Or.inr ⟨rfl, rfl, rfl⟩) (hO_nw (hO_nw (hO_nw (hO_nw (hO_nw (hO_nw (hO_nw (hO_nw (hO_nw (hO_nw (hO_nw (hO_nw (hO_nw (hO_nw (hO_nw ho))))))))))))))) ?_
  refine wp_aload_n dX12_init_136 rfl rfl ?_
  refine wp_bipush (v := (nI 8)) dX12_init_137 (by decide) ?_
  refine wp_newI (N := 8) dX12_init_139 wAc14 (by decide) (by decide) (by decide) ?_
  refine wp_putR (v := some _) dX12_init_141 lX12_64 rfl (Or.inr ⟨rfl, rfl, rfl⟩) (hO_nw (hO_nw (hO_nw (hO_nw (hO_nw (hO_nw (hO_nw (hO_nw (hO_nw (hO_nw (hO_nw (hO_nw (hO_nw (hO_nw (hO_nw (hO_nw ho)))))))))))))))) ?_
  refine wp_aload_n dX12_init_144 rfl rfl ?_
  refine wp_bipush (v := (nI 8)) dX12_init_145 (by decide) ?_
  refine wp_newI (N := 8) dX12_init_147 wAc14 (by decide) (by decide) (by decide) ?_
  refine wp_putR (v := some _) dX12_init_149 lX12_67 rfl (Or.inr ⟨rfl, rfl, rfl⟩) (hO_nw (hO_nw (hO_nw (hO_nw (hO_nw (hO_nw (hO_nw (hO_nw (hO_nw (hO_nw (hO_nw (hO_nw (hO_nw (hO_nw (hO_nw (hO_nw (hO_nw ho))))))))))))))))) ?_
  refine wp_aload_n dX12_init_152 rfl rfl ?_
  refine wp_sipush (v := (nI 12000)) dX12_init_153 (by decide) ?_
  refine wp_newL (N := 12000) dX12_init_156 wAc15 (by decide) (by decide) (by decide) ?_
  refine wp_putR (v := some _) dX12_init_158 lX12_70 rfl (Or.inr ⟨rfl, rfl, rfl⟩) (hO_nw (hO_nw (hO_nw (hO_nw (hO_nw (hO_nw (hO_nw (hO_nw (hO_nw (hO_nw (hO_nw (hO_nw (hO_nw (hO_nw (hO_nw (hO_nw (hO_nw (hO_nw ho)))))))))))))))))) ?_
  refine wp_aload_n dX12_init_161 rfl rfl ?_
  refine wp_sipush (v := (nI 12000)) dX12_init_162 (by decide) ?_
  refine wp_newI (N := 12000) dX12_init_165 wAc14 (by decide) (by decide) (by decide) ?_
  refine wp_putR (v := some _) dX12_init_167 lX12_73 rfl (Or.inr ⟨rfl, rfl, rfl⟩) (hO_nw (hO_nw (hO_nw (hO_nw (hO_nw (hO_nw (hO_nw (hO_nw (hO_nw (hO_nw (hO_nw (hO_nw (hO_nw (hO_nw (hO_nw (hO_nw (hO_nw (hO_nw (hO_nw ho))))))))))))))))))) ?_
  refine wp_aload_n dX12_init_170 rfl rfl ?_
  refine wp_sipush (v := (nI 12000)) dX12_init_171 (by decide) ?_
  refine wp_newI (N := 12000) dX12_init_174 wAc14 (by decide) (by decide) (by decide) ?_
  refine wp_putR (v := some _) dX12_init_176 lX12_76 rfl (Or.inr ⟨rfl, rfl, rfl⟩) (hO_nw (hO_nw (hO_nw (hO_nw (hO_nw (hO_nw (hO_nw (hO_nw (hO_nw (hO_nw (hO_nw (hO_nw (hO_nw (hO_nw (hO_nw (hO_nw (hO_nw (hO_nw (hO_nw (hO_nw ho)))))))))))))))))))) ?_
  refine wp_aload_n dX12_init_179 rfl rfl ?_
  refine wp_sipush (v := (nI 12000)) dX12_init_180 (by decide) ?_
  refine wp_newI (N := 12000) dX12_init_183 wAc14 (by decide) (by decide) (by decide) ?_
  refine wp_putR (v := some _) dX12_init_185 lX12_79 rfl (Or.inr ⟨rfl, rfl, rfl⟩) (hO_nw (hO_nw (hO_nw (hO_nw (hO_nw (hO_nw (hO_nw (hO_nw (hO_nw (hO_nw (hO_nw (hO_nw (hO_nw (hO_nw (hO_nw (hO_nw (hO_nw (hO_nw (hO_nw (hO_nw (hO_nw ho))))))))))))))))))))) ?_
  refine wp_aload_n dX12_init_188 rfl rfl ?_
  refine wp_ldc dX12_init_189 lX12_82 ?_
  refine wp_newI (N := 32768) dX12_init_191 wAc14 (by decide) (by decide) (by decide) ?_
  refine wp_putR (v := some _) dX12_init_193 lX12_83 rfl (Or.inr ⟨rfl, rfl, rfl⟩) (hO_nw (hO_nw (hO_nw (hO_nw (hO_nw (hO_nw (hO_nw (hO_nw (hO_nw (hO_nw (hO_nw (hO_nw (hO_nw (hO_nw (hO_nw (hO_nw (hO_nw (hO_nw (hO_nw (hO_nw (hO_nw (hO_nw ho)))))))))))))))))))))) ?_
  refine wp_aload_n dX12_init_196 rfl rfl ?_
  refine wp_bipush (v := (nI 64)) dX12_init_197 (by decide) ?_
  refine wp_newI (N := 64) dX12_init_199 wAc14 (by decide) (by decide) (by decide) ?_
  refine wp_putR (v := some _) dX12_init_201 lX12_86 rfl (Or.inr ⟨rfl, rfl, rfl⟩) (hO_nw (hO_nw (hO_nw (hO_nw (hO_nw (hO_nw (hO_nw (hO_nw (hO_nw (hO_nw (hO_nw (hO_nw (hO_nw (hO_nw (hO_nw (hO_nw (hO_nw (hO_nw (hO_nw (hO_nw (hO_nw (hO_nw (hO_nw ho))))))))))))))))))))))) ?_
  refine wp_aload_n dX12_init_204 rfl rfl ?_
  refine wp_bipush (v := (nI 64)) dX12_init_205 (by decide) ?_
  refine wp_newI (N := 64) dX12_init_207 wAc14 (by decide) (by decide) (by decide) ?_
  refine wp_putR (v := some _) dX12_init_209 lX12_89 rfl (Or.inr ⟨rfl, rfl, rfl⟩) (hO_nw (hO_nw (hO_nw (hO_nw (hO_nw (hO_nw (hO_nw (hO_nw (hO_nw (hO_nw (hO_nw (hO_nw (hO_nw (hO_nw (hO_nw (hO_nw (hO_nw (hO_nw (hO_nw (hO_nw (hO_nw (hO_nw (hO_nw (hO_nw ho)))))))))))))))))))))))) ?_
  refine wp_aload_n dX12_init_212 rfl rfl ?_
  refine wp_bipush (v := (nI 64)) dX12_init_213 (by decide) ?_
  refine wp_newI (N := 64) dX12_init_215 wAc14 (by decide) (by decide) (by decide) ?_
  refine wp_putR (v := some _) dX12_init_217 lX12_92 rfl (Or.inr ⟨rfl, rfl, rfl⟩) (hO_nw (hO_nw (hO_nw (hO_nw (hO_nw (hO_nw (hO_nw (hO_nw (hO_nw (hO_nw (hO_nw (hO_nw (hO_nw (hO_nw (hO_nw (hO_nw (hO_nw (hO_nw (hO_nw (hO_nw (hO_nw (hO_nw (hO_nw (hO_nw (hO_nw ho))))))))))))))))))))))))) ?_
  refine wp_aload_n dX12_init_220 rfl rfl ?_
  refine wp_bipush (v := (nI 64)) dX12_init_221 (by decide) ?_
  refine wp_newI (N := 64) dX12_init_223 wAc14 (by decide) (by decide) (by decide) ?_
  refine wp_putR (v := some _) dX12_init_225 lX12_95 rfl (Or.inr ⟨rfl, rfl, rfl⟩) (hO_nw (hO_nw (hO_nw (hO_nw (hO_nw (hO_nw (hO_nw (hO_nw (hO_nw (hO_nw (hO_nw (hO_nw (hO_nw (hO_nw (hO_nw (hO_nw (hO_nw (hO_nw (hO_nw (hO_nw (hO_nw (hO_nw (hO_nw (hO_nw (hO_nw (hO_nw ho)))))))))))))))))))))))))) ?_
  refine wp_aload_n dX12_init_228 rfl rfl ?_
  refine wp_bipush (v := (nI 6)) dX12_init_229 (by decide) ?_
  refine wp_newI (N := 6) dX12_init_231 wAc14 (by decide) (by decide) (by decide) ?_
  refine wp_putR (v := some _) dX12_init_233 lX12_98 rfl (Or.inr ⟨rfl, rfl, rfl⟩) (hO_nw (hO_nw (hO_nw (hO_nw (hO_nw (hO_nw (hO_nw (hO_nw (hO_nw (hO_nw (hO_nw (hO_nw (hO_nw (hO_nw (hO_nw (hO_nw (hO_nw (hO_nw (hO_nw (hO_nw (hO_nw (hO_nw (hO_nw (hO_nw (hO_nw (hO_nw (hO_nw ho))))))))))))))))))))))))))) ?_
  refine wp_aload_n dX12_init_236 rfl rfl ?_
  refine wp_bipush (v := (nI 44)) dX12_init_237 (by decide) ?_
  refine wp_newL (N := 44) dX12_init_239 wAc15 (by decide) (by decide) (by decide) ?_
  refine wp_putR (v := some _) dX12_init_241 lX12_101 rfl (Or.inr ⟨rfl, rfl, rfl⟩) (hO_nw (hO_nw (hO_nw (hO_nw (hO_nw (hO_nw (hO_nw (hO_nw (hO_nw (hO_nw (hO_nw (hO_nw (hO_nw (hO_nw (hO_nw (hO_nw (hO_nw (hO_nw (hO_nw (hO_nw (hO_nw (hO_nw (hO_nw (hO_nw (hO_nw (hO_nw (hO_nw (hO_nw ho)))))))))))))))))))))))))))) ?_
  refine wp_aload_n dX12_init_244 rfl rfl ?_
  refine wp_iconst (v := (nI 4)) dX12_init_245 (by decide) ?_
  refine wp_newI (N := 4) dX12_init_246 wAc14 (by decide) (by decide) (by decide) ?_
  refine wp_putR (v := some _) dX12_init_248 lX12_104 rfl (Or.inr ⟨rfl, rfl, rfl⟩) (hO_nw (hO_nw (hO_nw (hO_nw (hO_nw (hO_nw (hO_nw (hO_nw (hO_nw (hO_nw (hO_nw (hO_nw (hO_nw (hO_nw (hO_nw (hO_nw (hO_nw (hO_nw (hO_nw (hO_nw (hO_nw (hO_nw (hO_nw (hO_nw (hO_nw (hO_nw (hO_nw (hO_nw (hO_nw ho))))))))))))))))))))))))))))) ?_
  refine wp_aload_n dX12_init_251 rfl rfl ?_
  refine wp_sipush (v := (nI 400)) dX12_init_252 (by decide) ?_
  refine wp_newI (N := 400) dX12_init_255 wAc14 (by decide) (by decide) (by decide) ?_
  refine wp_putR (v := some _) dX12_init_257 lX12_107 rfl (Or.inr ⟨rfl, rfl, rfl⟩) (hO_nw (hO_nw (hO_nw (hO_nw (hO_nw (hO_nw (hO_nw (hO_nw (hO_nw (hO_nw (hO_nw (hO_nw (hO_nw (hO_nw (hO_nw (hO_nw (hO_nw (hO_nw (hO_nw (hO_nw (hO_nw (hO_nw (hO_nw (hO_nw (hO_nw (hO_nw (hO_nw (hO_nw (hO_nw (hO_nw ho)))))))))))))))))))))))))))))) ?_
  refine wp_aload_n dX12_init_260 rfl rfl ?_
  refine wp_sipush (v := (nI 400)) dX12_init_261 (by decide) ?_
  refine wp_newI (N := 400) dX12_init_264 wAc14 (by decide) (by decide) (by decide) ?_
  refine wp_putR (v := some _) dX12_init_266 lX12_110 rfl (Or.inr ⟨rfl, rfl, rfl⟩) (hO_nw (hO_nw (hO_nw (hO_nw (hO_nw (hO_nw (hO_nw (hO_nw (hO_nw (hO_nw (hO_nw (hO_nw (hO_nw (hO_nw (hO_nw (hO_nw (hO_nw (hO_nw (hO_nw (hO_nw (hO_nw (hO_nw (hO_nw (hO_nw (hO_nw (hO_nw (hO_nw (hO_nw (hO_nw (hO_nw (hO_nw ho))))))))))))))))))))))))))))))) ?_
  refine wp_aload_n dX12_init_269 rfl rfl ?_
  refine wp_sipush (v := (nI 12000)) dX12_init_270 (by decide) ?_
  refine wp_newL (N := 12000) dX12_init_273 wAc15 (by decide) (by decide) (by decide) ?_
  refine wp_putR (v := some _) dX12_init_275 lX12_113 rfl (Or.inr ⟨rfl, rfl, rfl⟩) (hO_nw (hO_nw (hO_nw (hO_nw (hO_nw (hO_nw (hO_nw (hO_nw (hO_nw (hO_nw (hO_nw (hO_nw (hO_nw (hO_nw (hO_nw (hO_nw (hO_nw (hO_nw (hO_nw (hO_nw (hO_nw (hO_nw (hO_nw (hO_nw (hO_nw (hO_nw (hO_nw (hO_nw (hO_nw (hO_nw (hO_nw (hO_nw ho)))))))))))))))))))))))))))))))) ?_
  refine wp_aload_n dX12_init_278 rfl rfl ?_
  refine wp_sipush (v := (nI 12000)) dX12_init_279 (by decide) ?_
  refine wp_newL (N := 12000) dX12_init_282 wAc15 (by decide) (by decide) (by decide) ?_
  refine wp_putR (v := some _) dX12_init_284 lX12_116 rfl (Or.inr ⟨rfl, rfl, rfl⟩) (hO_nw (hO_nw (hO_nw (hO_nw (hO_nw (hO_nw (hO_nw (hO_nw (hO_nw (hO_nw (hO_nw (hO_nw (hO_nw (hO_nw (hO_nw (hO_nw (hO_nw (hO_nw (hO_nw (hO_nw (hO_nw (hO_nw (hO_nw (hO_nw (hO_nw (hO_nw (hO_nw (hO_nw (hO_nw (hO_nw (hO_nw (hO_nw (hO_nw ho))))))))))))))))))))))))))))))))) ?_
  refine wp_aload_n dX12_init_287 rfl rfl ?_
  refine wp_sipush (v := (nI 12000)) dX12_init_288 (by decide) ?_
  refine wp_newL (N := 12000) dX12_init_291 wAc15 (by decide) (by decide) (by decide) ?_
  refine wp_putR (v := some _) dX12_init_293 lX12_119 rfl (Or.inr ⟨rfl, rfl, rfl⟩) (hO_nw (hO_nw (hO_nw (hO_nw (hO_nw (hO_nw (hO_nw (hO_nw (hO_nw (hO_nw (hO_nw (hO_nw (hO_nw (hO_nw (hO_nw (hO_nw (hO_nw (hO_nw (hO_nw (hO_nw (hO_nw (hO_nw (hO_nw (hO_nw (hO_nw (hO_nw (hO_nw (hO_nw (hO_nw (hO_nw (hO_nw (hO_nw (hO_nw (hO_nw ho)))))))))))))))))))))))))))))))))) ?_
  refine wp_aload_n dX12_init_296 rfl rfl ?_
  refine wp_sipush (v := (nI 12000)) dX12_init_297 (by decide) ?_
  refine wp_newI (N := 12000) dX12_init_300 wAc14 (by decide) (by decide) (by decide) ?_
  refine wp_putR (v := some _) dX12_init_302 lX12_122 rfl (Or.inr ⟨rfl, rfl, rfl⟩) (hO_nw (hO_nw (hO_nw (hO_nw (hO_nw (hO_nw (hO_nw (hO_nw (hO_nw (hO_nw (hO_nw (hO_nw (hO_nw (hO_nw (hO_nw (hO_nw (hO_nw (hO_nw (hO_nw (hO_nw (hO_nw (hO_nw (hO_nw (hO_nw (hO_nw (hO_nw (hO_nw (hO_nw (hO_nw (hO_nw (hO_nw (hO_nw (hO_nw (hO_nw (hO_nw ho))))))))))))))))))))))))))))))))))) ?_
  refine wp_aload_n dX12_init_305 rfl rfl ?_
  refine wp_ldc dX12_init_306 lX12_82 ?_
  refine wp_newI (N := 32768) dX12_init_308 wAc14 (by decide) (by decide) (by decide) ?_
  refine wp_putR (v := some _) dX12_init_310 lX12_125 rfl (Or.inr ⟨rfl, rfl, rfl⟩) (hO_nw (hO_nw (hO_nw (hO_nw (hO_nw (hO_nw (hO_nw (hO_nw (hO_nw (hO_nw (hO_nw (hO_nw (hO_nw (hO_nw (hO_nw (hO_nw (hO_nw (hO_nw (hO_nw (hO_nw (hO_nw (hO_nw (hO_nw (hO_nw (hO_nw (hO_nw (hO_nw (hO_nw (hO_nw (hO_nw (hO_nw (hO_nw (hO_nw (hO_nw (hO_nw (hO_nw ho)))))))))))))))))))))))))))))))))))) ?_
  refine wp_aload_n dX12_init_313 rfl rfl ?_
  refine wp_sipush (v := (nI 1870)) dX12_init_314 (by decide) ?_
  refine wp_newL (N := 1870) dX12_init_317 wAc15 (by decide) (by decide) (by decide) ?_
  refine wp_putR (v := some _) dX12_init_319 lX12_128 rfl (Or.inr ⟨rfl, rfl, rfl⟩) (hO_nw (hO_nw (hO_nw (hO_nw (hO_nw (hO_nw (hO_nw (hO_nw (hO_nw (hO_nw (hO_nw (hO_nw (hO_nw (hO_nw (hO_nw (hO_nw (hO_nw (hO_nw (hO_nw (hO_nw (hO_nw (hO_nw (hO_nw (hO_nw (hO_nw (hO_nw (hO_nw (hO_nw (hO_nw (hO_nw (hO_nw (hO_nw (hO_nw (hO_nw (hO_nw (hO_nw (hO_nw ho))))))))))))))))))))))))))))))))))))) ?_
  refine wp_aload_n dX12_init_322 rfl rfl ?_
  refine wp_iconst (v := (nI 2)) dX12_init_323 (by decide) ?_
  refine wp_newZ (N := 2) dX12_init_324 wAc16 (by decide) (by decide) (by decide) ?_
  refine wp_putR (v := some _) dX12_init_326 lX12_131 rfl (Or.inr ⟨rfl, rfl, rfl⟩) (hO_nw (hO_nw (hO_nw (hO_nw (hO_nw (hO_nw (hO_nw (hO_nw (hO_nw (hO_nw (hO_nw (hO_nw (hO_nw (hO_nw (hO_nw (hO_nw (hO_nw (hO_nw (hO_nw (hO_nw (hO_nw (hO_nw (hO_nw (hO_nw (hO_nw (hO_nw (hO_nw (hO_nw (hO_nw (hO_nw (hO_nw (hO_nw (hO_nw (hO_nw (hO_nw (hO_nw (hO_nw (hO_nw ho)))))))))))))))))))))))))))))))))))))) ?_
  refine wp_aload_n dX12_init_329 rfl rfl ?_
  refine wp_cV0 0 0 [some _] dX12_init_330 tX12_begins rfl (by decide) nX12_begins vX12_begins lX12_134 ⟨by decide, by decide⟩ (Nat.le_of_ble_eq_true rfl) (hO_nw (hO_nw (hO_nw (hO_nw (hO_nw (hO_nw (hO_nw (hO_nw (hO_nw (hO_nw (hO_nw (hO_nw (hO_nw (hO_nw (hO_nw (hO_nw (hO_nw (hO_nw (hO_nw (hO_nw (hO_nw (hO_nw (hO_nw (hO_nw (hO_nw (hO_nw (hO_nw (hO_nw (hO_nw (hO_nw (hO_nw (hO_nw (hO_nw (hO_nw (hO_nw (hO_nw (hO_nw (hO_nw ho)))))))))))))))))))))))))))))))))))))) (Nat.le_of_ble_eq_true rfl) rfl ?_
  refine wp_aload_n dX12_begins_0 rfl rfl ?_
  refine wp_iconst (v := (nI 0)) dX12_begins_1 (by decide) ?_
  refine wp_putI dX12_begins_2 lX12_206 rfl (Or.inl rfl) (hO_nw (hO_nw (hO_nw (hO_nw (hO_nw (hO_nw (hO_nw (hO_nw (hO_nw (hO_nw (hO_nw (hO_nw (hO_nw (hO_nw (hO_nw (hO_nw (hO_nw (hO_nw (hO_nw (hO_nw (hO_nw (hO_nw (hO_nw (hO_nw (hO_nw (hO_nw (hO_nw (hO_nw (hO_nw (hO_nw (hO_nw (hO_nw (hO_nw (hO_nw (hO_nw (hO_nw (hO_nw (hO_nw ho)))))))))))))))))))))))))))))))))))))) rfl rfl ?_
  refine wp_aload_n dX12_begins_5 rfl rfl ?_
  refine wp_iconst (v := (nI 0)) dX12_begins_6 (by decide) ?_
  refine wp_putI dX12_begins_7 lX12_209 rfl (Or.inl rfl) (hO_nw (hO_nw (hO_nw (hO_nw (hO_nw (hO_nw (hO_nw (hO_nw (hO_nw (hO_nw (hO_nw (hO_nw (hO_nw (hO_nw (hO_nw (hO_nw (hO_nw (hO_nw (hO_nw (hO_nw (hO_nw (hO_nw (hO_nw (hO_nw (hO_nw (hO_nw (hO_nw (hO_nw (hO_nw (hO_nw (hO_nw (hO_nw (hO_nw (hO_nw (hO_nw (hO_nw (hO_nw (hO_nw ho)))))))))))))))))))))))))))))))))))))) rfl rfl ?_
  refine wp_vreturn dX12_begins_10 rfl ?_
  intro _ _
  refine wp_aload_n dX12_init_333 rfl rfl ?_
  refine wp_iconst (v := (nI 0)) dX12_init_334 (by decide) ?_
  refine wp_putI dX12_init_335 lX12_137 rfl (Or.inl rfl) (hO_nw (hO_nw (hO_nw (hO_nw (hO_nw (hO_nw (hO_nw (hO_nw (hO_nw (hO_nw (hO_nw (hO_nw (hO_nw (hO_nw (hO_nw (hO_nw (hO_nw (hO_nw (hO_nw (hO_nw (hO_nw (hO_nw (hO_nw (hO_nw (hO_nw (hO_nw (hO_nw (hO_nw (hO_nw (hO_nw (hO_nw (hO_nw (hO_nw (hO_nw (hO_nw (hO_nw (hO_nw (hO_nw ho)))))))))))))))))))))))))))))))))))))) rfl rfl ?_
  refine wp_vreturn dX12_init_338 rfl ?_
  exact hq
