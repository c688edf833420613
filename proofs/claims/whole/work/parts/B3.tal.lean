/-! ===== the tally ===== -/
theorem nwC.o {h g : mH} {kd n b cb : Nat} (w : nwC h g kd n) (hb : hO h b cb) : hO g b cb := ⟨by have := w.1; have := hb.1; omega, by rw [(w.2.2.2 b (Nat.ne_of_lt hb.1)).1]; exact hb.2⟩
set_option maxRecDepth 20000 in
theorem pX10_forget {h : mH} {Q : Option Value → mH → Prop} {ow : Nat → Nat} {n a3 a4 a5 : Nat} {yp yf yc : Int32} {y3 y4 : Nat → Int64} {y5 : Nat → Int32} (zy : zY ow h n a3 a4 a5 yp yf yc y3 y4 y5) (hq : ∀ h', cFr [10] 0 ow h ow h' → zY ow h' n a3 a4 a5 (-1) (-1) yc y3 y4 y5 → Q none h') : Wp mX10_forget 0 0 0 [some (.ref 117)] [] h Q := by
  refine wp_aload_n dX10_forget_0 rfl rfl ?_
  refine wp_iconst (v := (-1)) dX10_forget_1 (by decide +kernel) ?_
  refine wp_putI dX10_forget_2 lX10_9 rfl (Or.inl rfl) zy.o rfl rfl ?_
  refine zy.p0 (fun hh1 f1 zy_1 => ?_)
  refine wp_aload_n dX10_forget_5 rfl rfl ?_
  refine wp_iconst (v := (-1)) dX10_forget_6 (by decide +kernel) ?_
  refine wp_putI dX10_forget_7 lX10_15 rfl (Or.inl rfl) zy_1.o rfl rfl ?_
  refine zy_1.p1 (fun hh2 f2 zy_2 => ?_)
  refine wp_vreturn dX10_forget_10 rfl ?_
  exact hq _ ((f1.up (by decide) (Nat.le_refl _)).tr (f2.up (by decide) (Nat.le_refl _))) zy_2
set_option maxRecDepth 20000 in
theorem pX10_makeRoom {h : mH} {Q : Option Value → mH → Prop} {ow : Nat → Nat} {n a3 a4 a5 : Nat} {yp yf : Int32} {y3 y4 : Nat → Int64} {y5 : Nat → Int32} {N : Nat} (zy : zY ow h n a3 a4 a5 yp yf (nI N) y3 y4 y5) (hn : 64 ≤ n ∧ n ≤ 20480) (hNn : N ≤ n ∧ N < 10240) (hrm : hU h + 8 * hN h + 7 * (20480 - n) ≤ 8000000) (hq : ∀ h' ow' n' b3 b4 b5 z3 z4 z5, cFr [10] (7 * (n' - n)) ow h ow' h' → (n ≤ n' ∧ N < n' ∧ n' ≤ 20480) → zY ow' h' n' b3 b4 b5 yp yf (nI N) z3 z4 z5 → (∀ o, o < N → z3 o = y3 o ∧ z4 o = y4 o ∧ z5 o = y5 o) → Q none h') : Wp mX10_makeRoom 2 48 0 [some (.ref 117)] [] h Q := by
  have hsc : scrA = 1000000000 := rfl
  refine wp_aload_n dX10_makeRoom_0 rfl rfl ?_
  refine wp_getIV dX10_makeRoom_1 lX10_29 rfl zy.o zy.f2 ?_
  refine wp_aload_n dX10_makeRoom_4 rfl rfl ?_
  refine wp_getR dX10_makeRoom_5 lX10_18 rfl zy.o zy.r3 ?_
  refine wp_alen dX10_makeRoom_8 zy.a3 (by decide) (by decide) rfl ?_
  refine wp_icmp_ltN dX10_makeRoom_9 rfl rfl ⟨by omega, by omega⟩ (fun c2 => ?_) (fun c2 => ?_)
  · refine wp_vreturn dX10_makeRoom_63 rfl ?_
    exact hq _ _ _ _ _ _ _ _ _ (cFr.rf.up (fun _ h => h) (by omega)) (by omega) zy (fun o ho => ⟨rfl, rfl, rfl⟩)
  · refine wp_aload_n dX10_makeRoom_12 rfl rfl ?_
    refine wp_aload_n dX10_makeRoom_13 rfl rfl ?_
    refine wp_getR dX10_makeRoom_14 lX10_18 rfl zy.o zy.r3 ?_
    refine wp_iconst (v := (nI 2)) dX10_makeRoom_17 (by decide +kernel) ?_
    refine wp_aload_n dX10_makeRoom_18 rfl rfl ?_
    refine wp_getIV dX10_makeRoom_19 lX10_29 rfl zy.o zy.f2 ?_
    refine wp_imul dX10_makeRoom_22 ?_
    refine wp_cS2 1 26 [some _, some _, none] dX10_makeRoom_23 tJ7_copyOf_c38d5 sJ7_copyOf_c38d5 lX10_62 ⟨by decide, by decide⟩ (Nat.le_of_ble_eq_true rfl) (Nat.le_of_ble_eq_true rfl) rfl ?_
    rw [pk_mul]
    refine pJ7_copyOf_c38d5 zy.a3 (by omega) (by omega) (fun h1 w1 c1x => ?_)
    intro _ _
    refine wp_putR (v := some _) dX10_makeRoom_26 lX10_18 rfl (Or.inl rfl) (w1.o zy.o) ?_
    have r1 := rlc_of (k := 3) zy.o.1 (by omega) w1
    have c1x : ∀ y, y < N → hL (sR h1 117 3 (some (hN h))) (hN h) y = hL h a3 y := fun y hy => c1x y (by omega)
    generalize sR h1 117 3 (some (hN h)) = g1 at *
    refine wp_aload_n dX10_makeRoom_29 rfl rfl ?_
    refine wp_aload_n dX10_makeRoom_30 rfl rfl ?_
    refine wp_getR dX10_makeRoom_31 lX10_22 rfl (r1.o zy.o) ((r1.R (by decide)).trans zy.r4) ?_
    refine wp_iconst (v := (nI 2)) dX10_makeRoom_34 (by decide +kernel) ?_
    refine wp_aload_n dX10_makeRoom_35 rfl rfl ?_
    refine wp_getIV dX10_makeRoom_36 lX10_29 rfl (r1.o zy.o) ((congrFun r1.2.2.2.2.1 2).trans zy.f2) ?_
    refine wp_imul dX10_makeRoom_39 ?_
    refine wp_cS2 1 26 [some _, some _, none] dX10_makeRoom_40 tJ7_copyOf_c38d5 sJ7_copyOf_c38d5 lX10_62 ⟨by decide, by decide⟩ (Nat.le_of_ble_eq_true rfl) (Nat.le_of_ble_eq_true rfl) rfl ?_
    rw [pk_mul]
    refine pJ7_copyOf_c38d5 (r1.a zy.a4) (by omega) (by omega) (fun h2 w2 c2x => ?_)
    intro _ _
    refine wp_putR (v := some _) dX10_makeRoom_43 lX10_22 rfl (Or.inl rfl) (w2.o (r1.o zy.o)) ?_
    have r2 := rlc_of (k := 4) (r1.o zy.o).1 (by have := r1.1; omega) w2
    have c2x : ∀ y, y < N → hL (sR h2 117 4 (some (hN g1))) (hN g1) y = hL g1 a4 y := fun y hy => c2x y (by omega)
    generalize sR h2 117 4 (some (hN g1)) = g2 at *
    refine wp_aload_n dX10_makeRoom_46 rfl rfl ?_
    refine wp_aload_n dX10_makeRoom_47 rfl rfl ?_
    refine wp_getR dX10_makeRoom_48 lX10_25 rfl (r2.o (r1.o zy.o)) ((r2.R (by decide)).trans ((r1.R (by decide)).trans zy.r5)) ?_
    refine wp_iconst (v := (nI 2)) dX10_makeRoom_51 (by decide +kernel) ?_
    refine wp_aload_n dX10_makeRoom_52 rfl rfl ?_
    refine wp_getIV dX10_makeRoom_53 lX10_29 rfl (r2.o (r1.o zy.o)) ((congrFun r2.2.2.2.2.1 2).trans ((congrFun r1.2.2.2.2.1 2).trans zy.f2)) ?_
    refine wp_imul dX10_makeRoom_56 ?_
    refine wp_cS2 1 26 [some _, some _, none] dX10_makeRoom_57 tJ7_copyOf_59c91 sJ7_copyOf_59c91 lX10_68 ⟨by decide, by decide⟩ (Nat.le_of_ble_eq_true rfl) (Nat.le_of_ble_eq_true rfl) rfl ?_
    rw [pk_mul]
    refine pJ7_copyOf_59c91 (r2.a (r1.a zy.a5)) (by omega) (by omega) (fun h3 w3 c3x => ?_)
    intro _ _
    refine wp_putR (v := some _) dX10_makeRoom_60 lX10_25 rfl (Or.inl rfl) (w3.o (r2.o (r1.o zy.o))) ?_
    have r3 := rlc_of (k := 5) (r2.o (r1.o zy.o)).1 (by have := r1.1; have := r2.1; omega) w3
    have c3x : ∀ y, y < N → hI (sR h3 117 5 (some (hN g2))) (hN g2) y = hI g2 a5 y := fun y hy => c3x y (by omega)
    generalize sR h3 117 5 (some (hN g2)) = g3 at *
    refine wp_vreturn dX10_makeRoom_63 rfl ?_
    have ne9 := zy.ne
    have b3 := zy.a3.1
    have b4 := zy.a4.1
    have b5 := zy.a5.1
    have b0 := zy.o.1
    have k1 := r1.1
    have k2 := r2.1
    have k3 := r3.1
    obtain ⟨f9, zy9⟩ := zy.gr (by omega) r1 r2 r3
    refine hq _ _ _ _ _ _ _ _ _ (f9.up (fun _ h => h) (by omega)) (by omega) zy9 (fun o ho => ⟨?_, ?_, ?_⟩)
    · rw [r3.L (by omega) (by omega), r2.L (by omega) (by omega), c1x o ho, zy.c3]
    · rw [r3.L (by omega) (by omega), show hN h + 1 = hN g1 by omega, c2x o ho, r1.L (by omega) (by omega), zy.c4]
    · rw [show hN h + 2 = hN g2 by omega, c3x o ho, r2.I (by omega) (by omega), r1.I (by omega) (by omega), zy.c5]
