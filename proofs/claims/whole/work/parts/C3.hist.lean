/-! ===== steps of the history ===== -/
set_option maxRecDepth 20000 in
theorem pX3_stepBack {h : mH} {Q : Option Value → mH → Prop} {ow : Nat → Nat} {ho : Int32} {d u : Nat} (zh : zH ow h ho (nI d) (nI u)) (hb : d ≤ 16 ∧ u ≤ 16) (h0 : d = 0 → Q (some (.int (nI 0))) h) (h1 : 0 < d → ∀ h', cFr [8] 0 ow h ow h' → zH ow h' ho (nI (d - 1)) (nI (u + 1)) → Q (some (.int (nI 1))) h') : Wp mX3_stepBack 0 0 0 [some (.ref 20)] [] h Q := by
  refine wp_aload_n dX3_stepBack_0 rfl rfl ?_
  refine wp_getIV dX3_stepBack_1 lX3_28 rfl zh.o zh.f2 ?_
  refine wp_if_neN dX3_stepBack_4 rfl (by omega) (fun c1 => ?_) (fun c1 => ?_)
  · refine wp_aload_n dX3_stepBack_9 rfl rfl ?_
    refine wp_dup dX3_stepBack_10 rfl ?_
    refine wp_getIV dX3_stepBack_11 lX3_28 rfl zh.o zh.f2 ?_
    refine wp_iconst (v := (nI 1)) dX3_stepBack_14 (by decide +kernel) ?_
    refine wp_isub dX3_stepBack_15 ?_
    rw [pk_sub (by omega)]
    refine wp_putI dX3_stepBack_16 lX3_28 rfl (Or.inl rfl) zh.o rfl rfl ?_
    refine zh.p2 (fun hh1 f1 zh_1 => ?_)
    refine wp_aload_n dX3_stepBack_19 rfl rfl ?_
    refine wp_dup dX3_stepBack_20 rfl ?_
    refine wp_getIV dX3_stepBack_21 lX3_39 rfl zh_1.o zh_1.f3 ?_
    refine wp_iconst (v := (nI 1)) dX3_stepBack_24 (by decide +kernel) ?_
    refine wp_iadd dX3_stepBack_25 ?_
    refine wp_putIN dX3_stepBack_26 lX3_39 rfl rfl (Or.inl rfl) zh_1.o (isN_add rfl rfl) ?_
    refine zh_1.p3 (fun hh2 f2 zh_2 => ?_)
    refine wp_iconst (v := (nI 1)) dX3_stepBack_29 (by decide +kernel) ?_
    refine wp_zreturn dX3_stepBack_30 rfl (by first | exact Or.inl rfl | exact Or.inr rfl) ?_
    exact h1 (by omega) _ ((f1.up (by decide) (Nat.le_refl _)).tr (f2.up (by decide) (Nat.le_refl _))) zh_2
  · refine wp_iconst (v := (nI 0)) dX3_stepBack_7 (by decide +kernel) ?_
    refine wp_zreturn dX3_stepBack_8 rfl (by first | exact Or.inl rfl | exact Or.inr rfl) ?_
    exact h0 (by omega)
set_option maxRecDepth 20000 in
theorem pX3_stepOn {h : mH} {Q : Option Value → mH → Prop} {ow : Nat → Nat} {ho : Int32} {d u : Nat} (zh : zH ow h ho (nI d) (nI u)) (hb : d ≤ 16 ∧ u ≤ 16) (h0 : u = 0 → Q (some (.int (nI 0))) h) (h1 : 0 < u → ∀ h', cFr [8] 0 ow h ow h' → zH ow h' ho (nI (d + 1)) (nI (u - 1)) → Q (some (.int (nI 1))) h') : Wp mX3_stepOn 0 0 0 [some (.ref 20)] [] h Q := by
  refine wp_aload_n dX3_stepOn_0 rfl rfl ?_
  refine wp_getIV dX3_stepOn_1 lX3_39 rfl zh.o zh.f3 ?_
  refine wp_if_neN dX3_stepOn_4 rfl (by omega) (fun c1 => ?_) (fun c1 => ?_)
  · refine wp_aload_n dX3_stepOn_9 rfl rfl ?_
    refine wp_dup dX3_stepOn_10 rfl ?_
    refine wp_getIV dX3_stepOn_11 lX3_28 rfl zh.o zh.f2 ?_
    refine wp_iconst (v := (nI 1)) dX3_stepOn_14 (by decide +kernel) ?_
    refine wp_iadd dX3_stepOn_15 ?_
    refine wp_putIN dX3_stepOn_16 lX3_28 rfl rfl (Or.inl rfl) zh.o (isN_add rfl rfl) ?_
    refine zh.p2 (fun hh1 f1 zh_1 => ?_)
    refine wp_aload_n dX3_stepOn_19 rfl rfl ?_
    refine wp_dup dX3_stepOn_20 rfl ?_
    refine wp_getIV dX3_stepOn_21 lX3_39 rfl zh_1.o zh_1.f3 ?_
    refine wp_iconst (v := (nI 1)) dX3_stepOn_24 (by decide +kernel) ?_
    refine wp_isub dX3_stepOn_25 ?_
    rw [pk_sub (by omega)]
    refine wp_putI dX3_stepOn_26 lX3_39 rfl (Or.inl rfl) zh_1.o rfl rfl ?_
    refine zh_1.p3 (fun hh2 f2 zh_2 => ?_)
    refine wp_iconst (v := (nI 1)) dX3_stepOn_29 (by decide +kernel) ?_
    refine wp_zreturn dX3_stepOn_30 rfl (by first | exact Or.inl rfl | exact Or.inr rfl) ?_
    exact h1 (by omega) _ ((f1.up (by decide) (Nat.le_refl _)).tr (f2.up (by decide) (Nat.le_refl _))) zh_2
  · refine wp_iconst (v := (nI 0)) dX3_stepOn_7 (by decide +kernel) ?_
    refine wp_zreturn dX3_stepOn_8 rfl (by first | exact Or.inl rfl | exact Or.inr rfl) ?_
    exact h0 (by omega)
