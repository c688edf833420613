/-! ===== findings forgotten ===== -/
def tab0 (ow : Nat → Nat) (h : mH) (f n m i : Nat) : Prop := ∃ a2 a3 a4 a5 a6 a7 tf tc t2 t3 t4 t5 t6 t7 tp, zT ow h (125 + 7 * f) (11 + f) n m a2 a3 a4 a5 a6 a7 tf tc t2 t3 t4 t5 t6 t7 tp ∧ ((64 ≤ m ∧ m ≤ 20480) ∧ 64 ≤ n ∧ n ≤ 20480) ∧ (f < i → tf = nI 0)
theorem tab0.fr {S : List Nat} {u : Nat} {ow ow' : Nat → Nat} {h h' : mH} {f n m i : Nat} (g : tab0 ow h f n m i) (f9 : cFr S u ow h ow' h') (hs : 11 + f ∉ S) : tab0 ow' h' f n m i := by
  obtain ⟨a2, a3, a4, a5, a6, a7, tf, tc, t2, t3, t4, t5, t6, t7, tp, z, hz⟩ := g
  exact ⟨a2, a3, a4, a5, a6, a7, tf, tc, t2, t3, t4, t5, t6, t7, tp, z.fr f9 hs, hz⟩
theorem tab0.s {ow : Nat → Nat} {h : mH} {f n m i : Nat} (g : tab0 ow h f n m i) (h1 : f ≠ i) : tab0 ow h f n m (i + 1) := by
  obtain ⟨a2, a3, a4, a5, a6, a7, tf, tc, t2, t3, t4, t5, t6, t7, tp, z, hb, hz⟩ := g
  exact ⟨a2, a3, a4, a5, a6, a7, tf, tc, t2, t3, t4, t5, t6, t7, tp, z, hb, fun h9 => hz (by omega)⟩
theorem tabI.t0 {ow : Nat → Nat} {h : mH} {r : Nat → Int64} {pa my : Nat → Int32} {F f n m : Nat} (g : tabI ow h r pa my F f n m) : tab0 ow h f n m 0 := by
  obtain ⟨a2, a3, a4, a5, a6, a7, tf, tc, t2, t3, t4, t5, t6, t7, tp, z, hb, hz⟩ := g
  exact ⟨a2, a3, a4, a5, a6, a7, tf, tc, t2, t3, t4, t5, t6, t7, tp, z, hb, fun h9 => absurd h9 (Nat.not_lt_zero f)⟩
theorem tab0.I {ow : Nat → Nat} {h : mH} {r : Nat → Int64} {pa my : Nat → Int32} {F f n m : Nat} (g : tab0 ow h f n m 4) (hf : f < 4) : tabI ow h r pa my F f n m := by
  obtain ⟨a2, a3, a4, a5, a6, a7, tf, tc, t2, t3, t4, t5, t6, t7, tp, z, hb, hz⟩ := g
  exact ⟨a2, a3, a4, a5, a6, a7, tf, tc, t2, t3, t4, t5, t6, t7, tp, z, hb, Or.inl (hz hf)⟩
theorem in_f {i : Nat} (hi : i < 4) : ∀ x ∈ [11 + i], x ∈ [10, 11, 12, 13, 14] := fun x hx => by
  simp at hx ⊢
  omega
set_option maxRecDepth 20000 in
theorem pX11_forgetFindings {h : mH} {Q : Option Value → mH → Prop} {ow : Nat → Nat} {xt xf xp : Int32} {xq : Option Nat} {n m : Nat → Nat} {ny a3 a4 a5 : Nat} {yp yf yc : Int32} {y3 y4 : Nat → Int64} {y5 : Nat → Int32} (zx : zX ow h xt xf xp xq) (kb : kB ow h) (zy : zY ow h ny a3 a4 a5 yp yf yc y3 y4 y5) (ht : ∀ f, f < 4 → tab0 ow h f (n f) (m f) 0) (hq : ∀ h', cFr [10, 11, 12, 13, 14] 0 ow h ow h' → zY ow h' ny a3 a4 a5 (-1) (-1) yc y3 y4 y5 → (∀ f, f < 4 → tab0 ow h' f (n f) (m f) 4) → Q none h') : Wp mX11_forgetFindings 1 20 0 [some (.ref 0), none] [] h Q := by
  have hlp : ∀  (t9 : Nat) (i : Nat) (h1 : mH), (i ≤ 4) → (cFr [10, 11, 12, 13, 14] 0 ow h ow h1) → (zX ow h1 xt xf xp xq) → (kB ow h1) → (zY ow h1 ny a3 a4 a5 yp yf yc y3 y4 y5) → (∀ f, f < 4 → tab0 ow h1 f (n f) (m f) i) → (4 < i + t9) → Wp mX11_forgetFindings 1 20 2 [some (.ref 0), some (.int (nI i))] [] h1 Q := by
    intro t9
    induction t9 with
    | zero => intros; omega
    | succ t9 ih =>
      intro i h1 hi hf1 zx1 kb1 zy1 ht1 hmz
      refine wp_iload_n dX11_forgetFindings_2 rfl rfl ?_
      refine wp_iconst (v := (nI 4)) dX11_forgetFindings_3 (by decide +kernel) ?_
      refine wp_icmp_geN dX11_forgetFindings_4 rfl rfl ⟨by omega, by omega⟩ (fun c2 => ?_) (fun c2 => ?_)
      · refine wp_aload_n dX11_forgetFindings_23 rfl rfl ?_
        refine wp_getR dX11_forgetFindings_24 lX11_67 rfl zx1.o zx1.r11 ?_
        refine wp_cV0 0 0 [some _] dX11_forgetFindings_27 tX10_forget rfl (by decide) nX10_forget vX10_forget lX11_246 ⟨by decide, by decide⟩ (Nat.le_of_ble_eq_true rfl) zy1.o (Nat.le_of_ble_eq_true rfl) rfl ?_
        refine pX10_forget zy1 (fun hh1 f1 zy_1 => ?_)
        intro _ _
        have zx1_1 := zx1.fr f1 (rnS (by omega) rn0)
        have kb1_1 := kb1.fr f1 (rnS (by omega) rn0) (rnS (by omega) rn0)
        refine wp_vreturn dX11_forgetFindings_30 rfl ?_
        have ei9 : i = 4 := by omega
        subst ei9
        exact hq _ (hf1.tr (f1.up (by decide) (Nat.le_refl _))) zy_1 (fun f hf => (ht1 f hf).fr f1 (rnS (by omega) rn0))
      · refine wp_aload_n dX11_forgetFindings_7 rfl rfl ?_
        refine wp_getR dX11_forgetFindings_8 lX11_46 rfl zx1.o zx1.r8 ?_
        refine wp_iload_n dX11_forgetFindings_11 rfl rfl ?_
        obtain ⟨a2, a3, a4, a5, a6, a7, tf, tc, t2, t3, t4, t5, t6, t7, tp, zt, hb9, hz9⟩ := ht1 i (by omega)
        refine wp_aaldJ dX11_forgetFindings_12 kb1.2.1.1 (by decide) (by decide) rfl ⟨by omega, by omega⟩ (kb1.2.1.2.2 i (by omega)) ?_
        refine wp_iconst (v := (nI 0)) dX11_forgetFindings_13 (by decide +kernel) ?_
        refine wp_putI dX11_forgetFindings_14 lX11_272 rfl (Or.inl rfl) zt.o (by decide +kernel) (by decide +kernel) ?_
        refine zt.p0 (fun hh2 f2 zt_2 => ?_)
        have zx1_2 := zx1.fr f2 (rnS (by omega) rn0)
        have zy1_2 := zy1.fr f2 (rnS (by omega) rn0)
        have kb1_2 := kb1.fr f2 (rnS (by omega) rn0) (rnS (by omega) rn0)
        refine wp_iinc1 (ls1 := [_, some _]) dX11_forgetFindings_17 rfl (by decide) rfl ?_
        refine wp_goto dX11_forgetFindings_20 ?_
        exact ih (i + 1) _ (by omega) (hf1.tr (f2.up (in_f (by omega)) (Nat.le_refl _))) zx1_2 kb1_2 zy1_2 (fun f hf => by
         by_cases e9 : f = i
         · subst e9; exact ⟨_, _, _, _, _, _, _, _, _, _, _, _, _, _, _, zt_2, hb9, fun _ => rfl⟩
         · exact ((ht1 f hf).fr f2 (rnS (by omega) rn0)).s e9) (by omega)
  refine wp_iconst (v := (nI 0)) dX11_forgetFindings_0 (by decide +kernel) ?_
  refine wp_istore_n (ls1 := [_, some _]) dX11_forgetFindings_1 rfl (by decide) rfl ?_
  exact hlp 5 0 h (by omega) cFr.rf zx kb zy (fun f hf => ht f hf) (by omega)
