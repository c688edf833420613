/-! ===== image, back ===== -/
theorem bxR.img {ow ow' : Nat → Nat} {h h' : mH} {bx : Nat → Nat → Int64} {kp : Nat → Int32} {j q u9 : Nat} {r : Nat → Int64} (g : bxR ow h bx kp) (hj : j < 2) (f : cFr [9, 40 + j] u9 ow h ow' h') (e1 : hR h' 107 = upN (hR h 107) j (some q)) (sx : stX ow' h' q (40 + j) r) : bxR ow' h' (boxP bx j r) (keptP kp j) := by
  obtain ⟨a, b, c⟩ := g
  refine ⟨f.a a, (f.w a.1).trans b, fun k hk => ?_⟩
  by_cases c1 : k = j
  · subst c1
    refine ⟨fun e => absurd (show (1 : Int32) = 0 from (if_pos rfl).symm.trans e) (by decide), fun _ => ⟨q, by rw [e1, upN_at], ?_⟩⟩
    rw [show boxP bx k r k = r from if_pos rfl]
    exact sx
  · have ek : keptP kp j k = kp k := if_neg c1
    have eb : boxP bx j r k = bx k := if_neg c1
    have er : hR h' 107 k = hR h 107 k := by rw [e1, upN_ne c1]
    rw [ek, eb, er]
    refine ⟨(c k hk).1, fun e => ?_⟩
    obtain ⟨q', e', s'⟩ := (c k hk).2 e
    exact ⟨q', e', s'.fr f (rnS (by omega) (rnS (by omega) rn0)) (rnS (by omega) (rnS (by omega) rn0))⟩
theorem tyI.fr {S : List Nat} {u : Nat} {ow ow' : Nat → Nat} {h h' : mH} {r : Nat → Int64} {pa my : Nat → Int32} {F n : Nat} (g : tyI ow h r pa my F n) (f9 : cFr S u ow h ow' h') (hs : 10 ∉ S) : tyI ow' h' r pa my F n := by
  obtain ⟨hn, h3⟩ := g
  refine ⟨hn, ?_⟩
  rcases h3 with ⟨a3, a4, a5, yf, yc, y3, y4, y5, z⟩ | ⟨p, f, h1, h2, z⟩
  · exact Or.inl ⟨_, _, _, _, _, _, _, _, z.fr f9 hs⟩
  · exact Or.inr ⟨p, f, h1, h2, z.fr f9 hs⟩
theorem bx_in {j : Nat} (hj : j < 2) : ∀ x ∈ [9, 40 + j], x ∈ [9, 40, 41] := fun x hx => by
  simp at hx ⊢
  omega
theorem cC.img {ow ow' : Nat → Nat} {h h' : mH} {F : Nat} {pa my : Nat → Int32} {fa o a u : Nat} {r : Nat → Int64} {pr : Nat → Nat → Int64} {bx : Nat → Nat → Int64} {kp tp : Nat → Int32} {t : Nat} {tf tl : Int32} {n w : Nat} {j q u9 : Nat} (c : cC ow h F pa my fa o a u r pr bx kp tp t tf tl n w) (hj : j < 2) (f : cFr [9, 40 + j] u9 ow h ow' h') (e1 : hR h' 107 = upN (hR h 107) j (some q)) (sx : stX ow' h' q (40 + j) r) : cC ow' h' F pa my fa o a u r pr (boxP bx j r) (keptP kp j) tp t tf tl n (w + u9) := by
  have f2 := f.up (bx_in hj) (Nat.le_refl _)
  have fw := f2.1.2.2
  refine ⟨c.zx.fr f2 (by decide), c.zh.fr f2 (by decide), c.kb.fr f2 (by decide) (by decide), c.fl.fr f2 (by decide), c.rg.fr f2 (by decide) (fun k hk => by simp; omega), c.od, c.bxx.img hj f e1 sx, c.tpp.fr f2 (by decide), c.rd.fr f2 (by decide), c.cz.fr f2 (by decide) (by decide) (by decide) (by decide), c.tw.fr f2 (fun k hk => by simp; omega), c.ti.fr f2 (by decide)⟩
set_option maxRecDepth 20000 in
theorem pX11_image {h : mH} {Q : Option Value → mH → Prop} {ow : Nat → Nat} {F : Nat} {pa my : Nat → Int32} {fa o a u : Nat} {r : Nat → Int64} {pr : Nat → Nat → Int64} {bx : Nat → Nat → Int64} {kp tp : Nat → Int32} {t : Nat} {tf tl : Int32} {n w : Nat} {x : Int32} (c : cC ow h F pa my fa o a u r pr bx kp tp t tf tl n w) (hd : sOK r F pa my) (hw : w ≤ 8000000) (h0 : ix x 2 = none → Q (some (.int (-1))) h) (h1 : ∀ b, b < 2 → x = nI b → ∀ h' ow', cFr [9, 40, 41] 103 ow h ow' h' → cC ow' h' F pa my fa o a u r pr (boxP bx b r) (keptP kp b) tp t tf tl n (w + 103) → Q (some (.int (nI (sumF r (rP r) F)))) h') : Wp mX11_image 3 63 0 [some (.ref 0), some (.int x), none] [] h Q := by
  have hP6 := hd.w.1.2
  have hF4 := hd.f4
  have e9 := c.e9
  have hwb := c.tw.b
  have hsc : scrA = 1000000000 := rfl
  refine wp_iload_n dX11_image_0 rfl rfl ?_
  refine wp_if_lt dX11_image_1 (fun c2 => ?_) (fun c2 => ?_)
  · refine wp_iconst (v := (-1)) dX11_image_9 (by decide +kernel) ?_
    refine wp_ireturn dX11_image_10 rfl ?_
    exact h0 (ix_lt0 c2)
  · refine wp_iload_n dX11_image_4 rfl rfl ?_
    refine wp_iconst (v := (nI 2)) dX11_image_5 (by decide +kernel) ?_
    refine wp_icmp_lt dX11_image_6 (fun c4 => ?_) (fun c4 => ?_)
    · obtain ⟨j1, hj1, ej1⟩ := ix_lt (by omega) c2 c4
      subst ej1
      refine wp_aload_n dX11_image_11 rfl rfl ?_
      refine wp_getR dX11_image_12 lX11_40 rfl c.zx.o c.zx.r7 ?_
      refine wp_iload_n dX11_image_15 rfl rfl ?_
      by_cases hk9 : kp j1 = 0
      · refine wp_aaldJ dX11_image_16 c.bxx.1 (by decide) (by decide) rfl ⟨by omega, by omega⟩ ((c.bxx.2.2 j1 (by omega)).1 hk9) ?_
        refine wp_astore_nN (ls1 := [_, _, some _]) dX11_image_17 rfl (by decide) rfl ?_
        refine wp_aload_nN dX11_image_18 rfl rfl ?_
        refine wp_ifnonnullN dX11_image_19 ?_
        refine wp_new dX11_image_22 (by decide) lX11_38 (mInst 8 (by decide)) (mInit 8 (by decide)) ?_
        refine wp_dup dX11_image_25 rfl ?_
        refine wp_cIN0 1 20 [some _] dX11_image_26 tX8_init rfl rfl nX8_init lX11_392 ⟨by decide, by decide⟩ (Nat.le_of_ble_eq_true rfl) (Nat.le_of_ble_eq_true rfl) rfl ?_
        refine pX8_init (hO_new _ _ _) ?_
        intro _ _
        obtain ⟨f1, zz1⟩ := zS_new (S := []) (ow := ow) (h := h) (40 + j1) (by omega)
        have e107 := (f1.s c.bxx.1.1 c.bxx.2.1 rn0).2.2
        have f1 := f1.up (S' := [9]) (fun x hx => by cases hx) (Nat.le_refl _)
        generalize iX8 (nw h 8 (mCz 8)) (hN h) = hh1 at *
        generalize roN ow (hN h) 5 (40 + j1) = ow1 at *
        refine wp_astore_n (ls1 := [_, _, some _]) dX11_image_29 rfl (by decide) rfl ?_
        refine wp_aload_n dX11_image_30 rfl rfl ?_
        refine wp_getR dX11_image_31 lX11_40 rfl (f1.o c.zx.o) (c.zx.fr f1 (by decide)).r7 ?_
        refine wp_iload_n dX11_image_34 rfl rfl ?_
        refine wp_aload_n dX11_image_35 rfl rfl ?_
        refine wp_aastJ dX11_image_36 (f1.a c.bxx.1) (by decide) (by decide) rfl ⟨by omega, by omega⟩ zz1.o ?_
        have f2 := cFr_sR (ow := ow1) (h := hh1) (a := 107) (k := j1) (v := some (hN h)) ((f1.w c.bxx.1.1).trans c.bxx.2.1)
        have e2 := hR_up hh1 107 j1 (some (hN h))
        generalize sR hh1 107 j1 (some (hN h)) = hh2 at *
        have zz2 := zz1.fr f2 (rnS (by omega) rn0)
        have f12 := f1.tr f2
        have zx2 := c.zx.fr f12 (by decide)
        have zh2 := c.zh.fr f12 (by decide)
        have kb2 := c.kb.fr f12 (by decide) (by decide)
        have rg2 := c.rg.fr f12 (by decide) (fun k hk => by simp; omega)
        refine wp_aload_n dX11_image_37 rfl rfl ?_
        refine wp_aload_n dX11_image_38 rfl rfl ?_
        refine wp_getR dX11_image_39 lX11_34 rfl (f2.o (f1.o c.zx.o)) zx2.r6 ?_
        refine wp_cV0 2 43 [some _] dX11_image_42 tX3_now rfl (by decide) nX3_now vX3_now lX11_101 ⟨by decide, by decide⟩ (Nat.le_of_ble_eq_true rfl) zh2.o (Nat.le_of_ble_eq_true rfl) rfl ?_
        refine pX3_now zh2 kb2 c.od.1 (by have := c.od.2; omega) ?_
        intro _ _
        refine wp_cV1 1 26 [some _, some _, none] dX11_image_45 tX8_copyFrom rfl (by decide) nX8_copyFrom vX8_copyFrom lX11_393 ⟨by decide, by decide⟩ (Nat.le_of_ble_eq_true rfl) zz2.o (Nat.le_of_ble_eq_true rfl) rfl ?_
        refine pX8_copyFrom (by first | omega | (simp only [nowR]; omega)) (by omega) hP6 zz2 rg2.st (fun hh3 f3 sx3 => ?_)
        intro _ _
        refine wp_aload_n dX11_image_48 rfl rfl ?_
        refine wp_cV0 1 21 [some _, none, none] dX11_image_49 tX8_partCount rfl (by decide) nX8_partCount vX8_partCount lX11_396 ⟨by decide, by decide⟩ (Nat.le_of_ble_eq_true rfl) sx3.1.o (Nat.le_of_ble_eq_true rfl) rfl ?_
        refine pX8_partCount sx3.1 hd ?_
        intro _ _
        refine wp_ireturn dX11_image_52 rfl ?_
        have fT : cFr [9, 40 + j1] 103 ow h ow1 hh3 := ((f12.up (fun x hx => by simp at hx ⊢; omega) (Nat.le_refl _)).tr (f3.up (fun x hx => List.mem_cons_of_mem _ hx) (Nat.le_refl _)))
        have er9 : hR hh3 107 = upN (hR h 107) j1 (some (hN h)) := by
          rw [(f3.s (f12.a c.bxx.1).1 ((f12.w c.bxx.1.1).trans c.bxx.2.1) (rnS (by omega) rn0)).2.2, e2, e107]
        exact h1 j1 (by omega) rfl _ _ (fT.up (bx_in (by omega)) (Nat.le_refl _)) (c.img (by omega) fT er9 sx3)
      · obtain ⟨q9, eq9, sx9⟩ := (c.bxx.2.2 j1 (by omega)).2 hk9
        refine wp_aaldJ dX11_image_16 c.bxx.1 (by decide) (by decide) rfl ⟨by omega, by omega⟩ eq9 ?_
        obtain ⟨⟨_, _, _, _, zz2, _⟩, _⟩ := id sx9
        have zx2 := c.zx
        have zh2 := c.zh
        have kb2 := c.kb
        have rg2 := c.rg
        refine wp_astore_n (ls1 := [_, _, some _]) dX11_image_17 rfl (by decide) rfl ?_
        refine wp_aload_n dX11_image_18 rfl rfl ?_
        refine wp_ifnonnull dX11_image_19 ?_
        refine wp_aload_n dX11_image_37 rfl rfl ?_
        refine wp_aload_n dX11_image_38 rfl rfl ?_
        refine wp_getR dX11_image_39 lX11_34 rfl c.zx.o c.zx.r6 ?_
        refine wp_cV0 2 43 [some _] dX11_image_42 tX3_now rfl (by decide) nX3_now vX3_now lX11_101 ⟨by decide, by decide⟩ (Nat.le_of_ble_eq_true rfl) zh2.o (Nat.le_of_ble_eq_true rfl) rfl ?_
        refine pX3_now zh2 kb2 c.od.1 (by have := c.od.2; omega) ?_
        intro _ _
        refine wp_cV1 1 26 [some _, some _, none] dX11_image_45 tX8_copyFrom rfl (by decide) nX8_copyFrom vX8_copyFrom lX11_393 ⟨by decide, by decide⟩ (Nat.le_of_ble_eq_true rfl) zz2.o (Nat.le_of_ble_eq_true rfl) rfl ?_
        refine pX8_copyFrom (by first | omega | (simp only [nowR]; omega)) (by omega) hP6 zz2 rg2.st (fun hh3 f3 sx3 => ?_)
        intro _ _
        refine wp_aload_n dX11_image_48 rfl rfl ?_
        refine wp_cV0 1 21 [some _, none, none] dX11_image_49 tX8_partCount rfl (by decide) nX8_partCount vX8_partCount lX11_396 ⟨by decide, by decide⟩ (Nat.le_of_ble_eq_true rfl) sx3.1.o (Nat.le_of_ble_eq_true rfl) rfl ?_
        refine pX8_partCount sx3.1 hd ?_
        intro _ _
        refine wp_ireturn dX11_image_52 rfl ?_
        have fT : cFr [9, 40 + j1] 103 ow h ow hh3 := f3.up (fun x hx => List.mem_cons_of_mem _ hx) (by omega)
        have er9 : hR hh3 107 = upN (hR h 107) j1 (some q9) := by
          rw [(f3.s c.bxx.1.1 c.bxx.2.1 (rnS (by omega) rn0)).2.2]
          funext y
          by_cases c9 : y = j1
          · rw [c9, upN_at, eq9]
          · rw [upN_ne c9]
        exact h1 j1 (by omega) rfl _ _ (fT.up (bx_in (by omega)) (Nat.le_refl _)) (c.img (by omega) fT er9 sx3)
    · refine wp_iconst (v := (-1)) dX11_image_9 (by decide +kernel) ?_
      refine wp_ireturn dX11_image_10 rfl ?_
      exact h0 (ix_nlt (by omega) c4)
set_option maxRecDepth 20000 in
theorem pX11_back {h : mH} {Q : Option Value → mH → Prop} {ow : Nat → Nat} {F : Nat} {pa my : Nat → Int32} {fa o a u : Nat} {r : Nat → Int64} {pr : Nat → Nat → Int64} {bx : Nat → Nat → Int64} {kp tp : Nat → Int32} {t : Nat} {tf tl : Int32} {n w : Nat} {x : Int32} (c : cC ow h F pa my fa o a u r pr bx kp tp t tf tl n w) (hd : sOK r F pa my) (hk : ∀ b, b < 2 → ¬ kp b = 0 → sOK (bx b) F pa my) (h0 : (∀ b, b < 2 → x = nI b → kp b = 0) → Q (some (.int (-1))) h) (h1 : ∀ b, b < 2 → x = nI b → ¬ kp b = 0 → ∀ h', cFr [8, 10, 11, 12, 13, 14, 20, 21, 22, 23, 24, 25, 26, 27, 28, 29, 30, 31, 32, 33, 34, 35, 36] 0 ow h ow h' → cC ow h' F pa my fa o 0 0 (bx b) pr bx kp tp t tf tl n w → Q (some (.int (nI (sumF (bx b) (rP (bx b)) F)))) h') : Wp mX11_back 4 84 0 [some (.ref 0), some (.int x)] [] h Q := by
  have hP6 := hd.w.1.2
  have hF4 := hd.f4
  have e9 := c.e9
  refine wp_iload_n dX11_back_0 rfl rfl ?_
  refine wp_if_lt dX11_back_1 (fun c2 => ?_) (fun c2 => ?_)
  · refine wp_iconst (v := (-1)) dX11_back_18 (by decide +kernel) ?_
    refine wp_ireturn dX11_back_19 rfl ?_
    exact h0 (fun b9 hb9 e9 => absurd (ix_lt0 c2) (by rw [e9, ix_nI hb9 (by omega)]; exact fun z => by cases z))
  · refine wp_iload_n dX11_back_4 rfl rfl ?_
    refine wp_iconst (v := (nI 2)) dX11_back_5 (by decide +kernel) ?_
    refine wp_icmp_ge dX11_back_6 (fun c4 => ?_) (fun c4 => ?_)
    · refine wp_iconst (v := (-1)) dX11_back_18 (by decide +kernel) ?_
      refine wp_ireturn dX11_back_19 rfl ?_
      exact h0 (fun b9 hb9 e9 => absurd (ix_ge (by omega) c4) (by rw [e9, ix_nI hb9 (by omega)]; exact fun z => by cases z))
    · obtain ⟨j1, hj1, ej1⟩ := ix_pos (by omega) c2 c4
      subst ej1
      refine wp_aload_n dX11_back_9 rfl rfl ?_
      refine wp_getR dX11_back_10 lX11_40 rfl c.zx.o c.zx.r7 ?_
      refine wp_iload_n dX11_back_13 rfl rfl ?_
      by_cases hk9 : kp j1 = 0
      · refine wp_aaldJ dX11_back_14 c.bxx.1 (by decide) (by decide) rfl ⟨by omega, by omega⟩ ((c.bxx.2.2 j1 (by omega)).1 hk9) ?_
        refine wp_ifnonnullN dX11_back_15 ?_
        refine wp_iconst (v := (-1)) dX11_back_18 (by decide +kernel) ?_
        refine wp_ireturn dX11_back_19 rfl ?_
        exact h0 (fun b9 hb9 e9 => by rw [← (nI_eq (by omega) (by omega)).mp e9]; exact hk9)
      · obtain ⟨q9, eq9, sx9⟩ := (c.bxx.2.2 j1 (by omega)).2 hk9
        have hdb := hk j1 (by omega) hk9
        refine wp_aaldJ dX11_back_14 c.bxx.1 (by decide) (by decide) rfl ⟨by omega, by omega⟩ eq9 ?_
        refine wp_ifnonnull dX11_back_15 ?_
        refine wp_aload_n dX11_back_20 rfl rfl ?_
        refine wp_getR dX11_back_21 lX11_34 rfl c.zx.o c.zx.r6 ?_
        refine wp_aload_n dX11_back_24 rfl rfl ?_
        refine wp_getR dX11_back_25 lX11_40 rfl c.zx.o c.zx.r7 ?_
        refine wp_iload_n dX11_back_28 rfl rfl ?_
        refine wp_aaldJ dX11_back_29 c.bxx.1 (by decide) (by decide) rfl ⟨by omega, by omega⟩ eq9 ?_
        refine wp_cV1 3 63 [some _, some _] dX11_back_30 tX3_restart rfl (by decide) nX3_restart vX3_restart lX11_97 ⟨by decide, by decide⟩ (Nat.le_of_ble_eq_true rfl) c.zh.o (Nat.le_of_ble_eq_true rfl) rfl ?_
        refine pX3_restart c.zh c.kb c.rg c.od.1 c.od.2 sx9 (by omega) hdb.w.1.2 (fun hh1 f1 zh1 rg1 => ?_)
        intro _ _
        have zx1 := c.zx.fr f1 (by decide)
        have kb1 := c.kb.fr f1 (by decide) (by decide)
        have tb1 := (tbF.of c.tw c.ti).fr f1 (by decide) (fun f9 hf9 => by simp; omega)
        refine wp_aload_n dX11_back_33 rfl rfl ?_
        refine wp_cV0 1 20 [some _, none] dX11_back_34 tX11_forgetFindings rfl (by decide) nX11_forgetFindings vX11_forgetFindings lX11_120 ⟨by decide, by decide⟩ (Nat.le_of_ble_eq_true rfl) zx1.o (Nat.le_of_ble_eq_true rfl) rfl ?_
        refine forgetAll zx1 kb1 tb1 (fun hh2 f2 g2 => ?_)
        intro _ _
        have zx2 := zx1.fr f2 (by decide)
        have zh2 := zh1.fr f2 (by decide)
        have kb2 := kb1.fr f2 (by decide) (by decide)
        have rg2 := (rg1 pr).fr f2 (by decide) (fun k hk => by simp; omega)
        refine wp_aload_n dX11_back_37 rfl rfl ?_
        refine wp_getR dX11_back_38 lX11_34 rfl zx2.o zx2.r6 ?_
        refine wp_cV0 2 43 [some _] dX11_back_41 tX3_now rfl (by decide) nX3_now vX3_now lX11_101 ⟨by decide, by decide⟩ (Nat.le_of_ble_eq_true rfl) zh2.o (Nat.le_of_ble_eq_true rfl) rfl ?_
        refine pX3_now zh2 kb2 c.od.1 (by omega) ?_
        intro _ _
        refine wp_cV0 1 21 [some _, none, none] dX11_back_44 tX8_partCount rfl (by decide) nX8_partCount vX8_partCount lX11_396 ⟨by decide, by decide⟩ (Nat.le_of_ble_eq_true rfl) rg2.st.1.o (Nat.le_of_ble_eq_true rfl) rfl ?_
        refine pX8_partCount rg2.st.1 hdb ?_
        intro _ _
        refine wp_ireturn dX11_back_47 rfl ?_
        have FT := cFr.tr (S := [8, 10, 11, 12, 13, 14, 20, 21, 22, 23, 24, 25, 26, 27, 28, 29, 30, 31, 32, 33, 34, 35, 36]) (f1.up (by decide) (Nat.le_refl _)) (f2.up (by decide) (Nat.le_refl _))
        exact h1 j1 (by omega) rfl hk9 _ FT (c.act FT zh2 rg2 ⟨c.od.1, by omega⟩ g2)
