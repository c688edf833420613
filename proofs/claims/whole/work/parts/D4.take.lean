/-! ===== take ===== -/
theorem cn_in {r : Nat → Int64} {F p f : Nat} {x y : Int32} (h : cnC r F x y = some (p, f)) (h6 : rP r ≤ 6) (h4 : F ≤ 4) : x = nI p ∧ y = nI f := by
  rcases ix_cases (x := x) (n := rP r) (by omega) with e1 | ⟨i, hi, e1⟩
  · unfold cnC at h
    rw [e1] at h
    cases h
  · rcases ix_cases (x := y) (n := F) (by omega) with e2 | ⟨j, hj, e2⟩
    · unfold cnC at h
      rw [e2] at h
      revert h
      cases ix x (rP r) <;> intro h <;> cases h
    · subst e1 e2
      unfold cnC at h
      rw [ix_nI hi (by omega), ix_nI hj (by omega)] at h
      have h : (if r (655 + 70 * j) = 1 then some (i, j) else none) = some (p, f) := h
      split at h
      · cases h; exact ⟨rfl, rfl⟩
      · cases h
theorem tk_out {r : Nat → Int64} {f p y : Nat} {l : List (Nat × Nat)} (hl : l.length ≤ 8) (hy : y < rX f p ∨ rX f p + 17 ≤ y) : tkK r f p l l.length y = r y := by
  unfold tkK
  rw [if_neg (by omega), if_neg (by omega)]
theorem tk_mk {r : Nat → Int64} {f p : Nat} {l : List (Nat × Nat)} (hl : l.length ≤ 8) (hf : f < 4) (hp : p < 6) (h40 : ∀ i, (l.getD i (0, 0)).1 ≤ 40 ∧ (l.getD i (0, 0)).2 ≤ 40) : mkL (tkK r f p l l.length) f p = l := by
  symm
  apply mkL_eq
  · exact (tk_M hl hf hp).1.symm
  · intro j hj
    have := (tkK_at (r := r) (f := f) (p := p) (l := l) (i := l.length) (j := j)).2.1 hj
    unfold rA rB
    rw [this.1, this.2, nOf_l (by have := h40 j; omega), nOf_l (by have := h40 j; omega)]
theorem tk_bs {r : Nat → Int64} {F : Nat} {pa my : Nat → Int32} {f p : Nat} {l : List (Nat × Nat)} {ss se : Nat → Int64} (hd : sOK r F pa my) (hl : l.length ≤ 8) (hf : f < 4) (hp : p < 6) (h40 : ∀ i, (l.getD i (0, 0)).1 ≤ 40 ∧ (l.getD i (0, 0)).2 ≤ 40) (hb : ∀ f p, f < 4 → p < 6 → ss (6 * f + p) = lN (bsA (mkL r f p)) ∧ se (6 * f + p) = lN (bsE (mkL r f p))) : ∀ f' p', f' < 4 → p' < 6 → up1 ss (6 * f + p) (lN (bsA l)) (6 * f' + p') = lN (bsA (mkL (tkK r f p l l.length) f' p')) ∧ up1 se (6 * f + p) (lN (bsE l)) (6 * f' + p') = lN (bsE (mkL (tkK r f p l l.length) f' p')) := fun f' p' hf' hp' => by
  by_cases c : f' = f ∧ p' = p
  · obtain ⟨rfl, rfl⟩ := c
    rw [up1_at, up1_at, tk_mk hl hf hp h40]
    exact ⟨rfl, rfl⟩
  · have hne : 6 * f' + p' ≠ 6 * f + p := by omega
    rw [up1_ne hne, up1_ne hne]
    obtain ⟨h1, h2⟩ := rX_oth (r := r) (r' := tkK r f p l l.length) (fun y hy => tk_out hl hy) hp hp' c
    have hM := (hd.w.2.2 f' p' hf' hp').1.2
    rw [mkL_cg h1.2 (fun i hi => ⟨(h2 i (by omega)).1.2, (h2 i (by omega)).2.2⟩)]
    exact hb f' p' hf' hp'
def tkN (r : Nat → Int64) (F : Nat) (pa my : Nat → Int32) (x y : Int32) : Prop := cnC r F x y = none ∨ ∃ p f, cnC r F x y = some (p, f) ∧ (0 < rM r f p ∨ ∃ res0 : Option (List (Nat × Nat)), (∀ res, prP r pa my p f res → res = res0) ∧ (res0 = none ∨ ∃ l, res0 = some l ∧ ¬ wiP r pa p f l))
theorem cC.q {ow ow' : Nat → Nat} {h h' : mH} {F : Nat} {pa my : Nat → Int32} {fa o a u : Nat} {r : Nat → Int64} {pr : Nat → Nat → Int64} {bx : Nat → Nat → Int64} {kp tp : Nat → Int32} {t : Nat} {tf tl : Int32} {n w : Nat} {n' w' u9 : Nat} (c : cC ow h F pa my fa o a u r pr bx kp tp t tf tl n w) (f : cFr scrR u9 ow h ow' h') (cz : cZ ow' h') (tw : tbW ow' h' r pa my F (7 * (20480 - n')) w') (ti : tyI ow' h' r pa my F n') : cC ow' h' F pa my fa o a u r pr bx kp tp t tf tl n' w' :=
  ⟨c.zx.fr f (by decide), c.zh.fr f (by decide), c.kb.fr f (by decide) (by decide), c.fl.fr f (by decide), c.rg.fr f (by decide) (fun j hj => by simp [scrR]; omega), c.od, c.bxx.fr f (by decide) (by decide) (by decide) (by decide), c.tpp.fr f (by decide), c.rd.fr f (by decide), cz, tw, ti⟩
theorem cZ.g {S : List Nat} {u9 : Nat} {ow ow' : Nat → Nat} {h h' : mH} (g : cZ ow h) (f : cFr S u9 ow h ow' h') (h2 : 2 ∉ S) (h3 : 3 ∉ S) (h4 : 4 ∉ S) (gg : ∃ pl gb ge gs gn gf gt, zG ow' h' pl gb ge gs gn gf gt) : cZ ow' h' := by
  obtain ⟨_, ⟨_, _, _, _, _, _, _, _, g2⟩, ⟨_, _, g3⟩, ⟨_, _, g4⟩⟩ := g
  exact ⟨gg, ⟨_, _, _, _, _, _, _, _, g2.fr f h2⟩, ⟨_, _, g3.fr f h3⟩, ⟨_, _, g4.fr f h4⟩⟩
set_option maxRecDepth 20000 in
theorem pX11_take {h : mH} {Q : Option Value → mH → Prop} {ow : Nat → Nat} {F : Nat} {pa my : Nat → Int32} {fa o a u : Nat} {r : Nat → Int64} {pr : Nat → Nat → Int64} {bx : Nat → Nat → Int64} {kp tp : Nat → Int32} {t : Nat} {tf tl : Int32} {n w : Nat} {x y : Int32} (c : cC ow h F pa my fa o a u r pr bx kp tp t tf tl n w) (hd : sOK r F pa my) (hw4 : w + 400 ≤ 8000000) (h0 : ∀ h' ow' n' u9, cFr scrR u9 ow h ow' h' → cC ow' h' F pa my fa o a u r pr bx kp tp t tf tl n' w → tkN r F pa my x y → Q (some (.int (-1))) h') (hq : ∀ p f l L hop, cnC r F x y = some (p, f) → rM r f p = 0 → (∀ res, prP r pa my p f res → res = some l) → wiP r pa p f l → coP (tkK r f p l l.length) pa my f (exE (tkK r f p l l.length) f) L hop → L.length ≤ 6 → sOK (tkK r f p l l.length) F pa my → exE (tkK r f p l l.length) f ≠ 0 → l.length ≤ 8 → ∀ h' ow' o' n' u9, cFr [1, 2, 8, 10, 11, 12, 13, 14, 18, 20, 21, 22, 23, 24, 25, 26, 27, 28, 29, 30, 31, 32, 33, 34, 35, 36] u9 ow h ow' h' → cC ow' h' F pa my fa o' (actN a) 0 (lnS (tkK r f p l l.length) f L 44) (actP pr r a) bx kp tp t tf tl n' (w + 100) → Q (some (.int (nI L.length))) h') : Wp mX11_take 9 233 0 [some (.ref 0), some (.int x), some (.int y), none, none, none, none, none, none, none] [] h Q := by
  have hP6 := hd.w.1.2
  have hF4 := hd.f4
  have e9 := c.e9
  have hw : w ≤ 8000000 := by omega
  have ti0 := c.ti
  obtain ⟨⟨_, _, _, _, _, _, _, zg⟩, _⟩ := c.cz
  refine wp_aload_n dX11_take_0 rfl rfl ?_
  refine wp_iload_n dX11_take_1 rfl rfl ?_
  refine wp_iload_n dX11_take_2 rfl rfl ?_
  refine wp_cV2 8 210 [some _, some _, some _, none] dX11_take_3 tX11_proposalFor rfl (by decide) nX11_proposalFor vX11_proposalFor lX11_260 ⟨by decide, by decide⟩ (Nat.le_of_ble_eq_true rfl) e9.oo (Nat.le_of_ble_eq_true rfl) rfl ?_
  refine pX11_proposalFor e9 hd zg c.tw hw ti0 (fun hc9 => ?_) (fun hP owP uP nP pP fP0 a3P a4P a5P y3P y4P y5P NP OLP VP FKP TP boP fP eP twP ggP hnP tyP cnP zyP hNnP hTTP tyvP ocP sgP => ?_)
  · intro _ _
    refine wp_istore_n (ls1 := [_, _, _, some _, _, _, _, _, _, _]) dX11_take_6 rfl (by decide) rfl ?_
    refine wp_iload_n dX11_take_7 rfl rfl ?_
    refine wp_iconst (v := (-1)) dX11_take_8 (by decide +kernel) ?_
    refine wp_icmp_eq dX11_take_9 (fun _ => ?_) (fun q => absurd rfl q)
    refine wp_iconst (v := (-1)) dX11_take_27 (by decide +kernel) ?_
    refine wp_ireturn dX11_take_28 rfl ?_
    exact h0 _ _ _ _ cFr.rf c (Or.inl hc9)
  · intro _ _
    have cP := c.q (fP.up (by decide) (Nat.le_refl _)) (c.cz.g fP (by decide) (by decide) (by decide) ggP) twP ⟨hnP.1, Or.inr ⟨pP, fP0, hnP.2.1, hnP.2.2, tyP⟩⟩
    have cO := c
    clear e9
    have c := cP
    have e9 := c.e9
    have prU := fun res (z9 : prP r pa my pP fP0 res) => prp_u hd ocP sgP z9
    refine wp_istore_n (ls1 := [_, _, _, some _, _, _, _, _, _, _]) dX11_take_6 rfl (by decide) rfl ?_
    refine wp_iload_n dX11_take_7 rfl rfl ?_
    refine wp_iconst (v := (-1)) dX11_take_8 (by decide +kernel) ?_
    cases boP with
    | none =>
      refine wp_icmp_eq dX11_take_9 (fun _ => ?_) (fun q => absurd rfl q)
      refine wp_iconst (v := (-1)) dX11_take_27 (by decide +kernel) ?_
      refine wp_ireturn dX11_take_28 rfl ?_
      exact h0 _ _ _ _ (fP.up (by decide) (Nat.le_refl _)) c (Or.inr ⟨_, _, cnP, Or.inr ⟨none, fun res z9 => prU res z9, Or.inl rfl⟩⟩)
    | some b =>
      have hbN := sgP.1
      have ob9 : okO r pP fP0 (OLP b) := sgP.2.1
      have hT40 := (hd.w.2.1 pP (by omega)).2
      have obP := op_8 hd ocP (by omega) (by omega)
      have sr9 : srt (OLP b) (rT r pP) := srt_mono (tyvP b hbN).2.2 hTTP
      obtain ⟨ex9, ey9⟩ := cn_in cnP hP6 hF4
      subst ex9
      subst ey9
      refine wp_icmp_eq dX11_take_9 (fun q => absurd q (nI_ne_m1 (show b < 2147483648 by omega))) (fun _ => ?_)
      refine wp_aload_n dX11_take_12 rfl rfl ?_
      refine wp_getR dX11_take_13 lX11_34 rfl e9.oo e9.r6 ?_
      refine wp_cV0 2 43 [some _] dX11_take_16 tX3_now rfl (by decide) nX3_now vX3_now lX11_101 ⟨by decide, by decide⟩ (Nat.le_of_ble_eq_true rfl) e9.hh.o (Nat.le_of_ble_eq_true rfl) rfl ?_
      refine pX3_now e9.hh e9.kb e9.od.1 e9.od.2 ?_
      intro _ _
      refine wp_iload_n dX11_take_19 rfl rfl ?_
      refine wp_iload_n dX11_take_20 rfl rfl ?_
      refine wp_cV2 1 21 [some _, some _, some _] dX11_take_21 tX8_isExample rfl (by decide) nX8_isExample vX8_isExample lX11_230 ⟨by decide, by decide⟩ (Nat.le_of_ble_eq_true rfl) e9.st.oo (Nat.le_of_ble_eq_true rfl) rfl ?_
      refine pX8_isExample e9.st hd (by omega) (fun p1 hp1 ep1 hm1 => ?_) (fun hn1 => ?_)
      · have ep1 := (nI_eq (by omega) (by omega)).mp ep1
        subst ep1
        intro _ _
        refine wp_if_eq dX11_take_24 (fun q => absurd q (by decide +kernel)) (fun _ => ?_)
        refine wp_iconst (v := (-1)) dX11_take_27 (by decide +kernel) ?_
        refine wp_ireturn dX11_take_28 rfl ?_
        first | exact h0 _ _ _ _ (fP.up (by decide) (Nat.le_refl _)) c (Or.inr ⟨_, _, cnP, Or.inl (by assumption)⟩) | exact h0 _ _ _ _ (fP.up (by decide) (Nat.le_refl _)) c (Or.inr ⟨_, _, cnP, Or.inr ⟨some (OLP b), fun res z9 => prU res z9, Or.inr ⟨_, rfl, wi9⟩⟩⟩)
      · have hn1 := ex_no (by omega) (by omega) hn1
        intro _ _
        refine wp_if_eq dX11_take_24 (fun _ => ?_) (fun q => absurd q (by decide +kernel))
        have hm0 : rM r fP0 pP = 0 := hn1
        refine wp_aload_n dX11_take_29 rfl rfl ?_
        refine wp_getR dX11_take_30 lX11_67 rfl e9.oo e9.r11 ?_
        refine wp_getR dX11_take_33 lX11_263 rfl zyP.o zyP.r3 ?_
        refine wp_iload_n dX11_take_36 rfl rfl ?_
        refine wp_laldV dX11_take_37 zyP.a3 rfl ⟨by omega, by omega⟩ ((congrFun zyP.c3 _).trans (tyvP b hbN).1.1) ?_
        refine wp_lstore (ls1 := [_, _, _, _, some _, _, _, _, _, _]) dX11_take_38 (by decide) rfl ?_
        refine wp_aload_n dX11_take_40 rfl rfl ?_
        refine wp_getR dX11_take_41 lX11_67 rfl e9.oo e9.r11 ?_
        refine wp_getR dX11_take_44 lX11_264 rfl zyP.o zyP.r4 ?_
        refine wp_iload_n dX11_take_47 rfl rfl ?_
        refine wp_laldV dX11_take_48 zyP.a4 rfl ⟨by omega, by omega⟩ ((congrFun zyP.c4 _).trans (tyvP b hbN).1.2) ?_
        refine wp_lstore (ls1 := [_, _, _, _, _, _, some _, _, _, _]) dX11_take_49 (by decide) rfl ?_
        refine wp_aload_n dX11_take_51 rfl rfl ?_
        refine wp_aload_n dX11_take_52 rfl rfl ?_
        refine wp_getR dX11_take_53 lX11_34 rfl e9.oo e9.r6 ?_
        refine wp_cV0 2 43 [some _] dX11_take_56 tX3_now rfl (by decide) nX3_now vX3_now lX11_101 ⟨by decide, by decide⟩ (Nat.le_of_ble_eq_true rfl) e9.hh.o (Nat.le_of_ble_eq_true rfl) rfl ?_
        refine pX3_now e9.hh e9.kb e9.od.1 e9.od.2 ?_
        intro _ _
        refine wp_iload_n dX11_take_59 rfl rfl ?_
        refine wp_iload_n dX11_take_60 rfl rfl ?_
        refine wp_lload dX11_take_61 rfl ?_
        refine wp_lload dX11_take_63 rfl ?_
        refine wp_cV5 2 42 [some _, some _, some _, some _, some _, none, some _, none, none, none, none, none] dX11_take_65 tX11_withinParent rfl (by decide) nX11_withinParent vX11_withinParent lX11_212 ⟨by decide, by decide⟩ (Nat.le_of_ble_eq_true rfl) e9.oo (Nat.le_of_ble_eq_true rfl) rfl ?_
        refine pX11_withinParent e9 hd (by omega) (by omega) sr9 (by omega) ob9.1 (fun wi9 => ?_) (fun wi9 => ?_)
        · intro _ _
          refine wp_if_ne dX11_take_68 (fun _ => ?_) (fun q => absurd q (by decide +kernel))
          refine wp_aload_n dX11_take_73 rfl rfl ?_
          refine wp_getR dX11_take_74 lX11_34 rfl e9.oo e9.r6 ?_
          refine wp_cV0 3 63 [some _, none, none] dX11_take_77 tX3_begin rfl (by decide) nX3_begin vX3_begin lX11_127 ⟨by decide, by decide⟩ (Nat.le_of_ble_eq_true rfl) e9.hh.o (Nat.le_of_ble_eq_true rfl) rfl ?_
          refine pX3_begin c.zh c.kb c.rg c.od.1 c.od.2 hP6 (fun hh2 o2 ho2 f2 zh2 rg2 => ?_)
          intro _ _
          obtain ⟨⟨sp9, sl9, ss9, se9, zs9, hpg9, hln9, hbs9⟩, hnn9⟩ := id rg2.st
          have zx_2 := c.zx.fr f2 (by decide)
          have kb_2 := c.kb.fr f2 (by decide) (by decide)
          have fl_2 := c.fl.fr f2 (by decide)
          have tb_2 := (tbF.of c.tw c.ti).fr f2 (by decide) (fun f9 hf9 => by simp; omega)
          refine wp_astore (ls1 := [_, _, _, _, _, _, _, _, some _, _]) dX11_take_80 (by decide) rfl ?_
          refine wp_iload_n dX11_take_82 rfl rfl ?_
          refine wp_iload_n dX11_take_83 rfl rfl ?_
          refine wp_cS2 0 0 [some _, some _] dX11_take_84 tX11_spotOf sX11_spotOf lX11_198 ⟨by decide, by decide⟩ (Nat.le_of_ble_eq_true rfl) (Nat.le_of_ble_eq_true rfl) rfl ?_
          refine pX11_spotOf ?_
          intro _ _
          refine wp_istore (ls1 := [_, _, _, _, _, _, _, _, _, some _]) dX11_take_87 (by decide) rfl ?_
          refine wp_aload dX11_take_89 rfl ?_
          refine wp_getR dX11_take_91 lX11_202 rfl zs9.o zs9.r2 ?_
          refine wp_iload dX11_take_94 rfl ?_
          refine wp_lload dX11_take_96 rfl ?_
          refine wp_lastN dX11_take_98 zs9.a2 rfl ⟨by omega, by omega⟩ ?_
          refine zs9.w2 (fun hh3 f3 zs9_3 => ?_)
          have zx_3 := zx_2.fr f3 (rnS (by first | omega | (simp only [nowR]; omega)) rn0)
          have kb_3 := kb_2.fr f3 (rnS (by first | omega | (simp only [nowR]; omega)) rn0) (rnS (by first | omega | (simp only [nowR]; omega)) rn0)
          have fl_3 := fl_2.fr f3 (rnS (by first | omega | (simp only [nowR]; omega)) rn0)
          have tb_3 := tb_2.fr f3 (rnS (by first | omega | (simp only [nowR]; omega)) rn0) (fun f9 hf9 => (rnS (by first | omega | (simp only [nowR]; omega)) rn0))
          refine wp_aload dX11_take_99 rfl ?_
          refine wp_getR dX11_take_101 lX11_205 rfl zs9_3.o zs9_3.r3 ?_
          refine wp_iload dX11_take_104 rfl ?_
          refine wp_lload dX11_take_106 rfl ?_
          refine wp_lastN dX11_take_108 zs9_3.a3 rfl ⟨by omega, by omega⟩ ?_
          refine zs9_3.w3 (fun hh4 f4 zs9_4 => ?_)
          have zx_4 := zx_3.fr f4 (rnS (by first | omega | (simp only [nowR]; omega)) rn0)
          have kb_4 := kb_3.fr f4 (rnS (by first | omega | (simp only [nowR]; omega)) rn0) (rnS (by first | omega | (simp only [nowR]; omega)) rn0)
          have fl_4 := fl_3.fr f4 (rnS (by first | omega | (simp only [nowR]; omega)) rn0)
          have tb_4 := tb_3.fr f4 (rnS (by first | omega | (simp only [nowR]; omega)) rn0) (fun f9 hf9 => (rnS (by first | omega | (simp only [nowR]; omega)) rn0))
          refine wp_aload_n dX11_take_109 rfl rfl ?_
          refine wp_cV0 1 20 [some _, none] dX11_take_110 tX11_forgetFindings rfl (by decide) nX11_forgetFindings vX11_forgetFindings lX11_120 ⟨by decide, by decide⟩ (Nat.le_of_ble_eq_true rfl) zx_4.o (Nat.le_of_ble_eq_true rfl) rfl ?_
          refine forgetAll zx_4 kb_4 tb_4 (fun hh5 f5 g5 => ?_)
          intro _ _
          have zx_5 := zx_4.fr f5 (rnS (by first | omega | (simp only [nowR]; omega)) (rnS (by first | omega | (simp only [nowR]; omega)) (rnS (by first | omega | (simp only [nowR]; omega)) (rnS (by first | omega | (simp only [nowR]; omega)) (rnS (by first | omega | (simp only [nowR]; omega)) rn0)))))
          have kb_5 := kb_4.fr f5 (rnS (by first | omega | (simp only [nowR]; omega)) (rnS (by first | omega | (simp only [nowR]; omega)) (rnS (by first | omega | (simp only [nowR]; omega)) (rnS (by first | omega | (simp only [nowR]; omega)) (rnS (by first | omega | (simp only [nowR]; omega)) rn0))))) (rnS (by first | omega | (simp only [nowR]; omega)) (rnS (by first | omega | (simp only [nowR]; omega)) (rnS (by first | omega | (simp only [nowR]; omega)) (rnS (by first | omega | (simp only [nowR]; omega)) (rnS (by first | omega | (simp only [nowR]; omega)) rn0)))))
          have fl_5 := fl_4.fr f5 (rnS (by first | omega | (simp only [nowR]; omega)) (rnS (by first | omega | (simp only [nowR]; omega)) (rnS (by first | omega | (simp only [nowR]; omega)) (rnS (by first | omega | (simp only [nowR]; omega)) (rnS (by first | omega | (simp only [nowR]; omega)) rn0)))))
          have zs9_5 := zs9_4.fr f5 (rnS (by first | omega | (simp only [nowR]; omega)) (rnS (by first | omega | (simp only [nowR]; omega)) (rnS (by first | omega | (simp only [nowR]; omega)) (rnS (by first | omega | (simp only [nowR]; omega)) (rnS (by first | omega | (simp only [nowR]; omega)) rn0)))))
          have fS := (f3.tr f4)
          have h40 := srt_40 sr9 hT40
          have hd1 : sOK (tkK r fP0 pP (OLP b) (OLP b).length) F pa my := sOK_tk hd (by omega) (by omega) hm0 (obP.1 b hbN) sr9 wi9
          have sx9 := rg2.st.marks hd zs9 fS (rnS (by first | omega | (simp only [nowR]; omega)) rn0) zs9_4 (r' := (tkK r fP0 pP (OLP b) (OLP b).length)) (fun y hy => tk_out (obP.1 b hbN) (by unfold rX; omega)) (tk_bs hd (obP.1 b hbN) (by omega) (by omega) h40 hbs9)
          have rg9 := (rg2.set ho2 (by have := c.od.2; unfold actN; split <;> omega) fS sx9).fr f5 (by decide) (fun j hj => by simp; omega)
          have FT := ((f2.up (S' := [8, 10, 11, 12, 13, 14, 20, 21, 22, 23, 24, 25, 26, 27, 28, 29, 30, 31, 32, 33, 34, 35, 36]) (by decide) (Nat.le_refl _)).tr (fS.up (ring_act _) (Nat.le_refl _))).tr (f5.up (by decide) (Nat.le_refl _))
          have c1 := c.act FT ((zh2.fr fS (rnS (by first | omega | (simp only [nowR]; omega)) rn0)).fr f5 (by decide)) rg9 ⟨ho2, by have := c.od.2; unfold actN; split <;> omega⟩ g5
          obtain ⟨⟨_, _, _, _, _, _, _, zg1⟩, ⟨_, _, _, _, _, _, _, _, zv1⟩, _⟩ := c1.cz
          have ne9 := tk_E (r := r) (f := fP0) (p := pP) (obP.1 b hbN) ob9.1 (by omega) (by omega) hP6
          refine wp_aload_n dX11_take_113 rfl rfl ?_
          refine wp_iload_n dX11_take_114 rfl rfl ?_
          refine wp_aload_n dX11_take_115 rfl rfl ?_
          refine wp_iload_n dX11_take_116 rfl rfl ?_
          refine wp_cV1 7 185 [some _, some _, none, none] dX11_take_117 tX11_whatIsLearntNow rfl (by decide) nX11_whatIsLearntNow vX11_whatIsLearntNow lX11_238 ⟨by decide, by decide⟩ (Nat.le_of_ble_eq_true rfl) c1.zx.o (Nat.le_of_ble_eq_true rfl) rfl ?_
          refine pX11_whatIsLearntNow c1.e9 hd1 zg1 c1.tw (by omega) zv1 (by omega) (Nat.pos_of_ne_zero ne9) (fun hh2 ow2 u2 q2 L2 hop2 f2q e2 tw2 gg2 vv2 co2 hl2 hb2 ln2 => ?_)
          intro _ _
          refine wp_cV2 3 63 [some _, some _, some _] dX11_take_120 tX11_keepLearnt rfl (by decide) nX11_keepLearnt vX11_keepLearnt lX11_242 ⟨by decide, by decide⟩ (Nat.le_of_ble_eq_true rfl) e2.oo (Nat.le_of_ble_eq_true rfl) rfl ?_
          obtain ⟨_, _, _, _, _, _, _, _, _, zy2⟩ := (c1.ti.fr f2q (by decide)).zy
          obtain ⟨_, _, _, _, zs2, _⟩ := id e2.st
          refine pX11_keepLearnt e2 zs2 zy2 ln2 (by omega) (fun hh3 hh4 f3q zs3 f4q zy4 => ?_)
          intro _ _
          refine wp_ireturn dX11_take_123 rfl ?_
          have hcd9 := coP_cod hd1 (show fP0 < F by omega) (fun p z => exE_tb z) co2
          exact hq pP fP0 (OLP b) L2 hop2 cnP hm0 (fun res z9 => prU res z9) wi9 co2 hl2 hd1 ne9 (obP.1 b hbN) _ _ _ _ _ ((fP.up (by decide) (Nat.le_refl _)).tr (((FT.up (by decide) (Nat.le_refl _)).tr (f2q.up (by decide) (Nat.le_refl _))).tr ((f3q.up (ring_lrn _) (Nat.le_refl _)).tr (f4q.up (by decide) (Nat.le_refl _))))) (c1.lrn hd1 (by omega) hl2 (fun k hk => hcd9 _ (gd_mem hk)) ne9 f2q tw2 gg2 vv2 ln2 zs2 f3q zs3 f4q zy4)
        · intro _ _
          refine wp_if_ne dX11_take_68 (fun q => absurd q (by decide +kernel)) (fun _ => ?_)
          refine wp_iconst (v := (-1)) dX11_take_71 (by decide +kernel) ?_
          refine wp_ireturn dX11_take_72 rfl ?_
          first | exact h0 _ _ _ _ (fP.up (by decide) (Nat.le_refl _)) c (Or.inr ⟨_, _, cnP, Or.inl (by assumption)⟩) | exact h0 _ _ _ _ (fP.up (by decide) (Nat.le_refl _)) c (Or.inr ⟨_, _, cnP, Or.inr ⟨some (OLP b), fun res z9 => prU res z9, Or.inr ⟨_, rfl, wi9⟩⟩⟩)
