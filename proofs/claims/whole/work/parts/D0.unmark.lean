/-! ===== unmark ===== -/
section
variable {r : Nat → Int64} {F : Nat} {pa my : Nat → Int32} {f0 p : Nat}
theorem um_lo (hd : sOK r F pa my) (hf : f0 < F) : ∀ g, g ≤ f0 → umR r pa f0 p g = r ∧ umN r pa f0 p g = 0
  | 0, _ => ⟨rfl, rfl⟩
  | g + 1, h => by
    have ih := um_lo hd hf g (by omega)
    have hu : und pa g f0 = false := by
      cases z : und pa g f0 with
      | false => rfl
      | true => have := und_le hd g f0 (by omega) z; omega
    unfold umR umN
    rw [hu]
    exact ih
theorem um_1 {g : Nat} (h : und pa g f0 = true) : umR r pa f0 p (g + 1) = zr (umR r pa f0 p g) (rX g p) 17 ∧ umN r pa f0 p (g + 1) = umN r pa f0 p g + rM r g p := ⟨if_pos h, if_pos h⟩
theorem um_0 {g : Nat} (h : und pa g f0 = false) : umR r pa f0 p (g + 1) = umR r pa f0 p g ∧ umN r pa f0 p (g + 1) = umN r pa f0 p g := ⟨if_neg (by rw [h]; decide), if_neg (by rw [h]; decide)⟩
theorem um_at (hd : sOK r F pa my) (hp : p < 6) {g : Nat} (hg : g < 4) : mkL (umR r pa f0 p g) g p = mkL r g p := by
  have hM := (hd.w.2.2 g p hg hp).1.2
  exact mkL_cg (congrArg nOf (umR_ge g (Nat.le_refl _))) (fun i hi => ⟨congrArg nOf (umR_ge g (by omega)), congrArg nOf (umR_ge g (by omega))⟩)
theorem um_bs {ss se : Nat → Int64} {g : Nat} (hd : sOK r F pa my) (hp : p < 6) (hg : g < 4) (hu : und pa g f0 = true) (hb : ∀ f p', f < 4 → p' < 6 → ss (6 * f + p') = lN (bsA (mkL (umR r pa f0 p g) f p')) ∧ se (6 * f + p') = lN (bsE (mkL (umR r pa f0 p g) f p'))) : ∀ f p', f < 4 → p' < 6 → up1 ss (6 * g + p) 0 (6 * f + p') = lN (bsA (mkL (umR r pa f0 p (g + 1)) f p')) ∧ up1 se (6 * g + p) 0 (6 * f + p') = lN (bsE (mkL (umR r pa f0 p (g + 1)) f p')) := fun f p' hf hp' => by
  rw [(um_1 hu).1]
  by_cases c : f = g ∧ p' = p
  · obtain ⟨rfl, rfl⟩ := c
    have e : mkL (zr (umR r pa f0 p' f) (rX f p') 17) f p' = [] := by
      have e0 : rM (zr (umR r pa f0 p' f) (rX f p') 17) f p' = 0 := by
        show nOf (zr _ _ _ (rX f p')) = 0
        rw [show zr (umR r pa f0 p' f) (rX f p') 17 (rX f p') = 0 from if_pos (by omega)]
        rfl
      rw [← List.length_eq_zero_iff, mkL_len]
      exact e0
    rw [up1_at, up1_at, e]
    exact ⟨rfl, rfl⟩
  · have hne : 6 * f + p' ≠ 6 * g + p := by omega
    rw [up1_ne hne, up1_ne hne]
    obtain ⟨h1, h2⟩ := rX_oth (r := umR r pa f0 p g) (r' := zr (umR r pa f0 p g) (rX g p) 17) (fun y hy => if_neg (by omega)) hp hp' c
    have hM := ((umR_WF (pa := pa) (f0 := f0) (p := p) hd.w g).2.2 f p' hf hp').1.2
    rw [mkL_cg h1.2 (fun i hi => ⟨(h2 i (by omega)).1.2, (h2 i (by omega)).2.2⟩)]
    exact hb f p' hf hp'
theorem um_out (hd : sOK r F pa my) (hp : p < 6) {y : Nat} (hy : y < 247 ∨ 655 ≤ y) : umR r pa f0 p F y = r y := umR_at F y (fun f hf _ z => by
  have := hd.f4
  unfold rX at z
  omega)
theorem umN_le (hd : sOK r F pa my) (hp : p < 6) : ∀ g, g ≤ 4 → umN r pa f0 p g ≤ 8 * g
  | 0, _ => Nat.le_refl _
  | g + 1, h => by
    have ih := umN_le hd hp g (by omega)
    have hM := (hd.w.2.2 g p (by omega) hp).1.2
    unfold umN
    split <;> omega
end
set_option maxRecDepth 20000 in
theorem umC_loop {Q : Option Value → mH → Prop} {hb : mH} {ow : Nat → Nat} {F : Nat} {pa my : Nat → Int32} {fa o a : Nat} {r : Nat → Int64} {t : Nat} {tf tl : Int32} {o9 p f0 : Nat} {sp9 sl9 : Nat → Option Nat} {ss9 se9 : Nat → Int64} {sc9 : Int32} (hd : sOK r F pa my) (hp : p < rP r) (hf : f0 < F) (zxb : zX ow hb (nI t) tf tl (some fa)) (flb : flR ow hb fa F pa my) (zb : zS ow hb (nowA o9 (actN a)) (nowR o9 (actN a)) sp9 sl9 ss9 se9 sc9) (hbb : ∀ f p, f < 4 → p < 6 → ss9 (6 * f + p) = lN (bsA (mkL r f p)) ∧ se9 (6 * f + p) = lN (bsE (mkL r f p))) (K9 : ∀ l7 ss1 se1 h1, cFr [(nowR o9 (actN a))] 0 ow hb ow h1 → zS ow h1 (nowA o9 (actN a)) (nowR o9 (actN a)) sp9 sl9 ss1 se1 sc9 → (∀ f p', f < 4 → p' < 6 → ss1 (6 * f + p') = lN (bsA (mkL (umR r pa f0 p F) f p')) ∧ se1 (6 * f + p') = lN (bsE (mkL (umR r pa f0 p F) f p'))) → Wp mX11_unmark 4 85 121 [some (.ref 0), some (.int (nI p)), some (.int (nI f0)), some (.ref (nowA o a)), some (.ref (nowA o9 (actN a))), some (.int (nI (umN r pa f0 p F))), some (.int (nI F)), l7] [] h1 Q) : Wp mX11_unmark 4 85 45 [some (.ref 0), some (.int (nI p)), some (.int (nI f0)), some (.ref (nowA o a)), some (.ref (nowA o9 (actN a))), some (.int (nI 0)), some (.int (nI f0)), none] [] hb Q := by
  have hP6 := hd.w.1.2
  have hF4 := hd.f4
  have hlp : ∀  (t9 : Nat) (g : Nat) (l7 : Option Value) (ss1 : Nat → Int64) (se1 : Nat → Int64) (h1 : mH), (g ≤ F) → (cFr [(nowR o9 (actN a))] 0 ow hb ow h1) → (zS ow h1 (nowA o9 (actN a)) (nowR o9 (actN a)) sp9 sl9 ss1 se1 sc9) → (∀ f p', f < 4 → p' < 6 → ss1 (6 * f + p') = lN (bsA (mkL (umR r pa f0 p g) f p')) ∧ se1 (6 * f + p') = lN (bsE (mkL (umR r pa f0 p g) f p'))) → (F < g + t9) → Wp mX11_unmark 4 85 45 [some (.ref 0), some (.int (nI p)), some (.int (nI f0)), some (.ref (nowA o a)), some (.ref (nowA o9 (actN a))), some (.int (nI (umN r pa f0 p g))), some (.int (nI g)), l7] [] h1 Q := by
    intro t9
    induction t9 with
    | zero => intros; omega
    | succ t9 ih =>
      intro g l7 ss1 se1 h1 hg hf1 z1 hb1 hmz
      have zx1 := zxb.fr hf1 (rnS (by first | omega | (simp only [nowR]; omega)) rn0)
      have fl1 := flb.fr hf1 (rnS (by first | omega | (simp only [nowR]; omega)) rn0)
      refine wp_iload dX11_unmark_45 rfl ?_
      refine wp_aload_n dX11_unmark_47 rfl rfl ?_
      refine wp_getR dX11_unmark_48 lX11_20 rfl zx1.o zx1.f4 ?_
      refine wp_getIV dX11_unmark_51 lX11_234 rfl fl1.oo fl1.f3 ?_
      refine wp_icmp_geN dX11_unmark_54 rfl rfl ⟨by omega, by omega⟩ (fun c2 => ?_) (fun c2 => ?_)
      · have eg9 : g = F := by omega
        subst eg9
        exact K9 _ _ _ _ hf1 z1 hb1
      · refine wp_aload_n dX11_unmark_57 rfl rfl ?_
        refine wp_getR dX11_unmark_58 lX11_20 rfl zx1.o zx1.f4 ?_
        refine wp_iload dX11_unmark_61 rfl ?_
        refine wp_cV1 1 21 [some _, some _, none, none, none] dX11_unmark_63 tX1_lineOf rfl (by decide) nX1_lineOf vX1_lineOf lX11_235 ⟨by decide, by decide⟩ (Nat.le_of_ble_eq_true rfl) fl1.oo (Nat.le_of_ble_eq_true rfl) rfl ?_
        refine pX1_lineOf fl1 hd (by omega) ?_
        intro _ _
        refine wp_iload_n dX11_unmark_66 rfl rfl ?_
        refine wp_ishr dX11_unmark_67 ?_
        refine wp_iconst (v := (nI 1)) dX11_unmark_68 (by decide +kernel) ?_
        refine wp_iand dX11_unmark_69 ?_
        rw [bitI (by have := chF_lt hd 4 g (by omega); omega) (by omega), chF_tb]
        cases hu9 : und pa g f0 with
        | false =>
          rw [show undF pa 4 g f0 = false from hu9]
          refine wp_if_eq dX11_unmark_70 (fun _ => ?_) (fun q => absurd rfl q)
          refine wp_iinc1 (ls1 := [_, _, _, _, _, _, some _, _]) dX11_unmark_115 rfl (by decide) rfl ?_
          refine wp_goto dX11_unmark_118 ?_
          have hn9 := (um_0 (r := r) (p := p) hu9).2
          rw [← hn9]
          exact ih (g + 1) _ _ _ _ (by omega) hf1 z1 (by rw [(um_0 hu9).1]; exact hb1) (by omega)
        | true =>
          rw [show undF pa 4 g f0 = true from hu9]
          refine wp_if_eq dX11_unmark_70 (fun q => absurd q (by decide +kernel)) (fun _ => ?_)
          refine wp_iload_n dX11_unmark_73 rfl rfl ?_
          refine wp_iload dX11_unmark_74 rfl ?_
          refine wp_cS2 0 0 [some _, some _] dX11_unmark_76 tX11_spotOf sX11_spotOf lX11_198 ⟨by decide, by decide⟩ (Nat.le_of_ble_eq_true rfl) (Nat.le_of_ble_eq_true rfl) rfl ?_
          refine pX11_spotOf ?_
          intro _ _
          refine wp_istore (ls1 := [_, _, _, _, _, _, _, some _]) dX11_unmark_79 (by decide) rfl ?_
          refine wp_iload dX11_unmark_81 rfl ?_
          refine wp_aload dX11_unmark_83 rfl ?_
          refine wp_getR dX11_unmark_85 lX11_202 rfl z1.o z1.r2 ?_
          refine wp_iload dX11_unmark_88 rfl ?_
          refine wp_laldV dX11_unmark_90 z1.a2 rfl ⟨by omega, by omega⟩ ((congrFun z1.c2 _).trans ((hb1 g p (by omega) (by omega)).1.trans (by rw [um_at hd (show p < 6 by omega) (show g < 4 by omega)]))) ?_
          refine wp_cS1 0 0 [some _, none] dX11_unmark_91 tJ13_bitCount_95d88 sJ13_bitCount_95d88 lX11_216 ⟨by decide, by decide⟩ (Nat.le_of_ble_eq_true rfl) (Nat.le_of_ble_eq_true rfl) rfl ?_
          refine pJ13_bitCount_95d88 (n := bsA (mkL r g p)) (Nat.lt_trans (bsA_lt hd (by omega) (by omega)).1 (by decide)) ?_
          intro _ _
          rw [pop_mk hd (by omega) (by omega)]
          refine wp_iadd dX11_unmark_94 ?_
          rw [nI_add]
          refine wp_istore (ls1 := [_, _, _, _, _, some _, _, _]) dX11_unmark_95 (by decide) rfl ?_
          refine wp_aload dX11_unmark_97 rfl ?_
          refine wp_getR dX11_unmark_99 lX11_202 rfl z1.o z1.r2 ?_
          refine wp_iload dX11_unmark_102 rfl ?_
          refine wp_lconst (v := 0) dX11_unmark_104 (by decide +kernel) ?_
          refine wp_lastN dX11_unmark_105 z1.a2 rfl ⟨by omega, by omega⟩ ?_
          refine z1.w2 (fun hh1 f1 z1_1 => ?_)
          have zx1_1 := zx1.fr f1 (rnS (by first | omega | (simp only [nowR]; omega)) rn0)
          have fl1_1 := fl1.fr f1 (rnS (by first | omega | (simp only [nowR]; omega)) rn0)
          refine wp_aload dX11_unmark_106 rfl ?_
          refine wp_getR dX11_unmark_108 lX11_205 rfl z1_1.o z1_1.r3 ?_
          refine wp_iload dX11_unmark_111 rfl ?_
          refine wp_lconst (v := 0) dX11_unmark_113 (by decide +kernel) ?_
          refine wp_lastN dX11_unmark_114 z1_1.a3 rfl ⟨by omega, by omega⟩ ?_
          refine z1_1.w3 (fun hh2 f2 z1_2 => ?_)
          have zx1_2 := zx1_1.fr f2 (rnS (by first | omega | (simp only [nowR]; omega)) rn0)
          have fl1_2 := fl1_1.fr f2 (rnS (by first | omega | (simp only [nowR]; omega)) rn0)
          refine wp_iinc1 (ls1 := [_, _, _, _, _, _, some _, _]) dX11_unmark_115 rfl (by decide) rfl ?_
          refine wp_goto dX11_unmark_118 ?_
          have hn9 := (um_1 (r := r) (p := p) hu9).2
          rw [← hn9]
          exact ih (g + 1) _ _ _ _ (by omega) ((hf1.tr f1).tr f2) z1_2 (um_bs hd (by omega) (by omega) hu9 hb1) (by omega)
  have w9 := hlp (F + 1) f0 none ss9 se9 hb (by omega) cFr.rf zb (by rw [(um_lo hd hf f0 (Nat.le_refl _)).1]; exact hbb) (by omega)
  rw [(um_lo hd hf f0 (Nat.le_refl _)).2] at w9
  exact w9
theorem ex_no2 {r : Nat → Int64} {f p : Nat} {x : Int32} (h6 : rP r ≤ 6) (hp : p < rP r) (e : x = nI p) (h : ix x (rP r) = none ∨ ∃ p', p' < rP r ∧ x = nI p' ∧ rM r f p' = 0) : rM r f p = 0 := by
  subst e
  exact ex_no hp h6 h
set_option maxRecDepth 20000 in
theorem pX11_unmark {h : mH} {Q : Option Value → mH → Prop} {ow : Nat → Nat} {F : Nat} {pa my : Nat → Int32} {fa o a u : Nat} {r : Nat → Int64} {pr : Nat → Nat → Int64} {bx : Nat → Nat → Int64} {kp tp : Nat → Int32} {t : Nat} {tf tl : Int32} {n w : Nat} {x y : Int32} (c : cC ow h F pa my fa o a u r pr bx kp tp t tf tl n w) (hd : sOK r F pa my) (h0 : (∀ p f, p < rP r → f < F → x = nI p → y = nI f → rM r f p = 0) → Q (some (.int (-1))) h) (h1 : ∀ p f, p < rP r → f < F → x = nI p → y = nI f → 0 < rM r f p → ∀ h' o', cFr [8, 10, 11, 12, 13, 14, 20, 21, 22, 23, 24, 25, 26, 27, 28, 29, 30, 31, 32, 33, 34, 35, 36] 0 ow h ow h' → cC ow h' F pa my fa o' (actN a) 0 (umR r pa f p F) (actP pr r a) bx kp tp t tf tl n w → Q (some (.int (nI (umN r pa f p F)))) h') : Wp mX11_unmark 4 85 0 [some (.ref 0), some (.int x), some (.int y), none, none, none, none, none] [] h Q := by
  have hP6 := hd.w.1.2
  have hF4 := hd.f4
  have e9 := c.e9
  refine wp_aload_n dX11_unmark_0 rfl rfl ?_
  refine wp_getR dX11_unmark_1 lX11_34 rfl e9.oo e9.r6 ?_
  refine wp_cV0 2 43 [some _] dX11_unmark_4 tX3_now rfl (by decide) nX3_now vX3_now lX11_101 ⟨by decide, by decide⟩ (Nat.le_of_ble_eq_true rfl) e9.hh.o (Nat.le_of_ble_eq_true rfl) rfl ?_
  refine pX3_now e9.hh e9.kb e9.od.1 e9.od.2 ?_
  intro _ _
  refine wp_astore_n (ls1 := [_, _, _, some _, _, _, _, _]) dX11_unmark_7 rfl (by decide) rfl ?_
  refine wp_aload_n dX11_unmark_8 rfl rfl ?_
  refine wp_getR dX11_unmark_9 lX11_20 rfl e9.oo e9.f4 ?_
  refine wp_iload_n dX11_unmark_12 rfl rfl ?_
  refine wp_cV1 0 0 [some _, some _] dX11_unmark_13 tX1_has rfl (by decide) nX1_has vX1_has lX11_139 ⟨by decide, by decide⟩ (Nat.le_of_ble_eq_true rfl) e9.fl.oo (Nat.le_of_ble_eq_true rfl) rfl ?_
  refine pX1_has e9.fl hF4 (fun f1 hf1 ef1 => ?_) (fun xn1 => ?_)
  · subst ef1
    intro _ _
    refine wp_if_eq dX11_unmark_16 (fun q => absurd q (by decide +kernel)) (fun _ => ?_)
    refine wp_aload_n dX11_unmark_19 rfl rfl ?_
    refine wp_iload_n dX11_unmark_20 rfl rfl ?_
    refine wp_iload_n dX11_unmark_21 rfl rfl ?_
    refine wp_cV2 1 21 [some _, some _, some _] dX11_unmark_22 tX8_isExample rfl (by decide) nX8_isExample vX8_isExample lX11_230 ⟨by decide, by decide⟩ (Nat.le_of_ble_eq_true rfl) e9.st.oo (Nat.le_of_ble_eq_true rfl) rfl ?_
    refine pX8_isExample e9.st hd (by omega) (fun p2 hp2 ep2 hm2 => ?_) (fun hn2 => ?_)
    · subst ep2
      intro _ _
      refine wp_if_ne dX11_unmark_25 (fun _ => ?_) (fun q => absurd q (by decide +kernel))
      refine wp_aload_n dX11_unmark_30 rfl rfl ?_
      refine wp_getR dX11_unmark_31 lX11_34 rfl e9.oo e9.r6 ?_
      refine wp_cV0 3 63 [some _, none, none] dX11_unmark_34 tX3_begin rfl (by decide) nX3_begin vX3_begin lX11_127 ⟨by decide, by decide⟩ (Nat.le_of_ble_eq_true rfl) e9.hh.o (Nat.le_of_ble_eq_true rfl) rfl ?_
      refine pX3_begin c.zh c.kb c.rg c.od.1 c.od.2 hP6 (fun hh3 o3 ho3 f3 zh3 rg3 => ?_)
      intro _ _
      obtain ⟨⟨sp9, sl9, ss9, se9, zs9, hpg9, hln9, hbs9⟩, hnn9⟩ := id rg3.st
      have zx_3 := c.zx.fr f3 (by decide)
      have kb_3 := c.kb.fr f3 (by decide) (by decide)
      have fl_3 := c.fl.fr f3 (by decide)
      have tb_3 := (tbF.of c.tw c.ti).fr f3 (by decide) (fun f9 hf9 => by simp; omega)
      refine wp_astore (ls1 := [_, _, _, _, some _, _, _, _]) dX11_unmark_37 (by decide) rfl ?_
      refine wp_iconst (v := (nI 0)) dX11_unmark_39 (by decide +kernel) ?_
      refine wp_istore (ls1 := [_, _, _, _, _, some _, _, _]) dX11_unmark_40 (by decide) rfl ?_
      refine wp_iload_n dX11_unmark_42 rfl rfl ?_
      refine wp_istore (ls1 := [_, _, _, _, _, _, some _, _]) dX11_unmark_43 (by decide) rfl ?_
      refine umC_loop hd (by omega) (by omega) zx_3 fl_3 zs9 hbs9 (fun l7 ss1 se1 hS1 fS z1 hb1 => ?_)
      have zx1 := zx_3.fr fS (rnS (by first | omega | (simp only [nowR]; omega)) rn0)
      have kb1 := kb_3.fr fS (rnS (by first | omega | (simp only [nowR]; omega)) rn0) (rnS (by first | omega | (simp only [nowR]; omega)) rn0)
      have tb1 := tb_3.fr fS (rnS (by first | omega | (simp only [nowR]; omega)) rn0) (fun f9 hf9 => rnS (by first | omega | (simp only [nowR]; omega)) rn0)
      refine wp_aload_n dX11_unmark_121 rfl rfl ?_
      refine wp_cV0 1 20 [some _, none] dX11_unmark_122 tX11_forgetFindings rfl (by decide) nX11_forgetFindings vX11_forgetFindings lX11_120 ⟨by decide, by decide⟩ (Nat.le_of_ble_eq_true rfl) zx1.o (Nat.le_of_ble_eq_true rfl) rfl ?_
      refine forgetAll zx1 kb1 tb1 (fun hh71 f71 g71 => ?_)
      intro _ _
      have zx1_71 := zx1.fr f71 (rnS (by first | omega | (simp only [nowR]; omega)) (rnS (by first | omega | (simp only [nowR]; omega)) (rnS (by first | omega | (simp only [nowR]; omega)) (rnS (by first | omega | (simp only [nowR]; omega)) (rnS (by first | omega | (simp only [nowR]; omega)) rn0)))))
      have kb1_71 := kb1.fr f71 (rnS (by first | omega | (simp only [nowR]; omega)) (rnS (by first | omega | (simp only [nowR]; omega)) (rnS (by first | omega | (simp only [nowR]; omega)) (rnS (by first | omega | (simp only [nowR]; omega)) (rnS (by first | omega | (simp only [nowR]; omega)) rn0))))) (rnS (by first | omega | (simp only [nowR]; omega)) (rnS (by first | omega | (simp only [nowR]; omega)) (rnS (by first | omega | (simp only [nowR]; omega)) (rnS (by first | omega | (simp only [nowR]; omega)) (rnS (by first | omega | (simp only [nowR]; omega)) rn0)))))
      refine wp_iload dX11_unmark_125 rfl ?_
      refine wp_ireturn dX11_unmark_127 rfl ?_
      have sx9 := rg3.st.marks hd zs9 fS (rnS (by first | omega | (simp only [nowR]; omega)) rn0) z1 (r' := umR r pa f1 p2 F) (fun y hy => um_out hd (by omega) hy) hb1
      have rg9 := (rg3.set ho3 (by have := c.od.2; unfold actN; split <;> omega) fS sx9).fr f71 (by decide) (fun j hj => by simp; omega)
      exact h1 _ _ (by omega) (by omega) rfl rfl (by omega) _ _ (((f3.up (by decide) (Nat.le_refl _)).tr (fS.up (ring_act _) (Nat.le_refl _))).tr (f71.up (by decide) (Nat.le_refl _))) (c.act (((f3.up (by decide) (Nat.le_refl _)).tr (fS.up (ring_act _) (Nat.le_refl _))).tr (f71.up (by decide) (Nat.le_refl _))) ((zh3.fr fS (rnS (by first | omega | (simp only [nowR]; omega)) rn0)).fr f71 (by decide)) rg9 ⟨ho3, by have := c.od.2; unfold actN; split <;> omega⟩ g71)
    · intro _ _
      refine wp_if_ne dX11_unmark_25 (fun q => absurd q (by decide +kernel)) (fun _ => ?_)
      refine wp_iconst (v := (-1)) dX11_unmark_28 (by decide +kernel) ?_
      refine wp_ireturn dX11_unmark_29 rfl ?_
      exact h0 (fun p9 f9 hp9 hf9 ex9 ey9 => by
        obtain rfl := (nI_eq (by omega) (by omega)).mp ey9
        exact ex_no2 hP6 hp9 ex9 hn2)
  · intro _ _
    refine wp_if_eq dX11_unmark_16 (fun _ => ?_) (fun q => absurd q (by decide +kernel))
    refine wp_iconst (v := (-1)) dX11_unmark_28 (by decide +kernel) ?_
    refine wp_ireturn dX11_unmark_29 rfl ?_
    exact h0 (fun p9 f9 hp9 hf9 _ ey9 => absurd xn1 (by rw [ey9, ix_nI (by omega) (by omega)]; exact fun z => by cases z))
