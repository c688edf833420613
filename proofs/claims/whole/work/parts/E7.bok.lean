/-! ===== book ===== -/
theorem bka {ct : Nat → Nat} {rws : Nat → Nat → Int64} {k : Nat} (hk : k < 6) (h40 : ∀ p, p ≤ k → ct p ≤ 40) : rP (bkR k ct rws k) = k ∧ rP (bkR (k + 1) ct rws (k + 1)) = k + 1 ∧ (∀ y, 247 ≤ y → bkR (k + 1) ct rws (k + 1) y = bkR k ct rws k y) ∧ (∀ q, q < k → rT (bkR (k + 1) ct rws (k + 1)) q = rT (bkR k ct rws k) q ∧ ∀ j, j < rT (bkR k ct rws k) q → rW (bkR (k + 1) ct rws (k + 1)) q j = rW (bkR k ct rws k) q j) ∧ rT (bkR (k + 1) ct rws (k + 1)) k = ct k ∧ (∀ j, j < ct k → rW (bkR (k + 1) ct rws (k + 1)) k j = rws k j) ∧ ∀ p, p ≤ k → rT (bkR (k + 1) ct rws (k + 1)) p ≤ 40 := by
  obtain ⟨a1, a2, a3, a4⟩ := bkR_at (P := k) (ct := ct) (rw := rws) k (by omega)
  obtain ⟨b1, b2, b3, b4⟩ := bkR_at (P := k + 1) (ct := ct) (rw := rws) (k + 1) (by omega)
  have eA : ∀ q, q < k → rT (bkR k ct rws k) q = ct q := fun q hq => by
    show nOf (bkR k ct rws k (1 + q)) = _
    rw [a2 q (by omega), if_pos hq]; exact nOf_l (by have := h40 q (by omega); omega)
  have eB : ∀ q, q ≤ k → rT (bkR (k + 1) ct rws (k + 1)) q = ct q := fun q hq => by
    show nOf (bkR (k + 1) ct rws (k + 1) (1 + q)) = _
    rw [b2 q (by omega), if_pos (by omega)]; exact nOf_l (by have := h40 q (by omega); omega)
  refine ⟨?_, ?_, fun y hy => (b4 y hy).trans (a4 y hy).symm, fun q hq => ⟨(eB q (by omega)).trans (eA q hq).symm, fun j hj => ?_⟩, eB k (Nat.le_refl _), fun j hj => ?_, fun p hp => by rw [eB p hp]; exact h40 p hp⟩
  · show nOf (bkR k ct rws k 0) = k
    rw [a1]; exact nOf_l (by omega)
  · show nOf (bkR (k + 1) ct rws (k + 1) 0) = k + 1
    rw [b1]; exact nOf_l (by omega)
  · rw [eA q hq] at hj
    have := h40 q (by omega)
    show bkR (k + 1) ct rws (k + 1) (7 + 40 * q + j) = bkR k ct rws k (7 + 40 * q + j)
    rw [b3 q j (by omega) (by omega), a3 q j (by omega) (by omega), if_pos (by omega), if_pos hq]
  · have := h40 k (Nat.le_refl _)
    show bkR (k + 1) ct rws (k + 1) (7 + 40 * k + j) = _
    rw [b3 k j (by omega) (by omega), if_pos (by omega), if_pos hj]
theorem bk_zero {ct : Nat → Nat} {rws : Nat → Nat → Int64} : bkR 0 ct rws 0 = fun _ => 0 := by
  show up1 (fun _ => 0) 0 (lN 0) = _
  funext y
  unfold up1
  split
  · rfl
  · rfl
theorem bk_ln {ct : Nat → Nat} {rws : Nat → Nat → Int64} {k : Nat} (hk : k ≤ 6) : ∀ f, f < 4 → bkR k ct rws k (655 + 70 * f) = 1 → lrN (bkR k ct rws k) f ≤ 6 ∧ lrS (bkR k ct rws k) f 0 ≤ 40 := fun f hf e => by
  rw [(bkR_at (P := k) (ct := ct) (rw := rws) k hk).2.2.2 _ (by omega)] at e
  exact absurd e (by decide)
theorem zF.ro {ow : Nat → Nat} {h : mH} {q f : Nat} {nm : Nat → Int64} {fp mn : Nat → Int32} {pa my : Nat → Int32} (z : zF ow h q 16 nm fp mn (nI f)) (e : ∀ k, k < f → fp k = pa k ∧ mn k = my k) : flR (roN ow q 4 0) h q f pa my :=
  ⟨nm, fp, mn, ⟨z.o, roN_in (by omega), z.r0, z.a0, roN_in (by omega), z.c0, z.r1, z.a1, roN_in (by omega), z.c1, z.r2, z.a2, roN_in (by omega), z.c2, z.f3⟩, e⟩
theorem rS.ro {ow : Nat → Nat} {h : mH} {rc : Nat → Int32} {rp rf rl : Int32} {rq : Option Nat} {tp : Nat → Int32} {N a q m : Nat} (g : rS ow h rc rp rq rf rl tp N a) (hq : 191 < q) : rS (roN ow q m 0) h rc rp rq rf rl tp N a := by
  obtain ⟨w, z, e⟩ := g
  exact ⟨w, ⟨z.o, (roN_ne (by omega)).trans z.w, z.r0, z.r1, z.a1, (roN_ne (by omega)).trans z.v1, z.c1, z.f2, z.f3, z.f4, z.f5, z.f6, z.f7, z.f8, z.f9, z.f10, z.f11⟩, e⟩
theorem rwS.ro {ow : Nat → Nat} {h : mH} {P : Nat} {ct : Nat → Nat} {rws : Nat → Nat → Int64} {q m : Nat} (g : rwS ow h P ct rws) (hq : 191 < q) : rwS (roN ow q m 0) h P ct rws := ⟨fun p hp => ⟨(g.1 p hp).1, (roN_ne (by omega)).trans (g.1 p hp).2⟩, g.2⟩
theorem bxR.none {ow : Nat → Nat} {h h' : mH} {bx : Nat → Nat → Int64} {kp : Nat → Int32} (ha : hA h' 107 17 2) (hw : ow 107 = 9) (e0 : hR h' 107 0 = none) (e1 : hR h' 107 1 = none) : bxR ow h' bx (upI (upI kp 0 (vp_nar .boolean (nI 0))) 1 (vp_nar .boolean (nI 0))) := by
  have ev : vp_nar .boolean (nI 0) = 0 := by decide +kernel
  rw [ev]
  have hz : ∀ b, b < 2 → upI (upI kp 0 0) 1 0 b = 0 := fun b hb => by
    unfold upI
    by_cases c : b = 1
    · rw [if_pos c]
    · rw [if_neg c, if_pos (by omega)]
  refine ⟨ha, hw, fun b hb => ⟨fun _ => ?_, fun e => absurd (hz b hb) e⟩⟩
  rcases (by omega : b = 0 ∨ b = 1) with rfl | rfl
  · exact e0
  · exact e1
theorem bx_w {M : mM} {fr9 lo9 pc9 : Nat} {ls9 : List (Option Value)} {sk9 : List Value} {Q : Option Value → mH → Prop} {ow : Nat → Nat} {h : mH} {j : Nat} (ha : hA h 107 17 2) (hw : ow 107 = 9) (K : ∀ h', cFr [9] 0 ow h ow h' → hR h' 107 = upN (hR h 107) j none → Wp M fr9 lo9 pc9 ls9 sk9 h' Q) : Wp M fr9 lo9 pc9 ls9 sk9 (sR h 107 j none) Q := K _ (cFr_sR hw) (hR_up _ _ _ _)
theorem ring_bk (k : Nat) : ∀ x ∈ [18, 20 + k % 17], x ∈ [5, 7, 8, 10, 11, 12, 13, 14, 16, 18, 19, 20, 21, 22, 23, 24, 25, 26, 27, 28, 29, 30, 31, 32, 33, 34, 35, 36] := fun x hx => by
  have := Nat.mod_lt k (show 0 < 17 by decide)
  simp at hx ⊢
  omega
set_option maxRecDepth 20000 in
theorem book_lp {Q : Option Value → mH → Prop} : ∀ (h0 : mH) (ow0 : Nat → Nat) (P1 : Nat) (ct : Nat → Nat) (rws : Nat → Nat → Int64) (rc : Nat → Int32) (xt xf xp : Int32) (xq : Option Nat) (o : Nat) (rf rl : Int32) (rq : Option Nat) (tp : Nat → Int32) (N a9 : Nat) (zx0 : zX ow0 h0 xt xf xp xq) (kb0 : kB ow0 h0) (g0 : rS ow0 h0 rc (nI P1) rq rf rl tp N a9) (rw0 : rwS ow0 h0 P1 ct rws) (hrc : ∀ p, p < P1 → rc p = nI (ct p)) (hP1 : P1 ≤ 6) (h40 : ∀ p, p < P1 → ct p ≤ 40) (hgd : ∀ p, p < P1 → ∀ j, j < ct p → goodW (rws p j)) (n w : Nat) (hw : w + 1500 ≤ 8000000) (K : ∀ h' ow' k, cFr [18, nowR o 0] (157 * P1) ow0 h0 ow' h' → stX ow' h' (nowA o 0) (nowR o 0) (bkR P1 ct rws P1) → tbF ow' h' n (w + 157 * P1) → Wp mX11_book 6 132 94 [some (.ref 0), some (.int (nI 1)), some (.ref (nowA o 0)), some (.int (nI k))] [] h' Q) (t9 : Nat) (h1 : mH) (ow1 : Nat → Nat) (i : Nat), (i ≤ P1) → (cFr [18, nowR o 0] (157 * i) ow0 h0 ow1 h1) → (stX ow1 h1 (nowA o 0) (nowR o 0) (bkR i ct rws i)) → (tbF ow1 h1 n (w + 157 * i)) → (P1 < i + t9) → Wp mX11_book 6 132 55 [some (.ref 0), some (.int (nI 1)), some (.ref (nowA o 0)), some (.int (nI i))] [] h1 Q := by
  intro h0 ow0 P1 ct rws rc xt xf xp xq o rf rl rq tp N a9 zx0 kb0 g0 rw0 hrc hP1 h40 hgd n w hw K t9
  induction t9 with
  | zero => intros; omega
  | succ t9 ih =>
    intro h1 ow1 i hi hf1 sx1 tb1 hmz
    have zx1 := zx0.fr hf1 (rnS (by omega) (rnS (by simp only [nowR]; omega) rn0))
    have kb1 := kb0.fr hf1 (rnS (by omega) (rnS (by simp only [nowR]; omega) rn0)) (rnS (by omega) (rnS (by simp only [nowR]; omega) rn0))
    have g1 := g0.fr hf1 (rnS (by omega) (rnS (by simp only [nowR]; omega) rn0))
    have rw1 := rw0.fr hf1 (rnS (by omega) (rnS (by simp only [nowR]; omega) rn0))
    refine wp_iload_n dX11_book_55 rfl rfl ?_
    refine wp_aload_n dX11_book_56 rfl rfl ?_
    refine wp_getR dX11_book_57 lX11_27 rfl zx1.o zx1.r5 ?_
    refine wp_getIV dX11_book_60 lX11_105 rfl g1.oo g1.f2 ?_
    refine wp_icmp_geN dX11_book_63 rfl rfl ⟨by omega, by omega⟩ (fun c6 => ?_) (fun c6 => ?_)
    · have ei9 : i = P1 := by omega
      subst ei9
      exact K _ _ _ hf1 sx1 tb1
    · refine wp_aload_n dX11_book_66 rfl rfl ?_
      refine wp_aload_n dX11_book_67 rfl rfl ?_
      refine wp_getR dX11_book_68 lX11_27 rfl zx1.o zx1.r5 ?_
      refine wp_getR dX11_book_71 lX11_108 rfl g1.oo g1.r0 ?_
      refine wp_iload_n dX11_book_74 rfl rfl ?_
      refine wp_aaldJ dX11_book_75 kb1.2.2.1.1 (by decide) (by decide) rfl ⟨by omega, by omega⟩ (kb1.2.2.1.2.2 i (by omega)) ?_
      refine wp_aload_n dX11_book_76 rfl rfl ?_
      refine wp_getR dX11_book_77 lX11_27 rfl zx1.o zx1.r5 ?_
      refine wp_getR dX11_book_80 lX11_112 rfl g1.oo g1.r1 ?_
      refine wp_iload_n dX11_book_83 rfl rfl ?_
      refine wp_ialdV dX11_book_84 g1.a1 rfl ⟨by omega, by omega⟩ ((congrFun g1.c1 i).trans (hrc i (by omega))) ?_
      refine wp_cV2 3 77 [some _, some _, some _] dX11_book_85 tX8_addPage rfl (by decide) nX8_addPage vX8_addPage lX11_116 ⟨by decide, by decide⟩ (Nat.le_of_ble_eq_true rfl) sx1.1.oo (Nat.le_of_ble_eq_true rfl) rfl ?_
      have hwb1 := tb1.b
      obtain ⟨p0, p1, p2, p3, p4, p5, p6⟩ := bka (ct := ct) (rws := rws) (k := i) (by omega) (fun p hp => h40 p (by omega))
      refine pX8_addPageN p4 sx1 (by simp only [nowR]; omega) p0 (by omega) p1 (bk_ln (by omega)) p2 p3 p6 (by omega) (rw1.1 i (by omega)).1 (rw1.1 i (by omega)).2 (fun k hk => (rw1.2 i (by omega) (by omega) k hk).trans (p5 k hk).symm) (fun k hk => by rw [p5 k hk]; exact hgd i (by omega) k hk) (fun hh2 ow2 f2 sx2 => ?_)
      intro _ _
      refine wp_iinc1 (ls1 := [_, _, _, some _]) dX11_book_88 rfl (by decide) rfl ?_
      refine wp_goto dX11_book_91 ?_
      exact ih _ _ (i + 1) (by omega) ((hf1.tr f2).up (fun x hx => hx) (by omega)) sx2 (tb1.fr f2 (rnS (by omega) (rnS (by simp only [nowR]; omega) rn0)) (fun f9 hf9 => (rnS (by omega) (rnS (by simp only [nowR]; omega) rn0))) |>.up (by omega)) (by omega)
theorem ring_bk2 (k : Nat) : ∀ x ∈ [18, 20 + k % 17], x ∈ [5, 7, 8, 9, 10, 11, 12, 13, 14, 16, 18, 19, 20, 21, 22, 23, 24, 25, 26, 27, 28, 29, 30, 31, 32, 33, 34, 35, 36] := fun x hx => by
  have := Nat.mod_lt k (show 0 < 17 by decide)
  simp at hx ⊢
  omega
set_option maxRecDepth 20000 in
theorem pX11_book {h : mH} {Q : Option Value → mH → Prop} {ow : Nat → Nat} {F : Nat} {pa my : Nat → Int32} {fa o a u : Nat} {r : Nat → Int64} {pr : Nat → Nat → Int64} {bx : Nat → Nat → Int64} {kp tp : Nat → Int32} {t : Nat} {tf tl : Int32} {n w : Nat} (c : cC ow h F pa my fa o a u r pr bx kp tp t tf tl n w) (hd : sOK r F pa my) (hby : byt tp) (ht9 : t ≤ 900) (hw : w + 2000 ≤ 8000000) (he : ∀ fa1 pl1, bkL tp t 11 0 0 (fun _ => 0) (fun _ => 0) (fun _ => 0) 0 (fun _ => 0) (fun _ _ => 0) = .error (fa1, pl1) → ∀ h' ow', cFr [5, 7, 16, 19] 48 ow h ow' h' → cC ow' h' F pa my fa o a u r pr bx kp tp 0 (nI fa1) (nI pl1) n (w + 48) → Q (some (.int (-1))) h') (hq : ∀ f' rp' mn' P' ct' rw', bkL tp t 11 0 0 (fun _ => 0) (fun _ => 0) (fun _ => 0) 0 (fun _ => 0) (fun _ _ => 0) = .ok (f', rp', mn', P', ct', rw') → ∀ h' ow' fa', cFr [5, 7, 8, 9, 10, 11, 12, 13, 14, 16, 18, 19, 20, 21, 22, 23, 24, 25, 26, 27, 28, 29, 30, 31, 32, 33, 34, 35, 36] 990 ow h ow' h' → (∀ pa' my' pr', (∀ k, k < f' → rp' k = pa' k ∧ mn' k = my' k) → cC ow' h' f' pa' my' fa' o 0 0 (bkR P' ct' rw' P') pr' bx (upI (upI kp 0 (vp_nar .boolean (nI 0))) 1 (vp_nar .boolean (nI 0))) tp 0 (nI 0) (-1) n (w + 990)) → Q (some (.int (nI P'))) h') : Wp mX11_book 6 132 0 [some (.ref 0), none, none, none] [] h Q := by
  have hP6 := hd.w.1.2
  have hF4 := hd.f4
  have e9 := c.e9
  have zx0 := c.zx
  have hwb := c.tw.b
  have hsc : scrA = 1000000000 := rfl
  have h191 := (c.kb.2.2.2.1 191 (by omega) (by omega)).1
  obtain ⟨⟨_, _, _, _, _, _, _, _, _, _, _, zr0⟩, _⟩ := c.rd
  refine wp_aload_n dX11_book_0 rfl rfl ?_
  refine wp_getR dX11_book_1 lX11_27 rfl zx0.o zx0.r5 ?_
  refine wp_aload_n dX11_book_4 rfl rfl ?_
  refine wp_getR dX11_book_5 lX11_9 rfl zx0.o zx0.r0 ?_
  refine wp_aload_n dX11_book_8 rfl rfl ?_
  refine wp_getIV dX11_book_9 lX11_82 rfl zx0.o zx0.f1 ?_
  refine wp_cV2 5 109 [some _, some _, some _, none] dX11_book_12 tX7_readBook rfl (by decide) nX7_readBook vX7_readBook lX11_89 ⟨by decide, by decide⟩ (Nat.le_of_ble_eq_true rfl) zr0.o (Nat.le_of_ble_eq_true rfl) rfl ?_
  refine pX7_readBook zr0 (c.tpp.tx ht9) c.kb ⟨c.rd.2, fun p hp => absurd hp (Nat.not_lt_zero p)⟩ (by omega) (fun fa1 pl1 e1 hb1 hh1 ow1 a1 rc1 rp1 rq1 f1 g1 => ?_) (fun f9 fp9 mn9 P1 ct rws nm9 e1 hh1 owA a1 rc1 fA gA zfA rwA hrc hbk => ?_)
  · intro _ _
    have zx1 := zx0.fr f1 (by decide)
    refine wp_istore_n (ls1 := [_, some _, _, _]) dX11_book_15 rfl (by decide) rfl ?_
    refine wp_aload_n dX11_book_16 rfl rfl ?_
    refine wp_cV0 0 0 [some _] dX11_book_17 tX11_noteReading rfl (by decide) nX11_noteReading vX11_noteReading lX11_93 ⟨by decide, by decide⟩ (Nat.le_of_ble_eq_true rfl) zx1.o (Nat.le_of_ble_eq_true rfl) rfl ?_
    refine pX11_noteReading zx1 g1 (fun hh2 f2 zx2 => ?_)
    intro _ _
    have g2 := g1.fr f2 (by decide)
    have F2 : cFr [5, 7, 16, 19] 48 ow h ow1 hh2 := ((f1.up (S' := [5, 7, 16, 19]) (by decide) (Nat.le_refl _)).tr (f2.up (by decide) (Nat.le_refl _))).up (fun x hx => hx) (by omega)
    have c2 := c.read F2 zx2 g2
    refine wp_iload_n dX11_book_20 rfl rfl ?_
    refine wp_if_ne dX11_book_21 (fun q => absurd q (by decide +kernel)) (fun _ => ?_)
    refine wp_iconst (v := (-1)) dX11_book_24 (by decide +kernel) ?_
    refine wp_ireturn dX11_book_25 rfl ?_
    exact he _ _ e1 _ _ F2 c2
  · intro _ _
    have f1 := fA.roN (a := hN h) (n := 4) (ρ := 0) (Nat.le_refl _) (by omega)
    have g1 := gA.ro (q := hN h) (m := 4) (by omega)
    have rw1 := rwA.ro (q := hN h) (m := 4) (by omega)
    have fl1 := fun pa' my' e => zfA.ro (pa := pa') (my := my') e
    generalize roN owA (hN h) 4 0 = ow1 at *
    have zx1 := zx0.fr f1 (by decide)
    refine wp_istore_n (ls1 := [_, some _, _, _]) dX11_book_15 rfl (by decide) rfl ?_
    refine wp_aload_n dX11_book_16 rfl rfl ?_
    refine wp_cV0 0 0 [some _] dX11_book_17 tX11_noteReading rfl (by decide) nX11_noteReading vX11_noteReading lX11_93 ⟨by decide, by decide⟩ (Nat.le_of_ble_eq_true rfl) zx1.o (Nat.le_of_ble_eq_true rfl) rfl ?_
    refine pX11_noteReading zx1 g1 (fun hh2 f2 zx2 => ?_)
    intro _ _
    have g2 := g1.fr f2 (by decide)
    have F2 : cFr [5, 7, 16, 19] 48 ow h ow1 hh2 := ((f1.up (S' := [5, 7, 16, 19]) (by decide) (Nat.le_refl _)).tr (f2.up (by decide) (Nat.le_refl _))).up (fun x hx => hx) (by omega)
    have c2 := c.read F2 zx2 g2
    have rw2 := rw1.fr f2 (by decide)
    refine wp_iload_n dX11_book_20 rfl rfl ?_
    refine wp_if_ne dX11_book_21 (fun _ => ?_) (fun q => absurd q (by decide +kernel))
    refine wp_aload_n dX11_book_26 rfl rfl ?_
    refine wp_aload_n dX11_book_27 rfl rfl ?_
    refine wp_getR dX11_book_28 lX11_27 rfl zx2.o zx2.r5 ?_
    refine wp_getR dX11_book_31 lX11_96 rfl g2.oo g2.f3 ?_
    refine wp_putR (v := some _) dX11_book_34 lX11_20 rfl (Or.inl rfl) zx2.o ?_
    refine zx2.p4 (fun hh3 f3 zx3 => ?_)
    have g3 := g2.fr f3 (by decide)
    have rw3 := rw2.fr f3 (by decide)
    have kb3 := c2.kb.fr f3 (by decide) (by decide)
    have zh3 := c2.zh.fr f3 (by decide)
    have rg3 := c2.rg.fr f3 (by decide) (fun j hj => by simp; omega)
    have tb3 := (tbF.of c2.tw c2.ti).fr f3 (by decide) (fun f9 hf9 => by simp; omega)
    refine wp_aload_n dX11_book_37 rfl rfl ?_
    refine wp_getR dX11_book_38 lX11_34 rfl zx3.o zx3.r6 ?_
    refine wp_null dX11_book_41 ?_
    refine wp_cV1 3 63 [some _, some _] dX11_book_42 tX3_restart rfl (by decide) nX3_restart vX3_restart lX11_97 ⟨by decide, by decide⟩ (Nat.le_of_ble_eq_true rfl) zh3.o (Nat.le_of_ble_eq_true rfl) rfl ?_
    refine pX3_restartN zh3 kb3 rg3 c.od.1 c.od.2 (fun hh4 f4 zh4 rg4 => ?_)
    intro _ _
    have zx4 := zx3.fr f4 (by decide)
    have g4 := g3.fr f4 (by decide)
    have rw4 := rw3.fr f4 (by decide)
    have kb4 := kb3.fr f4 (by decide) (by decide)
    have tb4 := tb3.fr f4 (by decide) (fun f9 hf9 => by simp; omega)
    refine wp_aload_n dX11_book_45 rfl rfl ?_
    refine wp_getR dX11_book_46 lX11_34 rfl zx4.o zx4.r6 ?_
    refine wp_cV0 2 43 [some _] dX11_book_49 tX3_now rfl (by decide) nX3_now vX3_now lX11_101 ⟨by decide, by decide⟩ (Nat.le_of_ble_eq_true rfl) zh4.o (Nat.le_of_ble_eq_true rfl) rfl ?_
    refine pX3_now zh4 kb4 c.od.1 (by omega) ?_
    intro _ _
    refine wp_astore_n (ls1 := [_, _, some _, _]) dX11_book_52 rfl (by decide) rfl ?_
    refine wp_iconst (v := (nI 0)) dX11_book_53 (by decide +kernel) ?_
    refine wp_istore_n (ls1 := [_, _, _, some _]) dX11_book_54 rfl (by decide) rfl ?_
    have hP6b := hbk.2.1
    have sx4 : stX ow1 hh4 (nowA o 0) (nowR o 0) (bkR 0 ct rws 0) := by rw [bk_zero]; exact (rg4 pr).st
    have hgd := bkL_good hby _ _ _ _ _ _ _ _ _ _ _ _ _ _ _ (fun p hp => absurd hp (Nat.not_lt_zero p)) e1
    refine book_lp hh4 ow1 P1 ct rws rc1 _ _ _ _ o _ _ _ _ _ _ zx4 kb4 g4 rw4 hrc hbk.2.1 (fun p hp => (hbk.2.2.2.2.2 p hp).2) hgd n (w + 48) (by omega) (fun hh5 ow5 k5 f5 sx5 tb5 => ?_) (P1 + 1) hh4 ow1 0 (Nat.zero_le _) cFr.rf sx4 (tb4.up (by omega)) (by omega)
    have zx5 := zx4.fr f5 (rnS (by omega) (rnS (by simp only [nowR]; omega) rn0))
    have kb5 := kb4.fr f5 (rnS (by omega) (rnS (by simp only [nowR]; omega) rn0)) (rnS (by omega) (rnS (by simp only [nowR]; omega) rn0))
    have zh5 := zh4.fr f5 (rnS (by omega) (rnS (by simp only [nowR]; omega) rn0))
    have F5 := ((F2.up (S' := [5, 7, 8, 9, 10, 11, 12, 13, 14, 16, 18, 19, 20, 21, 22, 23, 24, 25, 26, 27, 28, 29, 30, 31, 32, 33, 34, 35, 36]) (by decide) (Nat.le_refl _)).tr ((f3.up (by decide) (Nat.le_refl _)).tr (f4.up (by decide) (Nat.le_refl _)))).tr (f5.up (ring_bk2 _) (Nat.le_refl _))
    have ba5 := F5.a c.bxx.1
    have bw5 := (F5.w c.bxx.1.1).trans c.bxx.2.1
    refine wp_iconst (v := (nI 0)) dX11_book_94 (by decide +kernel) ?_
    refine wp_istore_n (ls1 := [_, _, _, some _]) dX11_book_95 rfl (by decide) rfl ?_
    refine wp_iload_n dX11_book_96 rfl rfl ?_
    refine wp_iconst (v := (nI 2)) dX11_book_97 (by decide +kernel) ?_
    refine wp_icmp_ge dX11_book_98 (fun q => absurd q (by decide +kernel)) (fun _ => ?_)
    refine wp_aload_n dX11_book_101 rfl rfl ?_
    refine wp_getR dX11_book_102 lX11_40 rfl zx5.o zx5.r7 ?_
    refine wp_iload_n dX11_book_105 rfl rfl ?_
    refine wp_null dX11_book_106 ?_
    refine wp_aastNJ dX11_book_107 ba5 (by decide) (by decide) rfl ⟨by omega, by omega⟩ ?_
    refine bx_w ba5 bw5 (fun hh6 f6 er6 => ?_)
    have ba6 := f6.a ba5
    have bw6 := bw5
    have zx6 := zx5.fr f6 (by decide)
    have kb6 := kb5.fr f6 (by decide) (by decide)
    have zh6 := zh5.fr f6 (by decide)
    have sx6 := sx5.fr f6 (by decide) (rnS (by simp only [nowR]; omega) rn0)
    have tb6 := tb5.fr f6 (by decide) (fun f9 hf9 => rnS (by omega) rn0)
    refine wp_iinc1 (ls1 := [_, _, _, some _]) dX11_book_108 rfl (by decide) rfl ?_
    refine wp_goto dX11_book_111 ?_
    refine wp_iload_n dX11_book_96 rfl rfl ?_
    refine wp_iconst (v := (nI 2)) dX11_book_97 (by decide +kernel) ?_
    refine wp_icmp_ge dX11_book_98 (fun q => absurd q (by decide +kernel)) (fun _ => ?_)
    refine wp_aload_n dX11_book_101 rfl rfl ?_
    refine wp_getR dX11_book_102 lX11_40 rfl zx6.o zx6.r7 ?_
    refine wp_iload_n dX11_book_105 rfl rfl ?_
    refine wp_null dX11_book_106 ?_
    refine wp_aastNJ dX11_book_107 ba6 (by decide) (by decide) rfl ⟨by omega, by omega⟩ ?_
    refine bx_w ba6 bw6 (fun hh7 f7 er7 => ?_)
    have ba7 := f7.a ba6
    have bw7 := bw6
    have zx7 := zx6.fr f7 (by decide)
    have kb7 := kb6.fr f7 (by decide) (by decide)
    have zh7 := zh6.fr f7 (by decide)
    have sx7 := sx6.fr f7 (by decide) (rnS (by simp only [nowR]; omega) rn0)
    have tb7 := tb6.fr f7 (by decide) (fun f9 hf9 => rnS (by omega) rn0)
    refine wp_iinc1 (ls1 := [_, _, _, some _]) dX11_book_108 rfl (by decide) rfl ?_
    refine wp_goto dX11_book_111 ?_
    refine wp_iload_n dX11_book_96 rfl rfl ?_
    refine wp_iconst (v := (nI 2)) dX11_book_97 (by decide +kernel) ?_
    refine wp_icmp_ge dX11_book_98 (fun _ => ?_) (fun q => absurd (by decide +kernel) q)
    refine wp_aload_n dX11_book_114 rfl rfl ?_
    refine wp_cV0 1 20 [some _, none] dX11_book_115 tX11_forgetFindings rfl (by decide) nX11_forgetFindings vX11_forgetFindings lX11_120 ⟨by decide, by decide⟩ (Nat.le_of_ble_eq_true rfl) zx7.o (Nat.le_of_ble_eq_true rfl) rfl ?_
    refine forgetAll zx7 kb7 (tb7.up (w' := w + 990) (by omega)) (fun hh8 f8 g8 => ?_)
    intro _ _
    have sx8 := sx7.fr f8 (by decide) (rnS (by simp only [nowR]; omega) (rnS (by simp only [nowR]; omega) (rnS (by simp only [nowR]; omega) (rnS (by simp only [nowR]; omega) (rnS (by simp only [nowR]; omega) rn0)))))
    refine wp_aload_n dX11_book_118 rfl rfl ?_
    refine wp_getIV dX11_book_119 lX11_123 rfl sx8.1.oo sx8.1.f4 ?_
    refine wp_ireturn dX11_book_122 rfl ?_
    have hP9 : rP (bkR P1 ct rws P1) = P1 := by
      show nOf (bkR P1 ct rws P1 0) = P1
      rw [(bkR_at P1 hbk.2.1).1]; exact nOf_l (by have := hbk.2.1; omega)
    rw [hP9]
    have F8 := (F5.tr ((f6.up (by decide) (Nat.le_refl _)).tr (f7.up (by decide) (Nat.le_refl _)))).tr (f8.up (by decide) (Nat.le_refl _))
    have F58 := (((f3.up (S' := [5, 7, 8, 9, 10, 11, 12, 13, 14, 16, 18, 19, 20, 21, 22, 23, 24, 25, 26, 27, 28, 29, 30, 31, 32, 33, 34, 35, 36]) (by decide) (Nat.le_refl _)).tr (f4.up (by decide) (Nat.le_refl _))).tr (f5.up (ring_bk2 _) (Nat.le_refl _))).tr (((f6.up (by decide) (Nat.le_refl _)).tr (f7.up (by decide) (Nat.le_refl _))).tr (f8.up (by decide) (Nat.le_refl _)))
    have fR : cFr [8, 10, 11, 12, 13, 14, 18, 20, 21, 22, 23, 24, 25, 26, 27, 28, 29, 30, 31, 32, 33, 34, 35, 36] _ ow1 hh4 ow5 hh5 := f5.up (ring_pg _) (Nat.le_refl _)
    have f67 := ((f6.up (S' := [9, 10, 11, 12, 13, 14]) (by decide) (Nat.le_refl _)).tr (f7.up (by decide) (Nat.le_refl _))).tr (f8.up (by decide) (Nat.le_refl _))
    have er0 : hR hh8 107 0 = none ∧ hR hh8 107 1 = none := by
      have e8 := (f8.s ba7.1 bw7 (by decide)).2.2
      rw [e8, er7, er6]
      exact ⟨rfl, rfl⟩
    refine hq _ _ _ _ _ _ e1 _ _ (hN h) (F8.up (fun x hx => hx) (by omega)) (fun pa' my' pr' hpm => ?_)
    have fl8 := (((((fl1 pa' my' hpm).fr f2 (by decide)).fr f3 (by decide)).fr f4 (by decide)).fr f5 (rnS (by omega) (rnS (by simp only [nowR]; omega) rn0))).fr f67 (by decide)
    have rgz : ∀ j, j < 17 → ∃ sp sl ss se sc, zS ow5 hh8 (22 + 5 * j) (20 + j) sp sl ss se sc := fun j hj => by
      by_cases cj : j = (o + 0) % 17
      · subst cj; obtain ⟨⟨sp, sl, ss, se, z, _⟩, _⟩ := sx8; exact ⟨sp, sl, ss, se, _, z⟩
      · obtain ⟨sp, sl, ss, se, sc, z⟩ := (rg4 pr).1 j hj
        exact ⟨sp, sl, ss, se, sc, (z.fr f5 (rnS (by omega) (rnS (by simp only [nowR]; omega) rn0))).fr f67 (by simp; omega)⟩
    exact ⟨zx7.fr f8 (by decide), zh7.fr f8 (by decide), kb7.fr f8 (by decide) (by decide), fl8, rgR.one rgz sx8, ⟨c.od.1, by omega⟩, bxR.none (h := h) (f8.a ba7) bw7 er0.1 er0.2, ⟨F8.a c.tpp.1, (F8.w c.tpp.1.1).trans c.tpp.2.1, fun j hj => absurd hj (Nat.not_lt_zero j)⟩, ((g4.fr f5 (rnS (by omega) (rnS (by simp only [nowR]; omega) rn0))).fr f67 (by decide)).rd (fun p hp => ⟨F8.a (c.rd.2 p hp).1, (F8.w (c.rd.2 p hp).1.1).trans (c.rd.2 p hp).2⟩), c.cz.fr F8 (by decide) (by decide) (by decide) (by decide), (g8 _ _ _ _).1, (g8 _ _ _ _).2⟩
