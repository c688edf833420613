/-! ===== page ===== -/
section RSF2
variable {ow : Nat → Nat} {h : mH} {rc : Nat → Int32} {rp rf rl : Int32} {rq : Option Nat} {tp : Nat → Int32} {N a : Nat}
theorem rS.a1 (g : rS ow h rc rp rq rf rl tp N a) : hA h 14 14 6 := by obtain ⟨w, z, e⟩ := g; exact z.a1
theorem rS.c1 (g : rS ow h rc rp rq rf rl tp N a) : hI h 14 = rc := by obtain ⟨w, z, e⟩ := g; exact z.c1
theorem rS.rd (g : rS ow h rc rp rq rf rl tp N a) (hr : ∀ p, p < 6 → hA h (8 + p) 15 40 ∧ ow (8 + p) = 19) : rdR ow h := by obtain ⟨w, z, e⟩ := g; exact ⟨⟨_, _, _, _, _, _, _, _, _, _, _, z⟩, hr⟩
end RSF2
theorem tbF.b {ow : Nat → Nat} {h : mH} {n w : Nat} (g : tbF ow h n w) : hU h + 8 * hN h ≤ w := by
  obtain ⟨⟨nn, mm, _, g2⟩, _⟩ := g
  omega
theorem rgR.setO {ow ow' : Nat → Nat} {h h' : mH} {o a u u9 : Nat} {r r' : Nat → Int64} {pr : Nat → Nat → Int64} (g : rgR ow h o a u r pr) (ho : o < 17) (ha : a + u ≤ 16) (f : cFr [18, nowR o a] u9 ow h ow' h') (x : stX ow' h' (nowA o a) (nowR o a) r') : rgR ow' h' o a u r' pr := by
  refine ⟨fun k hk => ?_, fun i hi => ?_⟩
  · by_cases c : k = (o + a) % 17
    · subst c
      obtain ⟨⟨sp, sl, ss, se, z, _⟩, _⟩ := x
      exact ⟨sp, sl, ss, se, _, z⟩
    · obtain ⟨sp, sl, ss, se, sc, z⟩ := g.1 k hk
      exact ⟨sp, sl, ss, se, sc, z.fr f (rnS (by omega) (rnS (by simp only [nowR]; omega) rn0))⟩
  by_cases c : i = a
  · subst c; rw [agR_a]; exact x
  · have e : agR r' pr a i = agR r pr a i := by
      unfold agR
      by_cases c1 : i < a
      · rw [if_pos c1, if_pos c1]
      · rw [if_neg c1, if_neg c, if_neg c1, if_neg c]
    rw [e]
    exact (g.2 i hi).fr f (rnS (by omega) (rnS (by simp only [nowR]; omega) rn0)) (rnS (by simp only [nowR]; omega) (rnS (by simp only [nowR]; omega) rn0))
theorem pga {r : Nat → Int64} {P n : Nat} {W : Nat → Int64} (hw : WF r) (hP : rP r = P) (hP6 : P < 6) (hn : n ≤ 40) : rP (up1 (pgK r P n W 40) 0 (lN (P + 1))) = P + 1 ∧ (∀ y, 247 ≤ y → up1 (pgK r P n W 40) 0 (lN (P + 1)) y = r y) ∧ (∀ q, q < P → rT (up1 (pgK r P n W 40) 0 (lN (P + 1))) q = rT r q ∧ ∀ k, k < rT r q → rW (up1 (pgK r P n W 40) 0 (lN (P + 1))) q k = rW r q k) ∧ rT (up1 (pgK r P n W 40) 0 (lN (P + 1))) P = n ∧ (∀ k, k < n → rW (up1 (pgK r P n W 40) 0 (lN (P + 1))) P k = W k) ∧ ∀ p, p ≤ P → rT (up1 (pgK r P n W 40) 0 (lN (P + 1))) p ≤ 40 := by
  have eT : rT (up1 (pgK r P n W 40) 0 (lN (P + 1))) P = n := by
    show nOf (up1 _ 0 _ (1 + P)) = n
    rw [up1_ne (by omega), (pgK_at hP6).1 rfl]
    exact nOf_l (by omega)
  have eQ : ∀ q, q < P → rT (up1 (pgK r P n W 40) 0 (lN (P + 1))) q = rT r q := fun q hq => by
    show nOf (up1 _ 0 _ (1 + q)) = nOf (r (1 + q))
    rw [up1_ne (by omega), (pgK_at hP6).2.2 (by omega) (by omega)]
  refine ⟨?_, fun y hy => ?_, fun q hq => ⟨eQ q hq, fun k hk => ?_⟩, eT, fun k hk => ?_, fun p hp => ?_⟩
  · show nOf (up1 _ 0 _ 0) = _
    rw [up1_at]; exact nOf_l (by omega)
  · rw [up1_ne (by omega)]; exact (pgK_at hP6).2.2 (by omega) (by omega)
  · have := (hw.2.1 q (by omega)).2
    show up1 _ 0 _ (7 + 40 * q + k) = r (7 + 40 * q + k)
    rw [up1_ne (by omega), (pgK_at hP6).2.2 (by omega) (by omega)]
  · show up1 _ 0 _ (7 + 40 * P + k) = _
    rw [up1_ne (by omega), (pgK_at hP6).2.1 k (by omega) rfl, if_pos hk]
  · by_cases c : p = P
    · rw [c, eT]; exact hn
    · rw [eQ p (by omega)]; exact (hw.2.1 p (by omega)).2
theorem pX8_addPageN {h : mH} {Q : Option Value → mH → Prop} {ow : Nat → Nat} {a ρ ra P n : Nat} {r r' : Nat → Int64} (en : rT r' P = n) (g : stX ow h a ρ r) (hρ : 18 < ρ) (hP : rP r = P) (hP6 : P < 6) (hP' : rP r' = P + 1) (hln : ∀ f, f < 4 → r (655 + 70 * f) = 1 → lrN r f ≤ 6 ∧ lrS r f 0 ≤ 40) (hr : ∀ y, 247 ≤ y → r' y = r y) (hT : ∀ q, q < P → rT r' q = rT r q ∧ ∀ k, k < rT r q → rW r' q k = rW r q k) (h40 : ∀ p, p ≤ P → rT r' p ≤ 40) (hz : hU h + 8 * hN h + 300 ≤ 8000000) (hra : hA h ra 15 40) (hwa : ow ra = 19) (hW : ∀ k, k < n → hL h ra k = rW r' P k) (hg : ∀ k, k < n → goodW (rW r' P k)) (hq : ∀ h' ow', cFr [18, ρ] 157 ow h ow' h' → stX ow' h' a ρ r' → Q none h') : Wp mX8_addPage 3 77 0 [some (.ref a), some (.ref ra), some (.int (nI n))] [] h Q := by
  subst en
  exact pX8_addPage g hρ hP hP6 hP' hln hr hT h40 hz hra hwa hW hg hq
theorem cC.read {ow ow' : Nat → Nat} {h h' : mH} {F : Nat} {pa my : Nat → Int32} {fa o a u : Nat} {r : Nat → Int64} {pr : Nat → Nat → Int64} {bx : Nat → Nat → Int64} {kp tp : Nat → Int32} {t : Nat} {tf tl : Int32} {n w : Nat} {u9 : Nat} {rc : Nat → Int32} {rp rf rl tf' tl' : Int32} {rq : Option Nat} {tb : Nat → Int32} {N a1 : Nat} (c : cC ow h F pa my fa o a u r pr bx kp tp t tf tl n w) (f : cFr [5, 7, 16, 19] u9 ow h ow' h') (zx : zX ow' h' (nI 0) tf' tl' (some fa)) (g : rS ow' h' rc rp rq rf rl tb N a1) : cC ow' h' F pa my fa o a u r pr bx kp tp 0 tf' tl' n (w + u9) :=
  ⟨zx, c.zh.fr f (by decide), c.kb.fr f (by decide) (by decide), c.fl.fr f (by decide), c.rg.fr f (by decide) (fun j hj => by simp; omega), c.od, c.bxx.fr f (by decide) (by decide) (by decide) (by decide), ⟨f.a c.tpp.1, (f.w c.tpp.1.1).trans c.tpp.2.1, fun j hj => absurd hj (Nat.not_lt_zero j)⟩, g.rd (fun p hp => ⟨f.a (c.rd.2 p hp).1, (f.w (c.rd.2 p hp).1.1).trans (c.rd.2 p hp).2⟩), c.cz.fr f (by decide) (by decide) (by decide) (by decide), c.tw.fr f (fun j hj => by simp; omega), c.ti.fr f (by decide)⟩
theorem cC.actO {ow ow' : Nat → Nat} {h h' : mH} {F : Nat} {pa my : Nat → Int32} {fa o a u : Nat} {r : Nat → Int64} {pr : Nat → Nat → Int64} {bx : Nat → Nat → Int64} {kp tp : Nat → Int32} {t : Nat} {tf tl : Int32} {n w : Nat} {u9 w' o' a' u' : Nat} {r' : Nat → Int64} {pr' : Nat → Nat → Int64} (c : cC ow h F pa my fa o a u r pr bx kp tp t tf tl n w) (f : cFr [8, 10, 11, 12, 13, 14, 18, 20, 21, 22, 23, 24, 25, 26, 27, 28, 29, 30, 31, 32, 33, 34, 35, 36] u9 ow h ow' h') (zh : zH ow' h' (nI o') (nI a') (nI u')) (rg : rgR ow' h' o' a' u' r' pr') (hb : o' < 17 ∧ a' + u' ≤ 16) (g : ∀ r pa my F, tbW ow' h' r pa my F (7 * (20480 - n)) w' ∧ tyI ow' h' r pa my F n) : cC ow' h' F pa my fa o' a' u' r' pr' bx kp tp t tf tl n w' :=
  ⟨c.zx.fr f (by decide), zh, c.kb.fr f (by decide) (by decide), c.fl.fr f (by decide), rg, hb, c.bxx.fr f (by decide) (by decide) (by decide) (by decide), c.tpp.fr f (by decide), c.rd.fr f (by decide), c.cz.fr f (by decide) (by decide) (by decide) (by decide), (g _ _ _ _).1, (g _ _ _ _).2⟩
set_option maxRecDepth 20000 in
theorem pX11_noteReading {h : mH} {Q : Option Value → mH → Prop} {ow : Nat → Nat} {xt xf xp : Int32} {xq : Option Nat} {rc : Nat → Int32} {rp rf rl : Int32} {rq : Option Nat} {tp : Nat → Int32} {N a : Nat} (zx : zX ow h xt xf xp xq) (g : rS ow h rc rp rq rf rl tp N a) (hq : ∀ h', cFr [7] 0 ow h ow h' → zX ow h' (nI 0) rf rl xq → Q none h') : Wp mX11_noteReading 0 0 0 [some (.ref 0)] [] h Q := by
  refine wp_aload_n dX11_noteReading_0 rfl rfl ?_
  refine wp_iconst (v := (nI 0)) dX11_noteReading_1 (by decide +kernel) ?_
  refine wp_putI dX11_noteReading_2 lX11_82 rfl (Or.inl rfl) zx.o rfl rfl ?_
  refine zx.p1 (fun hh1 f1 zx_1 => ?_)
  have g_1 := g.fr f1 (rnS (by omega) rn0)
  refine wp_aload_n dX11_noteReading_5 rfl rfl ?_
  refine wp_aload_n dX11_noteReading_6 rfl rfl ?_
  refine wp_getR dX11_noteReading_7 lX11_27 rfl zx_1.o zx_1.r5 ?_
  refine wp_getIV dX11_noteReading_10 lX11_130 rfl g_1.oo g_1.f4 ?_
  refine wp_putI dX11_noteReading_13 lX11_133 rfl (Or.inl rfl) zx_1.o rfl rfl ?_
  refine zx_1.p2 (fun hh2 f2 zx_2 => ?_)
  have g_2 := g_1.fr f2 (rnS (by omega) rn0)
  refine wp_aload_n dX11_noteReading_16 rfl rfl ?_
  refine wp_aload_n dX11_noteReading_17 rfl rfl ?_
  refine wp_getR dX11_noteReading_18 lX11_27 rfl zx_2.o zx_2.r5 ?_
  refine wp_getIV dX11_noteReading_21 lX11_136 rfl g_2.oo g_2.f5 ?_
  refine wp_putI dX11_noteReading_24 lX11_13 rfl (Or.inl rfl) zx_2.o rfl rfl ?_
  refine zx_2.p3 (fun hh3 f3 zx_3 => ?_)
  have g_3 := g_2.fr f3 (rnS (by omega) rn0)
  refine wp_vreturn dX11_noteReading_27 rfl ?_
  exact hq _ (((f1.up (by decide) (Nat.le_refl _)).tr (f2.up (by decide) (Nat.le_refl _))).tr (f3.up (by decide) (Nat.le_refl _))) zx_3
theorem ring_pg (k : Nat) : ∀ x ∈ [18, 20 + k % 17], x ∈ [8, 10, 11, 12, 13, 14, 18, 20, 21, 22, 23, 24, 25, 26, 27, 28, 29, 30, 31, 32, 33, 34, 35, 36] := fun x hx => by
  have := Nat.mod_lt k (show 0 < 17 by decide)
  simp at hx ⊢
  omega
set_option maxRecDepth 20000 in
theorem pX11_page {h : mH} {Q : Option Value → mH → Prop} {ow : Nat → Nat} {F : Nat} {pa my : Nat → Int32} {fa o a u : Nat} {r : Nat → Int64} {pr : Nat → Nat → Int64} {bx : Nat → Nat → Int64} {kp tp : Nat → Int32} {t : Nat} {tf tl : Int32} {n w : Nat} (c : cC ow h F pa my fa o a u r pr bx kp tp t tf tl n w) (hd : sOK r F pa my) (hby : byt tp) (ht9 : t ≤ 900) (hw : w + 400 ≤ 8000000) (h6 : rP r = 6 → ∀ h', cFr [7] 0 ow h ow h' → cC ow h' F pa my fa o a u r pr bx kp tp 0 tf tl n w → Q (some (.int (-1))) h') (he : ∀ fa1 pl1, pgS tp t = .error (fa1, pl1) → rP r < 6 → ∀ h' ow', cFr [5, 7, 16, 19] 48 ow h ow' h' → cC ow' h' F pa my fa o a u r pr bx kp tp 0 (nI fa1) (nI pl1) n (w + 48) → Q (some (.int (-1))) h') (hq : ∀ n1, pgS tp t = .ok n1 → rP r < 6 → ∀ h' ow' o', cFr [5, 7, 8, 10, 11, 12, 13, 14, 16, 18, 19, 20, 21, 22, 23, 24, 25, 26, 27, 28, 29, 30, 31, 32, 33, 34, 35, 36] 205 ow h ow' h' → cC ow' h' F pa my fa o' (actN a) 0 (up1 (pgK r (rP r) n1 (fun j => tW tp t (psT tp t 0 j)) 40) 0 (lN (rP r + 1))) (actP pr r a) bx kp tp 0 (nI 0) (-1) n (w + 205) → Q (some (.int (nI (rP r)))) h') : Wp mX11_page 5 106 0 [some (.ref 0), none, none] [] h Q := by
  have hP6 := hd.w.1.2
  have hF4 := hd.f4
  have e9 := c.e9
  have zx0 := c.zx
  have hwb := c.tw.b
  have hsc : scrA = 1000000000 := rfl
  obtain ⟨⟨_, _, _, _, _, _, _, _, _, _, _, zr0⟩, _⟩ := c.rd
  refine wp_aload_n dX11_page_0 rfl rfl ?_
  refine wp_getR dX11_page_1 lX11_34 rfl zx0.o zx0.r6 ?_
  refine wp_cV0 2 43 [some _] dX11_page_4 tX3_now rfl (by decide) nX3_now vX3_now lX11_101 ⟨by decide, by decide⟩ (Nat.le_of_ble_eq_true rfl) c.zh.o (Nat.le_of_ble_eq_true rfl) rfl ?_
  refine pX3_now c.zh c.kb c.od.1 (by have := c.od.2; omega) ?_
  intro _ _
  refine wp_getIV dX11_page_7 lX11_123 rfl e9.st.oo e9.st.f4 ?_
  refine wp_bipush (v := (nI 6)) dX11_page_10 (by decide +kernel) ?_
  refine wp_icmp_ltN dX11_page_12 rfl rfl ⟨by omega, by omega⟩ (fun c6 => ?_) (fun c6 => ?_)
  · refine wp_aload_n dX11_page_22 rfl rfl ?_
    refine wp_getR dX11_page_23 lX11_27 rfl zx0.o zx0.r5 ?_
    refine wp_aload_n dX11_page_26 rfl rfl ?_
    refine wp_getR dX11_page_27 lX11_9 rfl zx0.o zx0.r0 ?_
    refine wp_aload_n dX11_page_30 rfl rfl ?_
    refine wp_getIV dX11_page_31 lX11_82 rfl zx0.o zx0.f1 ?_
    refine wp_cV2 4 84 [some _, some _, some _] dX11_page_34 tX7_readOnePage rfl (by decide) nX7_readOnePage vX7_readOnePage lX11_124 ⟨by decide, by decide⟩ (Nat.le_of_ble_eq_true rfl) zr0.o (Nat.le_of_ble_eq_true rfl) rfl ?_
    refine pX7_readOnePage zr0 (c.tpp.tx ht9) c.kb ⟨c.rd.2, fun p hp => absurd hp (Nat.not_lt_zero p)⟩ (by omega) (fun fa1 pl1 e1 hb1 hh1 ow1 a1 rc1 rp1 rq1 f1 g1 => ?_) (fun n1 e1 hn1 hh1 ow1 a1 rc1 q1 f1 g1 ec1 rw1 => ?_)
    · intro _ _
      have zx1 := zx0.fr f1 (by decide)
      refine wp_istore_n (ls1 := [_, some _, _]) dX11_page_37 rfl (by decide) rfl ?_
      refine wp_aload_n dX11_page_38 rfl rfl ?_
      refine wp_cV0 0 0 [some _] dX11_page_39 tX11_noteReading rfl (by decide) nX11_noteReading vX11_noteReading lX11_93 ⟨by decide, by decide⟩ (Nat.le_of_ble_eq_true rfl) zx1.o (Nat.le_of_ble_eq_true rfl) rfl ?_
      refine pX11_noteReading zx1 g1 (fun hh2 f2 zx2 => ?_)
      intro _ _
      have g2 := g1.fr f2 (by decide)
      have F2 : cFr [5, 7, 16, 19] 48 ow h ow1 hh2 := ((f1.up (S' := [5, 7, 16, 19]) (by decide) (Nat.le_refl _)).tr (f2.up (by decide) (Nat.le_refl _))).up (fun x hx => hx) (by omega)
      have c2 := c.read F2 zx2 g2
      refine wp_iload_n dX11_page_42 rfl rfl ?_
      refine wp_if_ne dX11_page_43 (fun q => absurd q (by decide +kernel)) (fun _ => ?_)
      refine wp_iconst (v := (-1)) dX11_page_46 (by decide +kernel) ?_
      refine wp_ireturn dX11_page_47 rfl ?_
      exact he _ _ e1 c6 _ _ F2 c2
    · intro _ _
      have zx1 := zx0.fr f1 (by decide)
      refine wp_istore_n (ls1 := [_, some _, _]) dX11_page_37 rfl (by decide) rfl ?_
      refine wp_aload_n dX11_page_38 rfl rfl ?_
      refine wp_cV0 0 0 [some _] dX11_page_39 tX11_noteReading rfl (by decide) nX11_noteReading vX11_noteReading lX11_93 ⟨by decide, by decide⟩ (Nat.le_of_ble_eq_true rfl) zx1.o (Nat.le_of_ble_eq_true rfl) rfl ?_
      refine pX11_noteReading zx1 g1 (fun hh2 f2 zx2 => ?_)
      intro _ _
      have g2 := g1.fr f2 (by decide)
      have F2 : cFr [5, 7, 16, 19] 48 ow h ow1 hh2 := ((f1.up (S' := [5, 7, 16, 19]) (by decide) (Nat.le_refl _)).tr (f2.up (by decide) (Nat.le_refl _))).up (fun x hx => hx) (by omega)
      have c2 := c.read F2 zx2 g2
      have rw2 := rw1.fr f2 (by decide)
      refine wp_iload_n dX11_page_42 rfl rfl ?_
      refine wp_if_ne dX11_page_43 (fun _ => ?_) (fun q => absurd q (by decide +kernel))
      refine wp_aload_n dX11_page_48 rfl rfl ?_
      refine wp_getR dX11_page_49 lX11_34 rfl zx2.o zx2.r6 ?_
      refine wp_cV0 3 63 [some _, none, none] dX11_page_52 tX3_begin rfl (by decide) nX3_begin vX3_begin lX11_127 ⟨by decide, by decide⟩ (Nat.le_of_ble_eq_true rfl) c2.zh.o (Nat.le_of_ble_eq_true rfl) rfl ?_
      refine pX3_begin c2.zh c2.kb c2.rg c2.od.1 c2.od.2 hP6 (fun hh3 o3 ho3 f3 zh3 rg3 => ?_)
      intro _ _
      have zx3 := c2.zx.fr f3 (by decide)
      have kb3 := c2.kb.fr f3 (by decide) (by decide)
      have g3 := g2.fr f3 (by decide)
      have rw3 := rw2.fr f3 (by decide)
      have tb3 := (tbF.of c2.tw c2.ti).fr f3 (by decide) (fun f9 hf9 => by simp; omega)
      have hwb3 := tb3.b
      have gd1 := (pgS_ok hby e1).2.2
      obtain ⟨p1, p2, p3, p4, p5, p6⟩ := pga (n := n1) (W := fun j => tW tp t (psT tp t 0 j)) hd.w rfl c6 hn1.2
      refine wp_astore_n (ls1 := [_, _, some _]) dX11_page_55 rfl (by decide) rfl ?_
      refine wp_aload_n dX11_page_56 rfl rfl ?_
      refine wp_aload_n dX11_page_57 rfl rfl ?_
      refine wp_getR dX11_page_58 lX11_27 rfl zx3.o zx3.r5 ?_
      refine wp_getR dX11_page_61 lX11_108 rfl g3.oo g3.r0 ?_
      refine wp_iconst (v := (nI 0)) dX11_page_64 (by decide +kernel) ?_
      refine wp_aaldJ dX11_page_65 kb3.2.2.1.1 (by decide) (by decide) rfl ⟨by omega, by omega⟩ (kb3.2.2.1.2.2 0 (by omega)) ?_
      refine wp_aload_n dX11_page_66 rfl rfl ?_
      refine wp_getR dX11_page_67 lX11_27 rfl zx3.o zx3.r5 ?_
      refine wp_getR dX11_page_70 lX11_112 rfl g3.oo g3.r1 ?_
      refine wp_iconst (v := (nI 0)) dX11_page_73 (by decide +kernel) ?_
      refine wp_ialdV dX11_page_74 g3.a1 rfl ⟨by omega, by omega⟩ ((congrFun g3.c1 0).trans ec1) ?_
      refine wp_cV2 3 77 [some _, some _, some _] dX11_page_75 tX8_addPage rfl (by decide) nX8_addPage vX8_addPage lX11_116 ⟨by decide, by decide⟩ (Nat.le_of_ble_eq_true rfl) rg3.st.1.oo (Nat.le_of_ble_eq_true rfl) rfl ?_
      refine pX8_addPageN p4 rg3.st (by simp only [nowR]; omega) rfl c6 p1 (fun f9 hf9 _ => ⟨(hd.ln f9 hf9).2, (hd.ls f9 0 hf9 (by omega)).2⟩) p2 p3 p6 (by omega) (rw3.1 0 (by omega)).1 (rw3.1 0 (by omega)).2 (fun k hk => (rw3.2 0 (by omega) (by omega) k hk).trans (p5 k hk).symm) (fun k hk => by rw [p5 k hk]; exact gd1 k hk) (fun hh4 ow4 f4 sx4 => ?_)
      intro _ _
      have zx4 := zx3.fr f4 (rnS (by omega) (rnS (by simp only [nowR]; omega) rn0))
      have kb4 := kb3.fr f4 (rnS (by omega) (rnS (by simp only [nowR]; omega) rn0)) (rnS (by omega) (rnS (by simp only [nowR]; omega) rn0))
      have zh4 := zh3.fr f4 (rnS (by omega) (rnS (by simp only [nowR]; omega) rn0))
      have tb4 := tb3.fr f4 (rnS (by omega) (rnS (by simp only [nowR]; omega) rn0)) (fun f9 hf9 => (rnS (by omega) (rnS (by simp only [nowR]; omega) rn0)))
      have rg4 := rg3.setO ho3 (by have := c.od.2; unfold actN; split <;> omega) f4 sx4
      refine wp_aload_n dX11_page_78 rfl rfl ?_
      refine wp_cV0 1 20 [some _, none] dX11_page_79 tX11_forgetFindings rfl (by decide) nX11_forgetFindings vX11_forgetFindings lX11_120 ⟨by decide, by decide⟩ (Nat.le_of_ble_eq_true rfl) zx4.o (Nat.le_of_ble_eq_true rfl) rfl ?_
      refine forgetAll zx4 kb4 (tb4.up (w' := w + 205) (by omega)) (fun hh5 f5 g5 => ?_)
      intro _ _
      have rg5 := rg4.fr f5 (by decide) (fun j hj => by simp; omega)
      refine wp_aload_n dX11_page_82 rfl rfl ?_
      refine wp_getIV dX11_page_83 lX11_123 rfl rg5.st.1.oo rg5.st.1.f4 ?_
      refine wp_iconst (v := (nI 1)) dX11_page_86 (by decide +kernel) ?_
      refine wp_isub dX11_page_87 ?_
      refine wp_ireturn dX11_page_88 rfl ?_
      have F5 := ((f3.up (S' := [8, 10, 11, 12, 13, 14, 18, 20, 21, 22, 23, 24, 25, 26, 27, 28, 29, 30, 31, 32, 33, 34, 35, 36]) (by decide) (Nat.le_refl _)).tr (f4.up (ring_pg _) (Nat.le_refl _))).tr (f5.up (by decide) (Nat.le_refl _))
      rw [p1, pk_sub (by omega), Nat.add_sub_cancel]
      exact hq _ e1 c6 _ _ _ (((F2.up (by decide) (Nat.le_refl _)).tr (F5.up (by decide) (Nat.le_refl _))).up (fun x hx => hx) (by omega)) (c2.actO F5 (zh4.fr f5 (by decide)) rg5 ⟨ho3, by have := c.od.2; unfold actN; split <;> omega⟩ g5)
  · refine wp_aload_n dX11_page_15 rfl rfl ?_
    refine wp_iconst (v := (nI 0)) dX11_page_16 (by decide +kernel) ?_
    refine wp_putI dX11_page_17 lX11_82 rfl (Or.inl rfl) zx0.o rfl rfl ?_
    refine zx0.p1 (fun hh1 f1 zx0_1 => ?_)
    refine wp_iconst (v := (-1)) dX11_page_20 (by decide +kernel) ?_
    refine wp_ireturn dX11_page_21 rfl ?_
    exact h6 (by omega) _ f1 (c.tape (f1.up (by decide) (Nat.le_refl _)) zx0_1 (fun j hj => absurd hj (Nat.not_lt_zero j)))
