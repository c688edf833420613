/-! ===== a state copied, cleared ===== -/
/-- a state in full: places behind the last page are null -/
def stX (ow : Nat → Nat) (h : mH) (a ρ : Nat) (r : Nat → Int64) : Prop := stR ow h a ρ r ∧ ∀ p, rP r ≤ p → p < 6 → hR h (a + 1) p = none
theorem stX.fr {S : List Nat} {u9 : Nat} {ow ow' : Nat → Nat} {h h' : mH} {a ρ : Nat} {r : Nat → Int64} (g : stX ow h a ρ r) (f : cFr S u9 ow h ow' h') (h0 : 0 ∉ S) (h1 : ρ ∉ S) : stX ow' h' a ρ r := by
  refine ⟨g.1.fr f h0 h1, fun p hp hp6 => ?_⟩
  obtain ⟨sp, sl, ss, se, z, _⟩ := g.1
  have s0 := f.s z.a0.1 z.v0 h1
  exact (congrFun s0.2.2 p).trans (g.2 p hp hp6)
def spO (h : mH) (n c : Nat) (tp : Nat → Option Nat) : Prop := ∀ p q, p < n → tp p = some q → hO h q c
theorem spO.fr {S : List Nat} {u9 : Nat} {ow ow' : Nat → Nat} {h h' : mH} {n c : Nat} {tp : Nat → Option Nat} (g : spO h n c tp) (f : cFr S u9 ow h ow' h') : spO h' n c tp := fun p q hp e => f.o (g p q hp e)
theorem upN_s {tp sp : Nat → Option Nat} {i : Nat} {v : Option Nat} (h : ∀ p, p < i → sp p = tp p) (e : tp i = v) : ∀ p, p < i + 1 → upN sp i v p = tp p := fun p hp => by
  by_cases c : p = i
  · rw [c, upN_at, e]
  · rw [upN_ne c]; exact h p (by omega)
theorem cpy_all {A B : Nat → Int64} {n : Nat} : ∀ y, y < n → va_cpy A B 0 0 n y = A y := fun y hy => by
  rw [pk_cpy_in (Nat.zero_le _) (by omega), show 0 + (y - 0) = y by omega]
theorem stX.mk {ow : Nat → Nat} {h h' : mH} {a ρ b σ u9 : Nat} {S : List Nat} {r : Nat → Int64} {sp sl tp tl : Nat → Option Nat} {ss se ts te : Nat → Int64} {tc sc : Int32} (g : stX ow h b σ r) (z : zS ow h b σ tp tl ts te tc) (f : cFr S u9 ow h ow h') (h0 : 0 ∉ S) (z' : zS ow h' a ρ sp sl ss se sc) (ec : sc = tc) (h1 : ∀ p, p < 6 → sp p = tp p) (h2 : ∀ p, p < 4 → sl p = tl p) (h3 : ∀ p, p < 24 → ss p = ts p) (h4 : ∀ p, p < 24 → se p = te p) (h6 : rP r ≤ 6) : stX ow h' a ρ r := by
  obtain ⟨⟨sp0, sl0, ss0, se0, z0, hp, hl, hb⟩, hn⟩ := g
  have e0 : sp0 = tp := z0.c0.symm.trans z.c0
  have e1 : sl0 = tl := z0.c1.symm.trans z.c1
  have e2 : ss0 = ts := z0.c2.symm.trans z.c2
  have e3 : se0 = te := z0.c3.symm.trans z.c3
  have e4 : nI (rP r) = tc := z0.f4.symm.trans z.f4
  subst e0 e1 e2 e3 e4 ec
  refine ⟨⟨sp, sl, ss, se, z', fun p hp9 => ?_, fun f9 hf9 => ⟨fun e => ?_, fun e => ?_⟩, fun f9 p9 hf9 hp9 => ?_⟩, fun p hp9 hp6 => ?_⟩
  · obtain ⟨q, e, g⟩ := hp p hp9
    exact ⟨q, (h1 p (by omega)).trans e, g.fr f h0⟩
  · obtain ⟨q, e, g⟩ := (hl f9 hf9).1 e
    exact ⟨q, (h2 f9 hf9).trans e, g.fr f h0⟩
  · exact (h2 f9 hf9).trans ((hl f9 hf9).2 e)
  · rw [h3 _ (by omega), h4 _ (by omega)]; exact hb f9 p9 hf9 hp9
  · rw [congrFun z'.c0 p, h1 p hp6, ← congrFun z0.c0 p]; exact hn p hp9 hp6
theorem stX.o0 {ow : Nat → Nat} {h : mH} {b σ : Nat} {r : Nat → Int64} {tp tl : Nat → Option Nat} {ts te : Nat → Int64} {tc : Int32} (g : stX ow h b σ r) (z : zS ow h b σ tp tl ts te tc) (h6 : rP r ≤ 6) : spO h 6 6 tp := fun p q hp e => by
  obtain ⟨⟨sp0, sl0, ss0, se0, z0, hp0, _⟩, hn⟩ := g
  rw [← congrFun z.c0 p] at e
  by_cases c : p < rP r
  · obtain ⟨q', e', g'⟩ := hp0 p c
    rw [congrFun z0.c0 p, e'] at e
    cases e
    exact g'.o
  · rw [hn p (by omega) hp] at e; cases e
theorem stX.o1 {ow : Nat → Nat} {h : mH} {b σ : Nat} {r : Nat → Int64} {tp tl : Nat → Option Nat} {ts te : Nat → Int64} {tc : Int32} (g : stX ow h b σ r) (z : zS ow h b σ tp tl ts te tc) : spO h 4 4 tl := fun p q hp e => by
  obtain ⟨⟨sp0, sl0, ss0, se0, z0, _, hl, _⟩, hn⟩ := g
  rw [← congrFun z.c1 p, congrFun z0.c1 p] at e
  by_cases c : r (655 + 70 * p) = 1
  · obtain ⟨q', e', g'⟩ := (hl p hp).1 c
    rw [e'] at e
    cases e
    exact g'.o
  · rw [(hl p hp).2 c] at e; cases e
set_option maxRecDepth 20000 in
theorem cpf_end {h h1 : mH} {Q : Option Value → mH → Prop} {ow : Nat → Nat} {a ρ b σ : Nat} {tp tl : Nat → Option Nat} {ss se ts te : Nat → Int64} {sc tc : Int32} {sp1 sl1 : Nat → Option Nat} {k : Nat} (hne : ρ ≠ σ) (hf1 : cFr [ρ] 0 ow h ow h1) (za1 : zS ow h1 a ρ sp1 sl1 ss se sc) (zb1 : zS ow h1 b σ tp tl ts te tc) (hs1 : ∀ p, p < 6 → sp1 p = tp p) (hl1 : ∀ p, p < 4 → sl1 p = tl p) (hq : ∀ h' sp' sl' ss' se', cFr [ρ] 0 ow h ow h' → zS ow h' a ρ sp' sl' ss' se' tc → (∀ p, p < 6 → sp' p = tp p) → (∀ p, p < 4 → sl' p = tl p) → (∀ p, p < 24 → ss' p = ts p) → (∀ p, p < 24 → se' p = te p) → Q none h') : Wp mX8_copyFrom 1 26 51 [some (.ref a), some (.ref b), some (.int (nI k))] [] h1 Q := by
  refine wp_aload_n dX8_copyFrom_51 rfl rfl ?_
  refine wp_getR dX8_copyFrom_52 lX8_23 rfl zb1.o zb1.r2 ?_
  refine wp_iconst (v := (nI 0)) dX8_copyFrom_55 (by decide +kernel) ?_
  refine wp_aload_n dX8_copyFrom_56 rfl rfl ?_
  refine wp_getR dX8_copyFrom_57 lX8_23 rfl za1.o za1.r2 ?_
  refine wp_iconst (v := (nI 0)) dX8_copyFrom_60 (by decide +kernel) ?_
  refine wp_aload_n dX8_copyFrom_61 rfl rfl ?_
  refine wp_getR dX8_copyFrom_62 lX8_23 rfl za1.o za1.r2 ?_
  refine wp_alen dX8_copyFrom_65 za1.a2 (by decide) (by decide) rfl ?_
  refine wp_copyL dX8_copyFrom_66 lX8_30 wCn wCs wCi zb1.a2 za1.a2 (by decide +kernel) (by decide +kernel) (nI_pos (by omega)) (by decide +kernel) (by decide +kernel) (by decide) (by decide) ?_
  rw [show (nI 0).toNatClampNeg = 0 by decide +kernel, show (Int32.ofNat 24).toNatClampNeg = 24 by decide +kernel, cpL_st]
  refine za1.z2 rfl (fun hh1 f1 za_1 => ?_)
  have zb1_1 := zb1.fr f1 (rnS (fun e9 => hne e9.symm) rn0)
  have cpy1 : ∀ y, y < 24 → va_cpy (hL h1 (b + 3)) (hL h1 (a + 3)) 0 0 24 y = ts y := fun y hy => (cpy_all y hy).trans (congrFun zb1.c2 y)
  refine wp_aload_n dX8_copyFrom_69 rfl rfl ?_
  refine wp_getR dX8_copyFrom_70 lX8_27 rfl zb1_1.o zb1_1.r3 ?_
  refine wp_iconst (v := (nI 0)) dX8_copyFrom_73 (by decide +kernel) ?_
  refine wp_aload_n dX8_copyFrom_74 rfl rfl ?_
  refine wp_getR dX8_copyFrom_75 lX8_27 rfl za_1.o za_1.r3 ?_
  refine wp_iconst (v := (nI 0)) dX8_copyFrom_78 (by decide +kernel) ?_
  refine wp_aload_n dX8_copyFrom_79 rfl rfl ?_
  refine wp_getR dX8_copyFrom_80 lX8_27 rfl za_1.o za_1.r3 ?_
  refine wp_alen dX8_copyFrom_83 za_1.a3 (by decide) (by decide) rfl ?_
  refine wp_copyL dX8_copyFrom_84 lX8_30 wCn wCs wCi zb1_1.a3 za_1.a3 (by decide +kernel) (by decide +kernel) (nI_pos (by omega)) (by decide +kernel) (by decide +kernel) (by decide) (by decide) ?_
  rw [show (nI 0).toNatClampNeg = 0 by decide +kernel, show (Int32.ofNat 24).toNatClampNeg = 24 by decide +kernel, cpL_st]
  refine za_1.z3 rfl (fun hh2 f2 za_2 => ?_)
  have zb1_2 := zb1_1.fr f2 (rnS (fun e9 => hne e9.symm) rn0)
  have cpy2 : ∀ y, y < 24 → va_cpy (hL hh1 (b + 4)) (hL hh1 (a + 4)) 0 0 24 y = te y := fun y hy => (cpy_all y hy).trans (congrFun zb1_1.c3 y)
  refine wp_aload_n dX8_copyFrom_87 rfl rfl ?_
  refine wp_aload_n dX8_copyFrom_88 rfl rfl ?_
  refine wp_getIV dX8_copyFrom_89 lX8_36 rfl zb1_2.o zb1_2.f4 ?_
  refine wp_putI dX8_copyFrom_92 lX8_36 rfl (Or.inl rfl) za_2.o rfl rfl ?_
  refine za_2.p4 (fun hh3 f3 za_3 => ?_)
  have zb1_3 := zb1_2.fr f3 (rnS (fun e9 => hne e9.symm) rn0)
  refine wp_vreturn dX8_copyFrom_95 rfl ?_
  exact hq _ _ _ _ _ (((hf1.tr f1).tr f2).tr f3) za_3 hs1 hl1 cpy1 cpy2
set_option maxRecDepth 20000 in
theorem cpf_l {h : mH} {Q : Option Value → mH → Prop} {ow : Nat → Nat} {a ρ b σ : Nat} {sl tp tl : Nat → Option Nat} {ss se ts te : Nat → Int64} {sc tc : Int32} {sp2 : Nat → Option Nat} (hne : ρ ≠ σ) (ho0 : spO h 6 6 tp) (ho1 : spO h 4 4 tl) (hs2 : ∀ p, p < 6 → sp2 p = tp p) (hq : ∀ h' sp' sl' ss' se', cFr [ρ] 0 ow h ow h' → zS ow h' a ρ sp' sl' ss' se' tc → (∀ p, p < 6 → sp' p = tp p) → (∀ p, p < 4 → sl' p = tl p) → (∀ p, p < 24 → ss' p = ts p) → (∀ p, p < 24 → se' p = te p) → Q none h') : ∀ h1, cFr [ρ] 0 ow h ow h1 → zS ow h1 a ρ sp2 sl ss se sc → zS ow h1 b σ tp tl ts te tc → Wp mX8_copyFrom 1 26 28 [some (.ref a), some (.ref b), some (.int (nI 0))] [] h1 Q := by
  have hlp1 : ∀  (t9 : Nat) (i : Nat) (s1 : Nat → Option Nat) (h1 : mH), (i ≤ 4) → (cFr [ρ] 0 ow h ow h1) → (zS ow h1 a ρ sp2 s1 ss se sc) → (zS ow h1 b σ tp tl ts te tc) → (∀ p, p < i → s1 p = tl p) → (4 < i + t9) → Wp mX8_copyFrom 1 26 28 [some (.ref a), some (.ref b), some (.int (nI i))] [] h1 Q := by
    intro t9
    induction t9 with
    | zero => intros; omega
    | succ t9 ih =>
      intro i s1 h1 hi hf1 za1 zb1 hs1 hmz
      refine wp_iload_n dX8_copyFrom_28 rfl rfl ?_
      refine wp_iconst (v := (nI 4)) dX8_copyFrom_29 (by decide +kernel) ?_
      refine wp_icmp_geN dX8_copyFrom_30 rfl rfl ⟨by omega, by omega⟩ (fun c2 => ?_) (fun c2 => ?_)
      · exact cpf_end hne hf1 za1 zb1 hs2 (fun p hp => hs1 p (by omega)) hq
      · refine wp_aload_n dX8_copyFrom_33 rfl rfl ?_
        refine wp_getR dX8_copyFrom_34 lX8_19 rfl za1.o za1.r1 ?_
        refine wp_iload_n dX8_copyFrom_37 rfl rfl ?_
        refine wp_aload_n dX8_copyFrom_38 rfl rfl ?_
        refine wp_getR dX8_copyFrom_39 lX8_19 rfl zb1.o zb1.r1 ?_
        refine wp_iload_n dX8_copyFrom_42 rfl rfl ?_
        rcases hx9 : tl i with _ | q9
        · refine wp_aaldJ dX8_copyFrom_43 zb1.a1 (by decide) (by decide) rfl ⟨by omega, by omega⟩ ((congrFun zb1.c1 i).trans hx9) ?_
          refine wp_aastNJ dX8_copyFrom_44 za1.a1 (by decide) (by decide) rfl ⟨by omega, by omega⟩ ?_
          refine za1.w1 (fun hh1 f1 za_1 => ?_)
          have zb1_1 := zb1.fr f1 (rnS (fun e9 => hne e9.symm) rn0)
          refine wp_iinc1 (ls1 := [_, _, some _]) dX8_copyFrom_45 rfl (by decide) rfl ?_
          refine wp_goto dX8_copyFrom_48 ?_
          exact ih (i + 1) _ _ (by omega) (hf1.tr f1) za_1 zb1_1 (upN_s hs1 hx9) (by omega)
        · refine wp_aaldJ dX8_copyFrom_43 zb1.a1 (by decide) (by decide) rfl ⟨by omega, by omega⟩ ((congrFun zb1.c1 i).trans hx9) ?_
          refine wp_aastJ dX8_copyFrom_44 za1.a1 (by decide) (by decide) rfl ⟨by omega, by omega⟩ (hf1.o (ho1 i q9 (by omega) hx9)) ?_
          refine za1.w1 (fun hh2 f2 za_2 => ?_)
          have zb1_2 := zb1.fr f2 (rnS (fun e9 => hne e9.symm) rn0)
          refine wp_iinc1 (ls1 := [_, _, some _]) dX8_copyFrom_45 rfl (by decide) rfl ?_
          refine wp_goto dX8_copyFrom_48 ?_
          exact ih (i + 1) _ _ (by omega) (hf1.tr f2) za_2 zb1_2 (upN_s hs1 hx9) (by omega)
  intro h1 hf1 za1 zb1
  exact hlp1 5 0 sl h1 (by omega) hf1 za1 zb1 (fun p hp => absurd hp (Nat.not_lt_zero p)) (by omega)
set_option maxRecDepth 20000 in
theorem cpf_z {h : mH} {Q : Option Value → mH → Prop} {ow : Nat → Nat} {a ρ b σ : Nat} {sp sl tp tl : Nat → Option Nat} {ss se ts te : Nat → Int64} {sc tc : Int32} (hne : ρ ≠ σ) (ho0 : spO h 6 6 tp) (ho1 : spO h 4 4 tl) (za : zS ow h a ρ sp sl ss se sc) (zb : zS ow h b σ tp tl ts te tc) (hq : ∀ h' sp' sl' ss' se', cFr [ρ] 0 ow h ow h' → zS ow h' a ρ sp' sl' ss' se' tc → (∀ p, p < 6 → sp' p = tp p) → (∀ p, p < 4 → sl' p = tl p) → (∀ p, p < 24 → ss' p = ts p) → (∀ p, p < 24 → se' p = te p) → Q none h') : Wp mX8_copyFrom 1 26 0 [some (.ref a), some (.ref b), none] [] h Q := by
  have hlp0 : ∀  (t9 : Nat) (i : Nat) (s1 : Nat → Option Nat) (h1 : mH), (i ≤ 6) → (cFr [ρ] 0 ow h ow h1) → (zS ow h1 a ρ s1 sl ss se sc) → (zS ow h1 b σ tp tl ts te tc) → (∀ p, p < i → s1 p = tp p) → (6 < i + t9) → Wp mX8_copyFrom 1 26 2 [some (.ref a), some (.ref b), some (.int (nI i))] [] h1 Q := by
    intro t9
    induction t9 with
    | zero => intros; omega
    | succ t9 ih =>
      intro i s1 h1 hi hf1 za1 zb1 hs1 hmz
      refine wp_iload_n dX8_copyFrom_2 rfl rfl ?_
      refine wp_bipush (v := (nI 6)) dX8_copyFrom_3 (by decide +kernel) ?_
      refine wp_icmp_geN dX8_copyFrom_5 rfl rfl ⟨by omega, by omega⟩ (fun c2 => ?_) (fun c2 => ?_)
      · refine wp_iconst (v := (nI 0)) dX8_copyFrom_26 (by decide +kernel) ?_
        refine wp_istore_n (ls1 := [_, _, some _]) dX8_copyFrom_27 rfl (by decide) rfl ?_
        exact cpf_l hne ho0 ho1 (fun p hp => hs1 p (by omega)) hq _ hf1 za1 zb1
      · refine wp_aload_n dX8_copyFrom_8 rfl rfl ?_
        refine wp_getR dX8_copyFrom_9 lX8_11 rfl za1.o za1.r0 ?_
        refine wp_iload_n dX8_copyFrom_12 rfl rfl ?_
        refine wp_aload_n dX8_copyFrom_13 rfl rfl ?_
        refine wp_getR dX8_copyFrom_14 lX8_11 rfl zb1.o zb1.r0 ?_
        refine wp_iload_n dX8_copyFrom_17 rfl rfl ?_
        rcases hx9 : tp i with _ | q9
        · refine wp_aaldJ dX8_copyFrom_18 zb1.a0 (by decide) (by decide) rfl ⟨by omega, by omega⟩ ((congrFun zb1.c0 i).trans hx9) ?_
          refine wp_aastNJ dX8_copyFrom_19 za1.a0 (by decide) (by decide) rfl ⟨by omega, by omega⟩ ?_
          refine za1.w0 (fun hh1 f1 za_1 => ?_)
          have zb1_1 := zb1.fr f1 (rnS (fun e9 => hne e9.symm) rn0)
          refine wp_iinc1 (ls1 := [_, _, some _]) dX8_copyFrom_20 rfl (by decide) rfl ?_
          refine wp_goto dX8_copyFrom_23 ?_
          exact ih (i + 1) _ _ (by omega) (hf1.tr f1) za_1 zb1_1 (upN_s hs1 hx9) (by omega)
        · refine wp_aaldJ dX8_copyFrom_18 zb1.a0 (by decide) (by decide) rfl ⟨by omega, by omega⟩ ((congrFun zb1.c0 i).trans hx9) ?_
          refine wp_aastJ dX8_copyFrom_19 za1.a0 (by decide) (by decide) rfl ⟨by omega, by omega⟩ (hf1.o (ho0 i q9 (by omega) hx9)) ?_
          refine za1.w0 (fun hh2 f2 za_2 => ?_)
          have zb1_2 := zb1.fr f2 (rnS (fun e9 => hne e9.symm) rn0)
          refine wp_iinc1 (ls1 := [_, _, some _]) dX8_copyFrom_20 rfl (by decide) rfl ?_
          refine wp_goto dX8_copyFrom_23 ?_
          exact ih (i + 1) _ _ (by omega) (hf1.tr f2) za_2 zb1_2 (upN_s hs1 hx9) (by omega)
  refine wp_iconst (v := (nI 0)) dX8_copyFrom_0 (by decide +kernel) ?_
  refine wp_istore_n (ls1 := [_, _, some _]) dX8_copyFrom_1 rfl (by decide) rfl ?_
  exact hlp0 7 0 sp h (by omega) cFr.rf za zb (fun p hp => absurd hp (Nat.not_lt_zero p)) (by omega)
theorem pX8_copyFrom {h : mH} {Q : Option Value → mH → Prop} {ow : Nat → Nat} {a ρ b σ : Nat} {r : Nat → Int64} {sp sl : Nat → Option Nat} {ss se : Nat → Int64} {sc : Int32} (hne : ρ ≠ σ) (hn0 : ρ ≠ 0) (h6 : rP r ≤ 6) (za : zS ow h a ρ sp sl ss se sc) (g : stX ow h b σ r) (hq : ∀ h', cFr [ρ] 0 ow h ow h' → stX ow h' a ρ r → Q none h') : Wp mX8_copyFrom 1 26 0 [some (.ref a), some (.ref b), none] [] h Q := by
  obtain ⟨⟨tp, tl, ts, te, zb, _⟩, _⟩ := id g
  exact cpf_z hne (g.o0 zb h6) (g.o1 zb) za zb (fun h' sp' sl' ss' se' f z h1 h2 h3 h4 => hq h' f (g.mk zb f (rnS (fun e => hn0 e.symm) rn0) z rfl h1 h2 h3 h4 h6))
set_option maxRecDepth 20000 in
theorem clr_end {h h1 : mH} {Q : Option Value → mH → Prop} {ow : Nat → Nat} {a ρ : Nat} {ss se : Nat → Int64} {sc : Int32} {sp1 sl1 : Nat → Option Nat} {k : Nat} (hf1 : cFr [ρ] 0 ow h ow h1) (za1 : zS ow h1 a ρ sp1 sl1 ss se sc) (hs1 : ∀ p, p < 6 → sp1 p = none) (hl1 : ∀ p, p < 4 → sl1 p = none) (hq : ∀ h' sp' sl' ss' se', cFr [ρ] 0 ow h ow h' → zS ow h' a ρ sp' sl' ss' se' (nI 0) → (∀ p, p < 6 → sp' p = none) → (∀ p, p < 4 → sl' p = none) → (∀ p, p < 24 → ss' p = 0) → (∀ p, p < 24 → se' p = 0) → Q none h') : Wp mX8_clear 1 24 41 [some (.ref a), some (.int (nI k))] [] h1 Q := by
  refine wp_aload_n dX8_clear_41 rfl rfl ?_
  refine wp_getR dX8_clear_42 lX8_23 rfl za1.o za1.r2 ?_
  refine wp_lconst (v := 0) dX8_clear_45 (by decide +kernel) ?_
  refine wp_cS2 0 0 [some _, some _, none, none, none] dX8_clear_46 tJ7_fill_d0a16 sJ7_fill_d0a16 lX8_40 ⟨by decide, by decide⟩ (Nat.le_of_ble_eq_true rfl) (Nat.le_of_ble_eq_true rfl) rfl ?_
  refine pJ7_fill_d0a16 za1.a2 (by decide) ?_
  intro _ _
  refine za1.z2 rfl (fun hh1 f1 za_1 => ?_)
  refine wp_aload_n dX8_clear_49 rfl rfl ?_
  refine wp_getR dX8_clear_50 lX8_27 rfl za_1.o za_1.r3 ?_
  refine wp_lconst (v := 0) dX8_clear_53 (by decide +kernel) ?_
  refine wp_cS2 0 0 [some _, some _, none, none, none] dX8_clear_54 tJ7_fill_d0a16 sJ7_fill_d0a16 lX8_40 ⟨by decide, by decide⟩ (Nat.le_of_ble_eq_true rfl) (Nat.le_of_ble_eq_true rfl) rfl ?_
  refine pJ7_fill_d0a16 za_1.a3 (by decide) ?_
  intro _ _
  refine za_1.z3 rfl (fun hh2 f2 za_2 => ?_)
  refine wp_aload_n dX8_clear_57 rfl rfl ?_
  refine wp_iconst (v := (nI 0)) dX8_clear_58 (by decide +kernel) ?_
  refine wp_putI dX8_clear_59 lX8_36 rfl (Or.inl rfl) za_2.o rfl rfl ?_
  refine za_2.p4 (fun hh3 f3 za_3 => ?_)
  refine wp_vreturn dX8_clear_62 rfl ?_
  exact hq _ _ _ _ _ (((hf1.tr f1).tr f2).tr f3) za_3 hs1 hl1 (fun p hp => if_pos hp) (fun p hp => if_pos hp)
set_option maxRecDepth 20000 in
theorem clr_l {h : mH} {Q : Option Value → mH → Prop} {ow : Nat → Nat} {a ρ : Nat} {sl : Nat → Option Nat} {ss se : Nat → Int64} {sc : Int32} {sp2 : Nat → Option Nat} (hs2 : ∀ p, p < 6 → sp2 p = none) (hq : ∀ h' sp' sl' ss' se', cFr [ρ] 0 ow h ow h' → zS ow h' a ρ sp' sl' ss' se' (nI 0) → (∀ p, p < 6 → sp' p = none) → (∀ p, p < 4 → sl' p = none) → (∀ p, p < 24 → ss' p = 0) → (∀ p, p < 24 → se' p = 0) → Q none h') : ∀ h1, cFr [ρ] 0 ow h ow h1 → zS ow h1 a ρ sp2 sl ss se sc → Wp mX8_clear 1 24 23 [some (.ref a), some (.int (nI 0))] [] h1 Q := by
  have hlp1 : ∀  (t9 : Nat) (i : Nat) (s1 : Nat → Option Nat) (h1 : mH), (i ≤ 4) → (cFr [ρ] 0 ow h ow h1) → (zS ow h1 a ρ sp2 s1 ss se sc) → (∀ p, p < i → s1 p = none) → (4 < i + t9) → Wp mX8_clear 1 24 23 [some (.ref a), some (.int (nI i))] [] h1 Q := by
    intro t9
    induction t9 with
    | zero => intros; omega
    | succ t9 ih =>
      intro i s1 h1 hi hf1 za1 hs1 hmz
      refine wp_iload_n dX8_clear_23 rfl rfl ?_
      refine wp_iconst (v := (nI 4)) dX8_clear_24 (by decide +kernel) ?_
      refine wp_icmp_geN dX8_clear_25 rfl rfl ⟨by omega, by omega⟩ (fun c2 => ?_) (fun c2 => ?_)
      · exact clr_end hf1 za1 hs2 (fun p hp => hs1 p (by omega)) hq
      · refine wp_aload_n dX8_clear_28 rfl rfl ?_
        refine wp_getR dX8_clear_29 lX8_19 rfl za1.o za1.r1 ?_
        refine wp_iload_n dX8_clear_32 rfl rfl ?_
        refine wp_null dX8_clear_33 ?_
        refine wp_aastNJ dX8_clear_34 za1.a1 (by decide) (by decide) rfl ⟨by omega, by omega⟩ ?_
        refine za1.w1 (fun hh1 f1 za_1 => ?_)
        refine wp_iinc1 (ls1 := [_, some _]) dX8_clear_35 rfl (by decide) rfl ?_
        refine wp_goto dX8_clear_38 ?_
        exact ih (i + 1) _ _ (by omega) (hf1.tr f1) za_1 (upN_s (tp := fun _ => none) hs1 rfl) (by omega)
  intro h1 hf1 za1
  exact hlp1 5 0 sl h1 (by omega) hf1 za1 (fun p hp => absurd hp (Nat.not_lt_zero p)) (by omega)
set_option maxRecDepth 20000 in
theorem pX8_clear {h : mH} {Q : Option Value → mH → Prop} {ow : Nat → Nat} {a ρ : Nat} {sp sl : Nat → Option Nat} {ss se : Nat → Int64} {sc : Int32} (za : zS ow h a ρ sp sl ss se sc) (hq : ∀ h' sp' sl' ss' se', cFr [ρ] 0 ow h ow h' → zS ow h' a ρ sp' sl' ss' se' (nI 0) → (∀ p, p < 6 → sp' p = none) → (∀ p, p < 4 → sl' p = none) → (∀ p, p < 24 → ss' p = 0) → (∀ p, p < 24 → se' p = 0) → Q none h') : Wp mX8_clear 1 24 0 [some (.ref a), none] [] h Q := by
  have hlp0 : ∀  (t9 : Nat) (i : Nat) (s1 : Nat → Option Nat) (h1 : mH), (i ≤ 6) → (cFr [ρ] 0 ow h ow h1) → (zS ow h1 a ρ s1 sl ss se sc) → (∀ p, p < i → s1 p = none) → (6 < i + t9) → Wp mX8_clear 1 24 2 [some (.ref a), some (.int (nI i))] [] h1 Q := by
    intro t9
    induction t9 with
    | zero => intros; omega
    | succ t9 ih =>
      intro i s1 h1 hi hf1 za1 hs1 hmz
      refine wp_iload_n dX8_clear_2 rfl rfl ?_
      refine wp_bipush (v := (nI 6)) dX8_clear_3 (by decide +kernel) ?_
      refine wp_icmp_geN dX8_clear_5 rfl rfl ⟨by omega, by omega⟩ (fun c2 => ?_) (fun c2 => ?_)
      · refine wp_iconst (v := (nI 0)) dX8_clear_21 (by decide +kernel) ?_
        refine wp_istore_n (ls1 := [_, some _]) dX8_clear_22 rfl (by decide) rfl ?_
        exact clr_l (fun p hp => hs1 p (by omega)) hq _ hf1 za1
      · refine wp_aload_n dX8_clear_8 rfl rfl ?_
        refine wp_getR dX8_clear_9 lX8_11 rfl za1.o za1.r0 ?_
        refine wp_iload_n dX8_clear_12 rfl rfl ?_
        refine wp_null dX8_clear_13 ?_
        refine wp_aastNJ dX8_clear_14 za1.a0 (by decide) (by decide) rfl ⟨by omega, by omega⟩ ?_
        refine za1.w0 (fun hh1 f1 za_1 => ?_)
        refine wp_iinc1 (ls1 := [_, some _]) dX8_clear_15 rfl (by decide) rfl ?_
        refine wp_goto dX8_clear_18 ?_
        exact ih (i + 1) _ _ (by omega) (hf1.tr f1) za_1 (upN_s (tp := fun _ => none) hs1 rfl) (by omega)
  refine wp_iconst (v := (nI 0)) dX8_clear_0 (by decide +kernel) ?_
  refine wp_istore_n (ls1 := [_, some _]) dX8_clear_1 rfl (by decide) rfl ?_
  exact hlp0 7 0 sp h (by omega) cFr.rf za (fun p hp => absurd hp (Nat.not_lt_zero p)) (by omega)
