/-! ===== a page more ===== -/
theorem cFr.roN {S : List Nat} {u : Nat} {ow ow' : Nat → Nat} {h h' : mH} {a n ρ : Nat} (f : cFr S u ow h ow' h') (ha : hN h ≤ a) (hz : a + n ≤ scrA) : cFr S u ow h (roN ow' a n ρ) h' := ⟨f.1, fun x hx => ⟨(f.2 x hx).1, (roN_ne (by rcases hx with z | z <;> omega)).trans (f.2 x hx).2.1, (f.2 x hx).2.2⟩⟩
theorem pgN.ro {ow : Nat → Nat} {h : mH} {q : Nat} {r : Nat → Int64} {p : Nat} (g : pgN ow h q 18 r p) : pgR (roN ow q 4 0) h q r p := by
  obtain ⟨pt, pk, pn, z, e⟩ := g
  exact ⟨pt, pk, pn, ⟨z.o, roN_in (by omega), z.f0, z.r1, z.a1, roN_in (by omega), z.c1, z.r2, z.a2, roN_in (by omega), z.c2, z.r3, z.a3, roN_in (by omega), z.c3, z.f4⟩, e⟩
theorem mkL_hi {r r' : Nat → Int64} {f p : Nat} (hp : p < 6) (hr : ∀ y, 247 ≤ y → r' y = r y) : mkL r' f p = mkL r f p := by
  refine mkL_cg ?_ (fun i hi => ?_)
  · unfold rM; rw [hr _ (by unfold rX; omega)]
  · unfold rA rB; rw [hr _ (by unfold rX; omega), hr _ (by unfold rX; omega)]; exact ⟨rfl, rfl⟩
theorem stX.add {ow : Nat → Nat} {h h' : mH} {S : List Nat} {u9 a ρ P : Nat} {ow' : Nat → Nat} {r r' : Nat → Int64} {sp sl : Nat → Option Nat} {ss se : Nat → Int64} {sc : Int32} {q : Nat} (g : stX ow h a ρ r) (z : zS ow h a ρ sp sl ss se sc) (f : cFr S u9 ow h ow' h') (h0 : 0 ∉ S) (hP : rP r = P) (hP6 : P < 6) (hP' : rP r' = P + 1) (hln : ∀ f, f < 4 → r (655 + 70 * f) = 1 → lrN r f ≤ 6 ∧ lrS r f 0 ≤ 40) (hr : ∀ y, 247 ≤ y → r' y = r y) (hT : ∀ q, q < P → rT r' q = rT r q ∧ ∀ k, k < rT r q → rW r' q k = rW r q k) (z' : zS ow' h' a ρ (upN sp P (some q)) sl ss se (nI (P + 1))) (pg : pgR ow' h' q r' P) : stX ow' h' a ρ r' := by
  obtain ⟨⟨sp0, sl0, ss0, se0, z0, hp, hl, hb⟩, hn⟩ := g
  have e0 : sp0 = sp := z0.c0.symm.trans z.c0
  have e1 : sl0 = sl := z0.c1.symm.trans z.c1
  have e2 : ss0 = ss := z0.c2.symm.trans z.c2
  have e3 : se0 = se := z0.c3.symm.trans z.c3
  subst e0 e1 e2 e3
  subst hP
  refine ⟨⟨_, _, _, _, by rw [hP']; exact z', fun p hp9 => ?_, fun f9 hf9 => ⟨fun e => ?_, fun e => ?_⟩, fun f9 p9 hf9 hp9 => ?_⟩, fun p hp9 hp6 => ?_⟩
  · by_cases c : p = rP r
    · subst c; exact ⟨q, upN_at _ _ _, pg⟩
    · obtain ⟨q1, e, g⟩ := hp p (by omega)
      exact ⟨q1, (upN_ne c).trans e, (g.fr f h0).cg (fun q9 hq9 => hT q9 (by omega))⟩
  · rw [hr _ (by omega)] at e
    obtain ⟨q1, e1, g⟩ := (hl f9 hf9).1 e
    exact ⟨q1, e1, (g.fr f h0).cg (hln f9 hf9 e).1 (hln f9 hf9 e).2 (fun y hy _ => hr y (by omega))⟩
  · rw [hr _ (by omega)] at e
    exact (hl f9 hf9).2 e
  · rw [mkL_hi hp9 hr]; exact hb f9 p9 hf9 hp9
  · rw [congrFun z'.c0 p, upN_ne (by omega), ← congrFun z0.c0 p]; exact hn p (by omega) hp6
set_option maxRecDepth 20000 in
theorem pX8_addPage {h : mH} {Q : Option Value → mH → Prop} {ow : Nat → Nat} {a ρ ra P : Nat} {r r' : Nat → Int64} (g : stX ow h a ρ r) (hρ : 18 < ρ) (hP : rP r = P) (hP6 : P < 6) (hP' : rP r' = P + 1) (hln : ∀ f, f < 4 → r (655 + 70 * f) = 1 → lrN r f ≤ 6 ∧ lrS r f 0 ≤ 40) (hr : ∀ y, 247 ≤ y → r' y = r y) (hT : ∀ q, q < P → rT r' q = rT r q ∧ ∀ k, k < rT r q → rW r' q k = rW r q k) (h40 : ∀ p, p ≤ P → rT r' p ≤ 40) (hz : hU h + 8 * hN h + 300 ≤ 8000000) (hra : hA h ra 15 40) (hwa : ow ra = 19) (hW : ∀ k, k < rT r' P → hL h ra k = rW r' P k) (hg : ∀ k, k < rT r' P → goodW (rW r' P k)) (hq : ∀ h' ow', cFr [18, ρ] 157 ow h ow' h' → stX ow' h' a ρ r' → Q none h') : Wp mX8_addPage 3 77 0 [some (.ref a), some (.ref ra), some (.int (nI (rT r' P)))] [] h Q := by
  have hTP := h40 P (Nat.le_refl _)
  have hsc : scrA = 1000000000 := rfl
  obtain ⟨⟨sp, sl, ss, se, z, hpg, _⟩, _⟩ := id g
  rw [hP] at z hpg
  refine wp_aload_n dX8_addPage_0 rfl rfl ?_
  refine wp_getIV dX8_addPage_1 lX8_36 rfl z.o z.f4 ?_
  refine wp_bipush (v := (nI 6)) dX8_addPage_4 (by decide +kernel) ?_
  refine wp_icmp_geN dX8_addPage_6 rfl rfl ⟨by omega, by omega⟩ (fun c2 => ?_) (fun c2 => ?_)
  · refine wp_vreturn dX8_addPage_45 rfl ?_
    exact absurd hP6 (by omega)
  · refine wp_aload_n dX8_addPage_9 rfl rfl ?_
    refine wp_getR dX8_addPage_10 lX8_11 rfl z.o z.r0 ?_
    refine wp_aload_n dX8_addPage_13 rfl rfl ?_
    refine wp_getIV dX8_addPage_14 lX8_36 rfl z.o z.f4 ?_
    refine wp_new dX8_addPage_17 (by decide) lX8_9 (mInst 6 (by decide)) (mInit 6 (by decide)) ?_
    obtain ⟨f1, zq1, hn1⟩ := zQ0_new (ow := ow) (h := h) (by omega)
    have hh1N := f1.1
    generalize nw h 6 (mCz 6) = hh1 at *
    generalize upN ow (hN h) 18 = ow1 at *
    have z_1 := z.fr f1 (rnS (by omega) rn0)
    refine wp_dup dX8_addPage_20 rfl ?_
    refine wp_aload_n dX8_addPage_21 rfl rfl ?_
    refine wp_iload_n dX8_addPage_22 rfl rfl ?_
    refine wp_aload_n dX8_addPage_23 rfl rfl ?_
    refine wp_getR dX8_addPage_24 lX8_11 rfl z_1.o z_1.r0 ?_
    refine wp_aload_n dX8_addPage_27 rfl rfl ?_
    refine wp_getIV dX8_addPage_28 lX8_36 rfl z_1.o z_1.f4 ?_
    refine wp_cI4 2 48 [some _, some _, some _, some _, some _, none, none, none, none, none] dX8_addPage_31 tX6_init rfl rfl nX6_init lX8_46 ⟨by decide, by decide⟩ (Nat.le_of_ble_eq_true rfl) (Nat.le_of_ble_eq_true rfl) rfl ?_
    refine pX6_init (r := r') (P := P) (q := hN h) hP6 h40 zq1 hn1 (by omega) (f1.a hra) ((f1.w hra.1).trans hwa) (fun k hk => by rw [(f1.s hra.1 hwa (rnS (by omega) rn0)).2.1]; exact hW k hk) z_1.a0 (fun h9 ow9 u9 f9 p9 hp9 => ?_) hg (fun hh2 ow2 f2 pn2 => ?_)
    · obtain ⟨q1, e1, g1⟩ := hpg p9 hp9
      have F9 := f1.tr f9
      exact ⟨q1, (congrFun (z.fr F9 (rnS (by omega) rn0)).c0 p9).trans e1, (g1.fr F9 (rnS (by omega) rn0)).cg (fun q9 hq9 => hT q9 (by omega))⟩
    intro _ _
    have F2 := (f1.tr f2).roN (a := hN h) (n := 4) (ρ := 0) (Nat.le_refl _) (by omega)
    have pg3 := pn2.ro
    generalize roN ow2 (hN h) 4 0 = ow3 at *
    have z_2 := z.fr F2 (rnS (by omega) rn0)
    refine wp_aastJ dX8_addPage_34 z_2.a0 (by decide) (by decide) rfl ⟨by omega, by omega⟩ pg3.oo ?_
    refine z_2.w0 (fun hh3 f3 z_3 => ?_)
    refine wp_aload_n dX8_addPage_35 rfl rfl ?_
    refine wp_dup dX8_addPage_36 rfl ?_
    refine wp_getIV dX8_addPage_37 lX8_36 rfl z_3.o z_3.f4 ?_
    refine wp_iconst (v := (nI 1)) dX8_addPage_40 (by decide +kernel) ?_
    refine wp_iadd dX8_addPage_41 ?_
    refine wp_putIN dX8_addPage_42 lX8_36 rfl rfl (Or.inl rfl) z_3.o (isN_add rfl rfl) ?_
    refine z_3.p4 (fun hh11 f11 z_11 => ?_)
    refine wp_vreturn dX8_addPage_45 rfl ?_
    have FT := cFr.tr (S := [18, ρ]) (F2.up (fun x hx => by simp at hx ⊢; omega) (Nat.le_refl _)) (cFr.tr (f3.up (fun x hx => by simp at hx ⊢; omega) (Nat.le_refl _)) (f11.up (fun x hx => by simp at hx ⊢; omega) (Nat.le_refl _)))
    have pg4 := (pg3.fr f3 (rnS (by omega) rn0)).fr f11 (rnS (by omega) rn0)
    exact hq _ _ (FT.up (fun x hx => hx) (by omega)) (g.add z FT (rnS (by omega) (rnS (by omega) rn0)) hP hP6 hP' hln hr hT z_11 pg4)
