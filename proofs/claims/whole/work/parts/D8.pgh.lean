/-! ===== a page made: its head; a page more ===== -/
theorem zQ0_new {ow : Nat → Nat} {h : mH} (hz : hN h < scrA) : cFr [18] 13 ow h (upN ow (hN h) 18) (nw h 6 (mCz 6)) ∧ zQ0 (upN ow (hN h) 18) (nw h 6 (mCz 6)) (hN h) 18 (nI 0) (nI 0) ∧ hN (nw h 6 (mCz 6)) = hN h + 1 := by
  have hi : ∀ y, hI (nw h 6 (mCz 6)) (hN h) y = nI 0 := fun y => by rw [hI_nw, if_pos rfl, nI_0]
  exact ⟨cFr_nw 18 hz, ⟨⟨Nat.lt_succ_self _, by rw [hK_nw, if_pos rfl]⟩, upN_at _ _ _, hi 0, hi 4⟩, rfl⟩
theorem zQ0.s0 {ow : Nat → Nat} {h : mH} {a ρ : Nat} {pc pu : Int32} (g : zQ0 ow h a ρ pc pu) (v : Int32) : zQ0 ow (sI h a 0 v) a ρ v pu := ⟨g.o, g.w, by rw [hI_sI, if_pos ⟨rfl, rfl⟩], by rw [hI_sI, if_neg (by omega)]; exact g.f4⟩
set_option maxRecDepth 20000 in
theorem pX6_init {h : mH} {Q : Option Value → mH → Prop} {ow : Nat → Nat} {q ra b P : Nat} {r : Nat → Int64} (hP : P < 6) (hT : ∀ p, p ≤ P → rT r p ≤ 40) (zq : zQ0 ow h q 18 (nI 0) (nI 0)) (hn : hN h = q + 1) (hz : hU h + 8 * hN h + 200 ≤ 8000000) (hra : hA h ra 15 40) (hwa : ow ra = 19) (hW : ∀ k, k < (rT r P) → hL h ra k = rW r P k) (hb : hA h b 19 6) (hpg : ∀ h1 ow1 u1, cFr [18] u1 ow h ow1 h1 → ∀ p, p < P → ∃ q, hR h1 b p = some q ∧ pgR ow1 h1 q r p) (hg : ∀ k, k < (rT r P) → goodW (rW r P k)) (hq : ∀ h' ow', cFr [18] (3 * (rT r P) + 24) ow h ow' h' → pgN ow' h' q 18 r P → Q none h') : Wp mX6_init 2 48 0 [some (.ref q), some (.ref ra), some (.int (nI (rT r P))), some (.ref b), some (.int (nI P)), none, none, none, none, none] [] h Q := by
  have hTP := hT P (Nat.le_refl _)
  have hsc : scrA = 1000000000 := rfl
  refine wp_aload_n dX6_init_0 rfl rfl ?_
  refine wp_objInit dX6_init_1 lX6_3 wOi wOc (Nat.le_of_ble_eq_true rfl) (by decide) ?_
  refine wp_aload_n dX6_init_4 rfl rfl ?_
  refine wp_iconst (v := (nI 0)) dX6_init_5 (by decide +kernel) ?_
  refine wp_iload_n dX6_init_6 rfl rfl ?_
  refine wp_aload_n dX6_init_7 rfl rfl ?_
  refine wp_alen dX6_init_8 hra (by decide) (by decide) rfl ?_
  refine wp_cS2 0 0 [some _, some _] dX6_init_9 tJ9_min_7cf53 sJ9_min_7cf53 lX6_9 ⟨by decide, by decide⟩ (Nat.le_of_ble_eq_true rfl) (Nat.le_of_ble_eq_true rfl) rfl ?_
  rw [show (Int32.ofNat 40 : Int32) = nI 40 from rfl]
  refine pJ9_min_7cf53 (by omega) (by omega) ?_
  intro _ _
  rw [show min (rT r P) 40 = (rT r P) by omega]
  refine wp_cS2 0 0 [some _, some _] dX6_init_12 tJ9_max_7cf53 sJ9_max_7cf53 lX6_15 ⟨by decide, by decide⟩ (Nat.le_of_ble_eq_true rfl) (Nat.le_of_ble_eq_true rfl) rfl ?_
  refine pJ9_max_7cf53 (by omega) (by omega) ?_
  intro _ _
  rw [Nat.zero_max]
  refine wp_putI dX6_init_15 lX6_18 rfl (Or.inr ⟨rfl, rfl, rfl⟩) zq.o rfl rfl ?_
  have hn1 : hN (sI h q 0 (nI (rT r P))) = q + 1 := hn
  have hu1 : hU (sI h q 0 (nI (rT r P))) = hU h := rfl
  have f1 := cFr_sI (ow := ow) (h := h) (a := q) (k := 0) (v := nI (rT r P)) zq.w
  have zq_1 := zq.s0 (nI (rT r P))
  generalize sI h q 0 (nI (rT r P)) = hh1 at *
  have hra1 := f1.a hra
  have hb1 := f1.a hb
  refine wp_aload_n dX6_init_18 rfl rfl ?_
  refine wp_aload_n dX6_init_19 rfl rfl ?_
  refine wp_aload_n dX6_init_20 rfl rfl ?_
  refine wp_getIV dX6_init_21 lX6_18 rfl zq_1.o zq_1.f0 ?_
  refine wp_cS2 1 26 [some _, some _, none] dX6_init_24 tJ7_copyOf_c38d5 sJ7_copyOf_c38d5 lX6_24 ⟨by decide, by decide⟩ (Nat.le_of_ble_eq_true rfl) (Nat.le_of_ble_eq_true rfl) rfl ?_
  refine pJ7_copyOf_c38d5 hra1 (by omega) (by omega) (fun g2 nw2 cy2 => ?_)
  intro _ _
  refine wp_putR (v := some _) dX6_init_27 lX6_30 rfl (Or.inr ⟨rfl, rfl, rfl⟩) ⟨by have := nw2.1; have := zq_1.o.1; omega, by rw [(nw2.2.2.2 q (by omega)).1]; exact zq_1.o.2⟩ ?_
  have r3 := rlc_of (k := 1) zq_1.o.1 (by omega) nw2
  have cx3 : ∀ y, y < (rT r P) → hL (sR g2 q 1 (some (hN hh1))) (q + 1) y = rW r P y := fun y hy => by
    have := cy2 y (by omega)
    rw [show hN hh1 = q + 1 by omega] at this
    exact (show hL (sR g2 q 1 (some (hN hh1))) (q + 1) y = hL g2 (q + 1) y from rfl).trans (this.trans (by rw [(f1.s hra.1 hwa (rnS (by omega) rn0)).2.1]; exact hW y hy))
  have hn3 : hN (sR g2 q 1 (some (hN hh1))) = q + 1 + 1 := by have := r3.1; omega
  have hu3 := r3.2.1
  obtain ⟨f3, zq_3⟩ := zq_1.n1 (by omega) (by omega) r3
  generalize sR g2 q 1 (some (hN hh1)) = hh3 at *
  generalize upN ow (q + 1) 18 = ow3 at *
  have hra3 := f3.a hra1
  have hb3 := f3.a hb1
  refine wp_aload_n dX6_init_30 rfl rfl ?_
  refine wp_aload_n dX6_init_31 rfl rfl ?_
  refine wp_getIV dX6_init_32 lX6_18 rfl zq_3.o zq_3.f0 ?_
  refine wp_newI (N := (rT r P)) dX6_init_35 wAc14 (nI_pos (by omega)) (nI_clamp (by omega)) (by omega) ?_
  refine wp_putR (v := some _) dX6_init_37 lX6_34 rfl (Or.inr ⟨rfl, rfl, rfl⟩) (hO_nw zq_3.o) ?_
  have r4 := rlc_of (k := 2) zq_3.o.1 (by omega) (nwC_nw (h := hh3) (kd := 14) (n := (rT r P)))
  have hn4 : hN (sR (nw hh3 14 (rT r P)) q 2 (some (hN hh3))) = q + 2 + 1 := by have := r4.1; omega
  have hu4 := r4.2.1
  obtain ⟨f4, zq_4⟩ := zq_3.n2 (by omega) (by omega) r4
  generalize sR (nw hh3 14 (rT r P)) q 2 (some (hN hh3)) = hh4 at *
  generalize upN ow3 (q + 2) 18 = ow4 at *
  have hra4 := f4.a hra3
  have hb4 := f4.a hb3
  refine wp_aload_n dX6_init_40 rfl rfl ?_
  refine wp_aload_n dX6_init_41 rfl rfl ?_
  refine wp_getIV dX6_init_42 lX6_18 rfl zq_4.o zq_4.f0 ?_
  refine wp_newI (N := (rT r P)) dX6_init_45 wAc14 (nI_pos (by omega)) (nI_clamp (by omega)) (by omega) ?_
  refine wp_putR (v := some _) dX6_init_47 lX6_38 rfl (Or.inr ⟨rfl, rfl, rfl⟩) (hO_nw zq_4.o) ?_
  have r5 := rlc_of (k := 3) zq_4.o.1 (by omega) (nwC_nw (h := hh4) (kd := 14) (n := (rT r P)))
  have hn5 : hN (sR (nw hh4 14 (rT r P)) q 3 (some (hN hh4))) = q + 3 + 1 := by have := r5.1; omega
  have hu5 := r5.2.1
  obtain ⟨f5, zq_5⟩ := zq_4.n3 (by omega) (by omega) r5
  generalize sR (nw hh4 14 (rT r P)) q 3 (some (hN hh4)) = hh5 at *
  generalize upN ow4 (q + 3) 18 = ow5 at *
  have hra5 := f5.a hra4
  have hb5 := f5.a hb4
  refine wp_iload dX6_init_50 rfl ?_
  refine wp_if_leN dX6_init_52 rfl (by omega) (fun cz => ?_) (fun cz => ?_)
  · refine wp_null dX6_init_71 ?_
    refine wp_astoreN (ls1 := [_, _, _, _, _, some _, _, _, _, _]) dX6_init_72 (by decide) rfl ?_
    refine wp_aloadN dX6_init_74 rfl ?_
    refine wp_ifnonnullN dX6_init_76 ?_
    refine wp_iconst (v := (nI 0)) dX6_init_79 (by decide +kernel) ?_
    refine wp_goto dX6_init_80 ?_
    refine wp_istore (ls1 := [_, _, _, _, _, _, some _, _, _, _]) dX6_init_88 (by decide) rfl ?_
    have eP9 : P = 0 := by omega
    subst eP9
    refine wp_iconst (v := (nI 0)) dX6_init_90 (by decide +kernel) ?_
    refine wp_istore (ls1 := [_, _, _, _, _, _, _, some _, _, _]) dX6_init_91 (by decide) rfl ?_
    have FT := (((f1.tr f3).tr f4).tr f5)
    refine pgi_main rfl hP hT zq_5 hb5 (fun h1 g1 => hpg _ _ _ (FT.tr (g1.up (fun _ z => z) (Nat.le_refl _)))) hg (fun y hy => cx3 y hy) (fun h9 f9 pn9 => ?_)
    exact hq _ _ ((FT.tr f9).up (fun _ z => z) (by omega)) pn9
  · refine wp_iload dX6_init_55 rfl ?_
    refine wp_aload_n dX6_init_57 rfl rfl ?_
    refine wp_alen dX6_init_58 hb5 (by decide) (by decide) rfl ?_
    refine wp_icmp_gtN dX6_init_59 rfl rfl ⟨by omega, by omega⟩ (fun c3 => ?_) (fun c3 => ?_)
    · refine wp_null dX6_init_71 ?_
      refine wp_astoreN (ls1 := [_, _, _, _, _, some _, _, _, _, _]) dX6_init_72 (by decide) rfl ?_
      refine wp_aloadN dX6_init_74 rfl ?_
      refine wp_ifnonnullN dX6_init_76 ?_
      refine wp_iconst (v := (nI 0)) dX6_init_79 (by decide +kernel) ?_
      refine wp_goto dX6_init_80 ?_
      refine wp_istore (ls1 := [_, _, _, _, _, _, some _, _, _, _]) dX6_init_88 (by decide) rfl ?_
      have eP9 : P = 0 := by omega
      subst eP9
      refine wp_iconst (v := (nI 0)) dX6_init_90 (by decide +kernel) ?_
      refine wp_istore (ls1 := [_, _, _, _, _, _, _, some _, _, _]) dX6_init_91 (by decide) rfl ?_
      have FT := (((f1.tr f3).tr f4).tr f5)
      refine pgi_main rfl hP hT zq_5 hb5 (fun h1 g1 => hpg _ _ _ (FT.tr (g1.up (fun _ z => z) (Nat.le_refl _)))) hg (fun y hy => cx3 y hy) (fun h9 f9 pn9 => ?_)
      exact hq _ _ ((FT.tr f9).up (fun _ z => z) (by omega)) pn9
    · refine wp_aload_n dX6_init_62 rfl rfl ?_
      refine wp_iload dX6_init_63 rfl ?_
      refine wp_iconst (v := (nI 1)) dX6_init_65 (by decide +kernel) ?_
      refine wp_isub dX6_init_66 ?_
      obtain ⟨q9, eq9, pg9⟩ := hpg _ _ _ (((f1.tr f3).tr f4).tr f5) (P - 1) (by omega)
      refine wp_aaldJ dX6_init_67 hb5 (by decide) (by decide) (isN_sub rfl rfl (by omega)) ⟨by omega, by omega⟩ eq9 ?_
      refine wp_goto dX6_init_68 ?_
      refine wp_astore (ls1 := [_, _, _, _, _, some _, _, _, _, _]) dX6_init_72 (by decide) rfl ?_
      refine wp_aload dX6_init_74 rfl ?_
      refine wp_ifnonnull dX6_init_76 ?_
      refine wp_aload dX6_init_83 rfl ?_
      refine wp_getIV dX6_init_85 lX6_41 rfl pg9.oo pg9.f4 ?_
      refine wp_istore (ls1 := [_, _, _, _, _, _, some _, _, _, _]) dX6_init_88 (by decide) rfl ?_
      rw [show P - 1 + 1 = P by omega]
      refine wp_iconst (v := (nI 0)) dX6_init_90 (by decide +kernel) ?_
      refine wp_istore (ls1 := [_, _, _, _, _, _, _, some _, _, _]) dX6_init_91 (by decide) rfl ?_
      have FT := (((f1.tr f3).tr f4).tr f5)
      refine pgi_main rfl hP hT zq_5 hb5 (fun h1 g1 => hpg _ _ _ (FT.tr (g1.up (fun _ z => z) (Nat.le_refl _)))) hg (fun y hy => cx3 y hy) (fun h9 f9 pn9 => ?_)
      exact hq _ _ ((FT.tr f9).up (fun _ z => z) (by omega)) pn9
