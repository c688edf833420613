/-! ===== the reader: a text opened; a field's line ===== -/
section RSF
variable {ow : Nat → Nat} {h : mH} {rc : Nat → Int32} {rp rf rl : Int32} {rq : Option Nat} {tp : Nat → Int32} {N a : Nat}
theorem rS.oo (g : rS ow h rc rp rq rf rl tp N a) : hO h 6 7 := by obtain ⟨w, z, e⟩ := g; exact z.o
theorem rS.r0 (g : rS ow h rc rp rq rf rl tp N a) : hR h 6 0 = some 7 := by obtain ⟨w, z, e⟩ := g; exact z.r0
theorem rS.r1 (g : rS ow h rc rp rq rf rl tp N a) : hR h 6 1 = some 14 := by obtain ⟨w, z, e⟩ := g; exact z.r1
theorem rS.f2 (g : rS ow h rc rp rq rf rl tp N a) : hI h 6 2 = rp := by obtain ⟨w, z, e⟩ := g; exact z.f2
theorem rS.f3 (g : rS ow h rc rp rq rf rl tp N a) : hR h 6 3 = rq := by obtain ⟨w, z, e⟩ := g; exact z.f3
theorem rS.f4 (g : rS ow h rc rp rq rf rl tp N a) : hI h 6 4 = rf := by obtain ⟨w, z, e⟩ := g; exact z.f4
theorem rS.f5 (g : rS ow h rc rp rq rf rl tp N a) : hI h 6 5 = rl := by obtain ⟨w, z, e⟩ := g; exact z.f5
theorem rS.f10 (g : rS ow h rc rp rq rf rl tp N a) : hI h 6 10 = nI (rkN (tS tp N a)) := by obtain ⟨w, z, e⟩ := g; exact z.f10.trans (kC_n _)
theorem rS.f11 (g : rS ow h rc rp rq rf rl tp N a) (h1 : 1 ≤ tS tp N a) (h3 : tS tp N a ≤ 3) : hL h 6 11 = tW tp N a := by obtain ⟨w, z, e⟩ := g; exact z.f11.trans (e h1 h3)
end RSF
theorem isNm_t {tb : Nat → Int32} {N a : Nat} {nm : Nat → Int64} {mn : Nat → Int32} {f : Nat} (h : isNm tb N a = false) : pH tb N a nm mn f = .error (bd tb N 2 a, tP tb N a) := by
  unfold pH; rw [if_neg (by rw [h]; exact fun z => by cases z)]
theorem pH_no {tb : Nat → Int32} {N a : Nat} {nm : Nat → Int64} {mn : Nat → Int32} {f : Nat} (h : isNm tb N a = true) (e : fdN nm f (tW tb N a) = none) : pH tb N a nm mn f = .error (3, tP tb N a) := by
  unfold pH; rw [if_pos h, e]
theorem pH_mn {tb : Nat → Int32} {N a : Nat} {nm : Nat → Int64} {mn : Nat → Int32} {f j : Nat} (h : isNm tb N a = true) (e : fdN nm f (tW tb N a) = some j) (hm : ¬ mn j = 0) : pH tb N a nm mn f = .error (3, tP tb N a) := by
  unfold pH; rw [if_pos h, e]; exact if_neg hm
theorem pH_so {tb : Nat → Int32} {N a : Nat} {nm : Nat → Int64} {mn : Nat → Int32} {f j : Nat} (h : isNm tb N a = true) (e : fdN nm f (tW tb N a) = some j) (hm : mn j = 0) : pH tb N a nm mn f = .ok j := by
  unfold pH; rw [if_pos h, e]; exact if_pos hm
theorem lS_n {tb : Nat → Int32} {N a : Nat} {p m : Int32} (h : isSm tb N a = false) : lS tb N a p m = .error (bd tb N 2 a, tP tb N a) := by
  unfold lS; rw [if_neg (by rw [h]; exact fun z => by cases z)]
theorem lS_y {tb : Nat → Int32} {N a : Nat} {p m : Int32} (h : isSm tb N a = true) : lS tb N a p m = .ok (tE tb N a, p, m) := by
  unfold lS; rw [if_pos h]
theorem lM_n {tb : Nat → Int32} {N a : Nat} {p : Int32} (h : isWd tb N a tWm = false) : lM tb N a p = lS tb N a p 0 := by
  unfold lM; rw [if_neg (by rw [h]; exact fun z => by cases z)]
theorem lM_y {tb : Nat → Int32} {N a : Nat} {p : Int32} (h : isWd tb N a tWm = true) : lM tb N a p = lS tb N (tE tb N a) p 1 := by
  unfold lM; rw [if_pos h]
section LF
variable {tb : Nat → Int32} {N a : Nat} {nm : Nat → Int64} {mn : Nat → Int32} {f : Nat}
theorem lF_n (h : isNm tb N (tE tb N a) = false) : lF tb N a nm mn f = .error (bd tb N 2 (tE tb N a), tP tb N (tE tb N a)) := by
  unfold lF; rw [if_neg (by rw [h]; exact fun z => by cases z)]
theorem lF_s {j : Nat} (h : isNm tb N (tE tb N a) = true) (e : fdN nm f (tW tb N (tE tb N a)) = some j) : lF tb N a nm mn f = .error (3, tP tb N (tE tb N a)) := by
  unfold lF; rw [if_pos h, e]
theorem lF_o (h : isNm tb N (tE tb N a) = true) (e : fdN nm f (tW tb N (tE tb N a)) = none) (w : isWd tb N (tE tb N (tE tb N a)) tWo = true) : lF tb N a nm mn f = lO tb N (tE tb N (tE tb N (tE tb N a))) nm mn f := by
  unfold lF; rw [if_pos h, e]; exact if_pos w
theorem lF_m (h : isNm tb N (tE tb N a) = true) (e : fdN nm f (tW tb N (tE tb N a)) = none) (w : isWd tb N (tE tb N (tE tb N a)) tWo = false) : lF tb N a nm mn f = lM tb N (tE tb N (tE tb N a)) (-1) := by
  unfold lF; rw [if_pos h, e]; exact if_neg (by rw [w]; exact fun z => by cases z)
end LF
set_option maxRecDepth 20000 in
theorem pX7_stepS {h : mH} {Q : Option Value → mH → Prop} {ow : Nat → Nat} {rc : Nat → Int32} {rp rf rl : Int32} {rq : Option Nat} {tp : Nat → Int32} {N a : Nat} (g : rS ow h rc rp rq rf rl tp N a) (tx : txR ow h tp N) (ha : a ≤ N) (hq : ∀ h', cFr [5] 0 ow h ow h' → rS ow h' rc rp rq rf rl tp N (tE tp N a) → Q none h') : Wp mX7_step 2 42 0 [some (.ref 6)] [] h Q := by
  obtain ⟨w, z, _⟩ := g
  exact pX7_step z tx (tE_le ha).2.1 hq
set_option maxRecDepth 20000 in
theorem pX7_open {h : mH} {Q : Option Value → mH → Prop} {ow : Nat → Nat} {rc : Nat → Int32} {rp rf rl rn ra rb rk : Int32} {rw : Int64} {rq rx : Option Nat} {tp : Nat → Int32} {N : Nat} (zr : zR ow h rc rp rq rf rl rx rn ra rb rk rw) (tx : txR ow h tp N) (hz : hN h + 4 < scrA) (hq : ∀ h' ow', cFr [5] 48 ow h ow' h' → rS ow' h' rc (nI 0) (some (hN h)) (nI 0) (-1) tp N 0 → zF ow' h' (hN h) 16 (fun _ => 0) (fun _ => 0) (fun _ => 0) (nI 0) → Q none h') : Wp mX7_open 3 62 0 [some (.ref 6), some (.ref 1), some (.int (nI N))] [] h Q := by
  have hN9 := tx.2.2.1
  refine wp_aload_n dX7_open_0 rfl rfl ?_
  refine wp_aload_n dX7_open_1 rfl rfl ?_
  refine wp_putR (v := some _) dX7_open_2 lX7_27 rfl (Or.inl rfl) zr.o ?_
  refine zr.p6 (fun hh11 f11 zr_11 => ?_)
  have tx_11 := tx.fr f11 (rnS (by omega) rn0)
  refine wp_aload_n dX7_open_5 rfl rfl ?_
  refine wp_iload_n dX7_open_6 rfl rfl ?_
  refine wp_aload_n dX7_open_7 rfl rfl ?_
  refine wp_alen dX7_open_8 tx_11.1 (by decide) (by decide) rfl ?_
  refine wp_cS2 0 0 [some _, some _] dX7_open_9 tJ9_min_7cf53 sJ9_min_7cf53 lX7_66 ⟨by decide, by decide⟩ (Nat.le_of_ble_eq_true rfl) (Nat.le_of_ble_eq_true rfl) rfl ?_
  rw [show (Int32.ofNat 900 : Int32) = nI 900 from rfl]
  refine pJ9_min_7cf53 (by omega) (by omega) ?_
  intro _ _
  rw [show min N 900 = N by omega]
  refine wp_putI dX7_open_12 lX7_72 rfl (Or.inl rfl) zr_11.o rfl rfl ?_
  refine zr_11.p7 (fun hh12 f12 zr_12 => ?_)
  have tx_12 := tx_11.fr f12 (rnS (by omega) rn0)
  refine wp_aload_n dX7_open_15 rfl rfl ?_
  refine wp_iconst (v := (nI 0)) dX7_open_16 (by decide +kernel) ?_
  refine wp_putI dX7_open_17 lX7_75 rfl (Or.inl rfl) zr_12.o rfl rfl ?_
  refine zr_12.p9 (fun hh13 f13 zr_13 => ?_)
  have tx_13 := tx_12.fr f13 (rnS (by omega) rn0)
  refine wp_aload_n dX7_open_20 rfl rfl ?_
  refine wp_iconst (v := (nI 0)) dX7_open_21 (by decide +kernel) ?_
  refine wp_putI dX7_open_22 lX7_35 rfl (Or.inl rfl) zr_13.o rfl rfl ?_
  refine zr_13.p4 (fun hh14 f14 zr_14 => ?_)
  have tx_14 := tx_13.fr f14 (rnS (by omega) rn0)
  refine wp_aload_n dX7_open_25 rfl rfl ?_
  refine wp_iconst (v := (-1)) dX7_open_26 (by decide +kernel) ?_
  refine wp_putI dX7_open_27 lX7_78 rfl (Or.inl rfl) zr_14.o rfl rfl ?_
  refine zr_14.p5 (fun hh15 f15 zr_15 => ?_)
  have tx_15 := tx_14.fr f15 (rnS (by omega) rn0)
  refine wp_aload_n dX7_open_30 rfl rfl ?_
  refine wp_iconst (v := (nI 0)) dX7_open_31 (by decide +kernel) ?_
  refine wp_putI dX7_open_32 lX7_56 rfl (Or.inl rfl) zr_15.o rfl rfl ?_
  refine zr_15.p2 (fun hh16 f16 zr_16 => ?_)
  have tx_16 := tx_15.fr f16 (rnS (by omega) rn0)
  refine wp_aload_n dX7_open_35 rfl rfl ?_
  refine wp_new dX7_open_36 (by decide) lX7_20 (mInst 1 (by decide)) (mInit 1 (by decide)) ?_
  refine wp_dup dX7_open_39 rfl ?_
  refine wp_cIN0 1 20 [some _] dX7_open_40 tX1_init rfl rfl nX1_init lX7_22 ⟨by decide, by decide⟩ (Nat.le_of_ble_eq_true rfl) (Nat.le_of_ble_eq_true rfl) rfl ?_
  refine pX1_init (hO_new _ _ _) ?_
  intro _ _
  have F0 : cFr [5] 0 ow h ow hh16 := ((((((f11.up (by decide) (Nat.le_refl _)).tr (f12.up (by decide) (Nat.le_refl _))).tr (f13.up (by decide) (Nat.le_refl _))).tr (f14.up (by decide) (Nat.le_refl _))).tr (f15.up (by decide) (Nat.le_refl _))).tr (f16.up (by decide) (Nat.le_refl _)))
  have eN0 : hN hh16 = hN h := by have := F0.1; omega
  obtain ⟨f1, zf1, _⟩ := zF_new (S := []) (ow := ow) (h := hh16) 16 (by rw [eN0]; exact hz)
  generalize iX1 (nw hh16 1 (mCz 1)) (hN hh16) = hh1 at *
  generalize roN ow (hN hh16) 4 16 = ow1 at *
  have zr_1 := zr_16.fr f1 rn0
  have tx_1 := tx_16.fr f1 rn0
  have F1 := F0.tr (f1.up (fun x hx => by cases hx) (Nat.le_refl _))
  rw [eN0] at zf1
  refine wp_putR (v := some _) dX7_open_43 lX7_23 rfl (Or.inl rfl) zr_1.o ?_
  refine zr_1.p3 (fun hh17 f17 zr_17 => ?_)
  have tx_17 := tx_1.fr f17 (rnS (by omega) rn0)
  refine wp_aload_n dX7_open_46 rfl rfl ?_
  refine wp_cV0 2 42 [some _] dX7_open_47 tX7_step rfl (by decide) nX7_step vX7_step lX7_81 ⟨by decide, by decide⟩ (Nat.le_of_ble_eq_true rfl) zr_17.o (Nat.le_of_ble_eq_true rfl) rfl ?_
  refine pX7_step (a := 0) zr_17 tx_17 (Nat.zero_le _) (fun hh9 f9 g9 => ?_)
  intro _ _
  refine wp_vreturn dX7_open_50 rfl ?_
  rw [eN0] at g9
  exact hq _ _ ((F1.tr f17).tr f9) g9 ((zf1.fr f17 (by decide)).fr f9 (by decide))
set_option maxRecDepth 20000 in
theorem pX7_readParent {h : mH} {Q : Option Value → mH → Prop} {ow : Nat → Nat} {rc : Nat → Int32} {rp rl : Int32} {q f : Nat} {tp : Nat → Int32} {N a : Nat} {nm : Nat → Int64} {fp mn : Nat → Int32} (g : rS ow h rc rp (some q) (nI 0) rl tp N a) (zf : zF ow h q 16 nm fp mn (nI f)) (tx : txR ow h tp N) (ha : a ≤ N) (hf4 : f ≤ 4)(he : ∀ fa pl, pH tp N a nm mn f = .error (fa, pl) → 0 < fa ∧ fa ≤ 3 → ∀ h' a', cFr [5] 0 ow h ow h' → rS ow h' rc rp (some q) (nI fa) (nI pl) tp N a' → Q (some (.int (-1))) h') (hq : ∀ p, p < f → pH tp N a nm mn f = .ok p → ∀ h', cFr [5] 0 ow h ow h' → rS ow h' rc rp (some q) (nI 0) rl tp N (tE tp N a) → Q (some (.int (nI p))) h') : Wp mX7_readParent 3 62 0 [some (.ref 6), none] [] h Q := by
  refine wp_aload_n dX7_readParent_0 rfl rfl ?_
  refine wp_cV0 0 0 [some _] dX7_readParent_1 tX7_isName rfl (by decide) nX7_isName vX7_isName lX7_87 ⟨by decide, by decide⟩ (Nat.le_of_ble_eq_true rfl) g.oo (Nat.le_of_ble_eq_true rfl) rfl ?_
  refine pX7_isName g ha tx.2.2.1 (fun e1 => ?_) (fun e1 => ?_)
  · intro _ _
    refine wp_if_ne dX7_readParent_4 (fun _ => ?_) (fun q => absurd q (by decide +kernel))
    refine wp_aload_n dX7_readParent_14 rfl rfl ?_
    refine wp_getR dX7_readParent_15 lX7_23 rfl g.oo g.f3 ?_
    refine wp_aload_n dX7_readParent_18 rfl rfl ?_
    refine wp_getLV dX7_readParent_19 lX7_91 rfl g.oo (g.f11 (by rw [isNm_S e1]; omega) (by rw [isNm_S e1]; omega)) ?_
    refine wp_cV1 0 0 [some _, some _, none, none] dX7_readParent_22 tX1_find rfl (by decide) nX1_find vX1_find lX7_95 ⟨by decide, by decide⟩ (Nat.le_of_ble_eq_true rfl) zf.o (Nat.le_of_ble_eq_true rfl) rfl ?_
    refine pX1_find zf (by omega) (fun j2 e2 => ?_) (fun e2 => ?_)
    · have hj2 := (fdN_some e2).1
      intro _ _
      refine wp_istore_n (ls1 := [_, some _]) dX7_readParent_25 rfl (by decide) rfl ?_
      refine wp_iload_n dX7_readParent_26 rfl rfl ?_
      refine wp_iconst (v := (-1)) dX7_readParent_27 (by decide +kernel) ?_
      refine wp_icmp_eq dX7_readParent_28 (fun q => absurd q (nI_ne_m1 (by omega))) (fun _ => ?_)
      refine wp_aload_n dX7_readParent_31 rfl rfl ?_
      refine wp_getR dX7_readParent_32 lX7_23 rfl g.oo g.f3 ?_
      refine wp_getR dX7_readParent_35 lX7_109 rfl zf.o zf.r2 ?_
      refine wp_iload_n dX7_readParent_38 rfl rfl ?_
      refine wp_zaldV dX7_readParent_39 zf.a2 rfl ⟨by omega, by omega⟩ (congrFun zf.c2 _) ?_
      refine wp_if_eq dX7_readParent_40 (fun cm9 => ?_) (fun cm9 => ?_)
      · refine wp_aload_n dX7_readParent_50 rfl rfl ?_
        refine wp_cV0 2 42 [some _] dX7_readParent_51 tX7_step rfl (by decide) nX7_step vX7_step lX7_81 ⟨by decide, by decide⟩ (Nat.le_of_ble_eq_true rfl) g.oo (Nat.le_of_ble_eq_true rfl) rfl ?_
        refine pX7_stepS g tx ha (fun hh3 f3 g_3 => ?_)
        intro _ _
        have ha3 := (tE_le (tb := tp) ha).2.1
        have zf_3 := zf.fr f3 (rnS (by omega) rn0)
        have tx_3 := tx.fr f3 (rnS (by omega) rn0)
        refine wp_iload_n dX7_readParent_54 rfl rfl ?_
        refine wp_ireturn dX7_readParent_55 rfl ?_
        exact hq _ hj2 (pH_so e1 e2 cm9) _ (f3.up (by decide) (Nat.le_refl _)) g_3
      · refine wp_aload_n dX7_readParent_43 rfl rfl ?_
        refine wp_iconst (v := (nI 3)) dX7_readParent_44 (by decide +kernel) ?_
        refine wp_cV1 0 0 [some _, some _] dX7_readParent_45 tX7_refuse rfl (by decide) nX7_refuse vX7_refuse lX7_62 ⟨by decide, by decide⟩ (Nat.le_of_ble_eq_true rfl) g.oo (Nat.le_of_ble_eq_true rfl) rfl ?_
        refine pX7_refuse (k := 3) g (fun hh4 f4 g_4 => ?_)
        intro _ _
        have zf_4 := zf.fr f4 (rnS (by omega) rn0)
        have tx_4 := tx.fr f4 (rnS (by omega) rn0)
        have bq4 := bd_le (tb := tp) (N := N) (k := 3) (a := a) (by omega)
        refine wp_iconst (v := (-1)) dX7_readParent_48 (by decide +kernel) ?_
        refine wp_ireturn dX7_readParent_49 rfl ?_
        rw [bd_w (isNm_S e1)] at g_4
        exact he _ _ (pH_mn e1 e2 cm9) (by omega) _ _ (f4.up (by decide) (Nat.le_refl _)) g_4
    · intro _ _
      refine wp_istore_n (ls1 := [_, some _]) dX7_readParent_25 rfl (by decide) rfl ?_
      refine wp_iload_n dX7_readParent_26 rfl rfl ?_
      refine wp_iconst (v := (-1)) dX7_readParent_27 (by decide +kernel) ?_
      refine wp_icmp_eq dX7_readParent_28 (fun _ => ?_) (fun q => absurd (by decide +kernel) q)
      refine wp_aload_n dX7_readParent_43 rfl rfl ?_
      refine wp_iconst (v := (nI 3)) dX7_readParent_44 (by decide +kernel) ?_
      refine wp_cV1 0 0 [some _, some _] dX7_readParent_45 tX7_refuse rfl (by decide) nX7_refuse vX7_refuse lX7_62 ⟨by decide, by decide⟩ (Nat.le_of_ble_eq_true rfl) g.oo (Nat.le_of_ble_eq_true rfl) rfl ?_
      refine pX7_refuse (k := 3) g (fun hh5 f5 g_5 => ?_)
      intro _ _
      have zf_5 := zf.fr f5 (rnS (by omega) rn0)
      have tx_5 := tx.fr f5 (rnS (by omega) rn0)
      have bq5 := bd_le (tb := tp) (N := N) (k := 3) (a := a) (by omega)
      refine wp_iconst (v := (-1)) dX7_readParent_48 (by decide +kernel) ?_
      refine wp_ireturn dX7_readParent_49 rfl ?_
      rw [bd_w (isNm_S e1)] at g_5
      exact he _ _ (pH_no e1 e2) (by omega) _ _ (f5.up (by decide) (Nat.le_refl _)) g_5
  · intro _ _
    refine wp_if_ne dX7_readParent_4 (fun q => absurd q (by decide +kernel)) (fun _ => ?_)
    refine wp_aload_n dX7_readParent_7 rfl rfl ?_
    refine wp_iconst (v := (nI 2)) dX7_readParent_8 (by decide +kernel) ?_
    refine wp_cV1 0 0 [some _, some _] dX7_readParent_9 tX7_refuse rfl (by decide) nX7_refuse vX7_refuse lX7_62 ⟨by decide, by decide⟩ (Nat.le_of_ble_eq_true rfl) g.oo (Nat.le_of_ble_eq_true rfl) rfl ?_
    refine pX7_refuse (k := 2) g (fun hh6 f6 g_6 => ?_)
    intro _ _
    have zf_6 := zf.fr f6 (rnS (by omega) rn0)
    have tx_6 := tx.fr f6 (rnS (by omega) rn0)
    have bq6 := bd_le (tb := tp) (N := N) (k := 2) (a := a) (by omega)
    refine wp_iconst (v := (-1)) dX7_readParent_12 (by decide +kernel) ?_
    refine wp_ireturn dX7_readParent_13 rfl ?_
    exact he _ _ (isNm_t e1) (bd_le (by omega)) _ _ (f6.up (by decide) (Nat.le_refl _)) g_6
set_option maxRecDepth 20000 in
theorem pX7_readRest {h : mH} {Q : Option Value → mH → Prop} {ow : Nat → Nat} {rc : Nat → Int32} {rp rl : Int32} {q f : Nat} {tp : Nat → Int32} {N a : Nat} {nm : Nat → Int64} {fp mn : Nat → Int32} {x : Int64} {p : Int32} (g : rS ow h rc rp (some q) (nI 0) rl tp N a) (zf : zF ow h q 16 nm fp mn (nI f)) (tx : txR ow h tp N) (ha : a ≤ N) (hf4 : f < 4)(he : ∀ fa pl, lM tp N a p = .error (fa, pl) → 0 < fa ∧ fa ≤ 3 → ∀ h' a', cFr [5, 16] 0 ow h ow h' → rS ow h' rc rp (some q) (nI fa) (nI pl) tp N a' → Q none h') (hq : ∀ a' m, lM tp N a p = .ok (a', p, m) → ∀ h', cFr [5, 16] 0 ow h ow h' → rS ow h' rc rp (some q) (nI 0) rl tp N a' → zF ow h' q 16 (up1 nm f x) (upI fp f p) (upI mn f m) (nI (f + 1)) → a' ≤ N → Q none h') : Wp mX7_readRest 3 62 0 [some (.ref 6), some (.long x), none, some (.int p), none] [] h Q := by
  refine wp_aload_n dX7_readRest_0 rfl rfl ?_
  refine wp_ldc2 dX7_readRest_1 lX7_113 ?_
  refine wp_cV1 0 0 [some _, some _, none] dX7_readRest_4 tX7_isWord rfl (by decide) nX7_isWord vX7_isWord lX7_44 ⟨by decide, by decide⟩ (Nat.le_of_ble_eq_true rfl) g.oo (Nat.le_of_ble_eq_true rfl) rfl ?_
  refine pX7_isWord (x := tWm) g (fun e1 => ?_) (fun e1 => ?_)
  · intro _ _
    refine wp_istore (ls1 := [_, _, _, _, some _]) dX7_readRest_7 (by decide) rfl ?_
    refine wp_iload dX7_readRest_9 rfl ?_
    refine wp_if_eq dX7_readRest_11 (fun q => absurd q (by decide +kernel)) (fun _ => ?_)
    refine wp_aload_n dX7_readRest_14 rfl rfl ?_
    refine wp_cV0 2 42 [some _] dX7_readRest_15 tX7_step rfl (by decide) nX7_step vX7_step lX7_81 ⟨by decide, by decide⟩ (Nat.le_of_ble_eq_true rfl) g.oo (Nat.le_of_ble_eq_true rfl) rfl ?_
    refine pX7_stepS g tx ha (fun hh2 f2 g_2 => ?_)
    intro _ _
    have ha2 := (tE_le (tb := tp) ha).2.1
    have zf_2 := zf.fr f2 (rnS (by omega) rn0)
    have tx_2 := tx.fr f2 (rnS (by omega) rn0)
    refine wp_aload_n dX7_readRest_18 rfl rfl ?_
    refine wp_cV0 0 0 [some _] dX7_readRest_19 tX7_isSemicolon rfl (by decide) nX7_isSemicolon vX7_isSemicolon lX7_115 ⟨by decide, by decide⟩ (Nat.le_of_ble_eq_true rfl) g_2.oo (Nat.le_of_ble_eq_true rfl) rfl ?_
    refine pX7_isSemicolon g_2 (fun e3 => ?_) (fun e3 => ?_)
    · intro _ _
      refine wp_if_ne dX7_readRest_22 (fun _ => ?_) (fun q => absurd q (by decide +kernel))
      refine wp_aload_n dX7_readRest_31 rfl rfl ?_
      refine wp_getR dX7_readRest_32 lX7_23 rfl g_2.oo g_2.f3 ?_
      refine wp_lload_n dX7_readRest_35 rfl rfl ?_
      refine wp_iload_n dX7_readRest_36 rfl rfl ?_
      refine wp_iload dX7_readRest_37 rfl ?_
      refine wp_cV3 0 0 [some _, some _, none, some _, some _] dX7_readRest_39 tX1_add rfl (by decide) nX1_add vX1_add lX7_118 ⟨by decide, by decide⟩ (Nat.le_of_ble_eq_true rfl) zf_2.o (Nat.le_of_ble_eq_true rfl) rfl ?_
      refine pX1_add zf_2 hf4 (by first | exact Or.inl rfl | exact Or.inr rfl) (fun hh4 f4 zf_4 => ?_)
      intro _ _
      have g_4 := g_2.fr f4 (rnS (by omega) rn0)
      have tx_4 := tx_2.fr f4 (rnS (by omega) rn0)
      refine wp_aload_n dX7_readRest_42 rfl rfl ?_
      refine wp_cV0 2 42 [some _] dX7_readRest_43 tX7_step rfl (by decide) nX7_step vX7_step lX7_81 ⟨by decide, by decide⟩ (Nat.le_of_ble_eq_true rfl) g_4.oo (Nat.le_of_ble_eq_true rfl) rfl ?_
      refine pX7_stepS g_4 tx_4 ha2 (fun hh5 f5 g_5 => ?_)
      intro _ _
      have ha5 := (tE_le (tb := tp) ha2).2.1
      have zf_5 := zf_4.fr f5 (rnS (by omega) rn0)
      have tx_5 := tx_4.fr f5 (rnS (by omega) rn0)
      refine wp_vreturn dX7_readRest_46 rfl ?_
      exact hq _ _ ((lM_y e1).trans (lS_y e3)) _ (((f2.up (by decide) (Nat.le_refl _)).tr (f4.up (by decide) (Nat.le_refl _))).tr (f5.up (by decide) (Nat.le_refl _))) g_5 zf_5 ha5
    · intro _ _
      refine wp_if_ne dX7_readRest_22 (fun q => absurd q (by decide +kernel)) (fun _ => ?_)
      refine wp_aload_n dX7_readRest_25 rfl rfl ?_
      refine wp_iconst (v := (nI 2)) dX7_readRest_26 (by decide +kernel) ?_
      refine wp_cV1 0 0 [some _, some _] dX7_readRest_27 tX7_refuse rfl (by decide) nX7_refuse vX7_refuse lX7_62 ⟨by decide, by decide⟩ (Nat.le_of_ble_eq_true rfl) g_2.oo (Nat.le_of_ble_eq_true rfl) rfl ?_
      refine pX7_refuse (k := 2) g_2 (fun hh6 f6 g_6 => ?_)
      intro _ _
      have zf_6 := zf_2.fr f6 (rnS (by omega) rn0)
      have tx_6 := tx_2.fr f6 (rnS (by omega) rn0)
      have bq6 := bd_le (tb := tp) (N := N) (k := 2) (a := (tE tp N a)) (by omega)
      refine wp_vreturn dX7_readRest_30 rfl ?_
      exact he _ _ ((lM_y e1).trans (lS_n e3)) (bd_le (by omega)) _ _ ((f2.up (by decide) (Nat.le_refl _)).tr (f6.up (by decide) (Nat.le_refl _))) g_6
  · intro _ _
    refine wp_istore (ls1 := [_, _, _, _, some _]) dX7_readRest_7 (by decide) rfl ?_
    refine wp_iload dX7_readRest_9 rfl ?_
    refine wp_if_eq dX7_readRest_11 (fun _ => ?_) (fun q => absurd q (by decide +kernel))
    refine wp_aload_n dX7_readRest_18 rfl rfl ?_
    refine wp_cV0 0 0 [some _] dX7_readRest_19 tX7_isSemicolon rfl (by decide) nX7_isSemicolon vX7_isSemicolon lX7_115 ⟨by decide, by decide⟩ (Nat.le_of_ble_eq_true rfl) g.oo (Nat.le_of_ble_eq_true rfl) rfl ?_
    refine pX7_isSemicolon g (fun e7 => ?_) (fun e7 => ?_)
    · intro _ _
      refine wp_if_ne dX7_readRest_22 (fun _ => ?_) (fun q => absurd q (by decide +kernel))
      refine wp_aload_n dX7_readRest_31 rfl rfl ?_
      refine wp_getR dX7_readRest_32 lX7_23 rfl g.oo g.f3 ?_
      refine wp_lload_n dX7_readRest_35 rfl rfl ?_
      refine wp_iload_n dX7_readRest_36 rfl rfl ?_
      refine wp_iload dX7_readRest_37 rfl ?_
      refine wp_cV3 0 0 [some _, some _, none, some _, some _] dX7_readRest_39 tX1_add rfl (by decide) nX1_add vX1_add lX7_118 ⟨by decide, by decide⟩ (Nat.le_of_ble_eq_true rfl) zf.o (Nat.le_of_ble_eq_true rfl) rfl ?_
      refine pX1_add zf hf4 (by first | exact Or.inl rfl | exact Or.inr rfl) (fun hh8 f8 zf_8 => ?_)
      intro _ _
      have g_8 := g.fr f8 (rnS (by omega) rn0)
      have tx_8 := tx.fr f8 (rnS (by omega) rn0)
      refine wp_aload_n dX7_readRest_42 rfl rfl ?_
      refine wp_cV0 2 42 [some _] dX7_readRest_43 tX7_step rfl (by decide) nX7_step vX7_step lX7_81 ⟨by decide, by decide⟩ (Nat.le_of_ble_eq_true rfl) g_8.oo (Nat.le_of_ble_eq_true rfl) rfl ?_
      refine pX7_stepS g_8 tx_8 ha (fun hh9 f9 g_9 => ?_)
      intro _ _
      have ha9 := (tE_le (tb := tp) ha).2.1
      have zf_9 := zf_8.fr f9 (rnS (by omega) rn0)
      have tx_9 := tx_8.fr f9 (rnS (by omega) rn0)
      refine wp_vreturn dX7_readRest_46 rfl ?_
      exact hq _ _ ((lM_n e1).trans (lS_y e7)) _ ((f8.up (by decide) (Nat.le_refl _)).tr (f9.up (by decide) (Nat.le_refl _))) g_9 zf_9 ha9
    · intro _ _
      refine wp_if_ne dX7_readRest_22 (fun q => absurd q (by decide +kernel)) (fun _ => ?_)
      refine wp_aload_n dX7_readRest_25 rfl rfl ?_
      refine wp_iconst (v := (nI 2)) dX7_readRest_26 (by decide +kernel) ?_
      refine wp_cV1 0 0 [some _, some _] dX7_readRest_27 tX7_refuse rfl (by decide) nX7_refuse vX7_refuse lX7_62 ⟨by decide, by decide⟩ (Nat.le_of_ble_eq_true rfl) g.oo (Nat.le_of_ble_eq_true rfl) rfl ?_
      refine pX7_refuse (k := 2) g (fun hh10 f10 g_10 => ?_)
      intro _ _
      have zf_10 := zf.fr f10 (rnS (by omega) rn0)
      have tx_10 := tx.fr f10 (rnS (by omega) rn0)
      have bq10 := bd_le (tb := tp) (N := N) (k := 2) (a := a) (by omega)
      refine wp_vreturn dX7_readRest_30 rfl ?_
      exact he _ _ ((lM_n e1).trans (lS_n e7)) (bd_le (by omega)) _ _ (f10.up (by decide) (Nat.le_refl _)) g_10
set_option maxRecDepth 20000 in
theorem pX7_readField {h : mH} {Q : Option Value → mH → Prop} {ow : Nat → Nat} {rc : Nat → Int32} {rp rl : Int32} {q f : Nat} {tp : Nat → Int32} {N a : Nat} {nm : Nat → Int64} {fp mn : Nat → Int32} (g : rS ow h rc rp (some q) (nI 0) rl tp N a) (zf : zF ow h q 16 nm fp mn (nI f)) (tx : txR ow h tp N) (ha : a ≤ N) (hf4 : f < 4)(he : ∀ fa pl, lF tp N a nm mn f = .error (fa, pl) → 0 < fa ∧ fa ≤ 3 → ∀ h' a', cFr [5, 16] 0 ow h ow h' → rS ow h' rc rp (some q) (nI fa) (nI pl) tp N a' → Q none h') (hq : ∀ a' p m, lF tp N a nm mn f = .ok (a', p, m) → ∀ h', cFr [5, 16] 0 ow h ow h' → rS ow h' rc rp (some q) (nI 0) rl tp N a' → zF ow h' q 16 (up1 nm f (tW tp N (tE tp N a))) (upI fp f p) (upI mn f m) (nI (f + 1)) → a' ≤ N → Q none h') : Wp mX7_readField 4 86 0 [some (.ref 6), none, none, none] [] h Q := by
  refine wp_aload_n dX7_readField_0 rfl rfl ?_
  refine wp_cV0 2 42 [some _] dX7_readField_1 tX7_step rfl (by decide) nX7_step vX7_step lX7_81 ⟨by decide, by decide⟩ (Nat.le_of_ble_eq_true rfl) g.oo (Nat.le_of_ble_eq_true rfl) rfl ?_
  refine pX7_stepS g tx ha (fun hh1 f1 g_1 => ?_)
  intro _ _
  have ha1 := (tE_le (tb := tp) ha).2.1
  have zf_1 := zf.fr f1 (rnS (by omega) rn0)
  have tx_1 := tx.fr f1 (rnS (by omega) rn0)
  refine wp_aload_n dX7_readField_4 rfl rfl ?_
  refine wp_cV0 0 0 [some _] dX7_readField_5 tX7_isName rfl (by decide) nX7_isName vX7_isName lX7_87 ⟨by decide, by decide⟩ (Nat.le_of_ble_eq_true rfl) g_1.oo (Nat.le_of_ble_eq_true rfl) rfl ?_
  refine pX7_isName g_1 ha1 tx_1.2.2.1 (fun e2 => ?_) (fun e2 => ?_)
  · intro _ _
    refine wp_if_ne dX7_readField_8 (fun _ => ?_) (fun q => absurd q (by decide +kernel))
    refine wp_aload_n dX7_readField_17 rfl rfl ?_
    refine wp_getR dX7_readField_18 lX7_23 rfl g_1.oo g_1.f3 ?_
    refine wp_aload_n dX7_readField_21 rfl rfl ?_
    refine wp_getLV dX7_readField_22 lX7_91 rfl g_1.oo (g_1.f11 (by rw [isNm_S e2]; omega) (by rw [isNm_S e2]; omega)) ?_
    refine wp_cV1 0 0 [some _, some _, none, none] dX7_readField_25 tX1_find rfl (by decide) nX1_find vX1_find lX7_95 ⟨by decide, by decide⟩ (Nat.le_of_ble_eq_true rfl) zf_1.o (Nat.le_of_ble_eq_true rfl) rfl ?_
    refine pX1_find zf_1 (by omega) (fun j3 e3 => ?_) (fun e3 => ?_)
    · have hj3 := (fdN_some e3).1
      intro _ _
      refine wp_iconst (v := (-1)) dX7_readField_28 (by decide +kernel) ?_
      refine wp_icmp_eq dX7_readField_29 (fun q => absurd q (nI_ne_m1 (by omega))) (fun _ => ?_)
      refine wp_aload_n dX7_readField_32 rfl rfl ?_
      refine wp_iconst (v := (nI 3)) dX7_readField_33 (by decide +kernel) ?_
      refine wp_cV1 0 0 [some _, some _] dX7_readField_34 tX7_refuse rfl (by decide) nX7_refuse vX7_refuse lX7_62 ⟨by decide, by decide⟩ (Nat.le_of_ble_eq_true rfl) g_1.oo (Nat.le_of_ble_eq_true rfl) rfl ?_
      refine pX7_refuse (k := 3) g_1 (fun hh4 f4 g_4 => ?_)
      intro _ _
      have zf_4 := zf_1.fr f4 (rnS (by omega) rn0)
      have tx_4 := tx_1.fr f4 (rnS (by omega) rn0)
      have bq4 := bd_le (tb := tp) (N := N) (k := 3) (a := (tE tp N a)) (by omega)
      refine wp_vreturn dX7_readField_37 rfl ?_
      rw [bd_w (isNm_S e2)] at g_4
      exact he _ _ (lF_s e2 e3) (by omega) _ _ ((f1.up (by decide) (Nat.le_refl _)).tr (f4.up (by decide) (Nat.le_refl _))) g_4
    · intro _ _
      refine wp_iconst (v := (-1)) dX7_readField_28 (by decide +kernel) ?_
      refine wp_icmp_eq dX7_readField_29 (fun _ => ?_) (fun q => absurd (by decide +kernel) q)
      refine wp_aload_n dX7_readField_38 rfl rfl ?_
      refine wp_getLV dX7_readField_39 lX7_91 rfl g_1.oo (g_1.f11 (by rw [isNm_S e2]; omega) (by rw [isNm_S e2]; omega)) ?_
      refine wp_lstore_n (ls1 := [_, some _, _, _]) dX7_readField_42 rfl (by decide) rfl ?_
      refine wp_iconst (v := (-1)) dX7_readField_43 (by decide +kernel) ?_
      refine wp_istore_n (ls1 := [_, _, _, some _]) dX7_readField_44 rfl (by decide) rfl ?_
      refine wp_aload_n dX7_readField_45 rfl rfl ?_
      refine wp_cV0 2 42 [some _] dX7_readField_46 tX7_step rfl (by decide) nX7_step vX7_step lX7_81 ⟨by decide, by decide⟩ (Nat.le_of_ble_eq_true rfl) g_1.oo (Nat.le_of_ble_eq_true rfl) rfl ?_
      refine pX7_stepS g_1 tx_1 ha1 (fun hh5 f5 g_5 => ?_)
      intro _ _
      have ha5 := (tE_le (tb := tp) ha1).2.1
      have zf_5 := zf_1.fr f5 (rnS (by omega) rn0)
      have tx_5 := tx_1.fr f5 (rnS (by omega) rn0)
      refine wp_aload_n dX7_readField_49 rfl rfl ?_
      refine wp_ldc2 dX7_readField_50 lX7_99 ?_
      refine wp_cV1 0 0 [some _, some _, none] dX7_readField_53 tX7_isWord rfl (by decide) nX7_isWord vX7_isWord lX7_44 ⟨by decide, by decide⟩ (Nat.le_of_ble_eq_true rfl) g_5.oo (Nat.le_of_ble_eq_true rfl) rfl ?_
      refine pX7_isWord (x := tWo) g_5 (fun e6 => ?_) (fun e6 => ?_)
      · intro _ _
        refine wp_if_eq dX7_readField_56 (fun q => absurd q (by decide +kernel)) (fun _ => ?_)
        refine wp_aload_n dX7_readField_59 rfl rfl ?_
        refine wp_cV0 2 42 [some _] dX7_readField_60 tX7_step rfl (by decide) nX7_step vX7_step lX7_81 ⟨by decide, by decide⟩ (Nat.le_of_ble_eq_true rfl) g_5.oo (Nat.le_of_ble_eq_true rfl) rfl ?_
        refine pX7_stepS g_5 tx_5 ha5 (fun hh7 f7 g_7 => ?_)
        intro _ _
        have ha7 := (tE_le (tb := tp) ha5).2.1
        have zf_7 := zf_5.fr f7 (rnS (by omega) rn0)
        have tx_7 := tx_5.fr f7 (rnS (by omega) rn0)
        refine wp_aload_n dX7_readField_63 rfl rfl ?_
        refine wp_cV0 3 62 [some _, none] dX7_readField_64 tX7_readParent rfl (by decide) nX7_readParent vX7_readParent lX7_101 ⟨by decide, by decide⟩ (Nat.le_of_ble_eq_true rfl) g_7.oo (Nat.le_of_ble_eq_true rfl) rfl ?_
        refine pX7_readParent g_7 zf_7 tx_7 ha7 (by omega) (fun fa8 pl8 e8 hb8 hh8 aa8 f8 g_8 => ?_) (fun p8 hp8 e8 hh8 f8 g_8 => ?_)
        · intro _ _
          have zf_8 := zf_7.fr f8 (rnS (by omega) rn0)
          have tx_8 := tx_7.fr f8 (rnS (by omega) rn0)
          refine wp_istore_n (ls1 := [_, _, _, some _]) dX7_readField_67 rfl (by decide) rfl ?_
          refine wp_aload_n dX7_readField_68 rfl rfl ?_
          refine wp_getIV dX7_readField_69 lX7_35 rfl g_8.oo g_8.f4 ?_
          refine wp_if_neN dX7_readField_72 rfl (by omega) (fun _ => ?_) (fun q => absurd q (by omega))
          refine wp_vreturn dX7_readField_81 rfl ?_
          exact he _ _ ((lF_o e2 e3 e6).trans (lO_er e8)) hb8 _ _ ((((f1.up (by decide) (Nat.le_refl _)).tr (f5.up (by decide) (Nat.le_refl _))).tr (f7.up (by decide) (Nat.le_refl _))).tr (f8.up (by decide) (Nat.le_refl _))) g_8
        · intro _ _
          have hc8 := (tE_le (tb := tp) ha7).2.1
          have zf_8 := zf_7.fr f8 (rnS (by omega) rn0)
          have tx_8 := tx_7.fr f8 (rnS (by omega) rn0)
          refine wp_istore_n (ls1 := [_, _, _, some _]) dX7_readField_67 rfl (by decide) rfl ?_
          refine wp_aload_n dX7_readField_68 rfl rfl ?_
          refine wp_getIV dX7_readField_69 lX7_35 rfl g_8.oo g_8.f4 ?_
          refine wp_if_ne dX7_readField_72 (fun q => absurd q (by decide +kernel)) (fun _ => ?_)
          refine wp_aload_n dX7_readField_75 rfl rfl ?_
          refine wp_lload_n dX7_readField_76 rfl rfl ?_
          refine wp_iload_n dX7_readField_77 rfl rfl ?_
          refine wp_cV2 3 62 [some _, some _, none, some _, none] dX7_readField_78 tX7_readRest rfl (by decide) nX7_readRest vX7_readRest lX7_105 ⟨by decide, by decide⟩ (Nat.le_of_ble_eq_true rfl) g_8.oo (Nat.le_of_ble_eq_true rfl) rfl ?_
          refine pX7_readRest g_8 zf_8 tx_8 hc8 hf4 (fun fa9 pl9 e9 hb9 hh9 aa9 f9 g9 => ?_) (fun a9 m9 e9 hh9 f9 g9 zf9 ha9 => ?_)
          · intro _ _
            refine wp_vreturn dX7_readField_81 rfl ?_
            exact he _ _ (((lF_o e2 e3 e6).trans (lO_ok e8)).trans e9) hb9 _ _ (((((f1.up (by decide) (Nat.le_refl _)).tr (f5.up (by decide) (Nat.le_refl _))).tr (f7.up (by decide) (Nat.le_refl _))).tr (f8.up (by decide) (Nat.le_refl _))).tr f9) g9
          intro _ _
          refine wp_vreturn dX7_readField_81 rfl ?_
          exact hq _ _ _ (((lF_o e2 e3 e6).trans (lO_ok e8)).trans e9) _ (((((f1.up (by decide) (Nat.le_refl _)).tr (f5.up (by decide) (Nat.le_refl _))).tr (f7.up (by decide) (Nat.le_refl _))).tr (f8.up (by decide) (Nat.le_refl _))).tr f9) g9 zf9 ha9
      · intro _ _
        refine wp_if_eq dX7_readField_56 (fun _ => ?_) (fun q => absurd q (by decide +kernel))
        refine wp_aload_n dX7_readField_68 rfl rfl ?_
        refine wp_getIV dX7_readField_69 lX7_35 rfl g_5.oo g_5.f4 ?_
        refine wp_if_ne dX7_readField_72 (fun q => absurd q (by decide +kernel)) (fun _ => ?_)
        refine wp_aload_n dX7_readField_75 rfl rfl ?_
        refine wp_lload_n dX7_readField_76 rfl rfl ?_
        refine wp_iload_n dX7_readField_77 rfl rfl ?_
        refine wp_cV2 3 62 [some _, some _, none, some _, none] dX7_readField_78 tX7_readRest rfl (by decide) nX7_readRest vX7_readRest lX7_105 ⟨by decide, by decide⟩ (Nat.le_of_ble_eq_true rfl) g_5.oo (Nat.le_of_ble_eq_true rfl) rfl ?_
        refine pX7_readRest g_5 zf_5 tx_5 ha5 hf4 (fun fa9 pl9 e9 hb9 hh9 aa9 f9 g9 => ?_) (fun a9 m9 e9 hh9 f9 g9 zf9 ha9 => ?_)
        · intro _ _
          refine wp_vreturn dX7_readField_81 rfl ?_
          exact he _ _ ((lF_m e2 e3 e6).trans e9) hb9 _ _ (((f1.up (by decide) (Nat.le_refl _)).tr (f5.up (by decide) (Nat.le_refl _))).tr f9) g9
        intro _ _
        refine wp_vreturn dX7_readField_81 rfl ?_
        exact hq _ _ _ ((lF_m e2 e3 e6).trans e9) _ (((f1.up (by decide) (Nat.le_refl _)).tr (f5.up (by decide) (Nat.le_refl _))).tr f9) g9 zf9 ha9
  · intro _ _
    refine wp_if_ne dX7_readField_8 (fun q => absurd q (by decide +kernel)) (fun _ => ?_)
    refine wp_aload_n dX7_readField_11 rfl rfl ?_
    refine wp_iconst (v := (nI 2)) dX7_readField_12 (by decide +kernel) ?_
    refine wp_cV1 0 0 [some _, some _] dX7_readField_13 tX7_refuse rfl (by decide) nX7_refuse vX7_refuse lX7_62 ⟨by decide, by decide⟩ (Nat.le_of_ble_eq_true rfl) g_1.oo (Nat.le_of_ble_eq_true rfl) rfl ?_
    refine pX7_refuse (k := 2) g_1 (fun hh11 f11 g_11 => ?_)
    intro _ _
    have zf_11 := zf_1.fr f11 (rnS (by omega) rn0)
    have tx_11 := tx_1.fr f11 (rnS (by omega) rn0)
    have bq11 := bd_le (tb := tp) (N := N) (k := 2) (a := (tE tp N a)) (by omega)
    refine wp_vreturn dX7_readField_16 rfl ?_
    exact he _ _ (lF_n e2) (bd_le (by omega)) _ _ ((f1.up (by decide) (Nat.le_refl _)).tr (f11.up (by decide) (Nat.le_refl _))) g_11
