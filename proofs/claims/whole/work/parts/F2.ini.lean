/-! ===== the memory behind both constructors: all that holds of it ===== -/
theorem iX7_c {h : mH} {a : Nat} (ha : a < hN h) : hK (iX7 h a) (hN h) = (21, 6) ∧ (∀ p, p < 6 → hK (iX7 h a) (hN h + 1 + p) = (15, 40)) ∧ hK (iX7 h a) (hN h + 7) = (14, 6) ∧ (∀ p, p < 6 → hR (iX7 h a) (hN h) p = some (hN h + 1 + p)) ∧ hR (iX7 h a) a 0 = some (hN h) ∧ hR (iX7 h a) a 1 = some (hN h + 7) ∧ hK (iX7 h a) a = hK h a := by
  have e : ∀ x, x ≠ a → x < hN h + 8 → eqAt (iX7a h a) (iX7 h a) x := fun x hx h8 => by
    unfold iX7 iX7b
    refine (((eqAt_nw ?_).tr (eqAt_iX1 (Or.inl ?_) (by omega))).tr (eqAt_sR hx)).tr (eqAt_al ?_ hx)
    · show x ≠ hN h + 8; omega
    · show x < hN h + 9; omega
    · show x ≠ hN h + 12; omega
  have e1 : ∀ x, x ≠ a → x < hN h + 7 → eqAt (mul h 6 40) (iX7a h a) x := fun x hx h7 => by
    unfold iX7a
    exact (eqAt_sR hx).tr (eqAt_al (show x ≠ hN h + 7 by omega) hx)
  have f : eqAt (iX7a h a) (iX7b h a) a := by
    unfold iX7b
    refine (eqAt_nw ?_).tr (eqAt_iX1 (Or.inl ?_) (by omega))
    · show a ≠ hN h + 8; omega
    · show a < hN h + 9; omega
  have ra : ∀ y, y ≠ 3 → y ≠ 6 → hR (iX7 h a) a y = hR (iX7a h a) a y := fun y h3 h6 => by
    unfold iX7
    rw [hR_al_at (show a < hN h + 12 by omega), if_neg h6, hR_sR, if_neg (fun z => h3 z.2)]
    exact f.R y
  have r0 : ∀ y, hR (iX7a h a) a y = if y = 1 then some (hN h + 7) else if y = 0 then some (hN h) else hR (mul h 6 40) a y := fun y => by
    unfold iX7a
    rw [hR_al_at (show a < hN h + 7 by omega), hR_sR]
    by_cases c : y = 1
    · rw [if_pos c, if_pos c]; rfl
    · rw [if_neg c, if_neg c]
      by_cases c0 : y = 0
      · rw [if_pos ⟨rfl, c0⟩, if_pos c0]
      · rw [if_neg (fun z => c0 z.2), if_neg c0]
  refine ⟨?_, fun p hp => ?_, ?_, fun p hp => ?_, ?_, ?_, ?_⟩
  · rw [(e _ (by omega) (by omega)).1, (e1 _ (by omega) (by omega)).1, hK_mul, if_pos rfl]
  · rw [(e _ (by omega) (by omega)).1, (e1 _ (by omega) (by omega)).1, hK_mul, if_neg (by omega), if_pos (by omega)]
  · rw [(e _ (by omega) (by omega)).1]
    unfold iX7a
    rw [hK_al, if_pos (show hN h + 7 = hN (sR (mul h 6 40) a 0 (some (hN h))) from rfl)]
  · rw [(e _ (by omega) (by omega)).R, (e1 _ (by omega) (by omega)).R, hR_mul, if_pos rfl, if_pos hp]
  · rw [ra 0 (by omega) (by omega), r0, if_neg (by omega), if_pos rfl]
  · rw [ra 1 (by omega) (by omega), r0, if_pos rfl]
  · have k1 : hK (iX7 h a) a = hK (iX7b h a) a := by
      unfold iX7
      rw [hK_al, if_neg (show ¬ a = hN (sR (iX7b h a) a 3 (some (hN h + 8))) from (show ¬ a = hN h + 12 by omega))]
      rfl
    have k2 : hK (iX7a h a) a = hK h a := by
      unfold iX7a
      rw [hK_al, if_neg (show ¬ a = hN (sR (mul h 6 40) a 0 (some (hN h))) from (show ¬ a = hN h + 7 by omega))]
      show hK (mul h 6 40) a = _
      rw [hK_mul, if_neg (by omega), if_neg (by omega)]
    rw [k1, f.1, k2]
section CELLS2
variable {g : mH}
theorem k_tape (hg : hN g = 1) : hA (HH g) 1 13 900 := by
  have hH := HH_N hg
  have e : eqAt (sI (al g 0 0 13 900) 0 3 (-1)) (iX11a g 0) 1 := eqAt_ob (eqAt_iX1 (Or.inl (by rw [hN_nw]; show 1 < hN g + 1 + 1; omega)) (by show 1 ≠ hN g + 1; omega)) (by show 1 ≠ hN g + 1; omega) (by omega)
  refine (e.tr ((Hh_a hg (by omega) (by omega)).tr (HH_h hg (by omega) (by omega)))).hA (by omega) ⟨by show 1 < hN g + 1; omega, ?_⟩
  show hK (al g 0 0 13 900) 1 = _
  rw [hK_al, if_pos hg.symm]
theorem c_fl (hg : hN g = 1) {pa my : Nat → Int32} : flR owF (HH g) 2 0 pa my := by
  have hH := HH_N hg
  have hs : hN (sI (al g 0 0 13 900) 0 3 (-1)) = 2 := by show hN g + 1 = 2; omega
  obtain ⟨_, z, _⟩ := zF_new (S := []) (ow := fun _ => 0) (h := sI (al g 0 0 13 900) 0 3 (-1)) 0 (by rw [hs]; decide)
  have E : ∀ x, x ≠ 0 → x < 6 → eqAt (iX1 (nw (sI (al g 0 0 13 900) 0 3 (-1)) 1 (mCz 1)) (hN (sI (al g 0 0 13 900) 0 3 (-1)))) (HH g) x := fun x h0 hx => (show eqAt _ (iX11a g 0) x from eqAt_obn (i := iX1) h0).tr ((Hh_a hg h0 hx).tr (HH_h hg (by omega) (by omega)))
  rw [hs] at z E
  exact ⟨_, _, _, z.tf (fun x h1 h2 => E x (by omega) (by omega)) (by omega) (fun x h1 h2 => owF_f (by omega) (by omega)), fun f hf => absurd hf (Nat.not_lt_zero f)⟩
theorem k_R (hg : hN g = 1) : hO (HH g) 6 7 ∧ hA (HH g) 7 21 6 ∧ (∀ p, p < 6 → hA (HH g) (8 + p) 15 40) ∧ hA (HH g) 14 14 6 ∧ (∀ p, p < 6 → hR (HH g) 7 p = some (8 + p)) ∧ hR (HH g) 6 0 = some 7 ∧ hR (HH g) 6 1 = some 14 := by
  have hH := HH_N hg
  have hn : hN (iX11a g 0) = 6 := by rw [hN_iX11a, hg]
  have hn7 : hN (nw (iX11a g 0) 7 12) = 7 := by rw [hN_nw, hn]
  have C := iX7_c (h := nw (iX11a g 0) 7 12) (a := 6) (by omega)
  have E : ∀ x, x ≠ 0 → x < 20 → eqAt (iX7 (nw (iX11a g 0) 7 12) (hN (iX11a g 0))) (HH g) x := fun x h0 hx => (show eqAt _ (iX11b g 0) x from eqAt_obn (i := iX7) h0).tr ((Hh_b hg h0 hx).tr (HH_h hg (by omega) (by omega)))
  rw [hn] at E
  rw [hn7] at C
  obtain ⟨c1, c2, c3, c4, c5, c6, c7⟩ := C
  refine ⟨⟨by omega, ?_⟩, ⟨by omega, (E 7 (by omega) (by omega)).1.trans c1⟩, fun p hp => ⟨by omega, (E _ (by omega) (by omega)).1.trans (c2 p hp)⟩, ⟨by omega, (E 14 (by omega) (by omega)).1.trans c3⟩, fun p hp => ((E 7 (by omega) (by omega)).R p).trans (c4 p hp), ((E 6 (by omega) (by omega)).R 0).trans c5, ((E 6 (by omega) (by omega)).R 1).trans c6⟩
  rw [(E 6 (by omega) (by omega)).1, c7, hK_nw, if_pos hn.symm]
theorem c_rd (hg : hN g = 1) : rdR owF (HH g) := by
  obtain ⟨c1, c2, c3, c4, c5, c6, c7⟩ := k_R hg
  exact ⟨⟨_, _, _, _, _, _, _, _, _, _, _, ⟨c1, rfl, c6, c7, c4, rfl, rfl, rfl, rfl, rfl, rfl, rfl, rfl, rfl, rfl, rfl, rfl⟩⟩, fun p hp => ⟨c3 p hp, owF_r (by omega) (by omega)⟩⟩
def qR (g : mH) : mH := al (nw (iX11b g 0) 3 4) 20 0 17 17
theorem qR_N (hg : hN g = 1) : hN (qR g) = 22 := by
  unfold qR
  rw [hN_al, hN_nw, hN_iX11b, hg]
theorem qR_e (hg : hN g = 1) {x : Nat} (h0 : x ≠ 0) (hx : x < 107) : eqAt (iRing 21 17 (qR g)) (HH g) x := by
  have hb : hN (iX11b g 0) = 20 := by rw [hN_iX11b, hg]
  have e : iX11c g 0 = sR (iRing 21 17 (qR g)) 0 6 (some 20) := by
    show sR (iRing (hN (iX11b g 0) + 1) 17 (al (nw (iX11b g 0) 3 4) (hN (iX11b g 0)) 0 17 17)) 0 6 (some (hN (iX11b g 0))) = _
    rw [hb]
    rfl
  have e2 : eqAt (iRing 21 17 (qR g)) (iX11c g 0) x := by rw [e]; exact eqAt_sR h0
  by_cases c : x = 108
  · omega
  · exact e2.tr ((Hh_c hg h0 hx).tr (HH_h hg c (by omega)))
theorem c_zh (hg : hN g = 1) : zH owF (HH g) (nI 0) (nI 0) (nI 0) := by
  have hH := HH_N hg
  have hq := qR_N hg
  have hb : hN (iX11b g 0) = 20 := by rw [hN_iX11b, hg]
  have e := (eqAt_iRing (g := 21) (x := 20) (by omega) 17 (h := qR g) (Or.inl (by omega))).tr (qR_e hg (by omega) (by omega))
  have i : ∀ y, hI (qR g) 20 y = 0 := fun y => by
    unfold qR
    rw [hI_al, if_neg (by rw [hN_nw]; omega), hI_nw, if_pos hb.symm]
  refine ⟨⟨by omega, ?_⟩, rfl, ?_, (e.I 1).trans (i 1), (e.I 2).trans (i 2), (e.I 3).trans (i 3)⟩
  · rw [e.1]
    unfold qR
    rw [hK_al, if_neg (by rw [hN_nw]; omega), hK_nw, if_pos hb.symm]
  · rw [e.R]
    unfold qR
    rw [hR_al_at (by rw [hN_nw]; omega), if_pos rfl, hN_nw, hb]
theorem c_zs (hg : hN g = 1) {j : Nat} (hj : j < 17) : zS owF (HH g) (22 + 5 * j) (20 + j) (fun _ => none) (fun _ => none) (fun _ => 0) (fun _ => 0) (nI 0) := by
  have hH := HH_N hg
  have hq := qR_N hg
  have hn := hN_iRing 21 j (qR g)
  rw [hq] at hn
  have hsc : scrA = 1000000000 := rfl
  obtain ⟨_, z⟩ := zS_new (S := []) (ow := fun _ => 0) (h := iRing 21 j (qR g)) 0 (by omega)
  have E : ∀ x, 22 + 5 * j ≤ x → x < 22 + 5 * j + 5 → eqAt (iX8 (nw (iRing 21 j (qR g)) 8 (mCz 8)) (hN (iRing 21 j (qR g)))) (HH g) x := fun x h1 h2 => (show eqAt (iX8 (nw (iRing 21 j (qR g)) 8 5) (hN (iRing 21 j (qR g)))) (iRing 21 17 (qR g)) x from cRing (g := 21) 17 (by omega) j hj x (by omega) (by omega)).tr (qR_e hg (by omega) (by omega))
  rw [hn] at z E
  exact z.tf E (by omega) (fun x h1 h2 => owF_st h1 h2 hj)
theorem c_rg (hg : hN g = 1) {pr : Nat → Nat → Int64} : rgR owF (HH g) 0 0 0 (fun _ => 0) pr := rgR.one (fun j hj => ⟨_, _, _, _, _, c_zs hg hj⟩) (stX.zero (c_zs hg (j := 0) (by omega)) (fun _ _ => rfl) (fun _ _ => rfl) (fun _ _ => rfl) (fun _ _ => rfl))
theorem k_d (hg : hN g = 1) : hK (iX11d g 0) 107 = (17, 2) ∧ (∀ y, hR (iX11d g 0) 107 y = none) ∧ hK (iX11d g 0) 108 = (18, 4) := by
  have hc : hN (iX11c g 0) = 107 := by rw [hN_iX11c, hg]
  have hc1 : hN (al (iX11c g 0) 0 7 17 2) = 108 := by rw [hN_al, hc]
  unfold iX11d
  refine ⟨?_, fun y => ?_, ?_⟩
  · rw [hK_al, hc1, if_neg (by omega), hK_al, hc, if_pos rfl]
  · rw [hR_al, if_neg (by omega), hc1, if_neg (by omega), hR_al, if_neg (by omega), hc, if_pos rfl]
  · rw [hK_al, hc1, if_pos rfl]
theorem c_bx (hg : hN g = 1) {bx : Nat → Nat → Int64} : bxR owF (HH g) bx (fun _ => 0) := by
  have hH := HH_N hg
  have e := (Hh_d hg (x := 107) (by omega) (by omega)).tr (HH_h hg (by omega) (by omega))
  obtain ⟨k1, k2, _⟩ := k_d hg
  exact ⟨⟨by omega, e.1.trans k1⟩, rfl, fun b hb => ⟨fun _ => (e.R b).trans (k2 b), fun z => absurd rfl z⟩⟩
theorem c_kb (hg : hN g = 1) : kB owF (HH g) := by
  have hH := HH_N hg
  have hq := qR_N hg
  have hb : hN (iX11b g 0) = 20 := by rw [hN_iX11b, hg]
  have hh : hN (iX11h g 0) = 125 := by rw [hN_iX11h, hg]
  have hc : hN (iX11c g 0) = 107 := by rw [hN_iX11c, hg]
  have eX : iX11 g 0 = iTabs 108 4 (iX11h g 0) := by
    show iTabs (hN (iX11c g 0) + 1) 4 (iX11h g 0) = _
    rw [hc]
  obtain ⟨c1, c2, c3, c4, c5, c6, c7⟩ := k_R hg
  have e21 := qR_e hg (x := 21) (by omega) (by omega)
  have e108 := HH_x hg (x := 108) (by omega)
  refine ⟨⟨⟨by omega, ?_⟩, rfl, fun j hj => ?_⟩, ⟨⟨by omega, ?_⟩, rfl, fun t ht => ?_⟩, ⟨c2, rfl, c5⟩, fun x h1 h2 => ⟨by omega, owF_m h1⟩, owF_m (by decide)⟩
  · rw [e21.1, kRing 17 (by omega)]
    unfold qR
    rw [hK_al, if_pos (by rw [hN_nw, hb])]
  · rw [e21.R, rRing 17 (by omega) j hj, hq]
  · rw [e108.1, eX, kTabs 4 (by omega), (Hh_d hg (by omega) (by omega)).1, (k_d hg).2.2]
  · rw [e108.R, eX, rTabs 4 (by omega) t ht, hh]
theorem HH_U : hU (HH g) = hU g + 187768 := by
  have e1 := hU_iX12 (nw (iX11 g 0) 12 65) 153
  have e2 := hU_nw (iX11 g 0) 12 65
  have e3 := hU_iX11 g 0
  unfold HH
  omega
theorem c_tw (hg : hN g = 1) (hu : hU g = 14) {r : Nat → Int64} {pa my : Nat → Int32} {F : Nat} : tbW owF (HH g) r pa my F (7 * (20480 - 64)) 2000000 := by
  refine ⟨fun _ => 64, fun _ => 64, fun f hf => c_tb hg hf, ?_⟩
  rw [HH_N hg, HH_U, hu]
  unfold ptl
  omega
theorem c_cC (hg : hN g = 1) (hu : hU g = 14) (ho : hO g 0 11) (hi : hI g 0 = fun _ => 0) {pa my tp : Nat → Int32} {pr bx : Nat → Nat → Int64} : cC owF (HH g) 0 pa my 2 0 0 0 (fun _ => 0) pr bx (fun _ => 0) tp 0 (nI 0) (-1) 64 2000000 :=
  ⟨c_zx hg ho hi, c_zh hg, c_kb hg, c_fl hg, c_rg hg, ⟨by omega, by omega⟩, c_bx hg, ⟨k_tape hg, rfl, fun j hj => absurd hj (Nat.not_lt_zero j)⟩, c_rd hg, c_cz hg, c_tw hg hu, c_ti hg⟩
/-- the model's cells -/
theorem c_mS (hg : hN g = 1) : mS (HH g) ∧ (∀ j, j < 38 → hI (HH g) (154 + j) = (fun _ => 0) ∧ hL (HH g) (154 + j) = fun _ => 0) ∧ ∀ y, hI (HH g) 153 y = if y = 10 then -1 else if y = 8 then -1 else 0 := by
  have hH := HH_N hg
  have hx : hN (iX11 g 0) = 153 := by rw [hN_iX11, hg]
  have hm : hN (nw (iX11 g 0) 12 65) = 154 := by rw [hN_nw, hx]
  have hb : hN (bX12 (nw (iX11 g 0) 12 65) 153) = 155 := by show hN (nw (iX11 g 0) 12 65) + 1 = 155; omega
  have ll : l37.length = 37 := rfl
  have eH : HH g = sI (sI (sI (alL 153 l37 (bX12 (nw (iX11 g 0) 12 65) 153)) 153 19 0) 153 20 0) 153 21 0 := iX12_L _ _
  have E : ∀ x, x ≠ 153 → eqAt (alL 153 l37 (bX12 (nw (iX11 g 0) 12 65) 153)) (HH g) x := fun x hx => by rw [eH]; exact ((eqAt_sI hx).tr (eqAt_sI hx)).tr (eqAt_sI hx)
  have b154 : hK (bX12 (nw (iX11 g 0) 12 65) 153) 154 = (14, 900) ∧ hI (bX12 (nw (iX11 g 0) 12 65) 153) 154 = (fun _ => 0) ∧ hL (bX12 (nw (iX11 g 0) 12 65) 153) 154 = fun _ => 0 := by
    have e : eqAt (al (nw (iX11 g 0) 12 65) 153 0 14 900) (bX12 (nw (iX11 g 0) 12 65) 153) 154 := (eqAt_sI (by omega)).tr (eqAt_sI (by omega))
    refine ⟨e.1.trans ?_, e.2.1.trans ?_, e.2.2.1.trans ?_⟩
    · rw [hK_al, if_pos hm.symm]
    · funext y; rw [hI_al, if_pos hm.symm]
    · funext y; rw [hL_al, if_pos hm.symm]
  have e154 := (alL_e (a := 153) (x := 154) (by omega) l37 (bX12 (nw (iX11 g 0) 12 65) 153) (Or.inl (by omega))).tr (E 154 (by omega))
  have A := alL_at (a := 153) l37 (bX12 (nw (iX11 g 0) 12 65) 153) (by omega)
  have R := alL_R (a := 153) l37 (bX12 (nw (iX11 g 0) 12 65) 153) (by omega) l37_n
  rw [hb] at A R
  refine ⟨⟨⟨by omega, ?_⟩, fun j hj => ?_⟩, fun j hj => ?_, fun y => ?_⟩
  · rw [eH]
    show (hK (alL 153 l37 (bX12 (nw (iX11 g 0) 12 65) 153)) 153).1 = 12
    rw [alL_K l37 _ (by omega)]
    show (hK (al (nw (iX11 g 0) 12 65) 153 0 14 900) 153).1 = 12
    rw [hK_al, if_neg (by omega), hK_nw, if_pos hx.symm]
  · have rr : ∀ y, hR (HH g) 153 y = hR (alL 153 l37 (bX12 (nw (iX11 g 0) 12 65) 153)) 153 y := fun y => by rw [eH]; rfl
    match j, hj with
    | 0, _ =>
      refine ⟨?_, ⟨by omega, e154.1.trans b154.1⟩⟩
      rw [rr, alL_R0 l37 _ (by omega) (by decide)]
      show hR (al (nw (iX11 g 0) 12 65) 153 0 14 900) 153 0 = some 154
      rw [hR_al_at (by omega), if_pos rfl, hm]
    | k + 1, hk =>
      have ek := l37_at k (by omega)
      refine ⟨?_, ⟨by omega, ?_⟩⟩
      · have := R k (by omega)
        rw [ek] at this
        rw [rr, this, show 155 + k = 154 + (k + 1) by omega]
      · have := (A k (by omega)).1
        rw [ek, show 155 + k = 154 + (k + 1) by omega] at this
        exact (E _ (by omega)).1.trans this
  · match j, hj with
    | 0, _ => exact ⟨e154.2.1.trans b154.2.1, e154.2.2.1.trans b154.2.2⟩
    | k + 1, hk =>
      have := A k (by omega)
      rw [show 155 + k = 154 + (k + 1) by omega] at this
      exact ⟨(E _ (by omega)).2.1.trans this.2.1, (E _ (by omega)).2.2.1.trans this.2.2⟩
  · have i0 : hI (alL 153 l37 (bX12 (nw (iX11 g 0) 12 65) 153)) 153 y = if y = 10 then -1 else if y = 8 then -1 else 0 := by
      rw [alL_I l37 _ (by omega)]
      unfold bX12
      rw [hI_sI, hI_sI, al_Ia (by omega), hI_nw, if_pos hx.symm]
      by_cases c : y = 10
      · rw [if_pos ⟨rfl, c⟩, if_pos c]
      · rw [if_neg (fun z => c z.2), if_neg c]
        by_cases c8 : y = 8
        · rw [if_pos ⟨rfl, c8⟩, if_pos c8]
        · rw [if_neg (fun z => c8 z.2), if_neg c8]
    rw [eH, hI_sI, hI_sI, hI_sI, i0]
    by_cases c1 : y = 21
    · rw [if_pos ⟨rfl, c1⟩, if_neg (by omega), if_neg (by omega)]
    · rw [if_neg (fun z => c1 z.2)]
      by_cases c2 : y = 20
      · rw [if_pos ⟨rfl, c2⟩, if_neg (by omega), if_neg (by omega)]
      · rw [if_neg (fun z => c2 z.2)]
        by_cases c3 : y = 19
        · rw [if_pos ⟨rfl, c3⟩, if_neg (by omega), if_neg (by omega)]
        · rw [if_neg (fun z => c3 z.2)]
theorem c_mT (hg : hN g = 1) : mT (HH g) (fun _ => 0) 0 (fun _ => 0) (fun _ => 0) (fun _ _ => 0) 0 0 (fun _ _ => 0) (fun _ => 0) (fun _ => 0) 0 (nI 0) (-1) := by
  obtain ⟨s, z, i⟩ := c_mS hg
  have z0 : ∀ j, j < 38 → ∀ x, x = 154 + j → hI (HH g) x = (fun _ => 0) ∧ hL (HH g) x = fun _ => 0 := fun j hj x e => by rw [e]; exact z j hj
  have n0 := nI_0
  refine ⟨⟨s, (z0 8 (by omega) 162 rfl).2, (i 21).trans n0.symm, (z0 5 (by omega) 159 rfl).1, (z0 7 (by omega) 161 rfl).1⟩, fun _ _ => rfl, fun k hk => ?_, (i 28).trans n0.symm, (i 29).trans n0.symm, by omega, fun b hb => ?_, (z0 37 (by omega) 191 rfl).1, (z0 0 (by omega) 154 rfl).1, ⟨(i 1).trans n0.symm, by omega⟩, (i 9).trans n0.symm, i 10⟩
  · funext y
    show (if y < 935 then hL (HH g) 166 (935 * k + y) else 0) = 0
    rw [(z0 12 (by omega) 166 rfl).2]
    split <;> rfl
  · funext y
    show (if y < 935 then hL (HH g) 190 (935 * b + y) else 0) = 0
    rw [(z0 36 (by omega) 190 rfl).2]
    split <;> rfl
end CELLS2
