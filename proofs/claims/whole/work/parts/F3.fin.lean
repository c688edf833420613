/-! ===== the law ===== -/
theorem eqAt_iX7b {h : mH} {a x : Nat} (hx : hN h + 13 ≤ x) (ha : x ≠ a) : eqAt h (iX7 h a) x := by
  unfold iX7 iX7b iX7a
  refine ((((((eqAt_mul (Or.inr (by omega))).tr (eqAt_sR ha)).tr (eqAt_al ?_ ha)).tr (eqAt_nw ?_)).tr (eqAt_iX1 (Or.inr ?_) (by omega))).tr (eqAt_sR ha)).tr (eqAt_al ?_ ha)
  · show x ≠ hN h + 7; omega
  · show x ≠ hN h + 8; omega
  · show hN h + 9 + 3 ≤ x; omega
  · show x ≠ hN h + 12; omega
theorem eqAt_iX3b {h : mH} {a x : Nat} (hx : hN h + 86 ≤ x) (ha : x ≠ a) : eqAt h (iX3 h a) x := (eqAt_al (by omega) ha).tr (eqAt_iRing (by omega) 17 (Or.inr (by rw [hN_al]; omega)))
theorem HH_big {g : mH} (hg : hN g = 1) {x : Nat} (hx : 192 ≤ x) : eqAt g (HH g) x := by
  have e0 := hN_iX11h1 g 0
  have e1 := hN_iX11g g 0
  have e2 := hN_iX11f g 0
  have e3 := hN_iX11e g 0
  have e4 := hN_iX11d g 0
  have e5 := hN_iX11c g 0
  have e6 := hN_iX11b g 0
  have e7 := hN_iX11a g 0
  have e9 := hN_iX11h g 0
  have eX := hN_iX11 g 0
  have e8 : hN (sI (al g 0 0 13 900) 0 3 (-1)) = hN g + 1 := rfl
  have s0 : eqAt g (sI (al g 0 0 13 900) 0 3 (-1)) x := (eqAt_al (by omega) (by omega)).tr (eqAt_sI (by omega))
  have s1 : eqAt _ (iX11a g 0) x := eqAt_ob (eqAt_iX1 (h := nw (sI (al g 0 0 13 900) 0 3 (-1)) 1 4) (Or.inr (by rw [hN_nw]; omega)) (by omega)) (by omega) (by omega)
  have s2 : eqAt _ (iX11b g 0) x := eqAt_ob (eqAt_iX7b (h := nw (iX11a g 0) 7 12) (by rw [hN_nw]; omega) (by omega)) (by omega) (by omega)
  have s3 : eqAt _ (iX11c g 0) x := eqAt_ob (eqAt_iX3b (h := nw (iX11b g 0) 3 4) (by rw [hN_nw]; omega) (by omega)) (by omega) (by omega)
  have s4 : eqAt (iX11c g 0) (iX11d g 0) x := (eqAt_al (by omega) (by omega)).tr (eqAt_al (by rw [hN_al]; omega) (by omega))
  have s5 : eqAt _ (iX11e g 0) x := eqAt_ob (eqAt_iX0 (h := nw (iX11d g 0) 0 8) (Or.inr (by rw [hN_nw]; omega)) (by omega)) (by omega) (by omega)
  have s6 : eqAt _ (iX11f g 0) x := eqAt_ob (eqAt_iX2 (h := nw (iX11e g 0) 2 7) (Or.inr (by rw [hN_nw]; omega)) (by omega)) (by omega) (by omega)
  have s7 : eqAt _ (iX11g g 0) x := eqAt_ob (eqAt_iX10 (h := nw (iX11f g 0) 10 6) (Or.inr (by rw [hN_nw]; omega)) (by omega)) (by omega) (by omega)
  have s8 : eqAt _ (iX11h1 g 0) x := eqAt_ob (eqAt_iX5 (h := nw (iX11g g 0) 5 2) (Or.inr (by rw [hN_nw]; omega)) (by omega)) (by omega) (by omega)
  have s9 : eqAt _ (iX11h g 0) x := eqAt_ob (eqAt_iX5 (h := nw (iX11h1 g 0) 5 2) (Or.inr (by rw [hN_nw]; omega)) (by omega)) (by omega) (by omega)
  have sX : eqAt (iX11h g 0) (iX11 g 0) x := eqAt_iTabs (by omega) 4 (Or.inr (by omega))
  have sM : eqAt (iX11 g 0) (HH g) x := (eqAt_nw (by omega)).tr (eqAt_iX12 (Or.inr (by rw [hN_nw]; omega)) (by omega))
  exact s0.tr (s1.tr (s2.tr (s3.tr (s4.tr (s5.tr (s6.tr (s7.tr (s8.tr (s9.tr (sX.tr sM))))))))))
theorem ok_0 : okRw (fun _ => 0) 0 (fun _ => 0) (fun _ => 0) := ⟨sOK_new (P := 0) (ct := fun _ => 0) (by omega) (fun f hf => absurd hf (Nat.not_lt_zero f)) (fun _ _ => Or.inl rfl) (by omega) rfl (fun p hp => ⟨rfl, by omega, fun _ => rfl⟩) (fun p k hp hk => ⟨fun z => absurd z (Nat.not_lt_zero k), fun _ => rfl⟩) (fun _ _ _ => rfl), hlZ.zero (fun _ _ => rfl)⟩
theorem inLw_0 (L : Nat) (xs : Nat → Int32) : inLw L xs 0 (HH (nw (h0 L xs) 11 14)) := by
  have hg : hN (nw (h0 L xs) 11 14) = 1 := rfl
  have hu : hU (nw (h0 L xs) 11 14) = 14 := rfl
  have ho : hO (nw (h0 L xs) 11 14) 0 11 := hO_new (h0 L xs) 11 14
  have hi : hI (nw (h0 L xs) 11 14) 0 = fun _ => 0 := by
    funext y
    rw [hI_nw]
    exact if_pos rfl
  have eb := HH_big hg (x := scrA) (by decide)
  have e0 : eqAt (h0 L xs) (nw (h0 L xs) 11 14) scrA := eqAt_nw (by show scrA ≠ 0; decide)
  refine ⟨owF, 0, fun _ => 0, fun _ => 0, 2, 0, 0, 0, fun _ => 0, fun _ _ => 0, fun _ _ => 0, fun _ => 0, fun _ => 0, 0, nI 0, -1, 64, 2000000, c_cC hg hu ho hi, c_mT hg, ⟨ok_0, fun i hi => absurd hi (Nat.not_lt_zero i), fun b _ z => absurd rfl z⟩, fun _ => ⟨0, by omega, nI_0.symm⟩, by omega, (e0.tr eb).1.trans ?_, (e0.tr eb).2.1.trans ?_⟩
  · show (if scrA = scrA then (99, L) else (0, 0)) = _
    rw [if_pos rfl]
  · funext y
    show (if scrA = scrA then xs y else 0) = _
    rw [if_pos rfl]
theorem lw_base {L : Nat} {xs : Nat → Int32} : ∀ c h, inLw L xs c h → hO h 0 11 ∧ hO h 153 12 ∧ hK h scrA = (99, L) ∧ hI h scrA = xs := by
  rintro c h ⟨ow, F, pa, my, fa, o, a, u, r, pr, bx, kp, tp, t, tf, tl, n, w, C, q, ok, hb, hw, hk, hx⟩
  exact ⟨C.zx.o, q.1.1.1, hk, hx⟩
theorem lw_end {L : Nat} {xs : Nat → Int32} (hL : L ≤ 3584) : ∀ c h, 7 * c ≤ L → inLw L xs c h → hN h ≤ 600000 ∧ hU h ≤ 7302250 := by
  rintro c h hc ⟨ow, F, pa, my, fa, o, a, u, r, pr, bx, kp, tp, t, tf, tl, n, w, C, q, ok, hb, hw, hk, hx⟩
  have := C.tw.b
  omega
theorem lw_skip {L : Nat} {xs : Nat → Int32} : ∀ c h, 7 * c + 7 ≤ L → inLw L xs c h → inLw L xs (c + 1) h := by
  rintro c h hc ⟨ow, F, pa, my, fa, o, a, u, r, pr, bx, kp, tp, t, tf, tl, n, w, C, q, ok, hb, hw, hk, hx⟩
  exact ⟨ow, F, pa, my, fa, o, a, u, r, pr, bx, kp, tp, t, tf, tl, n, w, C, q, ok, hb, by omega, hk, hx⟩
theorem lw_loop {L : Nat} {xs : Nat → Int32} (hL : L ≤ 3584) : Wp mLaw 13 554 18 [some (.ref scrA), some (.ref 0), some (.ref 153), some (.int (nI (7 * 0)))] [] (HH (nw (h0 L xs) 11 14)) (fun r h' => r = some (.int 1) ∧ hN h' ≤ 600000 ∧ hU h' ≤ 7302250) :=
  law_loop hL (inLw L xs) lw_base (lw_end hL) lw_skip (op_feed hL) (op_end hL) (op_book hL) (op_page hL) (op_fault hL) (op_field hL) (op_tokens hL) (op_token hL) (op_mark hL) (op_unmark hL) (op_learn hL) (op_take hL) (op_undo hL) (op_redo hL) (op_marked hL) (op_rule hL) (op_tries hL) (op_could hL) (op_cover hL) (op_covers hL) (op_contradict hL) (op_stale hL) (op_cut hL) (op_by hL) (op_letter hL) (op_pattern hL) (op_proposed hL) (op_alike hL) (op_drift hL) (op_strange hL) (op_sturdy hL) (op_right hL) (op_enough hL) (op_opinion hL) (op_next hL) (op_without hL) (op_image hL) (op_back hL) (op_about hL) (L + 1) 0 _ (by omega) (by omega) (inLw_0 L xs)
set_option maxRecDepth 20000 in
theorem law_wp {L : Nat} {xs : Nat → Int32} (hL : L ≤ 3584) : Wp mLaw 13 554 0 [some (.ref scrA), none, none, none] [] (h0 L xs) (fun r h' => r = some (.int 1) ∧ hN h' ≤ 600000 ∧ hU h' ≤ 7302250) := by
  refine wp_new dL_law_0 (by decide) lL_7 (mInst 11 (by decide)) (mInit 11 (by decide)) ?_
  refine wp_dup dL_law_3 rfl ?_
  refine wp_cI0 3 61 [some _, none] dL_law_4 tX11_init rfl rfl nX11_init lL_9 ⟨by decide, by decide⟩ (Nat.le_of_ble_eq_true rfl) (Nat.le_of_ble_eq_true rfl) rfl ?_
  refine pX11_init (hO_new _ _ _) ?_
  intro _ _
  refine wp_astore_n (ls1 := [_, some _, _, _]) dL_law_7 rfl (by decide) rfl ?_
  refine wp_new dL_law_8 (by decide) lL_10 (mInst 12 (by decide)) (mInit 12 (by decide)) ?_
  refine wp_dup dL_law_11 rfl ?_
  refine wp_cI0 1 20 [some _] dL_law_12 tX12_init rfl rfl nX12_init lL_12 ⟨by decide, by decide⟩ (Nat.le_of_ble_eq_true rfl) (Nat.le_of_ble_eq_true rfl) rfl ?_
  refine pX12_init (hO_new _ _ _) ?_
  intro _ _
  refine wp_astore_n (ls1 := [_, _, some _, _]) dL_law_15 rfl (by decide) rfl ?_
  refine wp_iconst (v := (nI 0)) dL_law_16 (by decide +kernel) ?_
  refine wp_istore_n (ls1 := [_, _, _, some _]) dL_law_17 rfl (by decide) rfl ?_
  have e153 : hN (iX11 (nw (h0 L xs) 11 14) 0) = 153 := by rw [hN_iX11]; rfl
  show Wp mLaw 13 554 18 [some (.ref scrA), some (.ref 0), some (.ref (hN (iX11 (nw (h0 L xs) 11 14) 0))), some (.int (nI 0))] [] (iX12 (nw (iX11 (nw (h0 L xs) 11 14) 0) 12 65) (hN (iX11 (nw (h0 L xs) 11 14) 0))) _
  rw [e153]
  exact lw_loop hL
