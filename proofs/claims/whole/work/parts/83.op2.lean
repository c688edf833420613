/-! ===== questions that only read, more ===== -/
theorem mrk_n {a : Option Nat} {b : Option Nat} {g : Nat → Nat → Int32} (h : a = none ∨ b = none) : (match a with
  | some p => match b with
    | some f => g p f
    | none => -1
  | none => (-1 : Int32)) = -1 := by
  rcases h with rfl | rfl
  · rfl
  · cases a <;> rfl
theorem mkV {r : Nat → Int64} {f p : Nat} {i what : Int32} : partV (mkL r f p) i what = if i = -1 then nI (rM r f p) else match ix i (rM r f p) with
      | some k => if what = 0 then nI (rA r f p k) else if what = nI 1 then nI (rB r f p k) else -1
      | none => -1 := by
  unfold partV
  rw [mkL_len]
  by_cases e : i = -1
  · rw [if_pos e, if_pos e]
  · rw [if_neg e, if_neg e]
    cases z : ix i (rM r f p) with
    | none => rfl
    | some k =>
      have hk := (ix_some z).1
      show (if what = 0 then nI ((mkL r f p).getD k (0, 0)).1 else if what = 1 then nI ((mkL r f p).getD k (0, 0)).2 else -1) = if what = 0 then nI (rA r f p k) else if what = nI 1 then nI (rB r f p k) else -1
      rw [mkL_getD hk, show (nI 1 : Int32) = 1 from rfl]
set_option maxRecDepth 20000 in
theorem pX11_marked {h : mH} {Q : Option Value → mH → Prop} {ow : Nat → Nat} {F fa o1 d1 u1 : Nat} {pa my : Nat → Int32} {r : Nat → Int64} {x y i w : Int32} (e9 : eS ow h F pa my r fa o1 d1 u1) (hd : sOK r F pa my) (hq : Q (some (.int (vMarked r F x y i w))) h) : Wp mX11_marked 4 93 0 [some (.ref 0), some (.int x), some (.int y), some (.int i), some (.int w), none, none] [] h Q := by
  have hP6 := hd.w.1.2
  have hF4 := hd.f4
  have hT40 : ∀ p, p < 6 → rT r p ≤ 40 := fun p hp => (hd.w.2.1 p hp).2
  have hM8 : ∀ f p, f < 4 → p < 6 → rM r f p ≤ 8 := fun f p hf hp => (hd.w.2.2 f p hf hp).1.2
  have hz : ∀ z, vMarked r F x y i w = z → Q (some (.int z)) h := fun z e => e ▸ hq
  refine wp_aload_n dX11_marked_0 rfl rfl ?_
  refine wp_iload_n dX11_marked_1 rfl rfl ?_
  refine wp_iload_n dX11_marked_2 rfl rfl ?_
  refine wp_cV2 3 63 [some _, some _, some _] dX11_marked_3 tX11_known rfl (by decide) nX11_known vX11_known lX11_276 ⟨by decide, by decide⟩ (Nat.le_of_ble_eq_true rfl) e9.oo (Nat.le_of_ble_eq_true rfl) rfl ?_
  refine pX11_known e9 hd (fun p1 f1 hp1 hf1 ep1 ef1 => ?_) (fun xn1 => ?_)
  · subst ep1
    subst ef1
    intro _ _
    refine wp_if_ne dX11_marked_6 (fun _ => ?_) (fun q => absurd q (by decide +kernel))
    refine wp_aload_n dX11_marked_11 rfl rfl ?_
    refine wp_getR dX11_marked_12 lX11_34 rfl e9.oo e9.r6 ?_
    refine wp_cV0 2 43 [some _] dX11_marked_15 tX3_now rfl (by decide) nX3_now vX3_now lX11_101 ⟨by decide, by decide⟩ (Nat.le_of_ble_eq_true rfl) e9.hh.o (Nat.le_of_ble_eq_true rfl) rfl ?_
    refine pX3_now e9.hh e9.kb e9.od.1 e9.od.2 ?_
    intro _ _
    refine wp_astore (ls1 := [_, _, _, _, _, some _, _]) dX11_marked_18 (by decide) rfl ?_
    refine wp_iload_n dX11_marked_20 rfl rfl ?_
    refine wp_iload_n dX11_marked_21 rfl rfl ?_
    refine wp_cS2 0 0 [some _, some _] dX11_marked_22 tX11_spotOf sX11_spotOf lX11_198 ⟨by decide, by decide⟩ (Nat.le_of_ble_eq_true rfl) (Nat.le_of_ble_eq_true rfl) rfl ?_
    refine pX11_spotOf ?_
    intro _ _
    refine wp_istore (ls1 := [_, _, _, _, _, _, some _]) dX11_marked_25 (by decide) rfl ?_
    refine wp_aload dX11_marked_27 rfl ?_
    refine wp_getR dX11_marked_29 lX11_202 rfl e9.st.oo e9.st.r2 ?_
    refine wp_iload dX11_marked_32 rfl ?_
    refine wp_laldV dX11_marked_34 e9.st.a2 rfl ⟨by omega, by omega⟩ (e9.st.c2 (by omega) (by omega)) ?_
    refine wp_aload dX11_marked_35 rfl ?_
    refine wp_getR dX11_marked_37 lX11_205 rfl e9.st.oo e9.st.r3 ?_
    refine wp_iload dX11_marked_40 rfl ?_
    refine wp_laldV dX11_marked_42 e9.st.a3 rfl ⟨by omega, by omega⟩ (e9.st.c3 (by omega) (by omega)) ?_
    refine wp_iload_n dX11_marked_43 rfl rfl ?_
    refine wp_iload dX11_marked_44 rfl ?_
    refine wp_cS4 3 67 [some _, none, some _, none, some _, some _, none] dX11_marked_46 tX11_partOf sX11_partOf lX11_279 ⟨by decide, by decide⟩ (Nat.le_of_ble_eq_true rfl) (Nat.le_of_ble_eq_true rfl) rfl ?_
    refine pX11_partOf (srt_mk hd (by omega) (by omega)) (Nat.lt_of_le_of_lt (hT40 _ (by omega)) (by decide)) (by rw [mkL_len]; exact hM8 _ _ (by omega) (by omega)) ?_
    intro _ _
    refine wp_ireturn dX11_marked_49 rfl ?_
    exact hz _ (by unfold vMarked; rw [ix_nI (by omega) (by omega), ix_nI (by omega) (by omega)]; exact mkV.symm)
  · intro _ _
    refine wp_if_ne dX11_marked_6 (fun q => absurd q (by decide +kernel)) (fun _ => ?_)
    refine wp_iconst (v := (-1)) dX11_marked_9 (by decide +kernel) ?_
    refine wp_ireturn dX11_marked_10 rfl ?_
    exact hz _ (by unfold vMarked; exact mrk_n xn1)
theorem cod_lt {k : Nat} (h : cod k) : k < 1099511627776 := by
  obtain ⟨a, b, c, d, ha, hb, hc, hd, rfl⟩ := h
  exact kN_lt (by omega) (by omega) (by omega) (by omega)
theorem cod_co {k : Nat} (h : cod k) : k / 4294967296 = itC (itm (kI k 0)) + itC (itm (kI k 1)) + itC (itm (kI k 2)) + itC (itm (kI k 3)) := by
  obtain ⟨a, b, c, d, ha, hb, hc, hd, rfl⟩ := h
  obtain ⟨e0, e1, e2, e3⟩ := kN_it (a := a) (b := b) (c := c) (d := d) (by omega) (by omega) (by omega) (by omega)
  rw [kN_co (by omega) (by omega) (by omega) (by omega), e0, e1, e2, e3, itC_itm (by omega), itC_itm (by omega), itC_itm (by omega), itC_itm (by omega)]
theorem rulV {r : Nat → Int64} {f k key : Nat} {w : Int32} (hc : cod key) (hi : ∀ w, w < 4 → itm (kI key w) = lrI r f k w) : dtV key w = match ix w 5 with
      | some w => if w < 4 then lrI r f k w else nI (itC (lrI r f k 0) + itC (lrI r f k 1) + itC (lrI r f k 2) + itC (lrI r f k 3))
      | none => -2 := by
  unfold dtV
  cases z : ix w 5 with
  | none => rfl
  | some j =>
    have hj := (ix_some z).1
    show (if j = 4 then _ else _) = if j < 4 then _ else _
    by_cases e : j = 4
    · rw [if_pos e, if_neg (by omega), cod_co hc, hi 0 (by decide), hi 1 (by decide), hi 2 (by decide), hi 3 (by decide)]
    · rw [if_neg e, if_pos (by omega), hi j (by omega)]
theorem pat_0 {r : Nat → Int64} {f : Nat} {y : Int32} (h : ¬ r (655 + 70 * f) = 1 ∨ ix y (lrS r f 0) = none) : (if r (655 + 70 * f) = 1 then (match ix y (lrS r f 0) with
    | some k => nI (lrS r f (4 + k))
    | none => -1) else (-1 : Int32)) = -1 := by
  rcases h with h | h
  · exact if_neg h
  · rw [h]
    exact ite_self _
theorem pat_1 {r : Nat → Int64} {f k : Nat} (h : r (655 + 70 * f) = 1) (hk : k < lrS r f 0) (hl : lrS r f 0 ≤ 40) : (if r (655 + 70 * f) = 1 then (match ix (nI k) (lrS r f 0) with
    | some k => nI (lrS r f (4 + k))
    | none => -1) else (-1 : Int32)) = nI (lrS r f (4 + k)) := by
  rw [if_pos h, ix_nI hk (by omega)]
theorem ix_00 {x : Int32} : ix x 0 = none := by
  unfold ix
  exact if_neg (fun z => by have h1 := z.1; have h2 : x.toInt < 0 := z.2; omega)
set_option maxRecDepth 20000 in
theorem pX11_rule {h : mH} {Q : Option Value → mH → Prop} {ow : Nat → Nat} {F fa o1 d1 u1 : Nat} {pa my : Nat → Int32} {r : Nat → Int64} {y k w : Int32} (e9 : eS ow h F pa my r fa o1 d1 u1) (hd : sOK r F pa my) (hq : Q (some (.int (vRule r F y k w))) h) : Wp mX11_rule 3 63 0 [some (.ref 0), some (.int y), some (.int k), some (.int w), none] [] h Q := by
  have hP6 := hd.w.1.2
  have hF4 := hd.f4
  have hlN : ∀ f, f < 4 → lrN r f ≤ 6 := fun f hf => (hd.ln f hf).2
  have hlS : ∀ f w, f < 4 → w < 44 → lrS r f w ≤ 40 := fun f w hf hw => (hd.ls f w hf hw).2
  have hz : ∀ z, vRule r F y k w = z → Q (some (.int z)) h := fun z e => e ▸ hq
  refine wp_aload_n dX11_rule_0 rfl rfl ?_
  refine wp_getR dX11_rule_1 lX11_20 rfl e9.oo e9.f4 ?_
  refine wp_iload_n dX11_rule_4 rfl rfl ?_
  refine wp_cV1 0 0 [some _, some _] dX11_rule_5 tX1_has rfl (by decide) nX1_has vX1_has lX11_139 ⟨by decide, by decide⟩ (Nat.le_of_ble_eq_true rfl) e9.fl.oo (Nat.le_of_ble_eq_true rfl) rfl ?_
  refine pX1_has e9.fl hF4 (fun f1 hf1 ef1 => ?_) (fun xn1 => ?_)
  · subst ef1
    intro _ _
    refine wp_if_ne dX11_rule_8 (fun _ => ?_) (fun q => absurd q (by decide +kernel))
    refine wp_aload_n dX11_rule_14 rfl rfl ?_
    refine wp_getR dX11_rule_15 lX11_34 rfl e9.oo e9.r6 ?_
    refine wp_cV0 2 43 [some _] dX11_rule_18 tX3_now rfl (by decide) nX3_now vX3_now lX11_101 ⟨by decide, by decide⟩ (Nat.le_of_ble_eq_true rfl) e9.hh.o (Nat.le_of_ble_eq_true rfl) rfl ?_
    refine pX3_now e9.hh e9.kb e9.od.1 e9.od.2 ?_
    intro _ _
    refine wp_getR dX11_rule_21 lX11_143 rfl e9.st.oo e9.st.r1 ?_
    refine wp_iload_n dX11_rule_24 rfl rfl ?_
    have hl6 := hlN f1 (by omega)
    have hl40 := hlS f1 0 (by omega) (by decide)
    rcases e9.st.ln (f := f1) (by omega) with ⟨hl2, q2, eq2, ln2⟩ | ⟨hl2, eq2⟩
    · refine wp_aaldJ dX11_rule_25 e9.st.a1 (by decide) (by decide) rfl ⟨by omega, by omega⟩ eq2 ?_
      refine wp_astore (ls1 := [_, _, _, _, some _]) dX11_rule_26 (by decide) rfl ?_
      refine wp_aload dX11_rule_28 rfl ?_
      refine wp_ifnull dX11_rule_30 ?_
      refine wp_iload_n dX11_rule_33 rfl rfl ?_
      refine wp_if_lt dX11_rule_34 (fun c3 => ?_) (fun c3 => ?_)
      · refine wp_bipush (v := (-2)) dX11_rule_47 (by decide +kernel) ?_
        refine wp_ireturn dX11_rule_49 rfl ?_
        exact hz _ (by unfold vRule; rw [ix_nI (by omega) (by omega)]; show (match ix k (lrN r f1) with | some k => _ | none => _) = _; rw [(ix_lt0 c3)])
      · refine wp_iload_n dX11_rule_37 rfl rfl ?_
        refine wp_aload dX11_rule_38 rfl ?_
        refine wp_getR dX11_rule_40 lX11_158 rfl ln2.oo ln2.r0 ?_
        refine wp_alen dX11_rule_43 ln2.a0 (by decide) (by decide) rfl ?_
        refine wp_icmp_lt dX11_rule_44 (fun c5 => ?_) (fun c5 => ?_)
        · obtain ⟨j3, hj3, ej3⟩ := ix_lt (by omega) c3 c5
          subst ej3
          refine wp_aload dX11_rule_50 rfl ?_
          refine wp_getR dX11_rule_52 lX11_158 rfl ln2.oo ln2.r0 ?_
          refine wp_iload_n dX11_rule_55 rfl rfl ?_
          obtain ⟨ky4, hc4, ek4, hi4⟩ := ln2.c0 (k := j3) (by omega)
          refine wp_laldV dX11_rule_56 ln2.a0 rfl ⟨by omega, by omega⟩ ek4 ?_
          refine wp_iload_n dX11_rule_57 rfl rfl ?_
          refine wp_cS2 1 22 [some _, none, some _] dX11_rule_58 tX11_detailOf sX11_detailOf lX11_283 ⟨by decide, by decide⟩ (Nat.le_of_ble_eq_true rfl) (Nat.le_of_ble_eq_true rfl) rfl ?_
          refine pX11_detailOf (cod_lt hc4) ?_
          intro _ _
          refine wp_ireturn dX11_rule_61 rfl ?_
          exact hz _ (by unfold vRule; rw [ix_nI (by omega) (by omega)]; show (match ix (nI j3) (lrN r f1) with | some k => _ | none => _) = _; rw [ix_nI (by omega) (by omega)]; exact (rulV hc4 hi4).symm)
        · refine wp_bipush (v := (-2)) dX11_rule_47 (by decide +kernel) ?_
          refine wp_ireturn dX11_rule_49 rfl ?_
          exact hz _ (by unfold vRule; rw [ix_nI (by omega) (by omega)]; show (match ix k (lrN r f1) with | some k => _ | none => _) = _; rw [(ix_nlt (by omega) c5)])
    · refine wp_aaldJ dX11_rule_25 e9.st.a1 (by decide) (by decide) rfl ⟨by omega, by omega⟩ eq2 ?_
      refine wp_astoreN (ls1 := [_, _, _, _, some _]) dX11_rule_26 (by decide) rfl ?_
      refine wp_aloadN dX11_rule_28 rfl ?_
      refine wp_ifnullN dX11_rule_30 ?_
      refine wp_bipush (v := (-2)) dX11_rule_47 (by decide +kernel) ?_
      refine wp_ireturn dX11_rule_49 rfl ?_
      exact hz _ (by unfold vRule; rw [ix_nI (by omega) (by omega)]; show (match ix k (lrN r f1) with | some k => _ | none => _) = _; rw [(hd.lz f1 (by omega) ((hd.lf f1 (by omega)).resolve_right hl2)).1, ix_00])
  · intro _ _
    refine wp_if_ne dX11_rule_8 (fun q => absurd q (by decide +kernel)) (fun _ => ?_)
    refine wp_bipush (v := (-2)) dX11_rule_11 (by decide +kernel) ?_
    refine wp_ireturn dX11_rule_13 rfl ?_
    exact hz _ (by unfold vRule; rw [xn1])
set_option maxRecDepth 20000 in
theorem pX11_pattern {h : mH} {Q : Option Value → mH → Prop} {ow : Nat → Nat} {F fa o1 d1 u1 : Nat} {pa my : Nat → Int32} {r : Nat → Int64} {y k : Int32} (e9 : eS ow h F pa my r fa o1 d1 u1) (hd : sOK r F pa my) (hq : Q (some (.int (spPattern r F y k))) h) : Wp mX11_pattern 3 63 0 [some (.ref 0), some (.int y), some (.int k), none] [] h Q := by
  have hP6 := hd.w.1.2
  have hF4 := hd.f4
  have hlN : ∀ f, f < 4 → lrN r f ≤ 6 := fun f hf => (hd.ln f hf).2
  have hlS : ∀ f w, f < 4 → w < 44 → lrS r f w ≤ 40 := fun f w hf hw => (hd.ls f w hf hw).2
  have hz : ∀ z, spPattern r F y k = z → Q (some (.int z)) h := fun z e => e ▸ hq
  refine wp_aload_n dX11_pattern_0 rfl rfl ?_
  refine wp_getR dX11_pattern_1 lX11_20 rfl e9.oo e9.f4 ?_
  refine wp_iload_n dX11_pattern_4 rfl rfl ?_
  refine wp_cV1 0 0 [some _, some _] dX11_pattern_5 tX1_has rfl (by decide) nX1_has vX1_has lX11_139 ⟨by decide, by decide⟩ (Nat.le_of_ble_eq_true rfl) e9.fl.oo (Nat.le_of_ble_eq_true rfl) rfl ?_
  refine pX1_has e9.fl hF4 (fun f1 hf1 ef1 => ?_) (fun xn1 => ?_)
  · subst ef1
    intro _ _
    refine wp_if_ne dX11_pattern_8 (fun _ => ?_) (fun q => absurd q (by decide +kernel))
    refine wp_aload_n dX11_pattern_13 rfl rfl ?_
    refine wp_getR dX11_pattern_14 lX11_34 rfl e9.oo e9.r6 ?_
    refine wp_cV0 2 43 [some _] dX11_pattern_17 tX3_now rfl (by decide) nX3_now vX3_now lX11_101 ⟨by decide, by decide⟩ (Nat.le_of_ble_eq_true rfl) e9.hh.o (Nat.le_of_ble_eq_true rfl) rfl ?_
    refine pX3_now e9.hh e9.kb e9.od.1 e9.od.2 ?_
    intro _ _
    refine wp_getR dX11_pattern_20 lX11_143 rfl e9.st.oo e9.st.r1 ?_
    refine wp_iload_n dX11_pattern_23 rfl rfl ?_
    have hl6 := hlN f1 (by omega)
    have hl40 := hlS f1 0 (by omega) (by decide)
    rcases e9.st.ln (f := f1) (by omega) with ⟨hl2, q2, eq2, ln2⟩ | ⟨hl2, eq2⟩
    · refine wp_aaldJ dX11_pattern_24 e9.st.a1 (by decide) (by decide) rfl ⟨by omega, by omega⟩ eq2 ?_
      refine wp_astore_n (ls1 := [_, _, _, some _]) dX11_pattern_25 rfl (by decide) rfl ?_
      refine wp_aload_n dX11_pattern_26 rfl rfl ?_
      refine wp_ifnull dX11_pattern_27 ?_
      refine wp_iload_n dX11_pattern_30 rfl rfl ?_
      refine wp_if_lt dX11_pattern_31 (fun c3 => ?_) (fun c3 => ?_)
      · refine wp_iconst (v := (-1)) dX11_pattern_43 (by decide +kernel) ?_
        refine wp_ireturn dX11_pattern_44 rfl ?_
        exact hz _ (by unfold spPattern; rw [ix_nI (by omega) (by omega)]; exact pat_0 (Or.inr (ix_lt0 c3)))
      · refine wp_iload_n dX11_pattern_34 rfl rfl ?_
        refine wp_aload_n dX11_pattern_35 rfl rfl ?_
        refine wp_getR dX11_pattern_36 lX11_351 rfl ln2.oo ln2.r1 ?_
        refine wp_alen dX11_pattern_39 ln2.a1 (by decide) (by decide) rfl ?_
        refine wp_icmp_lt dX11_pattern_40 (fun c5 => ?_) (fun c5 => ?_)
        · obtain ⟨j3, hj3, ej3⟩ := ix_lt (by omega) c3 c5
          subst ej3
          refine wp_aload_n dX11_pattern_45 rfl rfl ?_
          refine wp_getR dX11_pattern_46 lX11_351 rfl ln2.oo ln2.r1 ?_
          refine wp_iload_n dX11_pattern_49 rfl rfl ?_
          refine wp_ialdV dX11_pattern_50 ln2.a1 rfl ⟨by omega, by omega⟩ (ln2.c1 (by omega)) ?_
          refine wp_ireturn dX11_pattern_51 rfl ?_
          exact hz _ (by unfold spPattern; rw [ix_nI (by omega) (by omega)]; exact pat_1 hl2 (by omega) (by omega))
        · refine wp_iconst (v := (-1)) dX11_pattern_43 (by decide +kernel) ?_
          refine wp_ireturn dX11_pattern_44 rfl ?_
          exact hz _ (by unfold spPattern; rw [ix_nI (by omega) (by omega)]; exact pat_0 (Or.inr (ix_nlt (by omega) c5)))
    · refine wp_aaldJ dX11_pattern_24 e9.st.a1 (by decide) (by decide) rfl ⟨by omega, by omega⟩ eq2 ?_
      refine wp_astore_nN (ls1 := [_, _, _, some _]) dX11_pattern_25 rfl (by decide) rfl ?_
      refine wp_aload_nN dX11_pattern_26 rfl rfl ?_
      refine wp_ifnullN dX11_pattern_27 ?_
      refine wp_iconst (v := (-1)) dX11_pattern_43 (by decide +kernel) ?_
      refine wp_ireturn dX11_pattern_44 rfl ?_
      exact hz _ (by unfold spPattern; rw [ix_nI (by omega) (by omega)]; exact pat_0 (Or.inl hl2))
  · intro _ _
    refine wp_if_ne dX11_pattern_8 (fun q => absurd q (by decide +kernel)) (fun _ => ?_)
    refine wp_iconst (v := (-1)) dX11_pattern_11 (by decide +kernel) ?_
    refine wp_ireturn dX11_pattern_12 rfl ?_
    exact hz _ (by unfold spPattern; rw [xn1])
set_option maxRecDepth 20000 in
theorem pX11_about {h : mH} {Q : Option Value → mH → Prop} {ow : Nat → Nat} {F fa o1 d1 u1 : Nat} {pa my : Nat → Int32} {r : Nat → Int64} {t : Nat} {w xf xp : Int32} {xq : Option Nat} (e9 : eS ow h F pa my r fa o1 d1 u1) (hd : sOK r F pa my) (zx : zX ow h (nI t) xf xp xq) (hq : Q (some (.int (vAbout r F d1 u1 t w))) h) : Wp mX11_about 3 63 0 [some (.ref 0), some (.int w), none] [] h Q := by
  have hP6 := hd.w.1.2
  have hF4 := hd.f4
  have hz : ∀ z, vAbout r F d1 u1 t w = z → Q (some (.int z)) h := fun z e => e ▸ hq
  refine wp_aload_n dX11_about_0 rfl rfl ?_
  refine wp_getR dX11_about_1 lX11_34 rfl e9.oo e9.r6 ?_
  refine wp_cV0 2 43 [some _] dX11_about_4 tX3_now rfl (by decide) nX3_now vX3_now lX11_101 ⟨by decide, by decide⟩ (Nat.le_of_ble_eq_true rfl) e9.hh.o (Nat.le_of_ble_eq_true rfl) rfl ?_
  refine pX3_now e9.hh e9.kb e9.od.1 e9.od.2 ?_
  intro _ _
  refine wp_astore_n (ls1 := [_, _, some _]) dX11_about_7 rfl (by decide) rfl ?_
  refine wp_iload_n dX11_about_8 rfl rfl ?_
  rcases ix_cases (x := w) (n := 8) (by decide) with xn1 | ⟨j1, hj1, ej1⟩
  · refine wp_tableOut (t := 105) dX11_about_9 (ix_out xn1) (by decide +kernel) ?_
    refine wp_iconst (v := (-1)) dX11_about_105 (by decide +kernel) ?_
    refine wp_ireturn dX11_about_106 rfl ?_
    exact hz _ (by unfold vAbout; rw [xn1])
  · subst ej1
    rcases (by omega : j1 = 0 ∨ j1 = 1 ∨ j1 = 2 ∨ j1 = 3 ∨ j1 = 4 ∨ j1 = 5 ∨ j1 = 6 ∨ j1 = 7) with rfl | rfl | rfl | rfl | rfl | rfl | rfl | rfl
    · refine wp_tableIn (off := 47) (t := 56) dX11_about_9 (by decide +kernel) (by decide +kernel) (by decide +kernel) (by decide +kernel) ?_
      refine wp_aload_n dX11_about_56 rfl rfl ?_
      refine wp_getR dX11_about_57 lX11_20 rfl e9.oo e9.f4 ?_
      refine wp_getIV dX11_about_60 lX11_234 rfl e9.fl.oo e9.fl.f3 ?_
      refine wp_ireturn dX11_about_63 rfl ?_
      exact hz _ (by unfold vAbout; rw [ix_nI (by decide) (by decide)]; rfl)
    · refine wp_tableIn (off := 55) (t := 64) dX11_about_9 (by decide +kernel) (by decide +kernel) (by decide +kernel) (by decide +kernel) ?_
      refine wp_aload_n dX11_about_64 rfl rfl ?_
      refine wp_getIV dX11_about_65 lX11_123 rfl e9.st.oo e9.st.f4 ?_
      refine wp_ireturn dX11_about_68 rfl ?_
      exact hz _ (by unfold vAbout; rw [ix_nI (by decide) (by decide)]; rfl)
    · refine wp_tableIn (off := 60) (t := 69) dX11_about_9 (by decide +kernel) (by decide +kernel) (by decide +kernel) (by decide +kernel) ?_
      refine wp_aload_n dX11_about_69 rfl rfl ?_
      refine wp_cV0 1 21 [some _, none] dX11_about_70 tX8_unlikeTokens rfl (by decide) nX8_unlikeTokens vX8_unlikeTokens lX11_306 ⟨by decide, by decide⟩ (Nat.le_of_ble_eq_true rfl) e9.st.oo (Nat.le_of_ble_eq_true rfl) rfl ?_
      refine pX8_unlikeTokens e9.st hP6 ?_
      intro _ _
      refine wp_ireturn dX11_about_73 rfl ?_
      exact hz _ (by unfold vAbout; rw [ix_nI (by decide) (by decide)]; rfl)
    · refine wp_tableIn (off := 65) (t := 74) dX11_about_9 (by decide +kernel) (by decide +kernel) (by decide +kernel) (by decide +kernel) ?_
      refine wp_aload_n dX11_about_74 rfl rfl ?_
      refine wp_cV0 1 21 [some _, none, none] dX11_about_75 tX8_partCount rfl (by decide) nX8_partCount vX8_partCount lX11_396 ⟨by decide, by decide⟩ (Nat.le_of_ble_eq_true rfl) e9.st.oo (Nat.le_of_ble_eq_true rfl) rfl ?_
      refine pX8_partCount e9.st hd ?_
      intro _ _
      refine wp_ireturn dX11_about_78 rfl ?_
      exact hz _ (by unfold vAbout; rw [ix_nI (by decide) (by decide)]; rfl)
    · refine wp_tableIn (off := 70) (t := 79) dX11_about_9 (by decide +kernel) (by decide +kernel) (by decide +kernel) (by decide +kernel) ?_
      refine wp_aload_n dX11_about_79 rfl rfl ?_
      refine wp_cV0 0 0 [some _, none, none] dX11_about_80 tX8_learntFields rfl (by decide) nX8_learntFields vX8_learntFields lX11_399 ⟨by decide, by decide⟩ (Nat.le_of_ble_eq_true rfl) e9.st.oo (Nat.le_of_ble_eq_true rfl) rfl ?_
      refine pX8_learntFields e9.st hd ?_
      intro _ _
      refine wp_ireturn dX11_about_83 rfl ?_
      exact hz _ (by unfold vAbout; rw [ix_nI (by decide) (by decide)]; rfl)
    · refine wp_tableIn (off := 75) (t := 84) dX11_about_9 (by decide +kernel) (by decide +kernel) (by decide +kernel) (by decide +kernel) ?_
      refine wp_aload_n dX11_about_84 rfl rfl ?_
      refine wp_getR dX11_about_85 lX11_34 rfl e9.oo e9.r6 ?_
      refine wp_getIV dX11_about_88 lX11_402 rfl e9.hh.o e9.hh.f2 ?_
      refine wp_ireturn dX11_about_91 rfl ?_
      exact hz _ (by unfold vAbout; rw [ix_nI (by decide) (by decide)]; rfl)
    · refine wp_tableIn (off := 83) (t := 92) dX11_about_9 (by decide +kernel) (by decide +kernel) (by decide +kernel) (by decide +kernel) ?_
      refine wp_aload_n dX11_about_92 rfl rfl ?_
      refine wp_getR dX11_about_93 lX11_34 rfl e9.oo e9.r6 ?_
      refine wp_getIV dX11_about_96 lX11_405 rfl e9.hh.o e9.hh.f3 ?_
      refine wp_ireturn dX11_about_99 rfl ?_
      exact hz _ (by unfold vAbout; rw [ix_nI (by decide) (by decide)]; rfl)
    · refine wp_tableIn (off := 91) (t := 100) dX11_about_9 (by decide +kernel) (by decide +kernel) (by decide +kernel) (by decide +kernel) ?_
      refine wp_aload_n dX11_about_100 rfl rfl ?_
      refine wp_getIV dX11_about_101 lX11_82 rfl e9.oo zx.f1 ?_
      refine wp_ireturn dX11_about_104 rfl ?_
      exact hz _ (by unfold vAbout; rw [ix_nI (by decide) (by decide)]; rfl)
theorem vF_0 {r : Nat → Int64} {F f : Nat} {pa my : Nat → Int32} (hf : f < F) (h4 : F ≤ 4) : vField r F pa my (nI f) (nI 0) = pa f := by
  unfold vField
  rw [ix_nI hf (by omega)]
  rfl
theorem vF_1 {r : Nat → Int64} {F f : Nat} {pa my : Nat → Int32} (hf : f < F) (h4 : F ≤ 4) : vField r F pa my (nI f) (nI 1) = my f := by
  unfold vField
  rw [ix_nI hf (by omega)]
  rfl
theorem vF_2 {r : Nat → Int64} {F f : Nat} {pa my : Nat → Int32} (hf : f < F) (h4 : F ≤ 4) : vField r F pa my (nI f) (nI 2) = exS r f (rP r) := by
  unfold vField
  rw [ix_nI hf (by omega)]
  rfl
theorem vF_3 {r : Nat → Int64} {F f : Nat} {pa my : Nat → Int32} (hf : f < F) (h4 : F ≤ 4) : vField r F pa my (nI f) (nI 3) = nI (lrN r f) := by
  unfold vField
  rw [ix_nI hf (by omega)]
  rfl
theorem vF_4 {r : Nat → Int64} {F f : Nat} {pa my : Nat → Int32} (hf : f < F) (h4 : F ≤ 4) : vField r F pa my (nI f) (nI 4) = if r (655 + 70 * f) = 1 then nI (lrS r f 0) else -1 := by
  unfold vField
  rw [ix_nI hf (by omega)]
  rfl
theorem vF_5 {r : Nat → Int64} {F f : Nat} {pa my : Nat → Int32} (hf : f < F) (h4 : F ≤ 4) : vField r F pa my (nI f) (nI 5) = if r (655 + 70 * f) = 1 then nI (lrS r f 1) else -1 := by
  unfold vField
  rw [ix_nI hf (by omega)]
  rfl
theorem vF_6 {r : Nat → Int64} {F f : Nat} {pa my : Nat → Int32} (hf : f < F) (h4 : F ≤ 4) : vField r F pa my (nI f) (nI 6) = nI (lrS r f 2) := by
  unfold vField
  rw [ix_nI hf (by omega)]
  rfl
theorem vF_7 {r : Nat → Int64} {F f : Nat} {pa my : Nat → Int32} (hf : f < F) (h4 : F ≤ 4) : vField r F pa my (nI f) (nI 7) = nI (lrS r f 3) := by
  unfold vField
  rw [ix_nI hf (by omega)]
  rfl
theorem vF_n {r : Nat → Int64} {F f : Nat} {pa my : Nat → Int32} {w : Int32} (hf : f < F) (h4 : F ≤ 4) (hw : ix w 8 = none) : vField r F pa my (nI f) w = -1 := by
  unfold vField
  rw [ix_nI hf (by omega), hw]
set_option maxRecDepth 20000 in
theorem pX11_field {h : mH} {Q : Option Value → mH → Prop} {ow : Nat → Nat} {F fa o1 d1 u1 : Nat} {pa my : Nat → Int32} {r : Nat → Int64} {y w : Int32} (e9 : eS ow h F pa my r fa o1 d1 u1) (hd : sOK r F pa my) (hq : Q (some (.int (vField r F pa my y w))) h) : Wp mX11_field 3 66 0 [some (.ref 0), some (.int y), some (.int w), none, none] [] h Q := by
  have hP6 := hd.w.1.2
  have hF4 := hd.f4
  have hz : ∀ z, vField r F pa my y w = z → Q (some (.int z)) h := fun z e => e ▸ hq
  refine wp_aload_n dX11_field_0 rfl rfl ?_
  refine wp_getR dX11_field_1 lX11_20 rfl e9.oo e9.f4 ?_
  refine wp_iload_n dX11_field_4 rfl rfl ?_
  refine wp_cV1 0 0 [some _, some _] dX11_field_5 tX1_has rfl (by decide) nX1_has vX1_has lX11_139 ⟨by decide, by decide⟩ (Nat.le_of_ble_eq_true rfl) e9.fl.oo (Nat.le_of_ble_eq_true rfl) rfl ?_
  refine pX1_has e9.fl hF4 (fun f1 hf1 ef1 => ?_) (fun xn1 => ?_)
  · subst ef1
    intro _ _
    refine wp_if_ne dX11_field_8 (fun _ => ?_) (fun q => absurd q (by decide +kernel))
    refine wp_aload_n dX11_field_13 rfl rfl ?_
    refine wp_getR dX11_field_14 lX11_34 rfl e9.oo e9.r6 ?_
    refine wp_cV0 2 43 [some _] dX11_field_17 tX3_now rfl (by decide) nX3_now vX3_now lX11_101 ⟨by decide, by decide⟩ (Nat.le_of_ble_eq_true rfl) e9.hh.o (Nat.le_of_ble_eq_true rfl) rfl ?_
    refine pX3_now e9.hh e9.kb e9.od.1 e9.od.2 ?_
    intro _ _
    refine wp_astore_n (ls1 := [_, _, _, some _, _]) dX11_field_20 rfl (by decide) rfl ?_
    refine wp_aload_n dX11_field_21 rfl rfl ?_
    refine wp_getR dX11_field_22 lX11_143 rfl e9.st.oo e9.st.r1 ?_
    refine wp_iload_n dX11_field_25 rfl rfl ?_
    rcases e9.st.ln (f := f1) (by omega) with ⟨hl2, q2, eq2, ln2⟩ | ⟨hl2, eq2⟩
    · refine wp_aaldJ dX11_field_26 e9.st.a1 (by decide) (by decide) rfl ⟨by omega, by omega⟩ eq2 ?_
      refine wp_astore (ls1 := [_, _, _, _, some _]) dX11_field_27 (by decide) rfl ?_
      refine wp_iload_n dX11_field_29 rfl rfl ?_
      rcases ix_cases (x := w) (n := 8) (by decide) with xn3 | ⟨j3, hj3, ej3⟩
      · refine wp_tableOut (t := 186) dX11_field_30 (ix_out xn3) (by decide +kernel) ?_
        refine wp_iconst (v := (-1)) dX11_field_186 (by decide +kernel) ?_
        refine wp_ireturn dX11_field_187 rfl ?_
        exact hz _ (vF_n (by omega) hF4 xn3)
      · subst ej3
        rcases (by omega : j3 = 0 ∨ j3 = 1 ∨ j3 = 2 ∨ j3 = 3 ∨ j3 = 4 ∨ j3 = 5 ∨ j3 = 6 ∨ j3 = 7) with rfl | rfl | rfl | rfl | rfl | rfl | rfl | rfl
        · refine wp_tableIn (off := 46) (t := 76) dX11_field_30 (by decide +kernel) (by decide +kernel) (by decide +kernel) (by decide +kernel) ?_
          refine wp_aload_n dX11_field_76 rfl rfl ?_
          refine wp_getR dX11_field_77 lX11_20 rfl e9.oo e9.f4 ?_
          refine wp_getR dX11_field_80 lX11_147 rfl e9.fl.oo e9.fl.r1 ?_
          refine wp_iload_n dX11_field_83 rfl rfl ?_
          refine wp_ialdV dX11_field_84 e9.fl.a1 rfl ⟨by omega, by omega⟩ (e9.fl.c1 (by omega)) ?_
          refine wp_ireturn dX11_field_85 rfl ?_
          exact hz _ (vF_0 (by omega) hF4)
        · refine wp_tableIn (off := 56) (t := 86) dX11_field_30 (by decide +kernel) (by decide +kernel) (by decide +kernel) (by decide +kernel) ?_
          refine wp_aload_n dX11_field_86 rfl rfl ?_
          refine wp_getR dX11_field_87 lX11_20 rfl e9.oo e9.f4 ?_
          refine wp_getR dX11_field_90 lX11_150 rfl e9.fl.oo e9.fl.r2 ?_
          refine wp_iload_n dX11_field_93 rfl rfl ?_
          refine wp_zaldV dX11_field_94 e9.fl.a2 rfl ⟨by omega, by omega⟩ (e9.fl.c2 (by omega)) ?_
          refine wp_if_eq dX11_field_95 (fun c2 => ?_) (fun c2 => ?_)
          · refine wp_iconst (v := (nI 0)) dX11_field_102 (by decide +kernel) ?_
            refine wp_ireturn dX11_field_103 rfl ?_
            exact hz _ ((vF_1 (by omega) hF4).trans (by first | (rw [(by assumption : my f1 = 0)]; rfl) | (rw [(hd.my f1 (by omega)).resolve_left (by assumption)]; rfl)))
          · refine wp_iconst (v := (nI 1)) dX11_field_98 (by decide +kernel) ?_
            refine wp_goto dX11_field_99 ?_
            refine wp_ireturn dX11_field_103 rfl ?_
            exact hz _ ((vF_1 (by omega) hF4).trans (by first | (rw [(by assumption : my f1 = 0)]; rfl) | (rw [(hd.my f1 (by omega)).resolve_left (by assumption)]; rfl)))
        · refine wp_tableIn (off := 74) (t := 104) dX11_field_30 (by decide +kernel) (by decide +kernel) (by decide +kernel) (by decide +kernel) ?_
          refine wp_aload_n dX11_field_104 rfl rfl ?_
          refine wp_iload_n dX11_field_105 rfl rfl ?_
          refine wp_cV1 2 43 [some _, some _, none, none] dX11_field_106 tX8_examplesOf rfl (by decide) nX8_examplesOf vX8_examplesOf lX11_154 ⟨by decide, by decide⟩ (Nat.le_of_ble_eq_true rfl) e9.st.oo (Nat.le_of_ble_eq_true rfl) rfl ?_
          refine pX8_examplesOf e9.st hd (by omega) ?_
          intro _ _
          refine wp_ireturn dX11_field_109 rfl ?_
          exact hz _ ((vF_2 (by omega) hF4).trans (exS_N r f1 _ hP6))
        · refine wp_tableIn (off := 80) (t := 110) dX11_field_30 (by decide +kernel) (by decide +kernel) (by decide +kernel) (by decide +kernel) ?_
          refine wp_aload dX11_field_110 rfl ?_
          refine wp_ifnonnull dX11_field_112 ?_
          refine wp_aload dX11_field_119 rfl ?_
          refine wp_getR dX11_field_121 lX11_158 rfl ln2.oo ln2.r0 ?_
          refine wp_alen dX11_field_124 ln2.a0 (by decide) (by decide) rfl ?_
          refine wp_ireturn dX11_field_125 rfl ?_
          exact hz _ (vF_3 (by omega) hF4)
        · refine wp_tableIn (off := 96) (t := 126) dX11_field_30 (by decide +kernel) (by decide +kernel) (by decide +kernel) (by decide +kernel) ?_
          refine wp_aload dX11_field_126 rfl ?_
          refine wp_ifnonnull dX11_field_128 ?_
          refine wp_aload dX11_field_135 rfl ?_
          refine wp_getIV dX11_field_137 lX11_164 rfl ln2.oo ln2.f2 ?_
          refine wp_ireturn dX11_field_140 rfl ?_
          exact hz _ ((vF_4 (by omega) hF4).trans (if_pos hl2))
        · refine wp_tableIn (off := 111) (t := 141) dX11_field_30 (by decide +kernel) (by decide +kernel) (by decide +kernel) (by decide +kernel) ?_
          refine wp_aload dX11_field_141 rfl ?_
          refine wp_ifnonnull dX11_field_143 ?_
          refine wp_aload dX11_field_150 rfl ?_
          refine wp_getIV dX11_field_152 lX11_167 rfl ln2.oo ln2.f3 ?_
          refine wp_ireturn dX11_field_155 rfl ?_
          exact hz _ ((vF_5 (by omega) hF4).trans (if_pos hl2))
        · refine wp_tableIn (off := 126) (t := 156) dX11_field_30 (by decide +kernel) (by decide +kernel) (by decide +kernel) (by decide +kernel) ?_
          refine wp_aload dX11_field_156 rfl ?_
          refine wp_ifnonnull dX11_field_158 ?_
          refine wp_aload dX11_field_165 rfl ?_
          refine wp_getIV dX11_field_167 lX11_170 rfl ln2.oo ln2.f4 ?_
          refine wp_ireturn dX11_field_170 rfl ?_
          exact hz _ (vF_6 (by omega) hF4)
        · refine wp_tableIn (off := 141) (t := 171) dX11_field_30 (by decide +kernel) (by decide +kernel) (by decide +kernel) (by decide +kernel) ?_
          refine wp_aload dX11_field_171 rfl ?_
          refine wp_ifnonnull dX11_field_173 ?_
          refine wp_aload dX11_field_180 rfl ?_
          refine wp_getIV dX11_field_182 lX11_173 rfl ln2.oo ln2.f5 ?_
          refine wp_ireturn dX11_field_185 rfl ?_
          exact hz _ (vF_7 (by omega) hF4)
    · refine wp_aaldJ dX11_field_26 e9.st.a1 (by decide) (by decide) rfl ⟨by omega, by omega⟩ eq2 ?_
      refine wp_astoreN (ls1 := [_, _, _, _, some _]) dX11_field_27 (by decide) rfl ?_
      refine wp_iload_n dX11_field_29 rfl rfl ?_
      rcases ix_cases (x := w) (n := 8) (by decide) with xn4 | ⟨j4, hj4, ej4⟩
      · refine wp_tableOut (t := 186) dX11_field_30 (ix_out xn4) (by decide +kernel) ?_
        refine wp_iconst (v := (-1)) dX11_field_186 (by decide +kernel) ?_
        refine wp_ireturn dX11_field_187 rfl ?_
        exact hz _ (vF_n (by omega) hF4 xn4)
      · subst ej4
        rcases (by omega : j4 = 0 ∨ j4 = 1 ∨ j4 = 2 ∨ j4 = 3 ∨ j4 = 4 ∨ j4 = 5 ∨ j4 = 6 ∨ j4 = 7) with rfl | rfl | rfl | rfl | rfl | rfl | rfl | rfl
        · refine wp_tableIn (off := 46) (t := 76) dX11_field_30 (by decide +kernel) (by decide +kernel) (by decide +kernel) (by decide +kernel) ?_
          refine wp_aload_n dX11_field_76 rfl rfl ?_
          refine wp_getR dX11_field_77 lX11_20 rfl e9.oo e9.f4 ?_
          refine wp_getR dX11_field_80 lX11_147 rfl e9.fl.oo e9.fl.r1 ?_
          refine wp_iload_n dX11_field_83 rfl rfl ?_
          refine wp_ialdV dX11_field_84 e9.fl.a1 rfl ⟨by omega, by omega⟩ (e9.fl.c1 (by omega)) ?_
          refine wp_ireturn dX11_field_85 rfl ?_
          exact hz _ (vF_0 (by omega) hF4)
        · refine wp_tableIn (off := 56) (t := 86) dX11_field_30 (by decide +kernel) (by decide +kernel) (by decide +kernel) (by decide +kernel) ?_
          refine wp_aload_n dX11_field_86 rfl rfl ?_
          refine wp_getR dX11_field_87 lX11_20 rfl e9.oo e9.f4 ?_
          refine wp_getR dX11_field_90 lX11_150 rfl e9.fl.oo e9.fl.r2 ?_
          refine wp_iload_n dX11_field_93 rfl rfl ?_
          refine wp_zaldV dX11_field_94 e9.fl.a2 rfl ⟨by omega, by omega⟩ (e9.fl.c2 (by omega)) ?_
          refine wp_if_eq dX11_field_95 (fun c3 => ?_) (fun c3 => ?_)
          · refine wp_iconst (v := (nI 0)) dX11_field_102 (by decide +kernel) ?_
            refine wp_ireturn dX11_field_103 rfl ?_
            exact hz _ ((vF_1 (by omega) hF4).trans (by first | (rw [(by assumption : my f1 = 0)]; rfl) | (rw [(hd.my f1 (by omega)).resolve_left (by assumption)]; rfl)))
          · refine wp_iconst (v := (nI 1)) dX11_field_98 (by decide +kernel) ?_
            refine wp_goto dX11_field_99 ?_
            refine wp_ireturn dX11_field_103 rfl ?_
            exact hz _ ((vF_1 (by omega) hF4).trans (by first | (rw [(by assumption : my f1 = 0)]; rfl) | (rw [(hd.my f1 (by omega)).resolve_left (by assumption)]; rfl)))
        · refine wp_tableIn (off := 74) (t := 104) dX11_field_30 (by decide +kernel) (by decide +kernel) (by decide +kernel) (by decide +kernel) ?_
          refine wp_aload_n dX11_field_104 rfl rfl ?_
          refine wp_iload_n dX11_field_105 rfl rfl ?_
          refine wp_cV1 2 43 [some _, some _, none, none] dX11_field_106 tX8_examplesOf rfl (by decide) nX8_examplesOf vX8_examplesOf lX11_154 ⟨by decide, by decide⟩ (Nat.le_of_ble_eq_true rfl) e9.st.oo (Nat.le_of_ble_eq_true rfl) rfl ?_
          refine pX8_examplesOf e9.st hd (by omega) ?_
          intro _ _
          refine wp_ireturn dX11_field_109 rfl ?_
          exact hz _ ((vF_2 (by omega) hF4).trans (exS_N r f1 _ hP6))
        · refine wp_tableIn (off := 80) (t := 110) dX11_field_30 (by decide +kernel) (by decide +kernel) (by decide +kernel) (by decide +kernel) ?_
          refine wp_aloadN dX11_field_110 rfl ?_
          refine wp_ifnonnullN dX11_field_112 ?_
          refine wp_iconst (v := (nI 0)) dX11_field_115 (by decide +kernel) ?_
          refine wp_goto dX11_field_116 ?_
          refine wp_ireturn dX11_field_125 rfl ?_
          exact hz _ ((vF_3 (by omega) hF4).trans (congrArg nI (hd.lz f1 (by omega) ((hd.lf f1 (by omega)).resolve_right hl2)).1))
        · refine wp_tableIn (off := 96) (t := 126) dX11_field_30 (by decide +kernel) (by decide +kernel) (by decide +kernel) (by decide +kernel) ?_
          refine wp_aloadN dX11_field_126 rfl ?_
          refine wp_ifnonnullN dX11_field_128 ?_
          refine wp_iconst (v := (-1)) dX11_field_131 (by decide +kernel) ?_
          refine wp_goto dX11_field_132 ?_
          refine wp_ireturn dX11_field_140 rfl ?_
          exact hz _ ((vF_4 (by omega) hF4).trans (if_neg hl2))
        · refine wp_tableIn (off := 111) (t := 141) dX11_field_30 (by decide +kernel) (by decide +kernel) (by decide +kernel) (by decide +kernel) ?_
          refine wp_aloadN dX11_field_141 rfl ?_
          refine wp_ifnonnullN dX11_field_143 ?_
          refine wp_iconst (v := (-1)) dX11_field_146 (by decide +kernel) ?_
          refine wp_goto dX11_field_147 ?_
          refine wp_ireturn dX11_field_155 rfl ?_
          exact hz _ ((vF_5 (by omega) hF4).trans (if_neg hl2))
        · refine wp_tableIn (off := 126) (t := 156) dX11_field_30 (by decide +kernel) (by decide +kernel) (by decide +kernel) (by decide +kernel) ?_
          refine wp_aloadN dX11_field_156 rfl ?_
          refine wp_ifnonnullN dX11_field_158 ?_
          refine wp_iconst (v := (nI 0)) dX11_field_161 (by decide +kernel) ?_
          refine wp_goto dX11_field_162 ?_
          refine wp_ireturn dX11_field_170 rfl ?_
          exact hz _ ((vF_6 (by omega) hF4).trans (congrArg nI ((hd.lz f1 (by omega) ((hd.lf f1 (by omega)).resolve_right hl2)).2 2 (by decide))))
        · refine wp_tableIn (off := 141) (t := 171) dX11_field_30 (by decide +kernel) (by decide +kernel) (by decide +kernel) (by decide +kernel) ?_
          refine wp_aloadN dX11_field_171 rfl ?_
          refine wp_ifnonnullN dX11_field_173 ?_
          refine wp_iconst (v := (nI 0)) dX11_field_176 (by decide +kernel) ?_
          refine wp_goto dX11_field_177 ?_
          refine wp_ireturn dX11_field_185 rfl ?_
          exact hz _ ((vF_7 (by omega) hF4).trans (congrArg nI ((hd.lz f1 (by omega) ((hd.lf f1 (by omega)).resolve_right hl2)).2 3 (by decide))))
  · intro _ _
    refine wp_if_ne dX11_field_8 (fun q => absurd q (by decide +kernel)) (fun _ => ?_)
    refine wp_iconst (v := (-1)) dX11_field_11 (by decide +kernel) ?_
    refine wp_ireturn dX11_field_12 rfl ?_
    exact hz _ (by unfold vField; rw [xn1])
