/-! ===== rule, about, tries; whether a mark can be ===== -/
theorem itK_t {r : Nat → Int64} {x : Int32} (h : -1 ≤ x ∧ x ≤ nI (2 + (uqA r).length)) : itK r x = true := by
  unfold itK
  rw [decide_eq_true h.1, decide_eq_true h.2]
  rfl
theorem itK_f {r : Nat → Int64} {x : Int32} (h : ¬ (-1 ≤ x ∧ x ≤ nI (2 + (uqA r).length))) : itK r x = false := by
  cases e : itK r x with
  | false => rfl
  | true =>
    unfold itK at e
    rw [Bool.and_eq_true] at e
    exact (h ⟨of_decide_eq_true e.1, of_decide_eq_true e.2⟩).elim
set_option maxRecDepth 20000 in
theorem pX12_costOf {h : mH} {Q : Option Value → mH → Prop} {x : Int32} (hq : Q (some (.int (nI (itC x)))) h) : Wp mX12_costOf 0 0 0 [some (.int x)] [] h Q := by
  refine wp_iload_n dX12_costOf_0 rfl rfl ?_
  refine wp_iconst (v := (-1)) dX12_costOf_1 (by decide +kernel) ?_
  refine wp_icmp_ne dX12_costOf_2 (fun c1 => ?_) (fun c1 => ?_)
  · refine wp_iload_n dX12_costOf_9 rfl rfl ?_
    refine wp_iconst (v := (nI 3)) dX12_costOf_10 (by decide +kernel) ?_
    refine wp_icmp_ge dX12_costOf_11 (fun c2 => ?_) (fun c2 => ?_)
    · refine wp_iconst (v := (nI 2)) dX12_costOf_18 (by decide +kernel) ?_
      refine wp_ireturn dX12_costOf_19 rfl ?_
      unfold itC at hq
      first | (rw [if_pos (by assumption)] at hq; exact hq) | (rw [if_neg (by assumption), if_pos (Int32.not_le.mp (by assumption))] at hq; exact hq) | (rw [if_neg (by assumption), if_neg (Int32.not_lt.mpr (by assumption))] at hq; exact hq)
    · refine wp_iconst (v := (nI 3)) dX12_costOf_14 (by decide +kernel) ?_
      refine wp_goto dX12_costOf_15 ?_
      refine wp_ireturn dX12_costOf_19 rfl ?_
      unfold itC at hq
      first | (rw [if_pos (by assumption)] at hq; exact hq) | (rw [if_neg (by assumption), if_pos (Int32.not_le.mp (by assumption))] at hq; exact hq) | (rw [if_neg (by assumption), if_neg (Int32.not_lt.mpr (by assumption))] at hq; exact hq)
  · refine wp_iconst (v := (nI 0)) dX12_costOf_5 (by decide +kernel) ?_
    refine wp_goto dX12_costOf_6 ?_
    refine wp_ireturn dX12_costOf_19 rfl ?_
    unfold itC at hq
    first | (rw [if_pos (by assumption)] at hq; exact hq) | (rw [if_neg (by assumption), if_pos (Int32.not_le.mp (by assumption))] at hq; exact hq) | (rw [if_neg (by assumption), if_neg (Int32.not_lt.mpr (by assumption))] at hq; exact hq)
set_option maxRecDepth 20000 in
theorem pX12_rule {h : mH} {Q : Option Value → mH → Prop} {r : Nat → Int64} {F : Nat} {pa my : Nat → Int32} {y k what : Int32} (hc : mC h r F pa my) (hd : sOK r F pa my) (hq : Q (some (.int (vRule r F y k what))) h) : Wp mX12_rule 2 43 0 [some (.ref 153), some (.int y), some (.int k), some (.int what), none, none] [] h Q := by
  have hF4 := hd.f4
  have hP6 := hd.w.1.2
  refine wp_aload_n dX12_rule_0 rfl rfl ?_
  refine wp_iload_n dX12_rule_1 rfl rfl ?_
  refine wp_cV1 1 22 [some _, some _] dX12_rule_2 tX12_isField rfl (by decide) nX12_isField vX12_isField lX12_299 ⟨by decide, by decide⟩ (Nat.le_of_ble_eq_true rfl) (mO hc.1) (Nat.le_of_ble_eq_true rfl) rfl ?_
  refine pX12_isField' hc hd (fun j1 hj1 ej1 => ?_) (fun nj1 => ?_)
  · subst ej1
    have xs1 := ix_nI hj1 (by omega)
    intro _ _
    refine wp_if_eq dX12_rule_5 (fun q => absurd q (by decide +kernel)) (fun _ => ?_)
    refine wp_iload_n dX12_rule_8 rfl rfl ?_
    refine wp_iconst (v := (nI 0)) dX12_rule_9 (by decide +kernel) ?_
    refine wp_aload_n dX12_rule_10 rfl rfl ?_
    refine wp_iload_n dX12_rule_11 rfl rfl ?_
    refine wp_cV1 1 20 [some _, some _] dX12_rule_12 tX12_learntRules rfl (by decide) nX12_learntRules vX12_learntRules lX12_463 ⟨by decide, by decide⟩ (Nat.le_of_ble_eq_true rfl) (mO hc.1) (Nat.le_of_ble_eq_true rfl) rfl ?_
    have hln := (hd.ln j1 (by omega)).2
    refine pX12_learntRules' hc hd (by omega) ?_
    intro _ _
    refine wp_iconst (v := (nI 1)) dX12_rule_15 (by decide +kernel) ?_
    refine wp_isub dX12_rule_16 ?_
    refine wp_cS3 0 0 [some _, some _, some _] dX12_rule_17 tX12_isIn sX12_isIn lX12_147 ⟨by decide, by decide⟩ (Nat.le_of_ble_eq_true rfl) (Nat.le_of_ble_eq_true rfl) rfl ?_
    refine pX12_isIn (fun i2 => ?_) (fun i2 => ?_)
    · obtain ⟨j2, hj2, ej2⟩ := (ixN (by omega)).mp i2
      subst ej2
      have xs2 := ix_nI hj2 (by omega)
      intro _ _
      refine wp_if_eq dX12_rule_20 (fun q => absurd q (by decide +kernel)) (fun _ => ?_)
      refine wp_iload_n dX12_rule_23 rfl rfl ?_
      refine wp_iconst (v := (nI 0)) dX12_rule_24 (by decide +kernel) ?_
      refine wp_iconst (v := (nI 4)) dX12_rule_25 (by decide +kernel) ?_
      refine wp_cS3 0 0 [some _, some _, some _] dX12_rule_26 tX12_isIn sX12_isIn lX12_147 ⟨by decide, by decide⟩ (Nat.le_of_ble_eq_true rfl) (Nat.le_of_ble_eq_true rfl) rfl ?_
      refine pX12_isIn (fun i3 => ?_) (fun i3 => ?_)
      · obtain ⟨j3, hj3, ej3⟩ := (ixM (by decide)).mp i3
        subst ej3
        have xs3 := ix_nI (n := 5) (show j3 < 5 by omega) (by decide)
        intro _ _
        refine wp_if_ne dX12_rule_29 (fun _ => ?_) (fun q => absurd q (by decide +kernel))
        refine wp_iload_n dX12_rule_35 rfl rfl ?_
        refine wp_iconst (v := (nI 4)) dX12_rule_36 (by decide +kernel) ?_
        refine wp_icmp_geN dX12_rule_37 rfl rfl ⟨by omega, by omega⟩ (fun c4 => ?_) (fun c4 => ?_)
        · refine wp_iconst (v := (nI 0)) dX12_rule_48 (by decide +kernel) ?_
          refine wp_istore (ls1 := [_, _, _, _, some _, _]) dX12_rule_49 (by decide) rfl ?_
          refine wp_iconst (v := (nI 0)) dX12_rule_51 (by decide +kernel) ?_
          refine wp_istore (ls1 := [_, _, _, _, _, some _]) dX12_rule_52 (by decide) rfl ?_
          refine wp_iload dX12_rule_54 rfl ?_
          refine wp_iconst (v := (nI 4)) dX12_rule_56 (by decide +kernel) ?_
          refine wp_icmp_ge dX12_rule_57 (fun q => absurd q (by decide +kernel)) (fun _ => ?_)
          refine wp_iload dX12_rule_60 rfl ?_
          refine wp_aload_n dX12_rule_62 rfl rfl ?_
          refine wp_iload_n dX12_rule_63 rfl rfl ?_
          refine wp_iload_n dX12_rule_64 rfl rfl ?_
          refine wp_iload dX12_rule_65 rfl ?_
          refine wp_cV3 1 20 [some _, some _, some _, some _] dX12_rule_67 tX12_learntItem rfl (by decide) nX12_learntItem vX12_learntItem lX12_472 ⟨by decide, by decide⟩ (Nat.le_of_ble_eq_true rfl) (mO hc.1) (Nat.le_of_ble_eq_true rfl) rfl ?_
          refine pX12_learntItem' hc hd (by omega) (by omega) (by omega) ?_
          intro _ _
          refine wp_cS1 0 0 [some _] dX12_rule_70 tX12_costOf sX12_costOf lX12_367 ⟨by decide, by decide⟩ (Nat.le_of_ble_eq_true rfl) (Nat.le_of_ble_eq_true rfl) rfl ?_
          refine pX12_costOf ?_
          intro _ _
          refine wp_iadd dX12_rule_73 ?_
          refine wp_istore (ls1 := [_, _, _, _, some _, _]) dX12_rule_74 (by decide) rfl ?_
          refine wp_iinc1 (ls1 := [_, _, _, _, _, some _]) dX12_rule_76 rfl (by decide) rfl ?_
          refine wp_goto dX12_rule_79 ?_
          refine wp_iload dX12_rule_54 rfl ?_
          refine wp_iconst (v := (nI 4)) dX12_rule_56 (by decide +kernel) ?_
          refine wp_icmp_ge dX12_rule_57 (fun q => absurd q (by decide +kernel)) (fun _ => ?_)
          refine wp_iload dX12_rule_60 rfl ?_
          refine wp_aload_n dX12_rule_62 rfl rfl ?_
          refine wp_iload_n dX12_rule_63 rfl rfl ?_
          refine wp_iload_n dX12_rule_64 rfl rfl ?_
          refine wp_iload dX12_rule_65 rfl ?_
          refine wp_cV3 1 20 [some _, some _, some _, some _] dX12_rule_67 tX12_learntItem rfl (by decide) nX12_learntItem vX12_learntItem lX12_472 ⟨by decide, by decide⟩ (Nat.le_of_ble_eq_true rfl) (mO hc.1) (Nat.le_of_ble_eq_true rfl) rfl ?_
          refine pX12_learntItem' hc hd (by omega) (by omega) (by omega) ?_
          intro _ _
          refine wp_cS1 0 0 [some _] dX12_rule_70 tX12_costOf sX12_costOf lX12_367 ⟨by decide, by decide⟩ (Nat.le_of_ble_eq_true rfl) (Nat.le_of_ble_eq_true rfl) rfl ?_
          refine pX12_costOf ?_
          intro _ _
          refine wp_iadd dX12_rule_73 ?_
          refine wp_istore (ls1 := [_, _, _, _, some _, _]) dX12_rule_74 (by decide) rfl ?_
          refine wp_iinc1 (ls1 := [_, _, _, _, _, some _]) dX12_rule_76 rfl (by decide) rfl ?_
          refine wp_goto dX12_rule_79 ?_
          refine wp_iload dX12_rule_54 rfl ?_
          refine wp_iconst (v := (nI 4)) dX12_rule_56 (by decide +kernel) ?_
          refine wp_icmp_ge dX12_rule_57 (fun q => absurd q (by decide +kernel)) (fun _ => ?_)
          refine wp_iload dX12_rule_60 rfl ?_
          refine wp_aload_n dX12_rule_62 rfl rfl ?_
          refine wp_iload_n dX12_rule_63 rfl rfl ?_
          refine wp_iload_n dX12_rule_64 rfl rfl ?_
          refine wp_iload dX12_rule_65 rfl ?_
          refine wp_cV3 1 20 [some _, some _, some _, some _] dX12_rule_67 tX12_learntItem rfl (by decide) nX12_learntItem vX12_learntItem lX12_472 ⟨by decide, by decide⟩ (Nat.le_of_ble_eq_true rfl) (mO hc.1) (Nat.le_of_ble_eq_true rfl) rfl ?_
          refine pX12_learntItem' hc hd (by omega) (by omega) (by omega) ?_
          intro _ _
          refine wp_cS1 0 0 [some _] dX12_rule_70 tX12_costOf sX12_costOf lX12_367 ⟨by decide, by decide⟩ (Nat.le_of_ble_eq_true rfl) (Nat.le_of_ble_eq_true rfl) rfl ?_
          refine pX12_costOf ?_
          intro _ _
          refine wp_iadd dX12_rule_73 ?_
          refine wp_istore (ls1 := [_, _, _, _, some _, _]) dX12_rule_74 (by decide) rfl ?_
          refine wp_iinc1 (ls1 := [_, _, _, _, _, some _]) dX12_rule_76 rfl (by decide) rfl ?_
          refine wp_goto dX12_rule_79 ?_
          refine wp_iload dX12_rule_54 rfl ?_
          refine wp_iconst (v := (nI 4)) dX12_rule_56 (by decide +kernel) ?_
          refine wp_icmp_ge dX12_rule_57 (fun q => absurd q (by decide +kernel)) (fun _ => ?_)
          refine wp_iload dX12_rule_60 rfl ?_
          refine wp_aload_n dX12_rule_62 rfl rfl ?_
          refine wp_iload_n dX12_rule_63 rfl rfl ?_
          refine wp_iload_n dX12_rule_64 rfl rfl ?_
          refine wp_iload dX12_rule_65 rfl ?_
          refine wp_cV3 1 20 [some _, some _, some _, some _] dX12_rule_67 tX12_learntItem rfl (by decide) nX12_learntItem vX12_learntItem lX12_472 ⟨by decide, by decide⟩ (Nat.le_of_ble_eq_true rfl) (mO hc.1) (Nat.le_of_ble_eq_true rfl) rfl ?_
          refine pX12_learntItem' hc hd (by omega) (by omega) (by omega) ?_
          intro _ _
          refine wp_cS1 0 0 [some _] dX12_rule_70 tX12_costOf sX12_costOf lX12_367 ⟨by decide, by decide⟩ (Nat.le_of_ble_eq_true rfl) (Nat.le_of_ble_eq_true rfl) rfl ?_
          refine pX12_costOf ?_
          intro _ _
          refine wp_iadd dX12_rule_73 ?_
          refine wp_istore (ls1 := [_, _, _, _, some _, _]) dX12_rule_74 (by decide) rfl ?_
          refine wp_iinc1 (ls1 := [_, _, _, _, _, some _]) dX12_rule_76 rfl (by decide) rfl ?_
          refine wp_goto dX12_rule_79 ?_
          refine wp_iload dX12_rule_54 rfl ?_
          refine wp_iconst (v := (nI 4)) dX12_rule_56 (by decide +kernel) ?_
          refine wp_icmp_ge dX12_rule_57 (fun _ => ?_) (fun q => absurd (by decide +kernel) q)
          refine wp_iload dX12_rule_82 rfl ?_
          refine wp_ireturn dX12_rule_84 rfl ?_
          simp only [vRule, *, if_true, if_false, reduceCtorEq, Nat.lt_irrefl, and_self, not_true_eq_false, not_false_eq_true, and_true, true_and, false_and, and_false, ite_self] at hq
          rw [show _ = nI (0 + itC (lrI r j1 j2 0) + itC (lrI r j1 j2 1) + itC (lrI r j1 j2 2) + itC (lrI r j1 j2 3)) from (isN_add (isN_add (isN_add (isN_add rfl rfl) rfl) rfl) rfl), Nat.zero_add]
          rw [if_neg (by omega)] at hq
          exact hq
        · refine wp_aload_n dX12_rule_40 rfl rfl ?_
          refine wp_iload_n dX12_rule_41 rfl rfl ?_
          refine wp_iload_n dX12_rule_42 rfl rfl ?_
          refine wp_iload_n dX12_rule_43 rfl rfl ?_
          refine wp_cV3 1 20 [some _, some _, some _, some _] dX12_rule_44 tX12_learntItem rfl (by decide) nX12_learntItem vX12_learntItem lX12_472 ⟨by decide, by decide⟩ (Nat.le_of_ble_eq_true rfl) (mO hc.1) (Nat.le_of_ble_eq_true rfl) rfl ?_
          refine pX12_learntItem' hc hd (by omega) (by omega) (by omega) ?_
          intro _ _
          refine wp_ireturn dX12_rule_47 rfl ?_
          simp only [vRule, *, if_true, if_false, reduceCtorEq, Nat.lt_irrefl, and_self, not_true_eq_false, not_false_eq_true, and_true, true_and, false_and, and_false, ite_self] at hq
          first | exact hq | (rw [if_pos (by omega)] at hq; exact hq)
      · have xn3 := ix_none (n := 5) (by decide) (fun j hj ej => i3 ((ixM (by decide)).mpr ⟨j, by omega, ej⟩))
        intro _ _
        refine wp_if_ne dX12_rule_29 (fun q => absurd q (by decide +kernel)) (fun _ => ?_)
        refine wp_bipush (v := (-2)) dX12_rule_32 (by decide +kernel) ?_
        refine wp_ireturn dX12_rule_34 rfl ?_
        simp only [vRule, *, if_true, if_false, reduceCtorEq, Nat.lt_irrefl, and_self, not_true_eq_false, not_false_eq_true, and_true, true_and, false_and, and_false, ite_self] at hq
        first | exact hq | (rw [if_pos (by omega)] at hq; exact hq)
    · have xn2 := ix_none (by omega) (fun j hj ej => i2 ((ixN (by omega)).mpr ⟨j, hj, ej⟩))
      intro _ _
      refine wp_if_eq dX12_rule_20 (fun _ => ?_) (fun q => absurd q (by decide +kernel))
      refine wp_bipush (v := (-2)) dX12_rule_32 (by decide +kernel) ?_
      refine wp_ireturn dX12_rule_34 rfl ?_
      simp only [vRule, *, if_true, if_false, reduceCtorEq, Nat.lt_irrefl, and_self, not_true_eq_false, not_false_eq_true, and_true, true_and, false_and, and_false, ite_self] at hq
      first | exact hq | (rw [if_pos (by omega)] at hq; exact hq)
  · have xn1 := ix_none (by omega) nj1
    intro _ _
    refine wp_if_eq dX12_rule_5 (fun _ => ?_) (fun q => absurd q (by decide +kernel))
    refine wp_bipush (v := (-2)) dX12_rule_32 (by decide +kernel) ?_
    refine wp_ireturn dX12_rule_34 rfl ?_
    simp only [vRule, *, if_true, if_false, reduceCtorEq, Nat.lt_irrefl, and_self, not_true_eq_false, not_false_eq_true, and_true, true_and, false_and, and_false, ite_self] at hq
    first | exact hq | (rw [if_pos (by omega)] at hq; exact hq)
set_option maxRecDepth 20000 in
theorem pX12_about {h : mH} {Q : Option Value → mH → Prop} {r : Nat → Int64} {F : Nat} {pa my : Nat → Int32} {a u t : Nat} {what : Int32} (hc : mC h r F pa my) (hd : sOK r F pa my) (ha : hI h 153 28 = nI a) (hu : hI h 153 29 = nI u) (ht : hI h 153 1 = nI t) (hq : ∀ h', mFr pwS h h' → Q (some (.int (vAbout r F a u t what))) h') : Wp mX12_about 5 108 0 [some (.ref 153), some (.int what)] [] h Q := by
  have hF4 := hd.f4
  have hP6 := hd.w.1.2
  refine wp_iload_n dX12_about_0 rfl rfl ?_
  rcases ix_cases (x := what) (n := 8) (by decide) with xn1 | ⟨j1, hj1, ej1⟩
  · refine wp_tableOut (t := 88) dX12_about_1 (ix_out xn1) (by decide +kernel) ?_
    refine wp_iconst (v := (-1)) dX12_about_88 (by decide +kernel) ?_
    refine wp_ireturn dX12_about_89 rfl ?_
    simp only [vAbout, *, if_true, if_false, reduceCtorEq, Nat.lt_irrefl, and_self, not_true_eq_false, not_false_eq_true, and_true, true_and, false_and, and_false, ite_self] at hq
    exact hq _ mFr.rf
  · subst ej1
    rcases (by omega : j1 = 0 ∨ j1 = 1 ∨ j1 = 2 ∨ j1 = 3 ∨ j1 = 4 ∨ j1 = 5 ∨ j1 = 6 ∨ j1 = 7) with rfl | rfl | rfl | rfl | rfl | rfl | rfl | rfl
    · have xs1 := ix_nI (n := 8) (show 0 < 8 by decide) (by decide)
      refine wp_tableIn (off := 47) (t := 48) dX12_about_1 (by decide +kernel) (by decide +kernel) (by decide +kernel) (by decide +kernel) ?_
      refine wp_aload_n dX12_about_48 rfl rfl ?_
      refine wp_getIV dX12_about_49 lX12_137 rfl (mO hc.1) hc.2.2.1 ?_
      refine wp_ireturn dX12_about_52 rfl ?_
      simp only [vAbout, *, if_true, if_false, reduceCtorEq, Nat.lt_irrefl, and_self, not_true_eq_false, not_false_eq_true, and_true, true_and, false_and, and_false, ite_self] at hq
      exact hq _ mFr.rf
    · have xs1 := ix_nI (n := 8) (show 1 < 8 by decide) (by decide)
      refine wp_tableIn (off := 52) (t := 53) dX12_about_1 (by decide +kernel) (by decide +kernel) (by decide +kernel) (by decide +kernel) ?_
      refine wp_aload_n dX12_about_53 rfl rfl ?_
      refine wp_cV0 0 0 [some _] dX12_about_54 tX12_pages rfl (by decide) nX12_pages vX12_pages lX12_255 ⟨by decide, by decide⟩ (Nat.le_of_ble_eq_true rfl) (mO hc.1) (Nat.le_of_ble_eq_true rfl) rfl ?_
      refine pX12_pages' hc hd ?_
      intro _ _
      refine wp_ireturn dX12_about_57 rfl ?_
      simp only [vAbout, *, if_true, if_false, reduceCtorEq, Nat.lt_irrefl, and_self, not_true_eq_false, not_false_eq_true, and_true, true_and, false_and, and_false, ite_self] at hq
      exact hq _ mFr.rf
    · have xs1 := ix_nI (n := 8) (show 2 < 8 by decide) (by decide)
      refine wp_tableIn (off := 57) (t := 58) dX12_about_1 (by decide +kernel) (by decide +kernel) (by decide +kernel) (by decide +kernel) ?_
      refine wp_aload_n dX12_about_58 rfl rfl ?_
      refine wp_cV0 4 88 [some _] dX12_about_59 tX12_unlikeTokens rfl (by decide) nX12_unlikeTokens vX12_unlikeTokens lX12_548 ⟨by decide, by decide⟩ (Nat.le_of_ble_eq_true rfl) (mO hc.1) (Nat.le_of_ble_eq_true rfl) rfl ?_
      refine wp_aload_n dX12_unlikeTokens_0 rfl rfl ?_
      refine wp_cV0 3 64 [some _, none, none, none, none] dX12_unlikeTokens_1 tX12_laysNumbers rfl (by decide) nX12_laysNumbers vX12_laysNumbers lX12_289 ⟨by decide, by decide⟩ (Nat.le_of_ble_eq_true rfl) (mO hc.1) (Nat.le_of_ble_eq_true rfl) rfl ?_
      refine pX12_laysNumbers' hc hd (fun hh2 f2 n2 => ?_)
      intro _ _
      have hc2 := hc.fr f2 (by decide) (by decide) (by decide) (by decide) (by decide)
      refine wp_aload_n dX12_unlikeTokens_4 rfl rfl ?_
      refine wp_getIV dX12_unlikeTokens_5 lX12_270 rfl (mO hc2.1) n2.1 ?_
      refine wp_ireturn dX12_unlikeTokens_8 rfl ?_
      intro _ _
      refine wp_ireturn dX12_about_62 rfl ?_
      simp only [vAbout, *, if_true, if_false, reduceCtorEq, Nat.lt_irrefl, and_self, not_true_eq_false, not_false_eq_true, and_true, true_and, false_and, and_false, ite_self] at hq
      exact hq _ (f2.up (by decide) (by decide))
    · have xs1 := ix_nI (n := 8) (show 3 < 8 by decide) (by decide)
      refine wp_tableIn (off := 62) (t := 63) dX12_about_1 (by decide +kernel) (by decide +kernel) (by decide +kernel) (by decide +kernel) ?_
      refine wp_aload_n dX12_about_63 rfl rfl ?_
      refine wp_cV0 2 43 [some _, none, none, none] dX12_about_64 tX12_allParts rfl (by decide) nX12_allParts vX12_allParts lX12_545 ⟨by decide, by decide⟩ (Nat.le_of_ble_eq_true rfl) (mO hc.1) (Nat.le_of_ble_eq_true rfl) rfl ?_
      refine pX12_allParts' hc hd ?_
      intro _ _
      refine wp_ireturn dX12_about_67 rfl ?_
      simp only [vAbout, *, if_true, if_false, reduceCtorEq, Nat.lt_irrefl, and_self, not_true_eq_false, not_false_eq_true, and_true, true_and, false_and, and_false, ite_self] at hq
      exact hq _ mFr.rf
    · have xs1 := ix_nI (n := 8) (show 4 < 8 by decide) (by decide)
      refine wp_tableIn (off := 67) (t := 68) dX12_about_1 (by decide +kernel) (by decide +kernel) (by decide +kernel) (by decide +kernel) ?_
      refine wp_aload_n dX12_about_68 rfl rfl ?_
      refine wp_cV0 2 41 [some _, none, none] dX12_about_69 tX12_learntFields rfl (by decide) nX12_learntFields vX12_learntFields lX12_551 ⟨by decide, by decide⟩ (Nat.le_of_ble_eq_true rfl) (mO hc.1) (Nat.le_of_ble_eq_true rfl) rfl ?_
      refine pX12_learntFields' hc hd ?_
      intro _ _
      refine wp_ireturn dX12_about_72 rfl ?_
      simp only [vAbout, *, if_true, if_false, reduceCtorEq, Nat.lt_irrefl, and_self, not_true_eq_false, not_false_eq_true, and_true, true_and, false_and, and_false, ite_self] at hq
      exact hq _ mFr.rf
    · have xs1 := ix_nI (n := 8) (show 5 < 8 by decide) (by decide)
      refine wp_tableIn (off := 72) (t := 73) dX12_about_1 (by decide +kernel) (by decide +kernel) (by decide +kernel) (by decide +kernel) ?_
      refine wp_aload_n dX12_about_73 rfl rfl ?_
      refine wp_getIV dX12_about_74 lX12_249 rfl (mO hc.1) ha ?_
      refine wp_ireturn dX12_about_77 rfl ?_
      simp only [vAbout, *, if_true, if_false, reduceCtorEq, Nat.lt_irrefl, and_self, not_true_eq_false, not_false_eq_true, and_true, true_and, false_and, and_false, ite_self] at hq
      exact hq _ mFr.rf
    · have xs1 := ix_nI (n := 8) (show 6 < 8 by decide) (by decide)
      refine wp_tableIn (off := 77) (t := 78) dX12_about_1 (by decide +kernel) (by decide +kernel) (by decide +kernel) (by decide +kernel) ?_
      refine wp_aload_n dX12_about_78 rfl rfl ?_
      refine wp_getIV dX12_about_79 lX12_252 rfl (mO hc.1) hu ?_
      refine wp_ireturn dX12_about_82 rfl ?_
      simp only [vAbout, *, if_true, if_false, reduceCtorEq, Nat.lt_irrefl, and_self, not_true_eq_false, not_false_eq_true, and_true, true_and, false_and, and_false, ite_self] at hq
      exact hq _ mFr.rf
    · have xs1 := ix_nI (n := 8) (show 7 < 8 by decide) (by decide)
      refine wp_tableIn (off := 82) (t := 83) dX12_about_1 (by decide +kernel) (by decide +kernel) (by decide +kernel) (by decide +kernel) ?_
      refine wp_aload_n dX12_about_83 rfl rfl ?_
      refine wp_getIV dX12_about_84 lX12_140 rfl (mO hc.1) ht ?_
      refine wp_ireturn dX12_about_87 rfl ?_
      simp only [vAbout, *, if_true, if_false, reduceCtorEq, Nat.lt_irrefl, and_self, not_true_eq_false, not_false_eq_true, and_true, true_and, false_and, and_false, ite_self] at hq
      exact hq _ mFr.rf
set_option maxRecDepth 20000 in
theorem pX12_isAnItem {h : mH} {Q : Option Value → mH → Prop} {r : Nat → Int64} {F : Nat} {pa my : Nat → Int32} {x : Int32} (hc : mC h r F pa my) (hd : sOK r F pa my) (nx : numX r h) (ht : itK r x = true → Q (some (.int (nI 1))) h) (hf : itK r x = false → Q (some (.int (nI 0))) h) : Wp mX12_isAnItem 1 22 0 [some (.ref 153), some (.int x)] [] h Q := by
  have hF4 := hd.f4
  have hP6 := hd.w.1.2
  refine wp_iload_n dX12_isAnItem_0 rfl rfl ?_
  refine wp_iconst (v := (-1)) dX12_isAnItem_1 (by decide +kernel) ?_
  refine wp_iconst (v := (nI 2)) dX12_isAnItem_2 (by decide +kernel) ?_
  refine wp_aload_n dX12_isAnItem_3 rfl rfl ?_
  refine wp_getIV dX12_isAnItem_4 lX12_270 rfl (mO hc.1) nx.1 ?_
  refine wp_iadd dX12_isAnItem_7 ?_
  refine wp_cS3 0 0 [some _, some _, some _] dX12_isAnItem_8 tX12_isIn sX12_isIn lX12_147 ⟨by decide, by decide⟩ (Nat.le_of_ble_eq_true rfl) (Nat.le_of_ble_eq_true rfl) rfl ?_
  rw [nI_add]
  refine pX12_isIn (fun i1 => ?_) (fun i1 => ?_)
  · intro _ _
    refine wp_zreturn dX12_isAnItem_11 rfl (Or.inr rfl) ?_
    exact ht (itK_t i1)
  · intro _ _
    refine wp_zreturn dX12_isAnItem_11 rfl (Or.inl rfl) ?_
    exact hf (itK_f i1)
set_option maxRecDepth 20000 in
theorem pX12_tries {h : mH} {Q : Option Value → mH → Prop} {r : Nat → Int64} {F : Nat} {pa my : Nat → Int32} {x y far near sec stop : Int32} (hc : mC h r F pa my) (hd : sOK r F pa my) (hq : ∀ h', mFr pwS h h' → Q (some (.int (vTries r F pa my x y far near sec stop))) h') : Wp mX12_tries 6 153 0 [some (.ref 153), some (.int x), some (.int y), some (.int far), some (.int near), some (.int sec), some (.int stop)] [] h Q := by
  have hF4 := hd.f4
  have hP6 := hd.w.1.2
  refine wp_aload_n dX12_tries_0 rfl rfl ?_
  refine wp_iload_n dX12_tries_1 rfl rfl ?_
  refine wp_cV1 1 22 [some _, some _] dX12_tries_2 tX12_isField rfl (by decide) nX12_isField vX12_isField lX12_299 ⟨by decide, by decide⟩ (Nat.le_of_ble_eq_true rfl) (mO hc.1) (Nat.le_of_ble_eq_true rfl) rfl ?_
  refine pX12_isField' hc hd (fun j1 hj1 ej1 => ?_) (fun nj1 => ?_)
  · subst ej1
    have xs1 := ix_nI hj1 (by omega)
    intro _ _
    refine wp_if_eq dX12_tries_5 (fun q => absurd q (by decide +kernel)) (fun _ => ?_)
    refine wp_aload_n dX12_tries_8 rfl rfl ?_
    refine wp_iload_n dX12_tries_9 rfl rfl ?_
    refine wp_cV1 1 22 [some _, some _] dX12_tries_10 tX12_isPage rfl (by decide) nX12_isPage vX12_isPage lX12_286 ⟨by decide, by decide⟩ (Nat.le_of_ble_eq_true rfl) (mO hc.1) (Nat.le_of_ble_eq_true rfl) rfl ?_
    refine pX12_isPage' hc hd (fun j2 hj2 ej2 => ?_) (fun nj2 => ?_)
    · subst ej2
      have xs2 := ix_nI hj2 (by omega)
      intro _ _
      refine wp_if_eq dX12_tries_13 (fun q => absurd q (by decide +kernel)) (fun _ => ?_)
      refine wp_aload_n dX12_tries_16 rfl rfl ?_
      refine wp_iload_n dX12_tries_17 rfl rfl ?_
      refine wp_iload_n dX12_tries_18 rfl rfl ?_
      refine wp_cV2 1 21 [some _, some _, some _] dX12_tries_19 tX12_partsOf rfl (by decide) nX12_partsOf vX12_partsOf lX12_302 ⟨by decide, by decide⟩ (Nat.le_of_ble_eq_true rfl) (mO hc.1) (Nat.le_of_ble_eq_true rfl) rfl ?_
      have hM := (hd.w.2.2 _ _ (show j1 < 4 by omega) (show j2 < 6 by omega)).1.2
      refine pX12_partsOf' hc hd (by omega) (by omega) ?_
      intro _ _
      refine wp_if_neN dX12_tries_22 rfl (by omega) (fun c3 => ?_) (fun c3 => ?_)
      · refine wp_aload_n dX12_tries_27 rfl rfl ?_
        refine wp_cV0 3 64 [some _, none, none, none, none] dX12_tries_28 tX12_laysNumbers rfl (by decide) nX12_laysNumbers vX12_laysNumbers lX12_289 ⟨by decide, by decide⟩ (Nat.le_of_ble_eq_true rfl) (mO hc.1) (Nat.le_of_ble_eq_true rfl) rfl ?_
        refine pX12_laysNumbers' hc hd (fun hh3 f3 n3 => ?_)
        intro _ _
        have hc3 := hc.fr f3 (by decide) (by decide) (by decide) (by decide) (by decide)
        refine wp_aload_n dX12_tries_31 rfl rfl ?_
        refine wp_iload_n dX12_tries_32 rfl rfl ?_
        refine wp_cV1 1 22 [some _, some _] dX12_tries_33 tX12_isAnItem rfl (by decide) nX12_isAnItem vX12_isAnItem lX12_360 ⟨by decide, by decide⟩ (Nat.le_of_ble_eq_true rfl) (mO hc3.1) (Nat.le_of_ble_eq_true rfl) rfl ?_
        refine pX12_isAnItem hc3 hd n3 (fun it4 => ?_) (fun it4 => ?_)
        · intro _ _
          refine wp_if_eq dX12_tries_36 (fun q => absurd q (by decide +kernel)) (fun _ => ?_)
          refine wp_aload_n dX12_tries_39 rfl rfl ?_
          refine wp_iload dX12_tries_40 rfl ?_
          refine wp_cV1 1 22 [some _, some _] dX12_tries_42 tX12_isAnItem rfl (by decide) nX12_isAnItem vX12_isAnItem lX12_360 ⟨by decide, by decide⟩ (Nat.le_of_ble_eq_true rfl) (mO hc3.1) (Nat.le_of_ble_eq_true rfl) rfl ?_
          refine pX12_isAnItem hc3 hd n3 (fun it5 => ?_) (fun it5 => ?_)
          · intro _ _
            refine wp_if_eq dX12_tries_45 (fun q => absurd q (by decide +kernel)) (fun _ => ?_)
            refine wp_aload_n dX12_tries_48 rfl rfl ?_
            refine wp_iload dX12_tries_49 rfl ?_
            refine wp_cV1 1 22 [some _, some _] dX12_tries_51 tX12_isAnItem rfl (by decide) nX12_isAnItem vX12_isAnItem lX12_360 ⟨by decide, by decide⟩ (Nat.le_of_ble_eq_true rfl) (mO hc3.1) (Nat.le_of_ble_eq_true rfl) rfl ?_
            refine pX12_isAnItem hc3 hd n3 (fun it6 => ?_) (fun it6 => ?_)
            · intro _ _
              refine wp_if_eq dX12_tries_54 (fun q => absurd q (by decide +kernel)) (fun _ => ?_)
              refine wp_aload_n dX12_tries_57 rfl rfl ?_
              refine wp_iload dX12_tries_58 rfl ?_
              refine wp_cV1 1 22 [some _, some _] dX12_tries_60 tX12_isAnItem rfl (by decide) nX12_isAnItem vX12_isAnItem lX12_360 ⟨by decide, by decide⟩ (Nat.le_of_ble_eq_true rfl) (mO hc3.1) (Nat.le_of_ble_eq_true rfl) rfl ?_
              refine pX12_isAnItem hc3 hd n3 (fun it7 => ?_) (fun it7 => ?_)
              · intro _ _
                refine wp_if_eq dX12_tries_63 (fun q => absurd q (by decide +kernel)) (fun _ => ?_)
                refine wp_iload dX12_tries_66 rfl ?_
                refine wp_iconst (v := (-1)) dX12_tries_68 (by decide +kernel) ?_
                refine wp_icmp_ne dX12_tries_69 (fun c8 => ?_) (fun c8 => ?_)
                · refine wp_aload_n dX12_tries_80 rfl rfl ?_
                  refine wp_iload_n dX12_tries_81 rfl rfl ?_
                  refine wp_iload_n dX12_tries_82 rfl rfl ?_
                  refine wp_iload_n dX12_tries_83 rfl rfl ?_
                  refine wp_iload dX12_tries_84 rfl ?_
                  refine wp_iload dX12_tries_86 rfl ?_
                  refine wp_iload dX12_tries_88 rfl ?_
                  refine wp_cV6 5 127 [some _, some _, some _, some _, some _, some _, some _] dX12_tries_90 tX12_triesOn rfl (by decide) nX12_triesOn vX12_triesOn lX12_363 ⟨by decide, by decide⟩ (Nat.le_of_ble_eq_true rfl) (mO hc3.1) (Nat.le_of_ble_eq_true rfl) rfl ?_
                  refine pX12_triesOn hc3 hd n3 (by omega) (by omega) (fun hh8 f8 k8 => ?_)
                  intro _ _
                  have hc8 := hc3.fr f8 (by decide) (by decide) (by decide) (by decide) (by decide)
                  have nx8 := n3.fr f8 (by decide) (by decide)
                  refine wp_ireturn dX12_tries_93 rfl ?_
                  simp only [vTries, xs1, xs2, it4, it5, it6, it7, if_true] at hq
                  rw [if_pos (by assumption), if_neg (fun q9 => by rcases q9 with ⟨q91, q92⟩; first | exact absurd q91 (by assumption) | exact q92 (by assumption))] at hq
                  exact hq _ ((f3.up (by decide) (by decide)).tr (f8.up (by decide) (by decide)))
                · refine wp_iload dX12_tries_72 rfl ?_
                  refine wp_iconst (v := (-1)) dX12_tries_74 (by decide +kernel) ?_
                  refine wp_icmp_eq dX12_tries_75 (fun c9 => ?_) (fun c9 => ?_)
                  · refine wp_aload_n dX12_tries_80 rfl rfl ?_
                    refine wp_iload_n dX12_tries_81 rfl rfl ?_
                    refine wp_iload_n dX12_tries_82 rfl rfl ?_
                    refine wp_iload_n dX12_tries_83 rfl rfl ?_
                    refine wp_iload dX12_tries_84 rfl ?_
                    refine wp_iload dX12_tries_86 rfl ?_
                    refine wp_iload dX12_tries_88 rfl ?_
                    refine wp_cV6 5 127 [some _, some _, some _, some _, some _, some _, some _] dX12_tries_90 tX12_triesOn rfl (by decide) nX12_triesOn vX12_triesOn lX12_363 ⟨by decide, by decide⟩ (Nat.le_of_ble_eq_true rfl) (mO hc3.1) (Nat.le_of_ble_eq_true rfl) rfl ?_
                    refine pX12_triesOn hc3 hd n3 (by omega) (by omega) (fun hh9 f9 k9 => ?_)
                    intro _ _
                    have hc9 := hc3.fr f9 (by decide) (by decide) (by decide) (by decide) (by decide)
                    have nx9 := n3.fr f9 (by decide) (by decide)
                    refine wp_ireturn dX12_tries_93 rfl ?_
                    simp only [vTries, xs1, xs2, it4, it5, it6, it7, if_true] at hq
                    rw [if_pos (by assumption), if_neg (fun q9 => by rcases q9 with ⟨q91, q92⟩; first | exact absurd q91 (by assumption) | exact q92 (by assumption))] at hq
                    exact hq _ ((f3.up (by decide) (by decide)).tr (f9.up (by decide) (by decide)))
                  · refine wp_iconst (v := (-1)) dX12_tries_78 (by decide +kernel) ?_
                    refine wp_ireturn dX12_tries_79 rfl ?_
                    simp only [vTries, *, if_true, if_false, reduceCtorEq, Nat.lt_irrefl, and_self, not_true_eq_false, not_false_eq_true, and_true, true_and, false_and, and_false, ite_self] at hq
                    exact hq _ (f3.up (by decide) (by decide))
              · intro _ _
                refine wp_if_eq dX12_tries_63 (fun _ => ?_) (fun q => absurd q (by decide +kernel))
                refine wp_iconst (v := (-1)) dX12_tries_78 (by decide +kernel) ?_
                refine wp_ireturn dX12_tries_79 rfl ?_
                simp only [vTries, *, if_true, if_false, reduceCtorEq, Nat.lt_irrefl, and_self, not_true_eq_false, not_false_eq_true, and_true, true_and, false_and, and_false, ite_self] at hq
                exact hq _ (f3.up (by decide) (by decide))
            · intro _ _
              refine wp_if_eq dX12_tries_54 (fun _ => ?_) (fun q => absurd q (by decide +kernel))
              refine wp_iconst (v := (-1)) dX12_tries_78 (by decide +kernel) ?_
              refine wp_ireturn dX12_tries_79 rfl ?_
              simp only [vTries, *, if_true, if_false, reduceCtorEq, Nat.lt_irrefl, and_self, not_true_eq_false, not_false_eq_true, and_true, true_and, false_and, and_false, ite_self] at hq
              exact hq _ (f3.up (by decide) (by decide))
          · intro _ _
            refine wp_if_eq dX12_tries_45 (fun _ => ?_) (fun q => absurd q (by decide +kernel))
            refine wp_iconst (v := (-1)) dX12_tries_78 (by decide +kernel) ?_
            refine wp_ireturn dX12_tries_79 rfl ?_
            simp only [vTries, *, if_true, if_false, reduceCtorEq, Nat.lt_irrefl, and_self, not_true_eq_false, not_false_eq_true, and_true, true_and, false_and, and_false, ite_self] at hq
            exact hq _ (f3.up (by decide) (by decide))
        · intro _ _
          refine wp_if_eq dX12_tries_36 (fun _ => ?_) (fun q => absurd q (by decide +kernel))
          refine wp_iconst (v := (-1)) dX12_tries_78 (by decide +kernel) ?_
          refine wp_ireturn dX12_tries_79 rfl ?_
          simp only [vTries, *, if_true, if_false, reduceCtorEq, Nat.lt_irrefl, and_self, not_true_eq_false, not_false_eq_true, and_true, true_and, false_and, and_false, ite_self] at hq
          exact hq _ (f3.up (by decide) (by decide))
      · refine wp_iconst (v := (-1)) dX12_tries_25 (by decide +kernel) ?_
        refine wp_ireturn dX12_tries_26 rfl ?_
        simp only [vTries, *, if_true, if_false, reduceCtorEq, Nat.lt_irrefl, and_self, not_true_eq_false, not_false_eq_true, and_true, true_and, false_and, and_false, ite_self] at hq
        exact hq _ mFr.rf
    · have xn2 := ix_none (by omega) nj2
      intro _ _
      refine wp_if_eq dX12_tries_13 (fun _ => ?_) (fun q => absurd q (by decide +kernel))
      refine wp_iconst (v := (-1)) dX12_tries_25 (by decide +kernel) ?_
      refine wp_ireturn dX12_tries_26 rfl ?_
      simp only [vTries, *, if_true, if_false, reduceCtorEq, Nat.lt_irrefl, and_self, not_true_eq_false, not_false_eq_true, and_true, true_and, false_and, and_false, ite_self] at hq
      exact hq _ mFr.rf
  · have xn1 := ix_none (by omega) nj1
    intro _ _
    refine wp_if_eq dX12_tries_5 (fun _ => ?_) (fun q => absurd q (by decide +kernel))
    refine wp_iconst (v := (-1)) dX12_tries_25 (by decide +kernel) ?_
    refine wp_ireturn dX12_tries_26 rfl ?_
    simp only [vTries, *, if_true, if_false, reduceCtorEq, Nat.lt_irrefl, and_self, not_true_eq_false, not_false_eq_true, and_true, true_and, false_and, and_false, ite_self] at hq
    exact hq _ mFr.rf
/-- whether a part can be marked -/
def okM (r : Nat → Int64) (pa my : Nat → Int32) (f p i j : Nat) : Prop := i < j ∧ rM r f p < 8 ∧ (rM r f p = 0 ∨ my f = 1 ∧ rB r f p (rM r f p - 1) ≤ i) ∧ (pa f = -1 ∨ 0 < rM r (nOfI (pa f)) p ∧ rA r (nOfI (pa f)) p 0 ≤ i ∧ j ≤ rB r (nOfI (pa f)) p 0)
def cMk (r : Nat → Int64) (F : Nat) (pa my : Nat → Int32) (x y a b : Int32) : Prop := ∃ p f i j, p < rP r ∧ f < F ∧ i < rT r p ∧ j < rT r p + 1 ∧ x = nI p ∧ y = nI f ∧ a = nI i ∧ b = nI j ∧ okM r pa my f p i j
set_option maxRecDepth 20000 in
theorem pX12_canMark {h : mH} {Q : Option Value → mH → Prop} {r : Nat → Int64} {F : Nat} {pa my : Nat → Int32} {x y a b : Int32} (hc : mC h r F pa my) (hd : sOK r F pa my) (ht : ∀ p f i j, p < rP r → f < F → i < rT r p → j < rT r p + 1 → x = nI p → y = nI f → a = nI i → b = nI j → okM r pa my f p i j → Q (some (.int (nI 1))) h) (hf : ¬ cMk r F pa my x y a b → Q (some (.int (nI 0))) h) : Wp mX12_canMark 2 44 0 [some (.ref 153), some (.int x), some (.int y), some (.int a), some (.int b), none] [] h Q := by
  have hF4 := hd.f4
  have hP6 := hd.w.1.2
  refine wp_aload_n dX12_canMark_0 rfl rfl ?_
  refine wp_iload_n dX12_canMark_1 rfl rfl ?_
  refine wp_cV1 1 22 [some _, some _] dX12_canMark_2 tX12_isPage rfl (by decide) nX12_isPage vX12_isPage lX12_286 ⟨by decide, by decide⟩ (Nat.le_of_ble_eq_true rfl) (mO hc.1) (Nat.le_of_ble_eq_true rfl) rfl ?_
  refine pX12_isPage' hc hd (fun j1 hj1 ej1 => ?_) (fun nj1 => ?_)
  · subst ej1
    have xs1 := ix_nI hj1 (by omega)
    intro _ _
    refine wp_if_eq dX12_canMark_5 (fun q => absurd q (by decide +kernel)) (fun _ => ?_)
    refine wp_aload_n dX12_canMark_8 rfl rfl ?_
    refine wp_iload_n dX12_canMark_9 rfl rfl ?_
    refine wp_cV1 1 22 [some _, some _] dX12_canMark_10 tX12_isField rfl (by decide) nX12_isField vX12_isField lX12_299 ⟨by decide, by decide⟩ (Nat.le_of_ble_eq_true rfl) (mO hc.1) (Nat.le_of_ble_eq_true rfl) rfl ?_
    refine pX12_isField' hc hd (fun j2 hj2 ej2 => ?_) (fun nj2 => ?_)
    · subst ej2
      have xs2 := ix_nI hj2 (by omega)
      intro _ _
      have hT := (hd.w.2.1 j1 (by omega)).2
      refine wp_if_eq dX12_canMark_13 (fun q => absurd q (by decide +kernel)) (fun _ => ?_)
      refine wp_iload_n dX12_canMark_16 rfl rfl ?_
      refine wp_if_lt dX12_canMark_17 (fun c3 => ?_) (fun c3 => ?_)
      · refine wp_iconst (v := (nI 0)) dX12_canMark_36 (by decide +kernel) ?_
        refine wp_zreturn dX12_canMark_37 rfl (Or.inl rfl) ?_
        refine hf (fun ⟨p9, f9, i9, j9, h91, h92, h93, h94, e91, e92, e93, e94, o91, o92, o93, o94⟩ => ?_)
        have e91 := (nI_eq (by omega) (by omega)).mp e91
        subst e91
        subst e93
        subst e94
        simp only [Int32.lt_iff_toInt_lt, Int32.le_iff_toInt_le] at *
        simp only [nI_toInt (show i9 < 2147483648 by omega), nI_toInt (show j9 < 2147483648 by omega), nI_toInt (show rT r j1 < 2147483648 by omega), Int32.toInt_zero] at *
        omega
      · refine wp_iload_n dX12_canMark_20 rfl rfl ?_
        refine wp_iload dX12_canMark_21 rfl ?_
        refine wp_icmp_ge dX12_canMark_23 (fun c4 => ?_) (fun c4 => ?_)
        · refine wp_iconst (v := (nI 0)) dX12_canMark_36 (by decide +kernel) ?_
          refine wp_zreturn dX12_canMark_37 rfl (Or.inl rfl) ?_
          refine hf (fun ⟨p9, f9, i9, j9, h91, h92, h93, h94, e91, e92, e93, e94, o91, o92, o93, o94⟩ => ?_)
          have e91 := (nI_eq (by omega) (by omega)).mp e91
          subst e91
          subst e93
          subst e94
          simp only [Int32.lt_iff_toInt_lt, Int32.le_iff_toInt_le] at *
          simp only [nI_toInt (show i9 < 2147483648 by omega), nI_toInt (show j9 < 2147483648 by omega), nI_toInt (show rT r j1 < 2147483648 by omega), Int32.toInt_zero] at *
          omega
        · refine wp_iload dX12_canMark_26 rfl ?_
          refine wp_aload_n dX12_canMark_28 rfl rfl ?_
          refine wp_iload_n dX12_canMark_29 rfl rfl ?_
          refine wp_cV1 0 0 [some _, some _] dX12_canMark_30 tX12_tokensOf rfl (by decide) nX12_tokensOf vX12_tokensOf lX12_273 ⟨by decide, by decide⟩ (Nat.le_of_ble_eq_true rfl) (mO hc.1) (Nat.le_of_ble_eq_true rfl) rfl ?_
          refine pX12_tokensOf' hc hd (by omega) ?_
          intro _ _
          refine wp_icmp_le dX12_canMark_33 (fun c5 => ?_) (fun c5 => ?_)
          · obtain ⟨a9, ha9, ea9⟩ := nI_of (x := a) (by assumption)
            obtain ⟨b9, hb9, eb9⟩ := nI_of (x := b) (by simp only [Int32.lt_iff_toInt_lt, Int32.le_iff_toInt_le, Int32.toInt_zero] at *; omega)
            subst ea9 eb9
            have hab9 : a9 < b9 ∧ b9 ≤ rT r j1 := by simp only [Int32.lt_iff_toInt_lt, Int32.le_iff_toInt_le, nI_toInt ha9, nI_toInt hb9, nI_toInt (show rT r j1 < 2147483648 by omega), Int32.toInt_zero] at *; omega
            have hM := (hd.w.2.2 _ _ (show j2 < 4 by omega) (show j1 < 6 by omega)).1.2
            have hB9 := hd.ab j2 j1 (rM r j2 j1 - 1) (by omega) (by omega)
            refine wp_aload_n dX12_canMark_38 rfl rfl ?_
            refine wp_iload_n dX12_canMark_39 rfl rfl ?_
            refine wp_iload_n dX12_canMark_40 rfl rfl ?_
            refine wp_cV2 1 21 [some _, some _, some _] dX12_canMark_41 tX12_partsOf rfl (by decide) nX12_partsOf vX12_partsOf lX12_302 ⟨by decide, by decide⟩ (Nat.le_of_ble_eq_true rfl) (mO hc.1) (Nat.le_of_ble_eq_true rfl) rfl ?_
            refine pX12_partsOf' hc hd (by omega) (by omega) ?_
            intro _ _
            refine wp_istore (ls1 := [_, _, _, _, _, some _]) dX12_canMark_44 (by decide) rfl ?_
            refine wp_iload dX12_canMark_46 rfl ?_
            refine wp_bipush (v := (nI 8)) dX12_canMark_48 (by decide +kernel) ?_
            refine wp_icmp_eqN dX12_canMark_50 rfl rfl ⟨by omega, by omega⟩ (fun c6 => ?_) (fun c6 => ?_)
            · refine wp_iconst (v := (nI 0)) dX12_canMark_81 (by decide +kernel) ?_
              refine wp_zreturn dX12_canMark_82 rfl (Or.inl rfl) ?_
              refine hf (fun ⟨p9, f9, i9, j9, h91, h92, h93, h94, e91, e92, e93, e94, o91, o92, o93, o94⟩ => ?_)
              have e91 := (nI_eq (by omega) (by omega)).mp e91
              subst e91
              have e92 := (nI_eq (by omega) (by omega)).mp e92
              subst e92
              have e93 := (nI_eq (by omega) (by omega)).mp e93
              subst e93
              have e94 := (nI_eq (by omega) (by omega)).mp e94
              subst e94
              first | omega | (rcases o93 with o93 | o93 <;> first | omega | exact absurd (o93.1.symm.trans (show my j2 = 0 by assumption)) (by decide))
            · refine wp_iload dX12_canMark_53 rfl ?_
              refine wp_if_leN dX12_canMark_55 rfl (by omega) (fun c7 => ?_) (fun c7 => ?_)
              · refine wp_aload_n dX12_canMark_83 rfl rfl ?_
                refine wp_getR dX12_canMark_84 lX12_33 rfl (mO hc.1) (mR_parent hc.1) ?_
                refine wp_iload_n dX12_canMark_87 rfl rfl ?_
                refine wp_ialdV dX12_canMark_88 (mA_parent hc.1) rfl ⟨by omega, by decide⟩ (congrFun hc.2.2.2.1 _) ?_
                rcases hd.par j2 hj2 with ep9 | ⟨g9, hg9, ep9, mg9⟩
                · rw [ep9]
                  refine wp_iconst (v := (-1)) dX12_canMark_89 (by decide +kernel) ?_
                  refine wp_icmp_eq dX12_canMark_90 (fun _ => ?_) (fun q => absurd (by decide +kernel) q)
                  refine wp_iconst (v := (nI 1)) dX12_canMark_140 (by decide +kernel) ?_
                  refine wp_goto dX12_canMark_141 ?_
                  refine wp_zreturn dX12_canMark_145 rfl (Or.inr rfl) ?_
                  exact ht j1 j2 a9 b9 hj1 hj2 (by omega) (by omega) rfl rfl rfl rfl ⟨by omega, by omega, by first | exact Or.inl (by omega) | exact Or.inr ⟨(hd.my _ (by omega)).resolve_left (by assumption), by omega⟩, by first | exact Or.inl (by assumption) | (right; rw [ep9, nOfI_nI (by omega)]; omega)⟩
                · rw [ep9]
                  have hMg := (hd.w.2.2 _ _ (show g9 < 4 by omega) (show j1 < 6 by omega)).1.2
                  have hBg := hd.ab g9 j1 0 (by omega) (by omega) (by decide)
                  refine wp_iconst (v := (-1)) dX12_canMark_89 (by decide +kernel) ?_
                  refine wp_icmp_eq dX12_canMark_90 (fun q => absurd q (nI_ne_m1 (by omega))) (fun _ => ?_)
                  refine wp_aload_n dX12_canMark_93 rfl rfl ?_
                  refine wp_aload_n dX12_canMark_94 rfl rfl ?_
                  refine wp_getR dX12_canMark_95 lX12_33 rfl (mO hc.1) (mR_parent hc.1) ?_
                  refine wp_iload_n dX12_canMark_98 rfl rfl ?_
                  refine wp_ialdV dX12_canMark_99 (mA_parent hc.1) rfl ⟨by omega, by decide⟩ ((congrFun hc.2.2.2.1 _).trans ep9) ?_
                  refine wp_iload_n dX12_canMark_100 rfl rfl ?_
                  refine wp_cV2 1 21 [some _, some _, some _] dX12_canMark_101 tX12_partsOf rfl (by decide) nX12_partsOf vX12_partsOf lX12_302 ⟨by decide, by decide⟩ (Nat.le_of_ble_eq_true rfl) (mO hc.1) (Nat.le_of_ble_eq_true rfl) rfl ?_
                  refine pX12_partsOf' hc hd (by omega) (by omega) ?_
                  intro _ _
                  refine wp_if_leN dX12_canMark_104 rfl (by omega) (fun c10 => ?_) (fun c10 => ?_)
                  · refine wp_iconst (v := (nI 0)) dX12_canMark_144 (by decide +kernel) ?_
                    refine wp_zreturn dX12_canMark_145 rfl (Or.inl rfl) ?_
                    refine hf (fun ⟨p9, f9, i9, j9, h91, h92, h93, h94, e91, e92, e93, e94, o91, o92, o93, o94⟩ => ?_)
                    have e91 := (nI_eq (by omega) (by omega)).mp e91
                    subst e91
                    have e92 := (nI_eq (by omega) (by omega)).mp e92
                    subst e92
                    have e93 := (nI_eq (by omega) (by omega)).mp e93
                    subst e93
                    have e94 := (nI_eq (by omega) (by omega)).mp e94
                    subst e94
                    rcases o94 with o94 | o94
                    · exact absurd (o94.symm.trans ep9) (fun q9 => nI_ne_m1 (by omega) q9.symm)
                    · rw [ep9, nOfI_nI (by omega)] at o94
                      omega
                  · refine wp_iload_n dX12_canMark_107 rfl rfl ?_
                    refine wp_aload_n dX12_canMark_108 rfl rfl ?_
                    refine wp_aload_n dX12_canMark_109 rfl rfl ?_
                    refine wp_getR dX12_canMark_110 lX12_33 rfl (mO hc.1) (mR_parent hc.1) ?_
                    refine wp_iload_n dX12_canMark_113 rfl rfl ?_
                    refine wp_ialdV dX12_canMark_114 (mA_parent hc.1) rfl ⟨by omega, by decide⟩ ((congrFun hc.2.2.2.1 _).trans ep9) ?_
                    refine wp_iload_n dX12_canMark_115 rfl rfl ?_
                    refine wp_iconst (v := (nI 0)) dX12_canMark_116 (by decide +kernel) ?_
                    refine wp_cV3 1 21 [some _, some _, some _, some _] dX12_canMark_117 tX12_fromOf rfl (by decide) nX12_fromOf vX12_fromOf lX12_309 ⟨by decide, by decide⟩ (Nat.le_of_ble_eq_true rfl) (mO hc.1) (Nat.le_of_ble_eq_true rfl) rfl ?_
                    refine pX12_fromOf' hc hd (by omega) (by omega) (by omega) ?_
                    intro _ _
                    refine wp_icmp_ltN dX12_canMark_120 rfl rfl ⟨by omega, by omega⟩ (fun c11 => ?_) (fun c11 => ?_)
                    · refine wp_iconst (v := (nI 0)) dX12_canMark_144 (by decide +kernel) ?_
                      refine wp_zreturn dX12_canMark_145 rfl (Or.inl rfl) ?_
                      refine hf (fun ⟨p9, f9, i9, j9, h91, h92, h93, h94, e91, e92, e93, e94, o91, o92, o93, o94⟩ => ?_)
                      have e91 := (nI_eq (by omega) (by omega)).mp e91
                      subst e91
                      have e92 := (nI_eq (by omega) (by omega)).mp e92
                      subst e92
                      have e93 := (nI_eq (by omega) (by omega)).mp e93
                      subst e93
                      have e94 := (nI_eq (by omega) (by omega)).mp e94
                      subst e94
                      rcases o94 with o94 | o94
                      · exact absurd (o94.symm.trans ep9) (fun q9 => nI_ne_m1 (by omega) q9.symm)
                      · rw [ep9, nOfI_nI (by omega)] at o94
                        omega
                    · refine wp_iload dX12_canMark_123 rfl ?_
                      refine wp_aload_n dX12_canMark_125 rfl rfl ?_
                      refine wp_aload_n dX12_canMark_126 rfl rfl ?_
                      refine wp_getR dX12_canMark_127 lX12_33 rfl (mO hc.1) (mR_parent hc.1) ?_
                      refine wp_iload_n dX12_canMark_130 rfl rfl ?_
                      refine wp_ialdV dX12_canMark_131 (mA_parent hc.1) rfl ⟨by omega, by decide⟩ ((congrFun hc.2.2.2.1 _).trans ep9) ?_
                      refine wp_iload_n dX12_canMark_132 rfl rfl ?_
                      refine wp_iconst (v := (nI 0)) dX12_canMark_133 (by decide +kernel) ?_
                      refine wp_cV3 1 21 [some _, some _, some _, some _] dX12_canMark_134 tX12_toOf rfl (by decide) nX12_toOf vX12_toOf lX12_305 ⟨by decide, by decide⟩ (Nat.le_of_ble_eq_true rfl) (mO hc.1) (Nat.le_of_ble_eq_true rfl) rfl ?_
                      refine pX12_toOf' hc hd (by omega) (by omega) (by omega) ?_
                      intro _ _
                      refine wp_icmp_gtN dX12_canMark_137 rfl rfl ⟨by omega, by omega⟩ (fun c12 => ?_) (fun c12 => ?_)
                      · refine wp_iconst (v := (nI 0)) dX12_canMark_144 (by decide +kernel) ?_
                        refine wp_zreturn dX12_canMark_145 rfl (Or.inl rfl) ?_
                        refine hf (fun ⟨p9, f9, i9, j9, h91, h92, h93, h94, e91, e92, e93, e94, o91, o92, o93, o94⟩ => ?_)
                        have e91 := (nI_eq (by omega) (by omega)).mp e91
                        subst e91
                        have e92 := (nI_eq (by omega) (by omega)).mp e92
                        subst e92
                        have e93 := (nI_eq (by omega) (by omega)).mp e93
                        subst e93
                        have e94 := (nI_eq (by omega) (by omega)).mp e94
                        subst e94
                        rcases o94 with o94 | o94
                        · exact absurd (o94.symm.trans ep9) (fun q9 => nI_ne_m1 (by omega) q9.symm)
                        · rw [ep9, nOfI_nI (by omega)] at o94
                          omega
                      · refine wp_iconst (v := (nI 1)) dX12_canMark_140 (by decide +kernel) ?_
                        refine wp_goto dX12_canMark_141 ?_
                        refine wp_zreturn dX12_canMark_145 rfl (Or.inr rfl) ?_
                        exact ht j1 j2 a9 b9 hj1 hj2 (by omega) (by omega) rfl rfl rfl rfl ⟨by omega, by omega, by first | exact Or.inl (by omega) | exact Or.inr ⟨(hd.my _ (by omega)).resolve_left (by assumption), by omega⟩, by first | exact Or.inl (by assumption) | (right; rw [ep9, nOfI_nI (by omega)]; omega)⟩
              · refine wp_aload_n dX12_canMark_58 rfl rfl ?_
                refine wp_getR dX12_canMark_59 lX12_40 rfl (mO hc.1) (mR_isMany hc.1) ?_
                refine wp_iload_n dX12_canMark_62 rfl rfl ?_
                refine wp_zaldV dX12_canMark_63 (mA_isMany hc.1) rfl ⟨by omega, by decide⟩ (congrFun hc.2.2.2.2 _) ?_
                refine wp_if_eq dX12_canMark_64 (fun c13 => ?_) (fun c13 => ?_)
                · refine wp_iconst (v := (nI 0)) dX12_canMark_81 (by decide +kernel) ?_
                  refine wp_zreturn dX12_canMark_82 rfl (Or.inl rfl) ?_
                  refine hf (fun ⟨p9, f9, i9, j9, h91, h92, h93, h94, e91, e92, e93, e94, o91, o92, o93, o94⟩ => ?_)
                  have e91 := (nI_eq (by omega) (by omega)).mp e91
                  subst e91
                  have e92 := (nI_eq (by omega) (by omega)).mp e92
                  subst e92
                  have e93 := (nI_eq (by omega) (by omega)).mp e93
                  subst e93
                  have e94 := (nI_eq (by omega) (by omega)).mp e94
                  subst e94
                  first | omega | (rcases o93 with o93 | o93 <;> first | omega | exact absurd (o93.1.symm.trans (show my j2 = 0 by assumption)) (by decide))
                · refine wp_iload_n dX12_canMark_67 rfl rfl ?_
                  refine wp_aload_n dX12_canMark_68 rfl rfl ?_
                  refine wp_iload_n dX12_canMark_69 rfl rfl ?_
                  refine wp_iload_n dX12_canMark_70 rfl rfl ?_
                  refine wp_iload dX12_canMark_71 rfl ?_
                  refine wp_iconst (v := (nI 1)) dX12_canMark_73 (by decide +kernel) ?_
                  refine wp_isub dX12_canMark_74 ?_
                  refine wp_cV3 1 21 [some _, some _, some _, some _] dX12_canMark_75 tX12_toOf rfl (by decide) nX12_toOf vX12_toOf lX12_305 ⟨by decide, by decide⟩ (Nat.le_of_ble_eq_true rfl) (mO hc.1) (Nat.le_of_ble_eq_true rfl) rfl ?_
                  rw [pk_sub (by omega)]
                  refine pX12_toOf' hc hd (by omega) (by omega) (by omega) ?_
                  intro _ _
                  refine wp_icmp_geN dX12_canMark_78 rfl rfl ⟨by omega, by omega⟩ (fun c14 => ?_) (fun c14 => ?_)
                  · refine wp_aload_n dX12_canMark_83 rfl rfl ?_
                    refine wp_getR dX12_canMark_84 lX12_33 rfl (mO hc.1) (mR_parent hc.1) ?_
                    refine wp_iload_n dX12_canMark_87 rfl rfl ?_
                    refine wp_ialdV dX12_canMark_88 (mA_parent hc.1) rfl ⟨by omega, by decide⟩ (congrFun hc.2.2.2.1 _) ?_
                    rcases hd.par j2 hj2 with ep9 | ⟨g9, hg9, ep9, mg9⟩
                    · rw [ep9]
                      refine wp_iconst (v := (-1)) dX12_canMark_89 (by decide +kernel) ?_
                      refine wp_icmp_eq dX12_canMark_90 (fun _ => ?_) (fun q => absurd (by decide +kernel) q)
                      refine wp_iconst (v := (nI 1)) dX12_canMark_140 (by decide +kernel) ?_
                      refine wp_goto dX12_canMark_141 ?_
                      refine wp_zreturn dX12_canMark_145 rfl (Or.inr rfl) ?_
                      exact ht j1 j2 a9 b9 hj1 hj2 (by omega) (by omega) rfl rfl rfl rfl ⟨by omega, by omega, by first | exact Or.inl (by omega) | exact Or.inr ⟨(hd.my _ (by omega)).resolve_left (by assumption), by omega⟩, by first | exact Or.inl (by assumption) | (right; rw [ep9, nOfI_nI (by omega)]; omega)⟩
                    · rw [ep9]
                      have hMg := (hd.w.2.2 _ _ (show g9 < 4 by omega) (show j1 < 6 by omega)).1.2
                      have hBg := hd.ab g9 j1 0 (by omega) (by omega) (by decide)
                      refine wp_iconst (v := (-1)) dX12_canMark_89 (by decide +kernel) ?_
                      refine wp_icmp_eq dX12_canMark_90 (fun q => absurd q (nI_ne_m1 (by omega))) (fun _ => ?_)
                      refine wp_aload_n dX12_canMark_93 rfl rfl ?_
                      refine wp_aload_n dX12_canMark_94 rfl rfl ?_
                      refine wp_getR dX12_canMark_95 lX12_33 rfl (mO hc.1) (mR_parent hc.1) ?_
                      refine wp_iload_n dX12_canMark_98 rfl rfl ?_
                      refine wp_ialdV dX12_canMark_99 (mA_parent hc.1) rfl ⟨by omega, by decide⟩ ((congrFun hc.2.2.2.1 _).trans ep9) ?_
                      refine wp_iload_n dX12_canMark_100 rfl rfl ?_
                      refine wp_cV2 1 21 [some _, some _, some _] dX12_canMark_101 tX12_partsOf rfl (by decide) nX12_partsOf vX12_partsOf lX12_302 ⟨by decide, by decide⟩ (Nat.le_of_ble_eq_true rfl) (mO hc.1) (Nat.le_of_ble_eq_true rfl) rfl ?_
                      refine pX12_partsOf' hc hd (by omega) (by omega) ?_
                      intro _ _
                      refine wp_if_leN dX12_canMark_104 rfl (by omega) (fun c17 => ?_) (fun c17 => ?_)
                      · refine wp_iconst (v := (nI 0)) dX12_canMark_144 (by decide +kernel) ?_
                        refine wp_zreturn dX12_canMark_145 rfl (Or.inl rfl) ?_
                        refine hf (fun ⟨p9, f9, i9, j9, h91, h92, h93, h94, e91, e92, e93, e94, o91, o92, o93, o94⟩ => ?_)
                        have e91 := (nI_eq (by omega) (by omega)).mp e91
                        subst e91
                        have e92 := (nI_eq (by omega) (by omega)).mp e92
                        subst e92
                        have e93 := (nI_eq (by omega) (by omega)).mp e93
                        subst e93
                        have e94 := (nI_eq (by omega) (by omega)).mp e94
                        subst e94
                        rcases o94 with o94 | o94
                        · exact absurd (o94.symm.trans ep9) (fun q9 => nI_ne_m1 (by omega) q9.symm)
                        · rw [ep9, nOfI_nI (by omega)] at o94
                          omega
                      · refine wp_iload_n dX12_canMark_107 rfl rfl ?_
                        refine wp_aload_n dX12_canMark_108 rfl rfl ?_
                        refine wp_aload_n dX12_canMark_109 rfl rfl ?_
                        refine wp_getR dX12_canMark_110 lX12_33 rfl (mO hc.1) (mR_parent hc.1) ?_
                        refine wp_iload_n dX12_canMark_113 rfl rfl ?_
                        refine wp_ialdV dX12_canMark_114 (mA_parent hc.1) rfl ⟨by omega, by decide⟩ ((congrFun hc.2.2.2.1 _).trans ep9) ?_
                        refine wp_iload_n dX12_canMark_115 rfl rfl ?_
                        refine wp_iconst (v := (nI 0)) dX12_canMark_116 (by decide +kernel) ?_
                        refine wp_cV3 1 21 [some _, some _, some _, some _] dX12_canMark_117 tX12_fromOf rfl (by decide) nX12_fromOf vX12_fromOf lX12_309 ⟨by decide, by decide⟩ (Nat.le_of_ble_eq_true rfl) (mO hc.1) (Nat.le_of_ble_eq_true rfl) rfl ?_
                        refine pX12_fromOf' hc hd (by omega) (by omega) (by omega) ?_
                        intro _ _
                        refine wp_icmp_ltN dX12_canMark_120 rfl rfl ⟨by omega, by omega⟩ (fun c18 => ?_) (fun c18 => ?_)
                        · refine wp_iconst (v := (nI 0)) dX12_canMark_144 (by decide +kernel) ?_
                          refine wp_zreturn dX12_canMark_145 rfl (Or.inl rfl) ?_
                          refine hf (fun ⟨p9, f9, i9, j9, h91, h92, h93, h94, e91, e92, e93, e94, o91, o92, o93, o94⟩ => ?_)
                          have e91 := (nI_eq (by omega) (by omega)).mp e91
                          subst e91
                          have e92 := (nI_eq (by omega) (by omega)).mp e92
                          subst e92
                          have e93 := (nI_eq (by omega) (by omega)).mp e93
                          subst e93
                          have e94 := (nI_eq (by omega) (by omega)).mp e94
                          subst e94
                          rcases o94 with o94 | o94
                          · exact absurd (o94.symm.trans ep9) (fun q9 => nI_ne_m1 (by omega) q9.symm)
                          · rw [ep9, nOfI_nI (by omega)] at o94
                            omega
                        · refine wp_iload dX12_canMark_123 rfl ?_
                          refine wp_aload_n dX12_canMark_125 rfl rfl ?_
                          refine wp_aload_n dX12_canMark_126 rfl rfl ?_
                          refine wp_getR dX12_canMark_127 lX12_33 rfl (mO hc.1) (mR_parent hc.1) ?_
                          refine wp_iload_n dX12_canMark_130 rfl rfl ?_
                          refine wp_ialdV dX12_canMark_131 (mA_parent hc.1) rfl ⟨by omega, by decide⟩ ((congrFun hc.2.2.2.1 _).trans ep9) ?_
                          refine wp_iload_n dX12_canMark_132 rfl rfl ?_
                          refine wp_iconst (v := (nI 0)) dX12_canMark_133 (by decide +kernel) ?_
                          refine wp_cV3 1 21 [some _, some _, some _, some _] dX12_canMark_134 tX12_toOf rfl (by decide) nX12_toOf vX12_toOf lX12_305 ⟨by decide, by decide⟩ (Nat.le_of_ble_eq_true rfl) (mO hc.1) (Nat.le_of_ble_eq_true rfl) rfl ?_
                          refine pX12_toOf' hc hd (by omega) (by omega) (by omega) ?_
                          intro _ _
                          refine wp_icmp_gtN dX12_canMark_137 rfl rfl ⟨by omega, by omega⟩ (fun c19 => ?_) (fun c19 => ?_)
                          · refine wp_iconst (v := (nI 0)) dX12_canMark_144 (by decide +kernel) ?_
                            refine wp_zreturn dX12_canMark_145 rfl (Or.inl rfl) ?_
                            refine hf (fun ⟨p9, f9, i9, j9, h91, h92, h93, h94, e91, e92, e93, e94, o91, o92, o93, o94⟩ => ?_)
                            have e91 := (nI_eq (by omega) (by omega)).mp e91
                            subst e91
                            have e92 := (nI_eq (by omega) (by omega)).mp e92
                            subst e92
                            have e93 := (nI_eq (by omega) (by omega)).mp e93
                            subst e93
                            have e94 := (nI_eq (by omega) (by omega)).mp e94
                            subst e94
                            rcases o94 with o94 | o94
                            · exact absurd (o94.symm.trans ep9) (fun q9 => nI_ne_m1 (by omega) q9.symm)
                            · rw [ep9, nOfI_nI (by omega)] at o94
                              omega
                          · refine wp_iconst (v := (nI 1)) dX12_canMark_140 (by decide +kernel) ?_
                            refine wp_goto dX12_canMark_141 ?_
                            refine wp_zreturn dX12_canMark_145 rfl (Or.inr rfl) ?_
                            exact ht j1 j2 a9 b9 hj1 hj2 (by omega) (by omega) rfl rfl rfl rfl ⟨by omega, by omega, by first | exact Or.inl (by omega) | exact Or.inr ⟨(hd.my _ (by omega)).resolve_left (by assumption), by omega⟩, by first | exact Or.inl (by assumption) | (right; rw [ep9, nOfI_nI (by omega)]; omega)⟩
                  · refine wp_iconst (v := (nI 0)) dX12_canMark_81 (by decide +kernel) ?_
                    refine wp_zreturn dX12_canMark_82 rfl (Or.inl rfl) ?_
                    refine hf (fun ⟨p9, f9, i9, j9, h91, h92, h93, h94, e91, e92, e93, e94, o91, o92, o93, o94⟩ => ?_)
                    have e91 := (nI_eq (by omega) (by omega)).mp e91
                    subst e91
                    have e92 := (nI_eq (by omega) (by omega)).mp e92
                    subst e92
                    have e93 := (nI_eq (by omega) (by omega)).mp e93
                    subst e93
                    have e94 := (nI_eq (by omega) (by omega)).mp e94
                    subst e94
                    first | omega | (rcases o93 with o93 | o93 <;> first | omega | exact absurd (o93.1.symm.trans (show my j2 = 0 by assumption)) (by decide))
          · refine wp_iconst (v := (nI 0)) dX12_canMark_36 (by decide +kernel) ?_
            refine wp_zreturn dX12_canMark_37 rfl (Or.inl rfl) ?_
            refine hf (fun ⟨p9, f9, i9, j9, h91, h92, h93, h94, e91, e92, e93, e94, o91, o92, o93, o94⟩ => ?_)
            have e91 := (nI_eq (by omega) (by omega)).mp e91
            subst e91
            subst e93
            subst e94
            simp only [Int32.lt_iff_toInt_lt, Int32.le_iff_toInt_le] at *
            simp only [nI_toInt (show i9 < 2147483648 by omega), nI_toInt (show j9 < 2147483648 by omega), nI_toInt (show rT r j1 < 2147483648 by omega), Int32.toInt_zero] at *
            omega
    · have xn2 := ix_none (by omega) nj2
      intro _ _
      refine wp_if_eq dX12_canMark_13 (fun _ => ?_) (fun q => absurd q (by decide +kernel))
      refine wp_iconst (v := (nI 0)) dX12_canMark_36 (by decide +kernel) ?_
      refine wp_zreturn dX12_canMark_37 rfl (Or.inl rfl) ?_
      refine hf (fun ⟨p9, f9, i9, j9, h91, h92, h93, h94, e91, e92, e93, e94, o91, o92, o93, o94⟩ => ?_)
      first | exact nj1 p9 h91 e91 | exact nj2 f9 h92 e92
  · have xn1 := ix_none (by omega) nj1
    intro _ _
    refine wp_if_eq dX12_canMark_5 (fun _ => ?_) (fun q => absurd q (by decide +kernel))
    refine wp_iconst (v := (nI 0)) dX12_canMark_36 (by decide +kernel) ?_
    refine wp_zreturn dX12_canMark_37 rfl (Or.inl rfl) ?_
    refine hf (fun ⟨p9, f9, i9, j9, h91, h92, h93, h94, e91, e92, e93, e94, o91, o92, o93, o94⟩ => ?_)
    first | exact nj1 p9 h91 e91 | exact nj2 f9 h92 e92
