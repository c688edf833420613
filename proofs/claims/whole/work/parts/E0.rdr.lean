/-! ===== the reader: letters, digits, signs, the next token ===== -/
def nonB (c : Int32) : Bool := !(isLt c) && !(isDg c) && !(isSg c) && !(isSp c)
def vw (x y : Int32) : Prop := x = y ∨ (nonB x = true ∧ nonB y = true)
theorem nonB_e {c : Int32} (h : nonB c = true) : isLt c = false ∧ isDg c = false ∧ isSg c = false ∧ isSp c = false := by
  unfold nonB at h
  simp only [Bool.and_eq_true, Bool.not_eq_true'] at h
  exact ⟨h.1.1.1, h.1.1.2, h.1.2, h.2⟩
theorem vw.lt {x y : Int32} (h : vw x y) : isLt x = isLt y := by
  rcases h with e | ⟨a, b⟩
  · rw [e]
  · rw [(nonB_e a).1, (nonB_e b).1]
theorem vw.dg {x y : Int32} (h : vw x y) : isDg x = isDg y := by
  rcases h with e | ⟨a, b⟩
  · rw [e]
  · rw [(nonB_e a).2.1, (nonB_e b).2.1]
theorem vw.sg {x y : Int32} (h : vw x y) : isSg x = isSg y := by
  rcases h with e | ⟨a, b⟩
  · rw [e]
  · rw [(nonB_e a).2.2.1, (nonB_e b).2.2.1]
theorem vw.sp {x y : Int32} (h : vw x y) : isSp x = isSp y := by
  rcases h with e | ⟨a, b⟩
  · rw [e]
  · rw [(nonB_e a).2.2.2, (nonB_e b).2.2.2]
theorem vw.el {x y : Int32} (h : vw x y) (c : isLt y = true) : x = y := h.elim id (fun z => by rw [(nonB_e z.2).1] at c; cases c)
theorem vw.ed {x y : Int32} (h : vw x y) (c : isDg y = true) : x = y := h.elim id (fun z => by rw [(nonB_e z.2).2.1] at c; cases c)
theorem vw.es {x y : Int32} (h : vw x y) (c : isSg y = true) : x = y := h.elim id (fun z => by rw [(nonB_e z.2).2.2.1] at c; cases c)
theorem vw_all : ∀ b : Fin 256, b.val < 128 ∨ (nonB (nI b.val - nI 256) = true ∧ nonB (nI b.val) = true) := by decide +kernel
def txR (ow : Nat → Nat) (h : mH) (tp : Nat → Int32) (N : Nat) : Prop := hA h 1 13 900 ∧ ow 1 = 6 ∧ N ≤ 900 ∧ ∀ j, j < N → vw (hI h 1 j) (tp j)
theorem txR.fr {S : List Nat} {u9 : Nat} {ow ow' : Nat → Nat} {h h' : mH} {tp : Nat → Int32} {N : Nat} (g : txR ow h tp N) (f : cFr S u9 ow h ow' h') (hs : 6 ∉ S) : txR ow' h' tp N := ⟨f.a g.1, (f.w g.1.1).trans g.2.1, g.2.2.1, fun j hj => by rw [(f.s g.1.1 g.2.1 hs).1]; exact g.2.2.2 j hj⟩
theorem tpR.tx {ow : Nat → Nat} {h : mH} {tp : Nat → Int32} {t : Nat} (g : tpR ow h tp t) (ht : t ≤ 900) : txR ow h tp t := ⟨g.1, g.2.1, ht, fun j hj => by
  obtain ⟨b, hb, e1, e2⟩ := g.2.2 j hj
  rw [e1, e2]
  by_cases c : b < 128
  · rw [if_pos c]; exact Or.inl rfl
  · rw [if_neg c]; exact Or.inr ((vw_all ⟨b, hb⟩).resolve_left c)⟩
theorem wd_s {tb : Nat → Int32} {k i : Nat} (h : k ≤ i) : wd tb k (i + 1 - k) = (wd tb k (i - k) <<< ((nI 8).toInt64 &&& 63)) ||| (tb i).toInt64 := by
  rw [show i + 1 - k = (i - k) + 1 by omega]
  show (wd tb k (i - k) <<< ((nI 8).toInt64 &&& 63)) ||| (tb (k + (i - k))).toInt64 = _
  rw [show k + (i - k) = i by omega]
theorem wd_0 {tb : Nat → Int32} {k : Nat} : wd tb k (k - k) = 0 := by rw [Nat.sub_self]; rfl
theorem wd_1 {tb : Nat → Int32} {k : Nat} : wd tb k 1 = (tb k).toInt64 := by
  show ((0 : Int64) <<< ((nI 8).toInt64 &&& 63)) ||| (tb (k + 0)).toInt64 = _
  rw [show (0 : Int64) <<< ((nI 8).toInt64 &&& 63) = 0 by decide +kernel, Int64.zero_or]
  rfl
theorem hr_no {tb : Nat → Int32} {N i : Nat} (h : i < N → isLt (tb i) = false) : ¬ isLt (hr tb N i) = true := by
  by_cases c : i < N
  · rw [hr_lt c, h c]; exact fun z => by cases z
  · rw [hr_ge (by omega)]; decide +kernel
theorem rn_of {P : Int32 → Bool} {tb : Nat → Int32} {N k i : Nat} (hk : k ≤ i) (hi : i ≤ N) (h1 : ∀ j, k ≤ j → j < i → P (tb j) = true) (h2 : i = N ∨ (i < N ∧ P (tb i) = false)) : rn P tb N k = i := by
  unfold rn
  refine rnF_eq _ _ _ hk (by omega) (fun j hj hj2 => ?_) ?_
  · show P (hr tb N j) = true
    rw [hr_lt (by omega)]; exact h1 j hj hj2
  · rcases h2 with e | ⟨e, e2⟩
    · exact Or.inl (by omega)
    · refine Or.inr ?_
      show P (hr tb N i) = false
      rw [hr_lt e]; exact e2
set_option maxRecDepth 20000 in
theorem pX7_takeLetters {h : mH} {Q : Option Value → mH → Prop} {ow : Nat → Nat} {rc : Nat → Int32} {rp rf rl : Int32} {rq : Option Nat} {tp : Nat → Int32} {N k : Nat} {rb rk : Int32} (zr : zR ow h rc rp rq rf rl (some 1) (nI N) (nI k) rb rk 0) (tx : txR ow h tp N) (hk : k ≤ N) (hq : ∀ h', cFr [5] 0 ow h ow h' → zR ow h' rc rp rq rf rl (some 1) (nI N) (nI k) (nI (rn isLt tp N k)) (if 8 < (rn isLt tp N k) - k then nI 4 else nI 0) (wd tp k ((rn isLt tp N k) - k)) → Q none h') : Wp mX7_takeLetters 1 20 0 [some (.ref 6), none] [] h Q := by
  have hN9 := tx.2.2.1
  have hlp : ∀  (t9 : Nat) (h1 : mH) (i : Nat), (k ≤ i ∧ i ≤ N) → (cFr [5] 0 ow h ow h1) → (zR ow h1 rc rp rq rf rl (some 1) (nI N) (nI k) rb rk (wd tp k (i - k))) → (∀ j, k ≤ j → j < i → isLt (tp j) = true) → (N < i + t9) → Wp mX7_takeLetters 1 20 5 [some (.ref 6), some (.int (nI i))] [] h1 Q := by
    intro t9
    induction t9 with
    | zero => intros; omega
    | succ t9 ih =>
      intro h1 i hi hf1 zr1 hp hmz
      have tx1 := tx.fr hf1 (by decide)
      have hN9 := tx.2.2.1
      refine wp_iload_n dX7_takeLetters_5 rfl rfl ?_
      refine wp_aload_n dX7_takeLetters_6 rfl rfl ?_
      refine wp_getIV dX7_takeLetters_7 lX7_72 rfl zr1.o zr1.f7 ?_
      refine wp_icmp_geN dX7_takeLetters_10 rfl rfl ⟨by omega, by omega⟩ (fun c2 => ?_) (fun c2 => ?_)
      · have er9 := rn_of hi.1 hi.2 hp (Or.inl (by omega))
        subst er9
        refine wp_aload_n dX7_takeLetters_50 rfl rfl ?_
        refine wp_iload_n dX7_takeLetters_51 rfl rfl ?_
        refine wp_putI dX7_takeLetters_52 lX7_75 rfl (Or.inl rfl) zr1.o rfl rfl ?_
        refine zr1.p9 (fun hh1 f1 zr1_1 => ?_)
        have tx1_1 := tx1.fr f1 (rnS (by omega) rn0)
        refine wp_aload_n dX7_takeLetters_55 rfl rfl ?_
        refine wp_aload_n dX7_takeLetters_56 rfl rfl ?_
        refine wp_getIV dX7_takeLetters_57 lX7_75 rfl zr1_1.o zr1_1.f9 ?_
        refine wp_aload_n dX7_takeLetters_60 rfl rfl ?_
        refine wp_getIV dX7_takeLetters_61 lX7_84 rfl zr1_1.o zr1_1.f8 ?_
        refine wp_isub dX7_takeLetters_64 ?_
        refine wp_bipush (v := (nI 8)) dX7_takeLetters_65 (by decide +kernel) ?_
        refine wp_icmp_gtN dX7_takeLetters_67 (isN_sub rfl rfl (by omega)) rfl ⟨by omega, by omega⟩ (fun cz => ?_) (fun cz => ?_)
        · refine wp_iconst (v := (nI 4)) dX7_takeLetters_74 (by decide +kernel) ?_
          refine wp_putI dX7_takeLetters_75 lX7_39 rfl (Or.inl rfl) zr1_1.o rfl rfl ?_
          refine zr1_1.p10 (fun hh2 f2 zr1_2 => ?_)
          have tx1_2 := tx1_1.fr f2 (rnS (by omega) rn0)
          refine wp_vreturn dX7_takeLetters_78 rfl ?_
          exact hq _ (((hf1.up (by decide) (Nat.le_refl _)).tr (f1.up (by decide) (Nat.le_refl _))).tr (f2.up (by decide) (Nat.le_refl _))) (by first | (rw [show (if 8 < (rn isLt tp N k) - k then nI 4 else nI 0) = nI 4 from if_pos (by omega)]; exact zr1_2) | (rw [show (if 8 < (rn isLt tp N k) - k then nI 4 else nI 0) = nI 0 from if_neg (by omega)]; exact zr1_2))
        · refine wp_iconst (v := (nI 0)) dX7_takeLetters_70 (by decide +kernel) ?_
          refine wp_goto dX7_takeLetters_71 ?_
          refine wp_putI dX7_takeLetters_75 lX7_39 rfl (Or.inl rfl) zr1_1.o rfl rfl ?_
          refine zr1_1.p10 (fun hh3 f3 zr1_3 => ?_)
          have tx1_3 := tx1_1.fr f3 (rnS (by omega) rn0)
          refine wp_vreturn dX7_takeLetters_78 rfl ?_
          exact hq _ (((hf1.up (by decide) (Nat.le_refl _)).tr (f1.up (by decide) (Nat.le_refl _))).tr (f3.up (by decide) (Nat.le_refl _))) (by first | (rw [show (if 8 < (rn isLt tp N k) - k then nI 4 else nI 0) = nI 4 from if_pos (by omega)]; exact zr1_3) | (rw [show (if 8 < (rn isLt tp N k) - k then nI 4 else nI 0) = nI 0 from if_neg (by omega)]; exact zr1_3))
      · refine wp_aload_n dX7_takeLetters_13 rfl rfl ?_
        refine wp_getR dX7_takeLetters_14 lX7_27 rfl zr1.o zr1.f6 ?_
        refine wp_iload_n dX7_takeLetters_17 rfl rfl ?_
        refine wp_baldN dX7_takeLetters_18 tx1.1 rfl ⟨by omega, by omega⟩ ?_
        refine wp_cSN1 0 0 [some _] dX7_takeLetters_19 tX11_isLetter sX11_isLetter lX7_129 ⟨by decide, by decide⟩ (Nat.le_of_ble_eq_true rfl) (Nat.le_of_ble_eq_true rfl) rfl ?_
        refine pX11_isLetter (fun t4 => ?_) (fun t4 => ?_)
        · have e4 := (tx1.2.2.2 i (by omega)).lt.symm.trans t4
          intro _ _
          refine wp_if_eq dX7_takeLetters_22 (fun q => absurd q (by decide +kernel)) (fun _ => ?_)
          refine wp_aload_n dX7_takeLetters_25 rfl rfl ?_
          refine wp_aload_n dX7_takeLetters_26 rfl rfl ?_
          refine wp_getLV dX7_takeLetters_27 lX7_91 rfl zr1.o zr1.f11 ?_
          refine wp_bipush (v := (nI 8)) dX7_takeLetters_30 (by decide +kernel) ?_
          refine wp_lshl dX7_takeLetters_32 ?_
          refine wp_aload_n dX7_takeLetters_33 rfl rfl ?_
          refine wp_getR dX7_takeLetters_34 lX7_27 rfl zr1.o zr1.f6 ?_
          refine wp_iload_n dX7_takeLetters_37 rfl rfl ?_
          refine wp_baldN dX7_takeLetters_38 tx1.1 rfl ⟨by omega, by omega⟩ ?_
          refine wp_i2l dX7_takeLetters_39 ?_
          refine wp_lor dX7_takeLetters_40 ?_
          refine wp_putL dX7_takeLetters_41 lX7_91 rfl (Or.inl rfl) zr1.o ?_
          refine zr1.p11 (fun hh5 f5 zr1_5 => ?_)
          have tx1_5 := tx1.fr f5 (rnS (by omega) rn0)
          refine wp_iinc1 (ls1 := [_, some _]) dX7_takeLetters_44 rfl (by decide) rfl ?_
          refine wp_goto dX7_takeLetters_47 ?_
          have w9 := zr1_5
          rw [(tx1.2.2.2 i (by omega)).el e4, ← wd_s hi.1] at w9
          refine ih _ (i + 1) ⟨by omega, by omega⟩ (hf1.tr f5) w9 (fun j hj hj2 => ?_) (by omega)
          by_cases c9 : j = i
          · rw [c9]; exact e4
          · exact hp j hj (by omega)
        · have e4 := (tx1.2.2.2 i (by omega)).lt.symm.trans t4
          intro _ _
          refine wp_if_eq dX7_takeLetters_22 (fun _ => ?_) (fun q => absurd q (by decide +kernel))
          have er9 := rn_of hi.1 hi.2 hp (Or.inr ⟨by omega, e4⟩)
          subst er9
          refine wp_aload_n dX7_takeLetters_50 rfl rfl ?_
          refine wp_iload_n dX7_takeLetters_51 rfl rfl ?_
          refine wp_putI dX7_takeLetters_52 lX7_75 rfl (Or.inl rfl) zr1.o rfl rfl ?_
          refine zr1.p9 (fun hh6 f6 zr1_6 => ?_)
          have tx1_6 := tx1.fr f6 (rnS (by omega) rn0)
          refine wp_aload_n dX7_takeLetters_55 rfl rfl ?_
          refine wp_aload_n dX7_takeLetters_56 rfl rfl ?_
          refine wp_getIV dX7_takeLetters_57 lX7_75 rfl zr1_6.o zr1_6.f9 ?_
          refine wp_aload_n dX7_takeLetters_60 rfl rfl ?_
          refine wp_getIV dX7_takeLetters_61 lX7_84 rfl zr1_6.o zr1_6.f8 ?_
          refine wp_isub dX7_takeLetters_64 ?_
          refine wp_bipush (v := (nI 8)) dX7_takeLetters_65 (by decide +kernel) ?_
          refine wp_icmp_gtN dX7_takeLetters_67 (isN_sub rfl rfl (by omega)) rfl ⟨by omega, by omega⟩ (fun cz => ?_) (fun cz => ?_)
          · refine wp_iconst (v := (nI 4)) dX7_takeLetters_74 (by decide +kernel) ?_
            refine wp_putI dX7_takeLetters_75 lX7_39 rfl (Or.inl rfl) zr1_6.o rfl rfl ?_
            refine zr1_6.p10 (fun hh7 f7 zr1_7 => ?_)
            have tx1_7 := tx1_6.fr f7 (rnS (by omega) rn0)
            refine wp_vreturn dX7_takeLetters_78 rfl ?_
            exact hq _ (((hf1.up (by decide) (Nat.le_refl _)).tr (f6.up (by decide) (Nat.le_refl _))).tr (f7.up (by decide) (Nat.le_refl _))) (by first | (rw [show (if 8 < (rn isLt tp N k) - k then nI 4 else nI 0) = nI 4 from if_pos (by omega)]; exact zr1_7) | (rw [show (if 8 < (rn isLt tp N k) - k then nI 4 else nI 0) = nI 0 from if_neg (by omega)]; exact zr1_7))
          · refine wp_iconst (v := (nI 0)) dX7_takeLetters_70 (by decide +kernel) ?_
            refine wp_goto dX7_takeLetters_71 ?_
            refine wp_putI dX7_takeLetters_75 lX7_39 rfl (Or.inl rfl) zr1_6.o rfl rfl ?_
            refine zr1_6.p10 (fun hh8 f8 zr1_8 => ?_)
            have tx1_8 := tx1_6.fr f8 (rnS (by omega) rn0)
            refine wp_vreturn dX7_takeLetters_78 rfl ?_
            exact hq _ (((hf1.up (by decide) (Nat.le_refl _)).tr (f6.up (by decide) (Nat.le_refl _))).tr (f8.up (by decide) (Nat.le_refl _))) (by first | (rw [show (if 8 < (rn isLt tp N k) - k then nI 4 else nI 0) = nI 4 from if_pos (by omega)]; exact zr1_8) | (rw [show (if 8 < (rn isLt tp N k) - k then nI 4 else nI 0) = nI 0 from if_neg (by omega)]; exact zr1_8))
  refine wp_aload_n dX7_takeLetters_0 rfl rfl ?_
  refine wp_getIV dX7_takeLetters_1 lX7_84 rfl zr.o zr.f8 ?_
  refine wp_istore_n (ls1 := [_, some _]) dX7_takeLetters_4 rfl (by decide) rfl ?_
  exact hlp (N + 1) h k ⟨Nat.le_refl _, hk⟩ cFr.rf (by rw [wd_0]; exact zr) (fun j hj hj2 => by omega) (by omega)
set_option maxRecDepth 20000 in
theorem pX7_takeDigits {h : mH} {Q : Option Value → mH → Prop} {ow : Nat → Nat} {rc : Nat → Int32} {rp rf rl : Int32} {rq : Option Nat} {tp : Nat → Int32} {N k : Nat} {rb rk : Int32} (zr : zR ow h rc rp rq rf rl (some 1) (nI N) (nI k) rb rk 0) (tx : txR ow h tp N) (hk : k ≤ N) (hq : ∀ h', cFr [5] 0 ow h ow h' → zR ow h' rc rp rq rf rl (some 1) (nI N) (nI k) (nI (rn isDg tp N k)) (if 4 < (rn isDg tp N k) - k ∨ isLt (hr tp N (rn isDg tp N k)) = true then nI 4 else nI 1) (wd tp k ((rn isDg tp N k) - k)) → Q none h') : Wp mX7_takeDigits 1 20 0 [some (.ref 6), none, none] [] h Q := by
  have hN9 := tx.2.2.1
  have hlp : ∀  (t9 : Nat) (h1 : mH) (i : Nat), (k ≤ i ∧ i ≤ N) → (cFr [5] 0 ow h ow h1) → (zR ow h1 rc rp rq rf rl (some 1) (nI N) (nI k) rb rk (wd tp k (i - k))) → (∀ j, k ≤ j → j < i → isDg (tp j) = true) → (N < i + t9) → Wp mX7_takeDigits 1 20 5 [some (.ref 6), some (.int (nI i)), none] [] h1 Q := by
    intro t9
    induction t9 with
    | zero => intros; omega
    | succ t9 ih =>
      intro h1 i hi hf1 zr1 hp hmz
      have tx1 := tx.fr hf1 (by decide)
      have hN9 := tx.2.2.1
      refine wp_iload_n dX7_takeDigits_5 rfl rfl ?_
      refine wp_aload_n dX7_takeDigits_6 rfl rfl ?_
      refine wp_getIV dX7_takeDigits_7 lX7_72 rfl zr1.o zr1.f7 ?_
      refine wp_icmp_geN dX7_takeDigits_10 rfl rfl ⟨by omega, by omega⟩ (fun c2 => ?_) (fun c2 => ?_)
      · have er9 := rn_of hi.1 hi.2 hp (Or.inl (by omega))
        subst er9
        refine wp_aload_n dX7_takeDigits_50 rfl rfl ?_
        refine wp_iload_n dX7_takeDigits_51 rfl rfl ?_
        refine wp_putI dX7_takeDigits_52 lX7_75 rfl (Or.inl rfl) zr1.o rfl rfl ?_
        refine zr1.p9 (fun hh1 f1 zr1_1 => ?_)
        have tx1_1 := tx1.fr f1 (rnS (by omega) rn0)
        refine wp_iload_n dX7_takeDigits_55 rfl rfl ?_
        refine wp_aload_n dX7_takeDigits_56 rfl rfl ?_
        refine wp_getIV dX7_takeDigits_57 lX7_72 rfl zr1_1.o zr1_1.f7 ?_
        refine wp_icmp_geN dX7_takeDigits_60 rfl rfl ⟨by omega, by omega⟩ (fun c4 => ?_) (fun c4 => ?_)
        · refine wp_iconst (v := (nI 0)) dX7_takeDigits_79 (by decide +kernel) ?_
          refine wp_istore_n (ls1 := [_, _, some _]) dX7_takeDigits_80 rfl (by decide) rfl ?_
          refine wp_aload_n dX7_takeDigits_81 rfl rfl ?_
          refine wp_aload_n dX7_takeDigits_82 rfl rfl ?_
          refine wp_getIV dX7_takeDigits_83 lX7_75 rfl zr1_1.o zr1_1.f9 ?_
          refine wp_aload_n dX7_takeDigits_86 rfl rfl ?_
          refine wp_getIV dX7_takeDigits_87 lX7_84 rfl zr1_1.o zr1_1.f8 ?_
          refine wp_isub dX7_takeDigits_90 ?_
          refine wp_iconst (v := (nI 4)) dX7_takeDigits_91 (by decide +kernel) ?_
          refine wp_icmp_gtN dX7_takeDigits_92 (isN_sub rfl rfl (by omega)) rfl ⟨by omega, by omega⟩ (fun cz => ?_) (fun cz => ?_)
          · refine wp_iconst (v := (nI 4)) dX7_takeDigits_103 (by decide +kernel) ?_
            refine wp_putI dX7_takeDigits_104 lX7_39 rfl (Or.inl rfl) zr1_1.o rfl rfl ?_
            refine zr1_1.p10 (fun hh2 f2 zr1_2 => ?_)
            have tx1_2 := tx1_1.fr f2 (rnS (by omega) rn0)
            refine wp_vreturn dX7_takeDigits_107 rfl ?_
            exact hq _ (((hf1.up (by decide) (Nat.le_refl _)).tr (f1.up (by decide) (Nat.le_refl _))).tr (f2.up (by decide) (Nat.le_refl _))) (by first | (rw [show (if 4 < (rn isDg tp N k) - k ∨ isLt (hr tp N (rn isDg tp N k)) = true then nI 4 else nI 1) = nI 4 from if_pos (by first | exact Or.inl (by omega) | exact Or.inr (by rw [hr_lt (by omega)]; assumption))]; exact zr1_2) | (rw [show (if 4 < (rn isDg tp N k) - k ∨ isLt (hr tp N (rn isDg tp N k)) = true then nI 4 else nI 1) = nI 1 from if_neg (fun z9 => z9.elim (fun y => by omega) (fun y => hr_no (fun q9 => by first | assumption | omega) y))]; exact zr1_2))
          · refine wp_iload_n dX7_takeDigits_95 rfl rfl ?_
            refine wp_if_ne dX7_takeDigits_96 (fun q => absurd q (by decide +kernel)) (fun _ => ?_)
            refine wp_iconst (v := (nI 1)) dX7_takeDigits_99 (by decide +kernel) ?_
            refine wp_goto dX7_takeDigits_100 ?_
            refine wp_putI dX7_takeDigits_104 lX7_39 rfl (Or.inl rfl) zr1_1.o rfl rfl ?_
            refine zr1_1.p10 (fun hh3 f3 zr1_3 => ?_)
            have tx1_3 := tx1_1.fr f3 (rnS (by omega) rn0)
            refine wp_vreturn dX7_takeDigits_107 rfl ?_
            exact hq _ (((hf1.up (by decide) (Nat.le_refl _)).tr (f1.up (by decide) (Nat.le_refl _))).tr (f3.up (by decide) (Nat.le_refl _))) (by first | (rw [show (if 4 < (rn isDg tp N k) - k ∨ isLt (hr tp N (rn isDg tp N k)) = true then nI 4 else nI 1) = nI 4 from if_pos (by first | exact Or.inl (by omega) | exact Or.inr (by rw [hr_lt (by omega)]; assumption))]; exact zr1_3) | (rw [show (if 4 < (rn isDg tp N k) - k ∨ isLt (hr tp N (rn isDg tp N k)) = true then nI 4 else nI 1) = nI 1 from if_neg (fun z9 => z9.elim (fun y => by omega) (fun y => hr_no (fun q9 => by first | assumption | omega) y))]; exact zr1_3))
        · refine wp_aload_n dX7_takeDigits_63 rfl rfl ?_
          refine wp_getR dX7_takeDigits_64 lX7_27 rfl zr1_1.o zr1_1.f6 ?_
          refine wp_iload_n dX7_takeDigits_67 rfl rfl ?_
          refine wp_baldN dX7_takeDigits_68 tx1_1.1 rfl ⟨by omega, by omega⟩ ?_
          refine wp_cSN1 0 0 [some _] dX7_takeDigits_69 tX11_isLetter sX11_isLetter lX7_129 ⟨by decide, by decide⟩ (Nat.le_of_ble_eq_true rfl) (Nat.le_of_ble_eq_true rfl) rfl ?_
          refine pX11_isLetter (fun t4 => ?_) (fun t4 => ?_)
          · have e4 := (tx1_1.2.2.2 (rn isDg tp N k) (by omega)).lt.symm.trans t4
            intro _ _
            refine wp_if_eq dX7_takeDigits_72 (fun q => absurd q (by decide +kernel)) (fun _ => ?_)
            refine wp_iconst (v := (nI 1)) dX7_takeDigits_75 (by decide +kernel) ?_
            refine wp_goto dX7_takeDigits_76 ?_
            refine wp_istore_n (ls1 := [_, _, some _]) dX7_takeDigits_80 rfl (by decide) rfl ?_
            refine wp_aload_n dX7_takeDigits_81 rfl rfl ?_
            refine wp_aload_n dX7_takeDigits_82 rfl rfl ?_
            refine wp_getIV dX7_takeDigits_83 lX7_75 rfl zr1_1.o zr1_1.f9 ?_
            refine wp_aload_n dX7_takeDigits_86 rfl rfl ?_
            refine wp_getIV dX7_takeDigits_87 lX7_84 rfl zr1_1.o zr1_1.f8 ?_
            refine wp_isub dX7_takeDigits_90 ?_
            refine wp_iconst (v := (nI 4)) dX7_takeDigits_91 (by decide +kernel) ?_
            refine wp_icmp_gtN dX7_takeDigits_92 (isN_sub rfl rfl (by omega)) rfl ⟨by omega, by omega⟩ (fun cz => ?_) (fun cz => ?_)
            · refine wp_iconst (v := (nI 4)) dX7_takeDigits_103 (by decide +kernel) ?_
              refine wp_putI dX7_takeDigits_104 lX7_39 rfl (Or.inl rfl) zr1_1.o rfl rfl ?_
              refine zr1_1.p10 (fun hh5 f5 zr1_5 => ?_)
              have tx1_5 := tx1_1.fr f5 (rnS (by omega) rn0)
              refine wp_vreturn dX7_takeDigits_107 rfl ?_
              exact hq _ (((hf1.up (by decide) (Nat.le_refl _)).tr (f1.up (by decide) (Nat.le_refl _))).tr (f5.up (by decide) (Nat.le_refl _))) (by first | (rw [show (if 4 < (rn isDg tp N k) - k ∨ isLt (hr tp N (rn isDg tp N k)) = true then nI 4 else nI 1) = nI 4 from if_pos (by first | exact Or.inl (by omega) | exact Or.inr (by rw [hr_lt (by omega)]; assumption))]; exact zr1_5) | (rw [show (if 4 < (rn isDg tp N k) - k ∨ isLt (hr tp N (rn isDg tp N k)) = true then nI 4 else nI 1) = nI 1 from if_neg (fun z9 => z9.elim (fun y => by omega) (fun y => hr_no (fun q9 => by first | assumption | omega) y))]; exact zr1_5))
            · refine wp_iload_n dX7_takeDigits_95 rfl rfl ?_
              refine wp_if_ne dX7_takeDigits_96 (fun _ => ?_) (fun q => absurd q (by decide +kernel))
              refine wp_iconst (v := (nI 4)) dX7_takeDigits_103 (by decide +kernel) ?_
              refine wp_putI dX7_takeDigits_104 lX7_39 rfl (Or.inl rfl) zr1_1.o rfl rfl ?_
              refine zr1_1.p10 (fun hh6 f6 zr1_6 => ?_)
              have tx1_6 := tx1_1.fr f6 (rnS (by omega) rn0)
              refine wp_vreturn dX7_takeDigits_107 rfl ?_
              exact hq _ (((hf1.up (by decide) (Nat.le_refl _)).tr (f1.up (by decide) (Nat.le_refl _))).tr (f6.up (by decide) (Nat.le_refl _))) (by first | (rw [show (if 4 < (rn isDg tp N k) - k ∨ isLt (hr tp N (rn isDg tp N k)) = true then nI 4 else nI 1) = nI 4 from if_pos (by first | exact Or.inl (by omega) | exact Or.inr (by rw [hr_lt (by omega)]; assumption))]; exact zr1_6) | (rw [show (if 4 < (rn isDg tp N k) - k ∨ isLt (hr tp N (rn isDg tp N k)) = true then nI 4 else nI 1) = nI 1 from if_neg (fun z9 => z9.elim (fun y => by omega) (fun y => hr_no (fun q9 => by first | assumption | omega) y))]; exact zr1_6))
          · have e4 := (tx1_1.2.2.2 (rn isDg tp N k) (by omega)).lt.symm.trans t4
            intro _ _
            refine wp_if_eq dX7_takeDigits_72 (fun _ => ?_) (fun q => absurd q (by decide +kernel))
            refine wp_iconst (v := (nI 0)) dX7_takeDigits_79 (by decide +kernel) ?_
            refine wp_istore_n (ls1 := [_, _, some _]) dX7_takeDigits_80 rfl (by decide) rfl ?_
            refine wp_aload_n dX7_takeDigits_81 rfl rfl ?_
            refine wp_aload_n dX7_takeDigits_82 rfl rfl ?_
            refine wp_getIV dX7_takeDigits_83 lX7_75 rfl zr1_1.o zr1_1.f9 ?_
            refine wp_aload_n dX7_takeDigits_86 rfl rfl ?_
            refine wp_getIV dX7_takeDigits_87 lX7_84 rfl zr1_1.o zr1_1.f8 ?_
            refine wp_isub dX7_takeDigits_90 ?_
            refine wp_iconst (v := (nI 4)) dX7_takeDigits_91 (by decide +kernel) ?_
            refine wp_icmp_gtN dX7_takeDigits_92 (isN_sub rfl rfl (by omega)) rfl ⟨by omega, by omega⟩ (fun cz => ?_) (fun cz => ?_)
            · refine wp_iconst (v := (nI 4)) dX7_takeDigits_103 (by decide +kernel) ?_
              refine wp_putI dX7_takeDigits_104 lX7_39 rfl (Or.inl rfl) zr1_1.o rfl rfl ?_
              refine zr1_1.p10 (fun hh7 f7 zr1_7 => ?_)
              have tx1_7 := tx1_1.fr f7 (rnS (by omega) rn0)
              refine wp_vreturn dX7_takeDigits_107 rfl ?_
              exact hq _ (((hf1.up (by decide) (Nat.le_refl _)).tr (f1.up (by decide) (Nat.le_refl _))).tr (f7.up (by decide) (Nat.le_refl _))) (by first | (rw [show (if 4 < (rn isDg tp N k) - k ∨ isLt (hr tp N (rn isDg tp N k)) = true then nI 4 else nI 1) = nI 4 from if_pos (by first | exact Or.inl (by omega) | exact Or.inr (by rw [hr_lt (by omega)]; assumption))]; exact zr1_7) | (rw [show (if 4 < (rn isDg tp N k) - k ∨ isLt (hr tp N (rn isDg tp N k)) = true then nI 4 else nI 1) = nI 1 from if_neg (fun z9 => z9.elim (fun y => by omega) (fun y => hr_no (fun q9 => by first | assumption | omega) y))]; exact zr1_7))
            · refine wp_iload_n dX7_takeDigits_95 rfl rfl ?_
              refine wp_if_ne dX7_takeDigits_96 (fun q => absurd q (by decide +kernel)) (fun _ => ?_)
              refine wp_iconst (v := (nI 1)) dX7_takeDigits_99 (by decide +kernel) ?_
              refine wp_goto dX7_takeDigits_100 ?_
              refine wp_putI dX7_takeDigits_104 lX7_39 rfl (Or.inl rfl) zr1_1.o rfl rfl ?_
              refine zr1_1.p10 (fun hh8 f8 zr1_8 => ?_)
              have tx1_8 := tx1_1.fr f8 (rnS (by omega) rn0)
              refine wp_vreturn dX7_takeDigits_107 rfl ?_
              exact hq _ (((hf1.up (by decide) (Nat.le_refl _)).tr (f1.up (by decide) (Nat.le_refl _))).tr (f8.up (by decide) (Nat.le_refl _))) (by first | (rw [show (if 4 < (rn isDg tp N k) - k ∨ isLt (hr tp N (rn isDg tp N k)) = true then nI 4 else nI 1) = nI 4 from if_pos (by first | exact Or.inl (by omega) | exact Or.inr (by rw [hr_lt (by omega)]; assumption))]; exact zr1_8) | (rw [show (if 4 < (rn isDg tp N k) - k ∨ isLt (hr tp N (rn isDg tp N k)) = true then nI 4 else nI 1) = nI 1 from if_neg (fun z9 => z9.elim (fun y => by omega) (fun y => hr_no (fun q9 => by first | assumption | omega) y))]; exact zr1_8))
      · refine wp_aload_n dX7_takeDigits_13 rfl rfl ?_
        refine wp_getR dX7_takeDigits_14 lX7_27 rfl zr1.o zr1.f6 ?_
        refine wp_iload_n dX7_takeDigits_17 rfl rfl ?_
        refine wp_baldN dX7_takeDigits_18 tx1.1 rfl ⟨by omega, by omega⟩ ?_
        refine wp_cSN1 0 0 [some _] dX7_takeDigits_19 tX11_isDigit sX11_isDigit lX7_136 ⟨by decide, by decide⟩ (Nat.le_of_ble_eq_true rfl) (Nat.le_of_ble_eq_true rfl) rfl ?_
        refine pX11_isDigit (fun t9 => ?_) (fun t9 => ?_)
        · have e9 := (tx1.2.2.2 i (by omega)).dg.symm.trans t9
          intro _ _
          refine wp_if_eq dX7_takeDigits_22 (fun q => absurd q (by decide +kernel)) (fun _ => ?_)
          refine wp_aload_n dX7_takeDigits_25 rfl rfl ?_
          refine wp_aload_n dX7_takeDigits_26 rfl rfl ?_
          refine wp_getLV dX7_takeDigits_27 lX7_91 rfl zr1.o zr1.f11 ?_
          refine wp_bipush (v := (nI 8)) dX7_takeDigits_30 (by decide +kernel) ?_
          refine wp_lshl dX7_takeDigits_32 ?_
          refine wp_aload_n dX7_takeDigits_33 rfl rfl ?_
          refine wp_getR dX7_takeDigits_34 lX7_27 rfl zr1.o zr1.f6 ?_
          refine wp_iload_n dX7_takeDigits_37 rfl rfl ?_
          refine wp_baldN dX7_takeDigits_38 tx1.1 rfl ⟨by omega, by omega⟩ ?_
          refine wp_i2l dX7_takeDigits_39 ?_
          refine wp_lor dX7_takeDigits_40 ?_
          refine wp_putL dX7_takeDigits_41 lX7_91 rfl (Or.inl rfl) zr1.o ?_
          refine zr1.p11 (fun hh10 f10 zr1_10 => ?_)
          have tx1_10 := tx1.fr f10 (rnS (by omega) rn0)
          refine wp_iinc1 (ls1 := [_, some _, _]) dX7_takeDigits_44 rfl (by decide) rfl ?_
          refine wp_goto dX7_takeDigits_47 ?_
          have w9 := zr1_10
          rw [(tx1.2.2.2 i (by omega)).ed e9, ← wd_s hi.1] at w9
          refine ih _ (i + 1) ⟨by omega, by omega⟩ (hf1.tr f10) w9 (fun j hj hj2 => ?_) (by omega)
          by_cases c9 : j = i
          · rw [c9]; exact e9
          · exact hp j hj (by omega)
        · have e9 := (tx1.2.2.2 i (by omega)).dg.symm.trans t9
          intro _ _
          refine wp_if_eq dX7_takeDigits_22 (fun _ => ?_) (fun q => absurd q (by decide +kernel))
          have er9 := rn_of hi.1 hi.2 hp (Or.inr ⟨by omega, e9⟩)
          subst er9
          refine wp_aload_n dX7_takeDigits_50 rfl rfl ?_
          refine wp_iload_n dX7_takeDigits_51 rfl rfl ?_
          refine wp_putI dX7_takeDigits_52 lX7_75 rfl (Or.inl rfl) zr1.o rfl rfl ?_
          refine zr1.p9 (fun hh11 f11 zr1_11 => ?_)
          have tx1_11 := tx1.fr f11 (rnS (by omega) rn0)
          refine wp_iload_n dX7_takeDigits_55 rfl rfl ?_
          refine wp_aload_n dX7_takeDigits_56 rfl rfl ?_
          refine wp_getIV dX7_takeDigits_57 lX7_72 rfl zr1_11.o zr1_11.f7 ?_
          refine wp_icmp_geN dX7_takeDigits_60 rfl rfl ⟨by omega, by omega⟩ (fun c16 => ?_) (fun c16 => ?_)
          · refine wp_iconst (v := (nI 0)) dX7_takeDigits_79 (by decide +kernel) ?_
            refine wp_istore_n (ls1 := [_, _, some _]) dX7_takeDigits_80 rfl (by decide) rfl ?_
            refine wp_aload_n dX7_takeDigits_81 rfl rfl ?_
            refine wp_aload_n dX7_takeDigits_82 rfl rfl ?_
            refine wp_getIV dX7_takeDigits_83 lX7_75 rfl zr1_11.o zr1_11.f9 ?_
            refine wp_aload_n dX7_takeDigits_86 rfl rfl ?_
            refine wp_getIV dX7_takeDigits_87 lX7_84 rfl zr1_11.o zr1_11.f8 ?_
            refine wp_isub dX7_takeDigits_90 ?_
            refine wp_iconst (v := (nI 4)) dX7_takeDigits_91 (by decide +kernel) ?_
            refine wp_icmp_gtN dX7_takeDigits_92 (isN_sub rfl rfl (by omega)) rfl ⟨by omega, by omega⟩ (fun cz => ?_) (fun cz => ?_)
            · refine wp_iconst (v := (nI 4)) dX7_takeDigits_103 (by decide +kernel) ?_
              refine wp_putI dX7_takeDigits_104 lX7_39 rfl (Or.inl rfl) zr1_11.o rfl rfl ?_
              refine zr1_11.p10 (fun hh12 f12 zr1_12 => ?_)
              have tx1_12 := tx1_11.fr f12 (rnS (by omega) rn0)
              refine wp_vreturn dX7_takeDigits_107 rfl ?_
              exact hq _ (((hf1.up (by decide) (Nat.le_refl _)).tr (f11.up (by decide) (Nat.le_refl _))).tr (f12.up (by decide) (Nat.le_refl _))) (by first | (rw [show (if 4 < (rn isDg tp N k) - k ∨ isLt (hr tp N (rn isDg tp N k)) = true then nI 4 else nI 1) = nI 4 from if_pos (by first | exact Or.inl (by omega) | exact Or.inr (by rw [hr_lt (by omega)]; assumption))]; exact zr1_12) | (rw [show (if 4 < (rn isDg tp N k) - k ∨ isLt (hr tp N (rn isDg tp N k)) = true then nI 4 else nI 1) = nI 1 from if_neg (fun z9 => z9.elim (fun y => by omega) (fun y => hr_no (fun q9 => by first | assumption | omega) y))]; exact zr1_12))
            · refine wp_iload_n dX7_takeDigits_95 rfl rfl ?_
              refine wp_if_ne dX7_takeDigits_96 (fun q => absurd q (by decide +kernel)) (fun _ => ?_)
              refine wp_iconst (v := (nI 1)) dX7_takeDigits_99 (by decide +kernel) ?_
              refine wp_goto dX7_takeDigits_100 ?_
              refine wp_putI dX7_takeDigits_104 lX7_39 rfl (Or.inl rfl) zr1_11.o rfl rfl ?_
              refine zr1_11.p10 (fun hh13 f13 zr1_13 => ?_)
              have tx1_13 := tx1_11.fr f13 (rnS (by omega) rn0)
              refine wp_vreturn dX7_takeDigits_107 rfl ?_
              exact hq _ (((hf1.up (by decide) (Nat.le_refl _)).tr (f11.up (by decide) (Nat.le_refl _))).tr (f13.up (by decide) (Nat.le_refl _))) (by first | (rw [show (if 4 < (rn isDg tp N k) - k ∨ isLt (hr tp N (rn isDg tp N k)) = true then nI 4 else nI 1) = nI 4 from if_pos (by first | exact Or.inl (by omega) | exact Or.inr (by rw [hr_lt (by omega)]; assumption))]; exact zr1_13) | (rw [show (if 4 < (rn isDg tp N k) - k ∨ isLt (hr tp N (rn isDg tp N k)) = true then nI 4 else nI 1) = nI 1 from if_neg (fun z9 => z9.elim (fun y => by omega) (fun y => hr_no (fun q9 => by first | assumption | omega) y))]; exact zr1_13))
          · refine wp_aload_n dX7_takeDigits_63 rfl rfl ?_
            refine wp_getR dX7_takeDigits_64 lX7_27 rfl zr1_11.o zr1_11.f6 ?_
            refine wp_iload_n dX7_takeDigits_67 rfl rfl ?_
            refine wp_baldN dX7_takeDigits_68 tx1_11.1 rfl ⟨by omega, by omega⟩ ?_
            refine wp_cSN1 0 0 [some _] dX7_takeDigits_69 tX11_isLetter sX11_isLetter lX7_129 ⟨by decide, by decide⟩ (Nat.le_of_ble_eq_true rfl) (Nat.le_of_ble_eq_true rfl) rfl ?_
            refine pX11_isLetter (fun t14 => ?_) (fun t14 => ?_)
            · have e14 := (tx1_11.2.2.2 (rn isDg tp N k) (by omega)).lt.symm.trans t14
              intro _ _
              refine wp_if_eq dX7_takeDigits_72 (fun q => absurd q (by decide +kernel)) (fun _ => ?_)
              refine wp_iconst (v := (nI 1)) dX7_takeDigits_75 (by decide +kernel) ?_
              refine wp_goto dX7_takeDigits_76 ?_
              refine wp_istore_n (ls1 := [_, _, some _]) dX7_takeDigits_80 rfl (by decide) rfl ?_
              refine wp_aload_n dX7_takeDigits_81 rfl rfl ?_
              refine wp_aload_n dX7_takeDigits_82 rfl rfl ?_
              refine wp_getIV dX7_takeDigits_83 lX7_75 rfl zr1_11.o zr1_11.f9 ?_
              refine wp_aload_n dX7_takeDigits_86 rfl rfl ?_
              refine wp_getIV dX7_takeDigits_87 lX7_84 rfl zr1_11.o zr1_11.f8 ?_
              refine wp_isub dX7_takeDigits_90 ?_
              refine wp_iconst (v := (nI 4)) dX7_takeDigits_91 (by decide +kernel) ?_
              refine wp_icmp_gtN dX7_takeDigits_92 (isN_sub rfl rfl (by omega)) rfl ⟨by omega, by omega⟩ (fun cz => ?_) (fun cz => ?_)
              · refine wp_iconst (v := (nI 4)) dX7_takeDigits_103 (by decide +kernel) ?_
                refine wp_putI dX7_takeDigits_104 lX7_39 rfl (Or.inl rfl) zr1_11.o rfl rfl ?_
                refine zr1_11.p10 (fun hh15 f15 zr1_15 => ?_)
                have tx1_15 := tx1_11.fr f15 (rnS (by omega) rn0)
                refine wp_vreturn dX7_takeDigits_107 rfl ?_
                exact hq _ (((hf1.up (by decide) (Nat.le_refl _)).tr (f11.up (by decide) (Nat.le_refl _))).tr (f15.up (by decide) (Nat.le_refl _))) (by first | (rw [show (if 4 < (rn isDg tp N k) - k ∨ isLt (hr tp N (rn isDg tp N k)) = true then nI 4 else nI 1) = nI 4 from if_pos (by first | exact Or.inl (by omega) | exact Or.inr (by rw [hr_lt (by omega)]; assumption))]; exact zr1_15) | (rw [show (if 4 < (rn isDg tp N k) - k ∨ isLt (hr tp N (rn isDg tp N k)) = true then nI 4 else nI 1) = nI 1 from if_neg (fun z9 => z9.elim (fun y => by omega) (fun y => hr_no (fun q9 => by first | assumption | omega) y))]; exact zr1_15))
              · refine wp_iload_n dX7_takeDigits_95 rfl rfl ?_
                refine wp_if_ne dX7_takeDigits_96 (fun _ => ?_) (fun q => absurd q (by decide +kernel))
                refine wp_iconst (v := (nI 4)) dX7_takeDigits_103 (by decide +kernel) ?_
                refine wp_putI dX7_takeDigits_104 lX7_39 rfl (Or.inl rfl) zr1_11.o rfl rfl ?_
                refine zr1_11.p10 (fun hh16 f16 zr1_16 => ?_)
                have tx1_16 := tx1_11.fr f16 (rnS (by omega) rn0)
                refine wp_vreturn dX7_takeDigits_107 rfl ?_
                exact hq _ (((hf1.up (by decide) (Nat.le_refl _)).tr (f11.up (by decide) (Nat.le_refl _))).tr (f16.up (by decide) (Nat.le_refl _))) (by first | (rw [show (if 4 < (rn isDg tp N k) - k ∨ isLt (hr tp N (rn isDg tp N k)) = true then nI 4 else nI 1) = nI 4 from if_pos (by first | exact Or.inl (by omega) | exact Or.inr (by rw [hr_lt (by omega)]; assumption))]; exact zr1_16) | (rw [show (if 4 < (rn isDg tp N k) - k ∨ isLt (hr tp N (rn isDg tp N k)) = true then nI 4 else nI 1) = nI 1 from if_neg (fun z9 => z9.elim (fun y => by omega) (fun y => hr_no (fun q9 => by first | assumption | omega) y))]; exact zr1_16))
            · have e14 := (tx1_11.2.2.2 (rn isDg tp N k) (by omega)).lt.symm.trans t14
              intro _ _
              refine wp_if_eq dX7_takeDigits_72 (fun _ => ?_) (fun q => absurd q (by decide +kernel))
              refine wp_iconst (v := (nI 0)) dX7_takeDigits_79 (by decide +kernel) ?_
              refine wp_istore_n (ls1 := [_, _, some _]) dX7_takeDigits_80 rfl (by decide) rfl ?_
              refine wp_aload_n dX7_takeDigits_81 rfl rfl ?_
              refine wp_aload_n dX7_takeDigits_82 rfl rfl ?_
              refine wp_getIV dX7_takeDigits_83 lX7_75 rfl zr1_11.o zr1_11.f9 ?_
              refine wp_aload_n dX7_takeDigits_86 rfl rfl ?_
              refine wp_getIV dX7_takeDigits_87 lX7_84 rfl zr1_11.o zr1_11.f8 ?_
              refine wp_isub dX7_takeDigits_90 ?_
              refine wp_iconst (v := (nI 4)) dX7_takeDigits_91 (by decide +kernel) ?_
              refine wp_icmp_gtN dX7_takeDigits_92 (isN_sub rfl rfl (by omega)) rfl ⟨by omega, by omega⟩ (fun cz => ?_) (fun cz => ?_)
              · refine wp_iconst (v := (nI 4)) dX7_takeDigits_103 (by decide +kernel) ?_
                refine wp_putI dX7_takeDigits_104 lX7_39 rfl (Or.inl rfl) zr1_11.o rfl rfl ?_
                refine zr1_11.p10 (fun hh17 f17 zr1_17 => ?_)
                have tx1_17 := tx1_11.fr f17 (rnS (by omega) rn0)
                refine wp_vreturn dX7_takeDigits_107 rfl ?_
                exact hq _ (((hf1.up (by decide) (Nat.le_refl _)).tr (f11.up (by decide) (Nat.le_refl _))).tr (f17.up (by decide) (Nat.le_refl _))) (by first | (rw [show (if 4 < (rn isDg tp N k) - k ∨ isLt (hr tp N (rn isDg tp N k)) = true then nI 4 else nI 1) = nI 4 from if_pos (by first | exact Or.inl (by omega) | exact Or.inr (by rw [hr_lt (by omega)]; assumption))]; exact zr1_17) | (rw [show (if 4 < (rn isDg tp N k) - k ∨ isLt (hr tp N (rn isDg tp N k)) = true then nI 4 else nI 1) = nI 1 from if_neg (fun z9 => z9.elim (fun y => by omega) (fun y => hr_no (fun q9 => by first | assumption | omega) y))]; exact zr1_17))
              · refine wp_iload_n dX7_takeDigits_95 rfl rfl ?_
                refine wp_if_ne dX7_takeDigits_96 (fun q => absurd q (by decide +kernel)) (fun _ => ?_)
                refine wp_iconst (v := (nI 1)) dX7_takeDigits_99 (by decide +kernel) ?_
                refine wp_goto dX7_takeDigits_100 ?_
                refine wp_putI dX7_takeDigits_104 lX7_39 rfl (Or.inl rfl) zr1_11.o rfl rfl ?_
                refine zr1_11.p10 (fun hh18 f18 zr1_18 => ?_)
                have tx1_18 := tx1_11.fr f18 (rnS (by omega) rn0)
                refine wp_vreturn dX7_takeDigits_107 rfl ?_
                exact hq _ (((hf1.up (by decide) (Nat.le_refl _)).tr (f11.up (by decide) (Nat.le_refl _))).tr (f18.up (by decide) (Nat.le_refl _))) (by first | (rw [show (if 4 < (rn isDg tp N k) - k ∨ isLt (hr tp N (rn isDg tp N k)) = true then nI 4 else nI 1) = nI 4 from if_pos (by first | exact Or.inl (by omega) | exact Or.inr (by rw [hr_lt (by omega)]; assumption))]; exact zr1_18) | (rw [show (if 4 < (rn isDg tp N k) - k ∨ isLt (hr tp N (rn isDg tp N k)) = true then nI 4 else nI 1) = nI 1 from if_neg (fun z9 => z9.elim (fun y => by omega) (fun y => hr_no (fun q9 => by first | assumption | omega) y))]; exact zr1_18))
  refine wp_aload_n dX7_takeDigits_0 rfl rfl ?_
  refine wp_getIV dX7_takeDigits_1 lX7_84 rfl zr.o zr.f8 ?_
  refine wp_istore_n (ls1 := [_, some _, _]) dX7_takeDigits_4 rfl (by decide) rfl ?_
  exact hlp (N + 1) h k ⟨Nat.le_refl _, hk⟩ cFr.rf (by rw [wd_0]; exact zr) (fun j hj hj2 => by omega) (by omega)
