/-! ===== the reader: what a token is; refused; fields found and added; a text opened ===== -/
def rkN (s : Nat) : Nat := if s = 0 then 3 else if s = 4 then 4 else s - 1
theorem kC_n (s : Nat) : kC s = nI (rkN s) := by
  unfold kC rkN
  by_cases c : s = 0
  · rw [if_pos c, if_pos c]
  · rw [if_neg c, if_neg c]
    by_cases d : s = 4
    · rw [if_pos d, if_pos d]
    · rw [if_neg d, if_neg d]
theorem rkN_c {s : Nat} (h : s ≤ 4) : (s = 0 ∧ rkN s = 3) ∨ (s = 1 ∧ rkN s = 0) ∨ (s = 2 ∧ rkN s = 1) ∨ (s = 3 ∧ rkN s = 2) ∨ (s = 4 ∧ rkN s = 4) := by
  rcases (by omega : s = 0 ∨ s = 1 ∨ s = 2 ∨ s = 3 ∨ s = 4) with rfl | rfl | rfl | rfl | rfl <;> decide
theorem tPE {tb : Nat → Int32} {N a : Nat} (h : a ≤ N) : tP tb N a ≤ tE tb N a ∧ tE tb N a ≤ N ∧ tP tb N a ≤ N := by
  have h1 := tP_le (tb := tb) h
  refine ⟨?_, (tE_le h).2.1, h1.2⟩
  unfold tE
  by_cases c1 : N ≤ tP tb N a
  · rw [if_pos c1]; exact Nat.le_refl _
  · rw [if_neg c1]
    by_cases c2 : isLt (tb (tP tb N a)) = true
    · rw [if_pos c2]; exact (rn_ge h1.2).1
    · rw [if_neg c2]
      by_cases c3 : isDg (tb (tP tb N a)) = true
      · rw [if_pos c3]; exact (rn_ge h1.2).1
      · rw [if_neg c3]; omega
theorem isPT_of {tb : Nat → Int32} {N a : Nat} (h : tS tb N a = 1 ∨ tS tb N a = 2 ∨ tS tb N a = 3) (e1 : isWd tb N a tWe = false) (e2 : isSm tb N a = false) : isPT tb N a = true := by
  refine decide_eq_true ?_
  rcases h with h | h | h
  · exact Or.inl ⟨h, fun z => of_decide_eq_false e1 ⟨h, z⟩⟩
  · exact Or.inr (Or.inl h)
  · exact Or.inr (Or.inr ⟨h, fun z => of_decide_eq_false e2 ⟨h, z⟩⟩)
theorem isPT_n1 {tb : Nat → Int32} {N a : Nat} (h : tS tb N a = 0 ∨ tS tb N a = 4) : isPT tb N a = false := decide_eq_false (fun z => by omega)
theorem isPT_n2 {tb : Nat → Int32} {N a : Nat} (e : isWd tb N a tWe = true) : isPT tb N a = false := decide_eq_false (fun z => by
  have := of_decide_eq_true e
  rcases z with z | z | z
  · exact z.2 this.2
  · omega
  · omega)
theorem isPT_n3 {tb : Nat → Int32} {N a : Nat} (e : isSm tb N a = true) : isPT tb N a = false := decide_eq_false (fun z => by
  have := of_decide_eq_true e
  rcases z with z | z | z
  · omega
  · omega
  · exact z.2 this.2)
set_option maxRecDepth 20000 in
theorem pX7_isWord {h : mH} {Q : Option Value → mH → Prop} {ow : Nat → Nat} {rc : Nat → Int32} {rp rf rl : Int32} {rq : Option Nat} {tp : Nat → Int32} {N a : Nat} {x : Int64} (g : rS ow h rc rp rq rf rl tp N a) (ht : isWd tp N a x = true → Q (some (.int (nI 1))) h) (hf : isWd tp N a x = false → Q (some (.int (nI 0))) h) : Wp mX7_isWord 0 0 0 [some (.ref 6), some (.long x), none] [] h Q := by
  obtain ⟨w0, zr, hw⟩ := id g
  rw [kC_n] at zr
  have hk := rkN_c (tS_le (tb := tp) (N := N) (a := a))
  refine wp_aload_n dX7_isWord_0 rfl rfl ?_
  refine wp_getIV dX7_isWord_1 lX7_39 rfl zr.o zr.f10 ?_
  refine wp_if_neN dX7_isWord_4 rfl (by omega) (fun c1 => ?_) (fun c1 => ?_)
  · refine wp_iconst (v := (nI 0)) dX7_isWord_20 (by decide +kernel) ?_
    refine wp_zreturn dX7_isWord_21 rfl (by first | exact Or.inl rfl | exact Or.inr rfl) ?_
    exact hf (decide_eq_false (fun z9 => by
      obtain ⟨z1, z2⟩ := z9
      first
        | omega
        | exact absurd ((hw (by omega) (by omega)).trans z2) (by assumption)))
  · refine wp_aload_n dX7_isWord_7 rfl rfl ?_
    refine wp_getLV dX7_isWord_8 lX7_91 rfl zr.o zr.f11 ?_
    refine wp_lload_n dX7_isWord_11 rfl rfl ?_
    refine wp_lc_ne dX7_isWord_12 dX7_isWord_13 (fun c2 => ?_) (fun c2 => ?_)
    · refine wp_iconst (v := (nI 0)) dX7_isWord_20 (by decide +kernel) ?_
      refine wp_zreturn dX7_isWord_21 rfl (by first | exact Or.inl rfl | exact Or.inr rfl) ?_
      exact hf (decide_eq_false (fun z9 => by
        obtain ⟨z1, z2⟩ := z9
        first
          | omega
          | exact absurd ((hw (by omega) (by omega)).trans z2) (by assumption)))
    · refine wp_iconst (v := (nI 1)) dX7_isWord_16 (by decide +kernel) ?_
      refine wp_goto dX7_isWord_17 ?_
      refine wp_zreturn dX7_isWord_21 rfl (by first | exact Or.inl rfl | exact Or.inr rfl) ?_
      exact ht (decide_eq_true ⟨by omega, (hw (by omega) (by omega)).symm.trans (by assumption)⟩)
set_option maxRecDepth 20000 in
theorem pX7_isSemicolon {h : mH} {Q : Option Value → mH → Prop} {ow : Nat → Nat} {rc : Nat → Int32} {rp rf rl : Int32} {rq : Option Nat} {tp : Nat → Int32} {N a : Nat} (g : rS ow h rc rp rq rf rl tp N a) (ht : isSm tp N a = true → Q (some (.int (nI 1))) h) (hf : isSm tp N a = false → Q (some (.int (nI 0))) h) : Wp mX7_isSemicolon 0 0 0 [some (.ref 6)] [] h Q := by
  obtain ⟨w0, zr, hw⟩ := id g
  rw [kC_n] at zr
  have hk := rkN_c (tS_le (tb := tp) (N := N) (a := a))
  refine wp_aload_n dX7_isSemicolon_0 rfl rfl ?_
  refine wp_getIV dX7_isSemicolon_1 lX7_39 rfl zr.o zr.f10 ?_
  refine wp_iconst (v := (nI 2)) dX7_isSemicolon_4 (by decide +kernel) ?_
  refine wp_icmp_neN dX7_isSemicolon_5 rfl rfl ⟨by omega, by omega⟩ (fun c1 => ?_) (fun c1 => ?_)
  · refine wp_iconst (v := (nI 0)) dX7_isSemicolon_23 (by decide +kernel) ?_
    refine wp_zreturn dX7_isSemicolon_24 rfl (by first | exact Or.inl rfl | exact Or.inr rfl) ?_
    exact hf (decide_eq_false (fun z9 => by
      obtain ⟨z1, z2⟩ := z9
      first
        | omega
        | exact absurd ((hw (by omega) (by omega)).trans z2) (by assumption)))
  · refine wp_aload_n dX7_isSemicolon_8 rfl rfl ?_
    refine wp_getLV dX7_isSemicolon_9 lX7_91 rfl zr.o zr.f11 ?_
    refine wp_ldc2 dX7_isSemicolon_12 lX7_127 ?_
    refine wp_lc_ne dX7_isSemicolon_15 dX7_isSemicolon_16 (fun c2 => ?_) (fun c2 => ?_)
    · refine wp_iconst (v := (nI 0)) dX7_isSemicolon_23 (by decide +kernel) ?_
      refine wp_zreturn dX7_isSemicolon_24 rfl (by first | exact Or.inl rfl | exact Or.inr rfl) ?_
      exact hf (decide_eq_false (fun z9 => by
        obtain ⟨z1, z2⟩ := z9
        first
          | omega
          | exact absurd ((hw (by omega) (by omega)).trans z2) (by assumption)))
    · refine wp_iconst (v := (nI 1)) dX7_isSemicolon_19 (by decide +kernel) ?_
      refine wp_goto dX7_isSemicolon_20 ?_
      refine wp_zreturn dX7_isSemicolon_24 rfl (by first | exact Or.inl rfl | exact Or.inr rfl) ?_
      exact ht (decide_eq_true ⟨by omega, (hw (by omega) (by omega)).symm.trans (by assumption)⟩)
set_option maxRecDepth 20000 in
theorem pX7_isOfPage {h : mH} {Q : Option Value → mH → Prop} {ow : Nat → Nat} {rc : Nat → Int32} {rp rf rl : Int32} {rq : Option Nat} {tp : Nat → Int32} {N a : Nat} (g : rS ow h rc rp rq rf rl tp N a) (ht : isPT tp N a = true → Q (some (.int (nI 1))) h) (hf : isPT tp N a = false → Q (some (.int (nI 0))) h) : Wp mX7_isOfPage 1 22 0 [some (.ref 6)] [] h Q := by
  obtain ⟨w0, zr, hw⟩ := id g
  rw [kC_n] at zr
  have hk := rkN_c (tS_le (tb := tp) (N := N) (a := a))
  refine wp_aload_n dX7_isOfPage_0 rfl rfl ?_
  refine wp_getIV dX7_isOfPage_1 lX7_39 rfl zr.o zr.f10 ?_
  refine wp_iconst (v := (nI 2)) dX7_isOfPage_4 (by decide +kernel) ?_
  refine wp_icmp_gtN dX7_isOfPage_5 rfl rfl ⟨by omega, by omega⟩ (fun c2 => ?_) (fun c2 => ?_)
  · refine wp_iconst (v := (nI 0)) dX7_isOfPage_29 (by decide +kernel) ?_
    refine wp_zreturn dX7_isOfPage_30 rfl (by first | exact Or.inl rfl | exact Or.inr rfl) ?_
    exact hf (isPT_n1 (by omega))
  · refine wp_aload_n dX7_isOfPage_8 rfl rfl ?_
    refine wp_ldc2 dX7_isOfPage_9 lX7_125 ?_
    refine wp_cV1 0 0 [some _, some _, none] dX7_isOfPage_12 tX7_isWord rfl (by decide) nX7_isWord vX7_isWord lX7_44 ⟨by decide, by decide⟩ (Nat.le_of_ble_eq_true rfl) zr.o (Nat.le_of_ble_eq_true rfl) rfl ?_
    refine pX7_isWord (x := tWe) g (fun e1 => ?_) (fun e1 => ?_)
    · intro _ _
      refine wp_if_ne dX7_isOfPage_15 (fun _ => ?_) (fun q => absurd q (by decide +kernel))
      refine wp_iconst (v := (nI 0)) dX7_isOfPage_29 (by decide +kernel) ?_
      refine wp_zreturn dX7_isOfPage_30 rfl (by first | exact Or.inl rfl | exact Or.inr rfl) ?_
      exact hf (isPT_n2 e1)
    · intro _ _
      refine wp_if_ne dX7_isOfPage_15 (fun q => absurd q (by decide +kernel)) (fun _ => ?_)
      refine wp_aload_n dX7_isOfPage_18 rfl rfl ?_
      refine wp_cV0 0 0 [some _] dX7_isOfPage_19 tX7_isSemicolon rfl (by decide) nX7_isSemicolon vX7_isSemicolon lX7_115 ⟨by decide, by decide⟩ (Nat.le_of_ble_eq_true rfl) zr.o (Nat.le_of_ble_eq_true rfl) rfl ?_
      refine pX7_isSemicolon g (fun e2 => ?_) (fun e2 => ?_)
      · intro _ _
        refine wp_if_ne dX7_isOfPage_22 (fun _ => ?_) (fun q => absurd q (by decide +kernel))
        refine wp_iconst (v := (nI 0)) dX7_isOfPage_29 (by decide +kernel) ?_
        refine wp_zreturn dX7_isOfPage_30 rfl (by first | exact Or.inl rfl | exact Or.inr rfl) ?_
        exact hf (isPT_n3 e2)
      · intro _ _
        refine wp_if_ne dX7_isOfPage_22 (fun q => absurd q (by decide +kernel)) (fun _ => ?_)
        refine wp_iconst (v := (nI 1)) dX7_isOfPage_25 (by decide +kernel) ?_
        refine wp_goto dX7_isOfPage_26 ?_
        refine wp_zreturn dX7_isOfPage_30 rfl (by first | exact Or.inl rfl | exact Or.inr rfl) ?_
        exact ht (isPT_of (by omega) e1 e2)
set_option maxRecDepth 20000 in
theorem pX7_isName {h : mH} {Q : Option Value → mH → Prop} {ow : Nat → Nat} {rc : Nat → Int32} {rp rf rl : Int32} {rq : Option Nat} {tp : Nat → Int32} {N a : Nat} (g : rS ow h rc rp rq rf rl tp N a) (ha : a ≤ N) (hN9 : N ≤ 900) (ht : isNm tp N a = true → Q (some (.int (nI 1))) h) (hf : isNm tp N a = false → Q (some (.int (nI 0))) h) : Wp mX7_isName 0 0 0 [some (.ref 6)] [] h Q := by
  obtain ⟨w0, zr, hw⟩ := id g
  rw [kC_n] at zr
  have hk := rkN_c (tS_le (tb := tp) (N := N) (a := a))
  have hpe := tPE (tb := tp) ha
  refine wp_aload_n dX7_isName_0 rfl rfl ?_
  refine wp_getIV dX7_isName_1 lX7_39 rfl zr.o zr.f10 ?_
  refine wp_if_neN dX7_isName_4 rfl (by omega) (fun c1 => ?_) (fun c1 => ?_)
  · refine wp_iconst (v := (nI 0)) dX7_isName_21 (by decide +kernel) ?_
    refine wp_zreturn dX7_isName_22 rfl (by first | exact Or.inl rfl | exact Or.inr rfl) ?_
    exact hf (decide_eq_false (fun z9 => by
      obtain ⟨z1, z2, z3, z4, z5, z6, z7⟩ := z9
      first
        | omega
        | (have e9 := hw (by omega) (by omega); subst e9; first | exact z3 (by assumption) | exact z4 (by assumption) | exact z5 (by assumption) | exact z6 (by assumption) | exact z7 (by assumption))))
  · refine wp_aload_n dX7_isName_7 rfl rfl ?_
    refine wp_getIV dX7_isName_8 lX7_75 rfl zr.o zr.f9 ?_
    refine wp_aload_n dX7_isName_11 rfl rfl ?_
    refine wp_getIV dX7_isName_12 lX7_84 rfl zr.o zr.f8 ?_
    refine wp_isub dX7_isName_15 ?_
    refine wp_bipush (v := (nI 7)) dX7_isName_16 (by decide +kernel) ?_
    refine wp_icmp_leN dX7_isName_18 (isN_sub rfl rfl hpe.1) rfl ⟨by omega, by omega⟩ (fun cl9 => ?_) (fun cl9 => ?_)
    · refine wp_aload_n dX7_isName_23 rfl rfl ?_
      refine wp_getLV dX7_isName_24 lX7_91 rfl zr.o zr.f11 ?_
      refine wp_ldc2 dX7_isName_27 lX7_42 ?_
      refine wp_lc_eq dX7_isName_30 dX7_isName_31 (fun c3 => ?_) (fun c3 => ?_)
      · refine wp_iconst (v := (nI 0)) dX7_isName_82 (by decide +kernel) ?_
        refine wp_zreturn dX7_isName_83 rfl (by first | exact Or.inl rfl | exact Or.inr rfl) ?_
        exact hf (decide_eq_false (fun z9 => by
          obtain ⟨z1, z2, z3, z4, z5, z6, z7⟩ := z9
          first
            | omega
            | (have e9 := hw (by omega) (by omega); subst e9; first | exact z3 (by assumption) | exact z4 (by assumption) | exact z5 (by assumption) | exact z6 (by assumption) | exact z7 (by assumption))))
      · refine wp_aload_n dX7_isName_34 rfl rfl ?_
        refine wp_getLV dX7_isName_35 lX7_91 rfl zr.o zr.f11 ?_
        refine wp_ldc2 dX7_isName_38 lX7_54 ?_
        refine wp_lc_eq dX7_isName_41 dX7_isName_42 (fun c4 => ?_) (fun c4 => ?_)
        · refine wp_iconst (v := (nI 0)) dX7_isName_82 (by decide +kernel) ?_
          refine wp_zreturn dX7_isName_83 rfl (by first | exact Or.inl rfl | exact Or.inr rfl) ?_
          exact hf (decide_eq_false (fun z9 => by
            obtain ⟨z1, z2, z3, z4, z5, z6, z7⟩ := z9
            first
              | omega
              | (have e9 := hw (by omega) (by omega); subst e9; first | exact z3 (by assumption) | exact z4 (by assumption) | exact z5 (by assumption) | exact z6 (by assumption) | exact z7 (by assumption))))
        · refine wp_aload_n dX7_isName_45 rfl rfl ?_
          refine wp_getLV dX7_isName_46 lX7_91 rfl zr.o zr.f11 ?_
          refine wp_ldc2 dX7_isName_49 lX7_99 ?_
          refine wp_lc_eq dX7_isName_52 dX7_isName_53 (fun c5 => ?_) (fun c5 => ?_)
          · refine wp_iconst (v := (nI 0)) dX7_isName_82 (by decide +kernel) ?_
            refine wp_zreturn dX7_isName_83 rfl (by first | exact Or.inl rfl | exact Or.inr rfl) ?_
            exact hf (decide_eq_false (fun z9 => by
              obtain ⟨z1, z2, z3, z4, z5, z6, z7⟩ := z9
              first
                | omega
                | (have e9 := hw (by omega) (by omega); subst e9; first | exact z3 (by assumption) | exact z4 (by assumption) | exact z5 (by assumption) | exact z6 (by assumption) | exact z7 (by assumption))))
          · refine wp_aload_n dX7_isName_56 rfl rfl ?_
            refine wp_getLV dX7_isName_57 lX7_91 rfl zr.o zr.f11 ?_
            refine wp_ldc2 dX7_isName_60 lX7_113 ?_
            refine wp_lc_eq dX7_isName_63 dX7_isName_64 (fun c6 => ?_) (fun c6 => ?_)
            · refine wp_iconst (v := (nI 0)) dX7_isName_82 (by decide +kernel) ?_
              refine wp_zreturn dX7_isName_83 rfl (by first | exact Or.inl rfl | exact Or.inr rfl) ?_
              exact hf (decide_eq_false (fun z9 => by
                obtain ⟨z1, z2, z3, z4, z5, z6, z7⟩ := z9
                first
                  | omega
                  | (have e9 := hw (by omega) (by omega); subst e9; first | exact z3 (by assumption) | exact z4 (by assumption) | exact z5 (by assumption) | exact z6 (by assumption) | exact z7 (by assumption))))
            · refine wp_aload_n dX7_isName_67 rfl rfl ?_
              refine wp_getLV dX7_isName_68 lX7_91 rfl zr.o zr.f11 ?_
              refine wp_ldc2 dX7_isName_71 lX7_125 ?_
              refine wp_lc_eq dX7_isName_74 dX7_isName_75 (fun c7 => ?_) (fun c7 => ?_)
              · refine wp_iconst (v := (nI 0)) dX7_isName_82 (by decide +kernel) ?_
                refine wp_zreturn dX7_isName_83 rfl (by first | exact Or.inl rfl | exact Or.inr rfl) ?_
                exact hf (decide_eq_false (fun z9 => by
                  obtain ⟨z1, z2, z3, z4, z5, z6, z7⟩ := z9
                  first
                    | omega
                    | (have e9 := hw (by omega) (by omega); subst e9; first | exact z3 (by assumption) | exact z4 (by assumption) | exact z5 (by assumption) | exact z6 (by assumption) | exact z7 (by assumption))))
              · refine wp_iconst (v := (nI 1)) dX7_isName_78 (by decide +kernel) ?_
                refine wp_goto dX7_isName_79 ?_
                refine wp_zreturn dX7_isName_83 rfl (by first | exact Or.inl rfl | exact Or.inr rfl) ?_
                have e9 := hw (by omega) (by omega)
                subst e9
                exact ht (decide_eq_true ⟨by omega, by omega, by assumption, by assumption, by assumption, by assumption, by assumption⟩)
    · refine wp_iconst (v := (nI 0)) dX7_isName_21 (by decide +kernel) ?_
      refine wp_zreturn dX7_isName_22 rfl (by first | exact Or.inl rfl | exact Or.inr rfl) ?_
      exact hf (decide_eq_false (fun z9 => by
        obtain ⟨z1, z2, z3, z4, z5, z6, z7⟩ := z9
        first
          | omega
          | (have e9 := hw (by omega) (by omega); subst e9; first | exact z3 (by assumption) | exact z4 (by assumption) | exact z5 (by assumption) | exact z6 (by assumption) | exact z7 (by assumption))))
set_option maxRecDepth 20000 in
theorem pX7_refuse {h : mH} {Q : Option Value → mH → Prop} {ow : Nat → Nat} {rc : Nat → Int32} {rp rf rl : Int32} {rq : Option Nat} {tp : Nat → Int32} {N a : Nat} {k : Nat} (g : rS ow h rc rp rq rf rl tp N a) (hq : ∀ h', cFr [5] 0 ow h ow h' → rS ow h' rc rp rq (nI (bd tp N k a)) (nI (tP tp N a)) tp N a → Q none h') : Wp mX7_refuse 0 0 0 [some (.ref 6), some (.int (nI k))] [] h Q := by
  obtain ⟨w0, zr, hw⟩ := id g
  rw [kC_n] at zr
  have hk := rkN_c (tS_le (tb := tp) (N := N) (a := a))
  refine wp_aload_n dX7_refuse_0 rfl rfl ?_
  refine wp_aload_n dX7_refuse_1 rfl rfl ?_
  refine wp_getIV dX7_refuse_2 lX7_39 rfl zr.o zr.f10 ?_
  refine wp_iconst (v := (nI 4)) dX7_refuse_5 (by decide +kernel) ?_
  refine wp_icmp_neN dX7_refuse_6 rfl rfl ⟨by omega, by omega⟩ (fun c1 => ?_) (fun c1 => ?_)
  · refine wp_iload_n dX7_refuse_13 rfl rfl ?_
    refine wp_putI dX7_refuse_14 lX7_35 rfl (Or.inl rfl) zr.o rfl rfl ?_
    refine zr.p4 (fun hh21 f21 zr_21 => ?_)
    refine wp_aload_n dX7_refuse_17 rfl rfl ?_
    refine wp_aload_n dX7_refuse_18 rfl rfl ?_
    refine wp_getIV dX7_refuse_19 lX7_84 rfl zr_21.o zr_21.f8 ?_
    refine wp_putI dX7_refuse_22 lX7_78 rfl (Or.inl rfl) zr_21.o rfl rfl ?_
    refine zr_21.p5 (fun hh22 f22 zr_22 => ?_)
    refine wp_vreturn dX7_refuse_25 rfl ?_
    have ek9 := kC_n (tS tp N a)
    exact hq _ ((f21.up (by decide) (Nat.le_refl _)).tr (f22.up (by decide) (Nat.le_refl _))) ⟨w0, by rw [kC_n]; first | (rw [show bd tp N k a = 1 from if_pos (by omega)]; exact zr_22) | (rw [show bd tp N k a = k from if_neg (by omega)]; exact zr_22), hw⟩
  · refine wp_iconst (v := (nI 1)) dX7_refuse_9 (by decide +kernel) ?_
    refine wp_goto dX7_refuse_10 ?_
    refine wp_putI dX7_refuse_14 lX7_35 rfl (Or.inl rfl) zr.o rfl rfl ?_
    refine zr.p4 (fun hh23 f23 zr_23 => ?_)
    refine wp_aload_n dX7_refuse_17 rfl rfl ?_
    refine wp_aload_n dX7_refuse_18 rfl rfl ?_
    refine wp_getIV dX7_refuse_19 lX7_84 rfl zr_23.o zr_23.f8 ?_
    refine wp_putI dX7_refuse_22 lX7_78 rfl (Or.inl rfl) zr_23.o rfl rfl ?_
    refine zr_23.p5 (fun hh24 f24 zr_24 => ?_)
    refine wp_vreturn dX7_refuse_25 rfl ?_
    have ek9 := kC_n (tS tp N a)
    exact hq _ ((f23.up (by decide) (Nat.le_refl _)).tr (f24.up (by decide) (Nat.le_refl _))) ⟨w0, by rw [kC_n]; first | (rw [show bd tp N k a = 1 from if_pos (by omega)]; exact zr_24) | (rw [show bd tp N k a = k from if_neg (by omega)]; exact zr_24), hw⟩
set_option maxRecDepth 20000 in
theorem pX1_find {h : mH} {Q : Option Value → mH → Prop} {ow : Nat → Nat} {q f : Nat} {nm : Nat → Int64} {rp mn : Nat → Int32} {x : Int64} (zf : zF ow h q 16 nm rp mn (nI f)) (hf4 : f ≤ 4) (hs : ∀ j, fdN nm f x = some j → Q (some (.int (nI j))) h) (hn : fdN nm f x = none → Q (some (.int (-1))) h) : Wp mX1_find 0 0 0 [some (.ref q), some (.long x), none, none] [] h Q := by
  have hlp : ∀  (t9 : Nat) (i : Nat), (i ≤ f) → (∀ j, j < i → ¬ nm j = x) → (f < i + t9) → Wp mX1_find 0 0 2 [some (.ref q), some (.long x), none, some (.int (nI i))] [] h Q := by
    intro t9
    induction t9 with
    | zero => intros; omega
    | succ t9 ih =>
      intro i hi hno hmz
      refine wp_iload_n dX1_find_2 rfl rfl ?_
      refine wp_aload_n dX1_find_3 rfl rfl ?_
      refine wp_getIV dX1_find_4 lX1_23 rfl zf.o zf.f3 ?_
      refine wp_icmp_geN dX1_find_7 rfl rfl ⟨by omega, by omega⟩ (fun c2 => ?_) (fun c2 => ?_)
      · refine wp_iconst (v := (-1)) dX1_find_29 (by decide +kernel) ?_
        refine wp_ireturn dX1_find_30 rfl ?_
        exact hn (fdN_no (fun j hj => hno j (by omega)))
      · refine wp_aload_n dX1_find_10 rfl rfl ?_
        refine wp_getR dX1_find_11 lX1_9 rfl zf.o zf.r0 ?_
        refine wp_iload_n dX1_find_14 rfl rfl ?_
        refine wp_laldV dX1_find_15 zf.a0 rfl ⟨by omega, by omega⟩ (congrFun zf.c0 _) ?_
        refine wp_lload_n dX1_find_16 rfl rfl ?_
        refine wp_lc_ne dX1_find_17 dX1_find_18 (fun c3 => ?_) (fun c3 => ?_)
        · refine wp_iinc1 (ls1 := [_, _, _, some _]) dX1_find_23 rfl (by decide) rfl ?_
          refine wp_goto dX1_find_26 ?_
          exact ih (i + 1) (by omega) (fun j hj => by
            by_cases c9 : j = i
            · subst c9; assumption
            · exact hno j (by omega)) (by omega)
        · refine wp_iload_n dX1_find_21 rfl rfl ?_
          refine wp_ireturn dX1_find_22 rfl ?_
          exact hs i (fdN_of (by omega) (by assumption) hno)
  refine wp_iconst (v := (nI 0)) dX1_find_0 (by decide +kernel) ?_
  refine wp_istore_n (ls1 := [_, _, _, some _]) dX1_find_1 rfl (by decide) rfl ?_
  exact hlp (f + 1) 0 (Nat.zero_le _) (fun j hj => absurd hj (Nat.not_lt_zero j)) (by omega)
set_option maxRecDepth 20000 in
theorem pX1_add {h : mH} {Q : Option Value → mH → Prop} {ow : Nat → Nat} {q f : Nat} {nm : Nat → Int64} {rp mn : Nat → Int32} {x : Int64} {p m : Int32} (zf : zF ow h q 16 nm rp mn (nI f)) (hf4 : f < 4) (hm : m = 0 ∨ m = 1) (hq : ∀ h', cFr [16] 0 ow h ow h' → zF ow h' q 16 (up1 nm f x) (upI rp f p) (upI mn f m) (nI (f + 1)) → Q none h') : Wp mX1_add 0 0 0 [some (.ref q), some (.long x), none, some (.int p), some (.int m)] [] h Q := by
  refine wp_aload_n dX1_add_0 rfl rfl ?_
  refine wp_getIV dX1_add_1 lX1_23 rfl zf.o zf.f3 ?_
  refine wp_iconst (v := (nI 4)) dX1_add_4 (by decide +kernel) ?_
  refine wp_icmp_geN dX1_add_5 rfl rfl ⟨by omega, by omega⟩ (fun c2 => ?_) (fun c2 => ?_)
  · refine wp_vreturn dX1_add_49 rfl ?_
    exact absurd hf4 (by omega)
  · refine wp_aload_n dX1_add_8 rfl rfl ?_
    refine wp_getR dX1_add_9 lX1_9 rfl zf.o zf.r0 ?_
    refine wp_aload_n dX1_add_12 rfl rfl ?_
    refine wp_getIV dX1_add_13 lX1_23 rfl zf.o zf.f3 ?_
    refine wp_lload_n dX1_add_16 rfl rfl ?_
    refine wp_lastN dX1_add_17 zf.a0 rfl ⟨by omega, by omega⟩ ?_
    refine zf.w0 (fun hh1 f1 zf_1 => ?_)
    refine wp_aload_n dX1_add_18 rfl rfl ?_
    refine wp_getR dX1_add_19 lX1_15 rfl zf_1.o zf_1.r1 ?_
    refine wp_aload_n dX1_add_22 rfl rfl ?_
    refine wp_getIV dX1_add_23 lX1_23 rfl zf_1.o zf_1.f3 ?_
    refine wp_iload_n dX1_add_26 rfl rfl ?_
    refine wp_iastN dX1_add_27 zf_1.a1 rfl ⟨by omega, by omega⟩ ?_
    refine zf_1.w1 (fun hh2 f2 zf_2 => ?_)
    refine wp_aload_n dX1_add_28 rfl rfl ?_
    refine wp_getR dX1_add_29 lX1_19 rfl zf_2.o zf_2.r2 ?_
    refine wp_aload_n dX1_add_32 rfl rfl ?_
    refine wp_getIV dX1_add_33 lX1_23 rfl zf_2.o zf_2.f3 ?_
    refine wp_iload dX1_add_36 rfl ?_
    refine wp_zastN dX1_add_38 zf_2.a2 rfl ⟨by omega, by omega⟩ ?_
    refine zf_2.w2 (fun hh3 f3 zf_3 => ?_)
    refine wp_aload_n dX1_add_39 rfl rfl ?_
    refine wp_dup dX1_add_40 rfl ?_
    refine wp_getIV dX1_add_41 lX1_23 rfl zf_3.o zf_3.f3 ?_
    refine wp_iconst (v := (nI 1)) dX1_add_44 (by decide +kernel) ?_
    refine wp_iadd dX1_add_45 ?_
    refine wp_putIN dX1_add_46 lX1_23 rfl rfl (Or.inl rfl) zf_3.o (isN_add rfl rfl) ?_
    refine zf_3.p3 (fun hh4 f4 zf_4 => ?_)
    refine wp_vreturn dX1_add_49 rfl ?_
    have z9 := zf_4
    rw [nar_b hm] at z9
    exact hq _ ((((f1.up (by decide) (Nat.le_refl _)).tr (f2.up (by decide) (Nat.le_refl _))).tr (f3.up (by decide) (Nat.le_refl _))).tr (f4.up (by decide) (Nat.le_refl _))) z9
