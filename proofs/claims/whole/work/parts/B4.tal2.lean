/-! ===== a vote ===== -/
theorem lN_j {x y : Nat} (hx : x < 2 ^ 63) (hy : y < 2 ^ 63) (h : lN x = lN y) : x = y := by
  have e := congrArg Int64.toInt h
  rw [pf_lI hx, pf_lI hy] at e
  omega
/-- what stands in the tally -/
def tyV (y3 y4 : Nat → Int64) (y5 : Nat → Int32) (N : Nat) (OL : Nat → List (Nat × Nat)) (V : Nat → Nat) (T : Nat) : Prop := ∀ o, o < N → (y3 o = lN (bsA (OL o)) ∧ y4 o = lN (bsE (OL o))) ∧ y5 o = nI (V o) ∧ srt (OL o) T
/-- a vote for l -/
def vot (N : Nat) (OL : Nat → List (Nat × Nat)) (V : Nat → Nat) (l : List (Nat × Nat)) (N' : Nat) (OL' : Nat → List (Nat × Nat)) (V' : Nat → Nat) : Prop := (∃ o, o < N ∧ OL o = l ∧ N' = N ∧ OL' = OL ∧ V' = upN V o (V o + 1)) ∨ ((∀ o, o < N → OL o ≠ l) ∧ N' = N + 1 ∧ OL' = upN OL N l ∧ V' = upN V N 1)
theorem ty_old {y3 y4 : Nat → Int64} {y5 : Nat → Int32} {N : Nat} {OL : Nat → List (Nat × Nat)} {V : Nat → Nat} {T o : Nat} (q : tyV y3 y4 y5 N OL V T) : tyV y3 y4 (upI y5 o (nI (V o + 1))) N OL (upN V o (V o + 1)) T := fun x hx => by
  refine ⟨(q x hx).1, ?_, (q x hx).2.2⟩
  by_cases e : x = o
  · subst e; rw [upI_at, upN_at]
  · rw [upI_ne e, upN_ne e]; exact (q x hx).2.1
theorem ty_new {y3 y4 z3 z4 : Nat → Int64} {y5 z5 : Nat → Int32} {N : Nat} {OL : Nat → List (Nat × Nat)} {V : Nat → Nat} {T : Nat} {l : List (Nat × Nat)} (q : tyV y3 y4 y5 N OL V T) (hl : srt l T) (hz : ∀ o, o < N → z3 o = y3 o ∧ z4 o = y4 o ∧ z5 o = y5 o) : tyV (up1 z3 N (lN (bsA l))) (up1 z4 N (lN (bsE l))) (upI (upI z5 N (nI 0)) N (nI 1)) (N + 1) (upN OL N l) (upN V N 1) T := fun x hx => by
  by_cases e : x = N
  · subst e; rw [up1_at, up1_at, upI_at, upN_at, upN_at]; exact ⟨⟨rfl, rfl⟩, rfl, hl⟩
  · have h1 := hz x (by omega)
    have h2 := q x (by omega)
    rw [up1_ne e, up1_ne e, upI_ne e, upI_ne e, upN_ne e, upN_ne e, h1.1, h1.2.1, h1.2.2]
    exact h2
set_option maxRecDepth 20000 in
theorem pX10_vote {h : mH} {Q : Option Value → mH → Prop} {ow : Nat → Nat} {n a3 a4 a5 : Nat} {yp yf : Int32} {y3 y4 : Nat → Int64} {y5 : Nat → Int32} {N : Nat} {OL : Nat → List (Nat × Nat)} {V : Nat → Nat} {T : Nat} {l : List (Nat × Nat)} (zy : zY ow h n a3 a4 a5 yp yf (nI N) y3 y4 y5) (hn : 64 ≤ n ∧ n ≤ 20480) (hNn : N ≤ n ∧ N < 10240) (hrm : hU h + 8 * hN h + 7 * (20480 - n) ≤ 8000000) (ty : tyV y3 y4 y5 N OL V T) (hs : srt l T) (hT : T < 63) (hV : ∀ o, o < N → V o < 10240) (hq : ∀ h' ow' n' b3 b4 b5 z3 z4 z5 N' OL' V', cFr [10] (7 * (n' - n)) ow h ow' h' → (n ≤ n' ∧ N' ≤ n' ∧ n' ≤ 20480) → zY ow' h' n' b3 b4 b5 yp yf (nI N') z3 z4 z5 → tyV z3 z4 z5 N' OL' V' T → vot N OL V l N' OL' V' → Q none h') : Wp mX10_vote 3 68 0 [some (.ref 117), some (.long (lN (bsA l))), none, some (.long (lN (bsE l))), none, none] [] h Q := by
  have hlp : ∀  (t9 : Nat) (i : Nat), (i ≤ N) → (∀ o, o < i → OL o ≠ l) → (N < i + t9) → Wp mX10_vote 3 68 3 [some (.ref 117), some (.long (lN (bsA l))), none, some (.long (lN (bsE l))), none, some (.int (nI i))] [] h Q := by
    intro t9
    induction t9 with
    | zero => intros; omega
    | succ t9 ih =>
      intro i hi hno hmz
      refine wp_iload dX10_vote_3 rfl ?_
      refine wp_aload_n dX10_vote_5 rfl rfl ?_
      refine wp_getIV dX10_vote_6 lX10_29 rfl zy.o zy.f2 ?_
      refine wp_icmp_geN dX10_vote_9 rfl rfl ⟨by omega, by omega⟩ (fun c2 => ?_) (fun c2 => ?_)
      · have ei9 : i = N := by omega
        subst ei9
        refine wp_iload dX10_vote_42 rfl ?_
        refine wp_aload_n dX10_vote_44 rfl rfl ?_
        refine wp_getIV dX10_vote_45 lX10_29 rfl zy.o zy.f2 ?_
        refine wp_icmp_neN dX10_vote_48 rfl rfl ⟨by omega, by omega⟩ (fun q => absurd rfl q) (fun _ => ?_)
        refine wp_aload_n dX10_vote_51 rfl rfl ?_
        refine wp_cV0 2 48 [some _] dX10_vote_52 tX10_makeRoom rfl (by decide) nX10_makeRoom vX10_makeRoom lX10_59 ⟨by decide, by decide⟩ (Nat.le_of_ble_eq_true rfl) zy.o (Nat.le_of_ble_eq_true rfl) rfl ?_
        refine pX10_makeRoom zy hn (by omega) hrm (fun hh1 ow1 n1 b31 b41 b51 z31 z41 z51 f1 hn1 zy_1 hz1 => ?_)
        intro _ _
        refine wp_aload_n dX10_vote_55 rfl rfl ?_
        refine wp_getR dX10_vote_56 lX10_18 rfl zy_1.o zy_1.r3 ?_
        refine wp_iload dX10_vote_59 rfl ?_
        refine wp_lload_n dX10_vote_61 rfl rfl ?_
        refine wp_lastN dX10_vote_62 zy_1.a3 rfl ⟨by omega, by omega⟩ ?_
        refine zy_1.w3 (fun hh2 f2 zy_2 => ?_)
        refine wp_aload_n dX10_vote_63 rfl rfl ?_
        refine wp_getR dX10_vote_64 lX10_22 rfl zy_2.o zy_2.r4 ?_
        refine wp_iload dX10_vote_67 rfl ?_
        refine wp_lload_n dX10_vote_69 rfl rfl ?_
        refine wp_lastN dX10_vote_70 zy_2.a4 rfl ⟨by omega, by omega⟩ ?_
        refine zy_2.w4 (fun hh3 f3 zy_3 => ?_)
        refine wp_aload_n dX10_vote_71 rfl rfl ?_
        refine wp_getR dX10_vote_72 lX10_25 rfl zy_3.o zy_3.r5 ?_
        refine wp_iload dX10_vote_75 rfl ?_
        refine wp_iconst (v := (nI 0)) dX10_vote_77 (by decide +kernel) ?_
        refine wp_iastN dX10_vote_78 zy_3.a5 rfl ⟨by omega, by omega⟩ ?_
        refine zy_3.w5 (fun hh4 f4 zy_4 => ?_)
        refine wp_aload_n dX10_vote_79 rfl rfl ?_
        refine wp_dup dX10_vote_80 rfl ?_
        refine wp_getIV dX10_vote_81 lX10_29 rfl zy_4.o zy_4.f2 ?_
        refine wp_iconst (v := (nI 1)) dX10_vote_84 (by decide +kernel) ?_
        refine wp_iadd dX10_vote_85 ?_
        refine wp_putIN dX10_vote_86 lX10_29 rfl rfl (Or.inl rfl) zy_4.o (isN_add rfl rfl) ?_
        refine zy_4.p2 (fun hh5 f5 zy_5 => ?_)
        refine wp_aload_n dX10_vote_89 rfl rfl ?_
        refine wp_getR dX10_vote_90 lX10_25 rfl zy_5.o zy_5.r5 ?_
        refine wp_iload dX10_vote_93 rfl ?_
        refine wp_dup2 dX10_vote_95 rfl rfl ?_
        refine wp_ialdV dX10_vote_96 zy_5.a5 rfl ⟨by omega, by omega⟩ ((congrFun zy_5.c5 _).trans (upI_at _ _ _)) ?_
        refine wp_iconst (v := (nI 1)) dX10_vote_97 (by decide +kernel) ?_
        refine wp_iadd dX10_vote_98 ?_
        rw [nI_add]
        refine wp_iastN dX10_vote_99 zy_5.a5 rfl ⟨by omega, by omega⟩ ?_
        refine zy_5.w5 (fun hh6 f6 zy_6 => ?_)
        refine wp_vreturn dX10_vote_100 rfl ?_
        exact hq _ _ _ _ _ _ _ _ _ (i + 1) _ _ ((((((f1.tr f2).tr f3).tr f4).tr f5).tr f6).up (fun _ h => h) (by omega)) (by omega) zy_6 (ty_new ty hs hz1) (Or.inr ⟨hno, rfl, rfl, rfl⟩)
      · refine wp_aload_n dX10_vote_12 rfl rfl ?_
        refine wp_getR dX10_vote_13 lX10_18 rfl zy.o zy.r3 ?_
        refine wp_iload dX10_vote_16 rfl ?_
        refine wp_laldV dX10_vote_18 zy.a3 rfl ⟨by omega, by omega⟩ ((congrFun zy.c3 _).trans (ty i (by omega)).1.1) ?_
        refine wp_lload_n dX10_vote_19 rfl rfl ?_
        refine wp_lc_ne dX10_vote_20 dX10_vote_21 (fun c4 => ?_) (fun c4 => ?_)
        · refine wp_iinc1 (ls1 := [_, _, _, _, _, some _]) dX10_vote_36 rfl (by decide) rfl ?_
          refine wp_goto dX10_vote_39 ?_
          have hne9 : OL i ≠ l := fun z => by first | exact absurd (by rw [z]) (show ¬ lN (bsA (OL i)) = lN (bsA l) from by assumption) | exact absurd (by rw [z]) (show ¬ lN (bsE (OL i)) = lN (bsE l) from by assumption)
          exact ih (i + 1) (by omega) (fun o ho => by
           by_cases e9 : o = i
           · subst e9; exact hne9
           · exact hno o (by omega)) (by omega)
        · refine wp_aload_n dX10_vote_24 rfl rfl ?_
          refine wp_getR dX10_vote_25 lX10_22 rfl zy.o zy.r4 ?_
          refine wp_iload dX10_vote_28 rfl ?_
          refine wp_laldV dX10_vote_30 zy.a4 rfl ⟨by omega, by omega⟩ ((congrFun zy.c4 _).trans (ty i (by omega)).1.2) ?_
          refine wp_lload_n dX10_vote_31 rfl rfl ?_
          refine wp_lc_eq dX10_vote_32 dX10_vote_33 (fun c5 => ?_) (fun c5 => ?_)
          · have hs9 := (ty i (by omega)).2.2
            have hl9 : OL i = l := bs_inj hs9 hT hs hT (lN_j (bs_lt hs9 hT).1 (bs_lt hs hT).1 (by assumption)) (lN_j (bs_lt hs9 hT).2 (bs_lt hs hT).2 (by assumption))
            refine wp_iload dX10_vote_42 rfl ?_
            refine wp_aload_n dX10_vote_44 rfl rfl ?_
            refine wp_getIV dX10_vote_45 lX10_29 rfl zy.o zy.f2 ?_
            refine wp_icmp_neN dX10_vote_48 rfl rfl ⟨by omega, by omega⟩ (fun _ => ?_) (fun q => absurd q (by omega))
            refine wp_aload_n dX10_vote_89 rfl rfl ?_
            refine wp_getR dX10_vote_90 lX10_25 rfl zy.o zy.r5 ?_
            refine wp_iload dX10_vote_93 rfl ?_
            refine wp_dup2 dX10_vote_95 rfl rfl ?_
            refine wp_ialdV dX10_vote_96 zy.a5 rfl ⟨by omega, by omega⟩ ((congrFun zy.c5 _).trans (ty i (by omega)).2.1) ?_
            refine wp_iconst (v := (nI 1)) dX10_vote_97 (by decide +kernel) ?_
            refine wp_iadd dX10_vote_98 ?_
            rw [nI_add]
            refine wp_iastN dX10_vote_99 zy.a5 rfl ⟨by omega, by omega⟩ ?_
            refine zy.w5 (fun hh7 f7 zy_7 => ?_)
            refine wp_vreturn dX10_vote_100 rfl ?_
            exact hq _ _ _ _ _ _ _ _ _ N _ _ (f7.up (fun _ h => h) (by omega)) (by omega) zy_7 (ty_old ty) (Or.inl ⟨i, by omega, hl9, rfl, rfl, rfl⟩)
          · refine wp_iinc1 (ls1 := [_, _, _, _, _, some _]) dX10_vote_36 rfl (by decide) rfl ?_
            refine wp_goto dX10_vote_39 ?_
            have hne9 : OL i ≠ l := fun z => by first | exact absurd (by rw [z]) (show ¬ lN (bsA (OL i)) = lN (bsA l) from by assumption) | exact absurd (by rw [z]) (show ¬ lN (bsE (OL i)) = lN (bsE l) from by assumption)
            exact ih (i + 1) (by omega) (fun o ho => by
             by_cases e9 : o = i
             · subst e9; exact hne9
             · exact hno o (by omega)) (by omega)
  refine wp_iconst (v := (nI 0)) dX10_vote_0 (by decide +kernel) ?_
  refine wp_istore (ls1 := [_, _, _, _, _, some _]) dX10_vote_1 (by decide) rfl ?_
  exact hlp (N + 1) 0 (Nat.zero_le _) (fun o ho => absurd ho (Nat.not_lt_zero o)) (by omega)
