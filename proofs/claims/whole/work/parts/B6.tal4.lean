/-! ===== the strongest ===== -/
def sgB (bo : Option Nat) : Int32 := match bo with
  | none => -1
  | some b => nI b
def sgI (ok : Nat → Prop) (V : Nat → Nat) (i : Nat) (bo : Option Nat) : Prop := match bo with
  | none => ∀ o, o < i → ¬ ok o
  | some b => b < i ∧ ok b ∧ ∀ o, o < i → ok o → V o < V b ∨ (V o = V b ∧ b ≤ o)
theorem sg_no {ok : Nat → Prop} {V : Nat → Nat} {i : Nat} {bo : Option Nat} (q : sgI ok V i bo) (h : ¬ ok i) : sgI ok V (i + 1) bo := by
  cases bo with
  | none =>
    intro o ho
    by_cases e : o = i
    · subst e; exact h
    · exact q o (by omega)
  | some b =>
    refine ⟨by have := q.1; omega, q.2.1, fun o ho hk => ?_⟩
    by_cases e : o = i
    · subst e; exact absurd hk h
    · exact q.2.2 o (by omega) hk
theorem sg_1 {ok : Nat → Prop} {V : Nat → Nat} {i : Nat} (q : sgI ok V i none) (h : ok i) : sgI ok V (i + 1) (some i) := by
  refine ⟨by omega, h, fun o ho hk => ?_⟩
  by_cases e : o = i
  · exact Or.inr ⟨by rw [e], by omega⟩
  · exact absurd hk (q o (by omega))
theorem sg_2 {ok : Nat → Prop} {V : Nat → Nat} {i b : Nat} (q : sgI ok V i (some b)) (h : ok i) (hv : V b < V i) : sgI ok V (i + 1) (some i) := by
  refine ⟨by omega, h, fun o ho hk => ?_⟩
  by_cases e : o = i
  · exact Or.inr ⟨by rw [e], by omega⟩
  · have := q.2.2 o (by omega) hk
    exact Or.inl (by omega)
theorem sg_3 {ok : Nat → Prop} {V : Nat → Nat} {i b : Nat} (q : sgI ok V i (some b)) (hv : V i ≤ V b) : sgI ok V (i + 1) (some b) := by
  refine ⟨by have := q.1; omega, q.2.1, fun o ho hk => ?_⟩
  by_cases e : o = i
  · subst e; have := q.1; omega
  · exact q.2.2 o (by omega) hk
theorem sg_fin {g : Nat → Bool} {lk : Nat → List (Nat × Nat)} {K : Nat → Nat} {t N : Nat} {OL : Nat → List (Nat × Nat)} {V FK : Nat → Nat} {ok : Nat → Prop} {b : Nat} (cv : cvI g lk K t N OL V FK) (q : sgI ok V N (some b)) : bstO N V FK ok b := by
  refine ⟨q.1, q.2.1, fun o ho hk => ?_⟩
  rcases q.2.2 o ho hk with h | ⟨h1, h2⟩
  · exact Or.inl h
  · refine Or.inr ⟨h1, ?_⟩
    rcases Nat.lt_or_eq_of_le h2 with z | z
    · exact Nat.le_of_lt (cv.2.2 b o z ho)
    · rw [z]; exact Nat.le_refl _
set_option maxRecDepth 20000 in
theorem pX10_strongest0 {h : mH} {Q : Option Value → mH → Prop} {ow : Nat → Nat} {n a3 a4 a5 : Nat} {yp yf : Int32} {y3 y4 : Nat → Int64} {y5 : Nat → Int32} {N : Nat} {OL : Nat → List (Nat × Nat)} {V : Nat → Nat} {T : Nat} (zy : zY ow h n a3 a4 a5 yp yf (nI N) y3 y4 y5) (hNn : N ≤ n ∧ n ≤ 20480) (ty : tyV y3 y4 y5 N OL V T) (hT : T < 63) (hV : ∀ o, o < N → V o < 65536) (hq : ∀ bo, sgI (fun _ => True) V N bo → Q (some (.int (sgB bo))) h) : Wp mX10_strongest 4 96 0 [some (.ref 117), some .null, some .null, none, none, none] [] h Q := by
  have hlp : ∀  (t9 : Nat) (i : Nat) (bo : Option Nat) (l5 : Option Value), (i ≤ N) → (sgI (fun _ => True) V i bo) → (N < i + t9) → Wp mX10_strongest 4 96 5 [some (.ref 117), some .null, some .null, some (.int (sgB bo)), some (.int (nI i)), l5] [] h Q := by
    intro t9
    induction t9 with
    | zero => intros; omega
    | succ t9 ih =>
      intro i bo l5 hi q9 hmz
      cases bo with
      | none =>
        refine wp_iload dX10_strongest_5 rfl ?_
        refine wp_aload_n dX10_strongest_7 rfl rfl ?_
        refine wp_getIV dX10_strongest_8 lX10_29 rfl zy.o zy.f2 ?_
        refine wp_icmp_geN dX10_strongest_11 rfl rfl ⟨by omega, by omega⟩ (fun c2 => ?_) (fun c2 => ?_)
        · refine wp_iload_n dX10_strongest_94 rfl rfl ?_
          refine wp_ireturn dX10_strongest_95 rfl ?_
          have ei9 : i = N := by omega
          subst ei9
          exact hq none q9
        · refine wp_aload_nN dX10_strongest_14 rfl rfl ?_
          refine wp_ifnullN dX10_strongest_15 ?_
          refine wp_iconst (v := (nI 1)) dX10_strongest_52 (by decide +kernel) ?_
          refine wp_goto dX10_strongest_53 ?_
          refine wp_istore (ls1 := [_, _, _, _, _, some _]) dX10_strongest_57 (by decide) rfl ?_
          refine wp_iload dX10_strongest_59 rfl ?_
          refine wp_if_eq dX10_strongest_61 (fun q => absurd q (by decide +kernel)) (fun _ => ?_)
          refine wp_iload_n dX10_strongest_64 rfl rfl ?_
          refine wp_iconst (v := (-1)) dX10_strongest_65 (by decide +kernel) ?_
          refine wp_icmp_eq dX10_strongest_66 (fun _ => ?_) (fun q => absurd (by decide +kernel) q)
          refine wp_iload dX10_strongest_85 rfl ?_
          refine wp_istore_n (ls1 := [_, _, _, some _, _, _]) dX10_strongest_87 rfl (by decide) rfl ?_
          refine wp_iinc1 (ls1 := [_, _, _, _, some _, _]) dX10_strongest_88 rfl (by decide) rfl ?_
          refine wp_goto dX10_strongest_91 ?_
          exact ih (i + 1) (some i) _ (by omega) (sg_1 q9 True.intro) (by omega)
      | some b =>
        have hb9 := q9.1
        refine wp_iload dX10_strongest_5 rfl ?_
        refine wp_aload_n dX10_strongest_7 rfl rfl ?_
        refine wp_getIV dX10_strongest_8 lX10_29 rfl zy.o zy.f2 ?_
        refine wp_icmp_geN dX10_strongest_11 rfl rfl ⟨by omega, by omega⟩ (fun c2 => ?_) (fun c2 => ?_)
        · refine wp_iload_n dX10_strongest_94 rfl rfl ?_
          refine wp_ireturn dX10_strongest_95 rfl ?_
          have ei9 : i = N := by omega
          subst ei9
          exact hq (some b) q9
        · refine wp_aload_nN dX10_strongest_14 rfl rfl ?_
          refine wp_ifnullN dX10_strongest_15 ?_
          refine wp_iconst (v := (nI 1)) dX10_strongest_52 (by decide +kernel) ?_
          refine wp_goto dX10_strongest_53 ?_
          refine wp_istore (ls1 := [_, _, _, _, _, some _]) dX10_strongest_57 (by decide) rfl ?_
          refine wp_iload dX10_strongest_59 rfl ?_
          refine wp_if_eq dX10_strongest_61 (fun q => absurd q (by decide +kernel)) (fun _ => ?_)
          refine wp_iload_n dX10_strongest_64 rfl rfl ?_
          refine wp_iconst (v := (-1)) dX10_strongest_65 (by decide +kernel) ?_
          refine wp_icmp_eq dX10_strongest_66 (fun q => absurd q (nI_ne_m1 (by omega))) (fun _ => ?_)
          refine wp_aload_n dX10_strongest_69 rfl rfl ?_
          refine wp_getR dX10_strongest_70 lX10_25 rfl zy.o zy.r5 ?_
          refine wp_iload dX10_strongest_73 rfl ?_
          refine wp_ialdV dX10_strongest_75 zy.a5 rfl ⟨by omega, by omega⟩ ((congrFun zy.c5 _).trans (ty i (by omega)).2.1) ?_
          refine wp_aload_n dX10_strongest_76 rfl rfl ?_
          refine wp_getR dX10_strongest_77 lX10_25 rfl zy.o zy.r5 ?_
          refine wp_iload_n dX10_strongest_80 rfl rfl ?_
          refine wp_ialdV dX10_strongest_81 zy.a5 rfl ⟨by omega, by omega⟩ ((congrFun zy.c5 _).trans (ty b (by omega)).2.1) ?_
          refine wp_icmp_leN dX10_strongest_82 rfl rfl ⟨by have := hV i (by omega); omega, by have := hV b (by omega); omega⟩ (fun c6 => ?_) (fun c6 => ?_)
          · refine wp_iinc1 (ls1 := [_, _, _, _, some _, _]) dX10_strongest_88 rfl (by decide) rfl ?_
            refine wp_goto dX10_strongest_91 ?_
            exact ih (i + 1) (some b) _ (by omega) (sg_3 q9 (by omega)) (by omega)
          · refine wp_iload dX10_strongest_85 rfl ?_
            refine wp_istore_n (ls1 := [_, _, _, some _, _, _]) dX10_strongest_87 rfl (by decide) rfl ?_
            refine wp_iinc1 (ls1 := [_, _, _, _, some _, _]) dX10_strongest_88 rfl (by decide) rfl ?_
            refine wp_goto dX10_strongest_91 ?_
            exact ih (i + 1) (some i) _ (by omega) (sg_2 q9 True.intro (by omega)) (by omega)
  refine wp_iconst (v := (-1)) dX10_strongest_0 (by decide +kernel) ?_
  refine wp_istore_n (ls1 := [_, _, _, some _, _, _]) dX10_strongest_1 rfl (by decide) rfl ?_
  refine wp_iconst (v := (nI 0)) dX10_strongest_2 (by decide +kernel) ?_
  refine wp_istore (ls1 := [_, _, _, _, some _, _]) dX10_strongest_3 (by decide) rfl ?_
  exact hlp (N + 1) 0 none _ (Nat.zero_le _) (fun o ho => absurd ho (Nat.not_lt_zero o)) (by omega)
theorem df_b (r : Nat → Int64) (f : Nat) (W : Nat → Int64) (l : List (Nat × Nat)) : dfR r f W l < 2147483648 := by
  have := dfR_le (r := r) (f := f) (W := W) (l := l)
  omega
set_option maxRecDepth 20000 in
theorem pX10_strongest {h : mH} {Q : Option Value → mH → Prop} {ow : Nat → Nat} {n a3 a4 a5 : Nat} {yp yf : Int32} {y3 y4 : Nat → Int64} {y5 : Nat → Int32} {N : Nat} {OL : Nat → List (Nat × Nat)} {V : Nat → Nat} {T : Nat} {F f p qn qp : Nat} {pa my : Nat → Int32} {r : Nat → Int64} (zy : zY ow h n a3 a4 a5 yp yf (nI N) y3 y4 y5) (hNn : N ≤ n ∧ n ≤ 20480) (ty : tyV y3 y4 y5 N OL V T) (hT : T < 63) (hV : ∀ o, o < N → V o < 65536) (ln : lnR ow h qn r f) (hd : sOK r F pa my) (hp : p < rP r) (pg : pgR ow h qp r p) (hl1 : f < F ∧ r (655 + 70 * f) = 1) (hT9 : T ≤ rT r p) (h8 : ∀ o, o < N → (OL o).length ≤ 8) (hq : ∀ bo, sgI (fun o => okO r p f (OL o)) V N bo → Q (some (.int (sgB bo))) h) : Wp mX10_strongest 4 96 0 [some (.ref 117), some (.ref qn), some (.ref qp), none, none, none] [] h Q := by
  have hlp : ∀  (t9 : Nat) (i : Nat) (bo : Option Nat) (l5 : Option Value), (i ≤ N) → (sgI (fun o => okO r p f (OL o)) V i bo) → (N < i + t9) → Wp mX10_strongest 4 96 5 [some (.ref 117), some (.ref qn), some (.ref qp), some (.int (sgB bo)), some (.int (nI i)), l5] [] h Q := by
    intro t9
    induction t9 with
    | zero => intros; omega
    | succ t9 ih =>
      intro i bo l5 hi q9 hmz
      cases bo with
      | none =>
        refine wp_iload dX10_strongest_5 rfl ?_
        refine wp_aload_n dX10_strongest_7 rfl rfl ?_
        refine wp_getIV dX10_strongest_8 lX10_29 rfl zy.o zy.f2 ?_
        refine wp_icmp_geN dX10_strongest_11 rfl rfl ⟨by omega, by omega⟩ (fun c2 => ?_) (fun c2 => ?_)
        · refine wp_iload_n dX10_strongest_94 rfl rfl ?_
          refine wp_ireturn dX10_strongest_95 rfl ?_
          have ei9 : i = N := by omega
          subst ei9
          exact hq none q9
        · have hs9 := (ty i (by omega)).2.2
          refine wp_aload_n dX10_strongest_14 rfl rfl ?_
          refine wp_ifnull dX10_strongest_15 ?_
          refine wp_aload_n dX10_strongest_18 rfl rfl ?_
          refine wp_getR dX10_strongest_19 lX10_18 rfl zy.o zy.r3 ?_
          refine wp_iload dX10_strongest_22 rfl ?_
          refine wp_laldV dX10_strongest_24 zy.a3 rfl ⟨by omega, by omega⟩ ((congrFun zy.c3 _).trans (ty i (by omega)).1.1) ?_
          refine wp_lconst (v := 0) dX10_strongest_25 (by decide +kernel) ?_
          refine wp_lc_eq dX10_strongest_26 dX10_strongest_27 (fun c3 => ?_) (fun c3 => ?_)
          · have hno9 : ¬ okO r p f (OL i) := fun z => by first | exact z.1 ((bs_0 hs9 (by omega)).mp (lN_j (bs_lt hs9 (by omega)).1 (by decide) (by assumption))) | (have := z.2; omega)
            refine wp_iconst (v := (nI 0)) dX10_strongest_56 (by decide +kernel) ?_
            refine wp_istore (ls1 := [_, _, _, _, _, some _]) dX10_strongest_57 (by decide) rfl ?_
            refine wp_iload dX10_strongest_59 rfl ?_
            refine wp_if_eq dX10_strongest_61 (fun _ => ?_) (fun q => absurd q (by decide +kernel))
            refine wp_iinc1 (ls1 := [_, _, _, _, some _, _]) dX10_strongest_88 rfl (by decide) rfl ?_
            refine wp_goto dX10_strongest_91 ?_
            exact ih (i + 1) none _ (by omega) (sg_no q9 hno9) (by omega)
          · have hnz : ¬ lN (bsA (OL i)) = 0 := by assumption
            refine wp_aload_n dX10_strongest_30 rfl rfl ?_
            refine wp_aload_n dX10_strongest_31 rfl rfl ?_
            refine wp_aload_n dX10_strongest_32 rfl rfl ?_
            refine wp_getR dX10_strongest_33 lX10_18 rfl zy.o zy.r3 ?_
            refine wp_iload dX10_strongest_36 rfl ?_
            refine wp_laldV dX10_strongest_38 zy.a3 rfl ⟨by omega, by omega⟩ ((congrFun zy.c3 _).trans (ty i (by omega)).1.1) ?_
            refine wp_aload_n dX10_strongest_39 rfl rfl ?_
            refine wp_getR dX10_strongest_40 lX10_22 rfl zy.o zy.r4 ?_
            refine wp_iload dX10_strongest_43 rfl ?_
            refine wp_laldV dX10_strongest_45 zy.a4 rfl ⟨by omega, by omega⟩ ((congrFun zy.c4 _).trans (ty i (by omega)).1.2) ?_
            refine wp_cV3 3 67 [some _, some _, some _, none, some _, none, none, none, none, none] dX10_strongest_46 tX4_misfit rfl (by decide) nX4_misfit vX4_misfit lX10_71 ⟨by decide, by decide⟩ (Nat.le_of_ble_eq_true rfl) ln.oo (Nat.le_of_ble_eq_true rfl) rfl ?_
            refine pX4_misfit ln hd hp pg hl1 hs9 hT9 (h8 i (by omega)) ?_
            intro _ _
            have hdf := df_b r f (rwW r p (-1)) (OL i)
            refine wp_if_neN dX10_strongest_49 rfl (by omega) (fun c5 => ?_) (fun c5 => ?_)
            · have hno9 : ¬ okO r p f (OL i) := fun z => by first | exact z.1 ((bs_0 hs9 (by omega)).mp (lN_j (bs_lt hs9 (by omega)).1 (by decide) (by assumption))) | (have := z.2; omega)
              refine wp_iconst (v := (nI 0)) dX10_strongest_56 (by decide +kernel) ?_
              refine wp_istore (ls1 := [_, _, _, _, _, some _]) dX10_strongest_57 (by decide) rfl ?_
              refine wp_iload dX10_strongest_59 rfl ?_
              refine wp_if_eq dX10_strongest_61 (fun _ => ?_) (fun q => absurd q (by decide +kernel))
              refine wp_iinc1 (ls1 := [_, _, _, _, some _, _]) dX10_strongest_88 rfl (by decide) rfl ?_
              refine wp_goto dX10_strongest_91 ?_
              exact ih (i + 1) none _ (by omega) (sg_no q9 hno9) (by omega)
            · have hok9 : okO r p f (OL i) := ⟨fun z => by rw [z] at hnz; exact hnz rfl, by omega⟩
              refine wp_iconst (v := (nI 1)) dX10_strongest_52 (by decide +kernel) ?_
              refine wp_goto dX10_strongest_53 ?_
              refine wp_istore (ls1 := [_, _, _, _, _, some _]) dX10_strongest_57 (by decide) rfl ?_
              refine wp_iload dX10_strongest_59 rfl ?_
              refine wp_if_eq dX10_strongest_61 (fun q => absurd q (by decide +kernel)) (fun _ => ?_)
              refine wp_iload_n dX10_strongest_64 rfl rfl ?_
              refine wp_iconst (v := (-1)) dX10_strongest_65 (by decide +kernel) ?_
              refine wp_icmp_eq dX10_strongest_66 (fun _ => ?_) (fun q => absurd (by decide +kernel) q)
              refine wp_iload dX10_strongest_85 rfl ?_
              refine wp_istore_n (ls1 := [_, _, _, some _, _, _]) dX10_strongest_87 rfl (by decide) rfl ?_
              refine wp_iinc1 (ls1 := [_, _, _, _, some _, _]) dX10_strongest_88 rfl (by decide) rfl ?_
              refine wp_goto dX10_strongest_91 ?_
              exact ih (i + 1) (some i) _ (by omega) (sg_1 q9 hok9) (by omega)
      | some b =>
        have hb9 := q9.1
        refine wp_iload dX10_strongest_5 rfl ?_
        refine wp_aload_n dX10_strongest_7 rfl rfl ?_
        refine wp_getIV dX10_strongest_8 lX10_29 rfl zy.o zy.f2 ?_
        refine wp_icmp_geN dX10_strongest_11 rfl rfl ⟨by omega, by omega⟩ (fun c2 => ?_) (fun c2 => ?_)
        · refine wp_iload_n dX10_strongest_94 rfl rfl ?_
          refine wp_ireturn dX10_strongest_95 rfl ?_
          have ei9 : i = N := by omega
          subst ei9
          exact hq (some b) q9
        · have hs9 := (ty i (by omega)).2.2
          refine wp_aload_n dX10_strongest_14 rfl rfl ?_
          refine wp_ifnull dX10_strongest_15 ?_
          refine wp_aload_n dX10_strongest_18 rfl rfl ?_
          refine wp_getR dX10_strongest_19 lX10_18 rfl zy.o zy.r3 ?_
          refine wp_iload dX10_strongest_22 rfl ?_
          refine wp_laldV dX10_strongest_24 zy.a3 rfl ⟨by omega, by omega⟩ ((congrFun zy.c3 _).trans (ty i (by omega)).1.1) ?_
          refine wp_lconst (v := 0) dX10_strongest_25 (by decide +kernel) ?_
          refine wp_lc_eq dX10_strongest_26 dX10_strongest_27 (fun c3 => ?_) (fun c3 => ?_)
          · have hno9 : ¬ okO r p f (OL i) := fun z => by first | exact z.1 ((bs_0 hs9 (by omega)).mp (lN_j (bs_lt hs9 (by omega)).1 (by decide) (by assumption))) | (have := z.2; omega)
            refine wp_iconst (v := (nI 0)) dX10_strongest_56 (by decide +kernel) ?_
            refine wp_istore (ls1 := [_, _, _, _, _, some _]) dX10_strongest_57 (by decide) rfl ?_
            refine wp_iload dX10_strongest_59 rfl ?_
            refine wp_if_eq dX10_strongest_61 (fun _ => ?_) (fun q => absurd q (by decide +kernel))
            refine wp_iinc1 (ls1 := [_, _, _, _, some _, _]) dX10_strongest_88 rfl (by decide) rfl ?_
            refine wp_goto dX10_strongest_91 ?_
            exact ih (i + 1) (some b) _ (by omega) (sg_no q9 hno9) (by omega)
          · have hnz : ¬ lN (bsA (OL i)) = 0 := by assumption
            refine wp_aload_n dX10_strongest_30 rfl rfl ?_
            refine wp_aload_n dX10_strongest_31 rfl rfl ?_
            refine wp_aload_n dX10_strongest_32 rfl rfl ?_
            refine wp_getR dX10_strongest_33 lX10_18 rfl zy.o zy.r3 ?_
            refine wp_iload dX10_strongest_36 rfl ?_
            refine wp_laldV dX10_strongest_38 zy.a3 rfl ⟨by omega, by omega⟩ ((congrFun zy.c3 _).trans (ty i (by omega)).1.1) ?_
            refine wp_aload_n dX10_strongest_39 rfl rfl ?_
            refine wp_getR dX10_strongest_40 lX10_22 rfl zy.o zy.r4 ?_
            refine wp_iload dX10_strongest_43 rfl ?_
            refine wp_laldV dX10_strongest_45 zy.a4 rfl ⟨by omega, by omega⟩ ((congrFun zy.c4 _).trans (ty i (by omega)).1.2) ?_
            refine wp_cV3 3 67 [some _, some _, some _, none, some _, none, none, none, none, none] dX10_strongest_46 tX4_misfit rfl (by decide) nX4_misfit vX4_misfit lX10_71 ⟨by decide, by decide⟩ (Nat.le_of_ble_eq_true rfl) ln.oo (Nat.le_of_ble_eq_true rfl) rfl ?_
            refine pX4_misfit ln hd hp pg hl1 hs9 hT9 (h8 i (by omega)) ?_
            intro _ _
            have hdf := df_b r f (rwW r p (-1)) (OL i)
            refine wp_if_neN dX10_strongest_49 rfl (by omega) (fun c5 => ?_) (fun c5 => ?_)
            · have hno9 : ¬ okO r p f (OL i) := fun z => by first | exact z.1 ((bs_0 hs9 (by omega)).mp (lN_j (bs_lt hs9 (by omega)).1 (by decide) (by assumption))) | (have := z.2; omega)
              refine wp_iconst (v := (nI 0)) dX10_strongest_56 (by decide +kernel) ?_
              refine wp_istore (ls1 := [_, _, _, _, _, some _]) dX10_strongest_57 (by decide) rfl ?_
              refine wp_iload dX10_strongest_59 rfl ?_
              refine wp_if_eq dX10_strongest_61 (fun _ => ?_) (fun q => absurd q (by decide +kernel))
              refine wp_iinc1 (ls1 := [_, _, _, _, some _, _]) dX10_strongest_88 rfl (by decide) rfl ?_
              refine wp_goto dX10_strongest_91 ?_
              exact ih (i + 1) (some b) _ (by omega) (sg_no q9 hno9) (by omega)
            · have hok9 : okO r p f (OL i) := ⟨fun z => by rw [z] at hnz; exact hnz rfl, by omega⟩
              refine wp_iconst (v := (nI 1)) dX10_strongest_52 (by decide +kernel) ?_
              refine wp_goto dX10_strongest_53 ?_
              refine wp_istore (ls1 := [_, _, _, _, _, some _]) dX10_strongest_57 (by decide) rfl ?_
              refine wp_iload dX10_strongest_59 rfl ?_
              refine wp_if_eq dX10_strongest_61 (fun q => absurd q (by decide +kernel)) (fun _ => ?_)
              refine wp_iload_n dX10_strongest_64 rfl rfl ?_
              refine wp_iconst (v := (-1)) dX10_strongest_65 (by decide +kernel) ?_
              refine wp_icmp_eq dX10_strongest_66 (fun q => absurd q (nI_ne_m1 (by omega))) (fun _ => ?_)
              refine wp_aload_n dX10_strongest_69 rfl rfl ?_
              refine wp_getR dX10_strongest_70 lX10_25 rfl zy.o zy.r5 ?_
              refine wp_iload dX10_strongest_73 rfl ?_
              refine wp_ialdV dX10_strongest_75 zy.a5 rfl ⟨by omega, by omega⟩ ((congrFun zy.c5 _).trans (ty i (by omega)).2.1) ?_
              refine wp_aload_n dX10_strongest_76 rfl rfl ?_
              refine wp_getR dX10_strongest_77 lX10_25 rfl zy.o zy.r5 ?_
              refine wp_iload_n dX10_strongest_80 rfl rfl ?_
              refine wp_ialdV dX10_strongest_81 zy.a5 rfl ⟨by omega, by omega⟩ ((congrFun zy.c5 _).trans (ty b (by omega)).2.1) ?_
              refine wp_icmp_leN dX10_strongest_82 rfl rfl ⟨by have := hV i (by omega); omega, by have := hV b (by omega); omega⟩ (fun c10 => ?_) (fun c10 => ?_)
              · refine wp_iinc1 (ls1 := [_, _, _, _, some _, _]) dX10_strongest_88 rfl (by decide) rfl ?_
                refine wp_goto dX10_strongest_91 ?_
                exact ih (i + 1) (some b) _ (by omega) (sg_3 q9 (by omega)) (by omega)
              · refine wp_iload dX10_strongest_85 rfl ?_
                refine wp_istore_n (ls1 := [_, _, _, some _, _, _]) dX10_strongest_87 rfl (by decide) rfl ?_
                refine wp_iinc1 (ls1 := [_, _, _, _, some _, _]) dX10_strongest_88 rfl (by decide) rfl ?_
                refine wp_goto dX10_strongest_91 ?_
                exact ih (i + 1) (some i) _ (by omega) (sg_2 q9 hok9 (by omega)) (by omega)
  refine wp_iconst (v := (-1)) dX10_strongest_0 (by decide +kernel) ?_
  refine wp_istore_n (ls1 := [_, _, _, some _, _, _]) dX10_strongest_1 rfl (by decide) rfl ?_
  refine wp_iconst (v := (nI 0)) dX10_strongest_2 (by decide +kernel) ?_
  refine wp_istore (ls1 := [_, _, _, _, some _, _]) dX10_strongest_3 (by decide) rfl ?_
  exact hlp (N + 1) 0 none _ (Nat.zero_le _) (fun o ho => absurd ho (Nat.not_lt_zero o)) (by omega)
