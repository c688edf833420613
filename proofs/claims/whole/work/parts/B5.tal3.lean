/-! ===== how many rules there can be; votes counted ===== -/
def dS (r : Nat → Int64) (f p a b c s : Nat) : Nat := if s = 0 then kN a b c 0 else kN a b c (asC r p (rB r f p 0) (s - 1))
def dF (r : Nat → Int64) (f p b c j : Nat) : Nat := dS r f p (if j / 3 = 0 then 0 else asC r p ((j / 3 - 1) / 2) ((j / 3 - 1) % 2)) b c (j % 3)
def dN (r : Nat → Int64) (f p j : Nat) : Nat := if j / 243 = 0 then dF r f p 0 0 (j % 243) else if j / 243 < 3 then dF r f p (asC r p (rA r f p 0 - 1) (j / 243 - 1)) 0 (j % 243) else dF r f p (asC r p (rA r f p 0 - 2) ((j / 243 - 3) / 2)) (asC r p (rA r f p 0 - 1) ((j / 243 - 3) % 2)) (j % 243)
theorem dS_of {r : Nat → Int64} {pa : Nat → Int32} {f p a b c x : Nat} (h : bS r pa f p a b c x) : ∃ s, s < 3 ∧ dS r f p a b c s = x := by
  rcases h with h | ⟨_, w, hw, h⟩
  · exact ⟨0, by decide, h.symm⟩
  · refine ⟨w + 1, by omega, ?_⟩
    unfold dS
    rw [if_neg (by omega), Nat.add_sub_cancel]
    exact h.symm
theorem dF_of {r : Nat → Int64} {pa : Nat → Int32} {f p e b c x : Nat} (he : e ≤ 40) (h : bF r pa f p e b c x) : ∃ j, j < 243 ∧ dF r f p b c j = x := by
  rcases h with h | ⟨k, _, hk, w, hw, h⟩
  · obtain ⟨s, hs, e⟩ := dS_of h
    refine ⟨s, by omega, ?_⟩
    unfold dF
    rw [if_pos (by omega), show s % 3 = s by omega]
    exact e
  · obtain ⟨s, hs, e⟩ := dS_of h
    refine ⟨3 * (2 * k + w + 1) + s, by omega, ?_⟩
    unfold dF
    rw [show (3 * (2 * k + w + 1) + s) / 3 = 2 * k + w + 1 by omega, show (3 * (2 * k + w + 1) + s) % 3 = s by omega, if_neg (by omega), show (2 * k + w + 1 - 1) / 2 = k by omega, show (2 * k + w + 1 - 1) % 2 = w by omega]
    exact e
theorem dN_of {r : Nat → Int64} {pa : Nat → Int32} {f p x : Nat} (hA : rA r f p 0 ≤ 40) (h : bNr r pa f p x) : ∃ j, j < 1701 ∧ dN r f p j = x := by
  rcases h with h | ⟨_, w, hw, h⟩ | ⟨_, w, hw, h⟩
  · obtain ⟨j, hj, e⟩ := dF_of hA h
    refine ⟨j, by omega, ?_⟩
    unfold dN
    rw [if_pos (by omega), show j % 243 = j by omega]
    exact e
  · obtain ⟨j, hj, e⟩ := dF_of (by omega) h
    refine ⟨243 * (w + 1) + j, by omega, ?_⟩
    unfold dN
    rw [show (243 * (w + 1) + j) / 243 = w + 1 by omega, show (243 * (w + 1) + j) % 243 = j by omega, if_neg (by omega), if_pos (by omega), Nat.add_sub_cancel]
    exact e
  · obtain ⟨j, hj, e⟩ := dF_of (by omega) h
    refine ⟨243 * (w + 3) + j, by omega, ?_⟩
    unfold dN
    rw [show (243 * (w + 3) + j) / 243 = w + 3 by omega, show (243 * (w + 3) + j) % 243 = j by omega, if_neg (by omega), if_neg (by omega), Nat.add_sub_cancel]
    exact e
theorem ru_c {r : Nat → Int64} {F : Nat} {pa my : Nat → Int32} {f c : Nat} {K O : Nat → Nat} (hd : sOK r F pa my) (hf : f < 4) (g : ruS r pa f c K O) : c ≤ 10206 := by
  have hP6 := hd.w.1.2
  refine en_le (L := fun j => dN r f (j / 1701) (j % 1701)) (ru_en g) (fun i hi => ?_)
  obtain ⟨p, h1, h2⟩ := g.2.2.2 i hi
  have hp := (exE_tb h1).1
  have hA := ((hd.w.2.2 f p hf (by omega)).2 0 (by decide)).1.2
  obtain ⟨j, hj, e⟩ := dN_of hA h2
  refine ⟨1701 * p + j, by omega, ?_⟩
  show dN r f ((1701 * p + j) / 1701) ((1701 * p + j) % 1701) = K i
  rw [show (1701 * p + j) / 1701 = p by omega, show (1701 * p + j) % 1701 = j by omega]
  exact e
/-- the votes of the first t rules -/
def cvI (g : Nat → Bool) (lk : Nat → List (Nat × Nat)) (K : Nat → Nat) (t N : Nat) (OL : Nat → List (Nat × Nat)) (V FK : Nat → Nat) : Prop := voP g lk K t N OL V FK ∧ (∀ o o', o < N → o' < N → OL o = OL o' → o = o') ∧ ∀ o o', o < o' → o' < N → FK o < FK o'
theorem cv_0 {g : Nat → Bool} {lk : Nat → List (Nat × Nat)} {K : Nat → Nat} {OL : Nat → List (Nat × Nat)} {V FK : Nat → Nat} : cvI g lk K 0 0 OL V FK := ⟨voP_0, fun o o' h => by omega, fun o o' h h' => by omega⟩
theorem cv_no {g : Nat → Bool} {lk : Nat → List (Nat × Nat)} {K : Nat → Nat} {t N : Nat} {OL : Nat → List (Nat × Nat)} {V FK : Nat → Nat} (q : cvI g lk K t N OL V FK) (h : g t = false) : cvI g lk K (t + 1) N OL V FK := ⟨voP_skip q.1 h, q.2⟩
theorem cv_s {g : Nat → Bool} {lk : Nat → List (Nat × Nat)} {K : Nat → Nat} {t c N N' : Nat} {OL OL' : Nat → List (Nat × Nat)} {V V' FK : Nat → Nat} (q : cvI g lk K t N OL V FK) (hK : ∀ i j, i < j → j < c → K i < K j) (ht : t < c) (h : g t = true) (v : vot N OL V (lk t) N' OL' V') : ∃ FK', cvI g lk K (t + 1) N' OL' V' FK' := by
  have hlt : ∀ o, o < N → FK o < K t := fun o ho => by
    obtain ⟨i, hi, _, _, e⟩ := (q.1.2.2 o ho).2.1
    rw [← e]
    exact hK i t hi ht
  rcases v with ⟨o, ho, e1, e2, e3, e4⟩ | ⟨e1, e2, e3, e4⟩
  · subst e2 e3 e4
    have h1 := voP_old q.1 q.2.1 h ho e1
    have e5 : upN FK o (min (FK o) (K t)) = FK := funext fun x => by
      by_cases e : x = o
      · subst e; rw [upN_at]; have := hlt x ho; omega
      · rw [upN_ne e]
    rw [e5] at h1
    exact ⟨FK, h1, q.2⟩
  · subst e2 e3 e4
    refine ⟨upN FK N (K t), voP_new q.1 h e1, fun o o' ho ho' e => ?_, fun o o' ho ho' => ?_⟩
    · by_cases a : o = N
      · by_cases b : o' = N
        · omega
        · rw [a, upN_at, upN_ne b] at e
          exact absurd e.symm (e1 o' (by omega))
      · by_cases b : o' = N
        · rw [b, upN_at, upN_ne a] at e
          exact absurd e (e1 o (by omega))
        · rw [upN_ne a, upN_ne b] at e
          exact q.2.1 o o' (by omega) (by omega) e
    · by_cases b : o' = N
      · rw [b, upN_at, upN_ne (by omega)]
        exact hlt o (by omega)
      · rw [upN_ne b, upN_ne (by omega)]
        exact q.2.2 o o' ho (by omega)
theorem cv_V {g : Nat → Bool} {lk : Nat → List (Nat × Nat)} {K : Nat → Nat} {t N : Nat} {OL : Nat → List (Nat × Nat)} {V FK : Nat → Nat} (q : cvI g lk K t N OL V FK) : N ≤ t ∧ ∀ o, o < N → V o ≤ t := ⟨q.1.1, fun o ho => by rw [(q.1.2.2 o ho).1]; exact cntB_le t⟩
set_option maxRecDepth 20000 in
theorem pX10_countAll {h : mH} {Q : Option Value → mH → Prop} {ow : Nat → Nat} {n b3 b4 b5 : Nat} {yp yf yc : Int32} {z3 z4 : Nat → Int64} {z5 : Nat → Int32} {a ρ c a0 ee len : Nat} {K O Wr Rt : Nat → Nat} {pl : Nat → Int64} {gs gn : Int64} {gf gt z : Int32} {P : Int32 → Nat → Bool} (zy : zY ow h n b3 b4 b5 yp yf yc z3 z4 z5) (hn : 64 ≤ n ∧ n ≤ 20480) (hrm : hU h + 8 * hN h + 7 * (20480 - n) ≤ 8000000) (tv : tbV ow h a ρ c K O Wr Rt) (hρ : 11 ≤ ρ) (hc : c ≤ 10206) (hK : ∀ i j, i < j → j < c → K i < K j) (hcd : ∀ i, i < c → ∀ w, w < 4 → kI (K i) w ≤ 243) (zg : zG ow h pl (nI a0) (nI ee) gs gn gf gt) (hP : gP pl P len) (he : ee ≤ len) (hlen : len ≤ 40) (ha : a0 ≤ ee) (hz : z = 0 ∨ z = 1) (hq : ∀ h' ow' n' c3 c4 c5 y3 y4 y5 N OL V FK gs gn gf gt, cFr [1, 10] (7 * (n' - n)) ow h ow' h' → (n ≤ n' ∧ N ≤ n' ∧ n' ≤ 20480) → zY ow' h' n' c3 c4 c5 yp yf (nI N) y3 y4 y5 → zG ow' h' pl (nI a0) (nI ee) gs gn gf gt → tyV y3 y4 y5 N OL V ee → cvI (fun i => decide (Wr i = 0 ∧ Rt i ≠ 0)) (fun i => cutK P ee (K i) (mzN z) a0) K c N OL V FK → Q none h') : Wp mX10_countAll 4 95 0 [some (.ref 117), some (.ref a), some (.ref 115), some (.int z), none] [] h Q := by
  obtain ⟨nt, m, a2, a3, a4, a5, a6, a7, tf, tc, t2, t3, t4, t5, t6, t7, tp, zt, rfl, hcn, hR⟩ := tv
  have hlp : ∀  (t9 : Nat) (i : Nat) (n1 : Nat) (b3 : Nat) (b4 : Nat) (b5 : Nat) (N1 : Nat) (z3 : Nat → Int64) (z4 : Nat → Int64) (z5 : Nat → Int32) (OL1 : Nat → List (Nat × Nat)) (V1 : Nat → Nat) (FK1 : Nat → Nat) (gs1 : Int64) (gn1 : Int64) (gf1 : Int32) (gt1 : Int32) (ow1 : Nat → Nat) (h1 : mH), (i ≤ c) → (cFr [1, 10] (7 * (n1 - n)) ow h ow1 h1) → (n ≤ n1 ∧ N1 ≤ n1 ∧ n1 ≤ 20480) → (zY ow1 h1 n1 b3 b4 b5 yp yf (nI N1) z3 z4 z5) → (zT ow1 h1 a ρ nt m a2 a3 a4 a5 a6 a7 tf (nI c) t2 t3 t4 t5 t6 t7 tp) → (zG ow1 h1 pl (nI a0) (nI ee) gs1 gn1 gf1 gt1) → (tyV z3 z4 z5 N1 OL1 V1 ee) → (cvI (fun i => decide (Wr i = 0 ∧ Rt i ≠ 0)) (fun i => cutK P ee (K i) (mzN z) a0) K i N1 OL1 V1 FK1) → (c < i + t9) → Wp mX10_countAll 4 95 8 [some (.ref 117), some (.ref a), some (.ref 115), some (.int z), some (.int (nI i))] [] h1 Q := by
    intro t9
    induction t9 with
    | zero => intros; omega
    | succ t9 ih =>
      intro i n1 b3 b4 b5 N1 z3 z4 z5 OL1 V1 FK1 gs1 gn1 gf1 gt1 ow1 h1 hi hf1 hn1 zy1 zt1 zg1 ty1 cv1 hmz
      have cvb := cv_V cv1
      refine wp_iload dX10_countAll_8 rfl ?_
      refine wp_aload_n dX10_countAll_10 rfl rfl ?_
      refine wp_getIV dX10_countAll_11 lX10_32 rfl zt1.o zt1.f1 ?_
      refine wp_icmp_geN dX10_countAll_14 rfl rfl ⟨by omega, by omega⟩ (fun c2 => ?_) (fun c2 => ?_)
      · refine wp_vreturn dX10_countAll_67 rfl ?_
        have ei9 : i = c := by omega
        subst ei9
        exact hq _ _ _ _ _ _ _ _ _ _ _ _ _ _ _ _ _ hf1 hn1 zy1 zg1 ty1 cv1
      · refine wp_aload_n dX10_countAll_17 rfl rfl ?_
        refine wp_getR dX10_countAll_18 lX10_35 rfl zt1.o zt1.r5 ?_
        refine wp_iload dX10_countAll_21 rfl ?_
        refine wp_ialdV dX10_countAll_23 zt1.a5 rfl ⟨by omega, by omega⟩ ((congrFun zt1.c5 _).trans (hR i (by omega)).2.2.2.1) ?_
        refine wp_if_neN dX10_countAll_24 rfl (by have := hR i (by omega); omega) (fun c3 => ?_) (fun c3 => ?_)
        · refine wp_iinc1 (ls1 := [_, _, _, _, some _]) dX10_countAll_61 rfl (by decide) rfl ?_
          refine wp_goto dX10_countAll_64 ?_
          exact ih (i + 1) _ _ _ _ _ _ _ _ _ _ _ _ _ _ _ _ _ (by omega) hf1 hn1 zy1 zt1 zg1 ty1 (cv_no cv1 (decide_eq_false (by omega))) (by omega)
        · refine wp_aload_n dX10_countAll_27 rfl rfl ?_
          refine wp_getR dX10_countAll_28 lX10_38 rfl zt1.o zt1.r4 ?_
          refine wp_iload dX10_countAll_31 rfl ?_
          refine wp_ialdV dX10_countAll_33 zt1.a4 rfl ⟨by omega, by omega⟩ ((congrFun zt1.c4 _).trans (hR i (by omega)).2.2.1.1) ?_
          refine wp_if_eqN dX10_countAll_34 rfl (by have := hR i (by omega); omega) (fun c4 => ?_) (fun c4 => ?_)
          · refine wp_iinc1 (ls1 := [_, _, _, _, some _]) dX10_countAll_61 rfl (by decide) rfl ?_
            refine wp_goto dX10_countAll_64 ?_
            exact ih (i + 1) _ _ _ _ _ _ _ _ _ _ _ _ _ _ _ _ _ (by omega) hf1 hn1 zy1 zt1 zg1 ty1 (cv_no cv1 (decide_eq_false (by omega))) (by omega)
          · refine wp_aload_n dX10_countAll_37 rfl rfl ?_
            refine wp_aload_n dX10_countAll_38 rfl rfl ?_
            refine wp_getR dX10_countAll_39 lX10_41 rfl zt1.o zt1.r2 ?_
            refine wp_iload dX10_countAll_42 rfl ?_
            refine wp_laldV dX10_countAll_44 zt1.a2 rfl ⟨by omega, by omega⟩ ((congrFun zt1.c2 _).trans (hR i (by omega)).1.1) ?_
            refine wp_iload_n dX10_countAll_45 rfl rfl ?_
            refine wp_cV2 3 70 [some _, some _, none, some _, none, none] dX10_countAll_46 tX2_slice rfl (by decide) nX2_slice vX2_slice lX10_44 ⟨by decide, by decide⟩ (Nat.le_of_ble_eq_true rfl) zg1.o (Nat.le_of_ble_eq_true rfl) rfl ?_
            refine pX2_slice zg1 hP he hlen (hR i (by omega)).1.2 (hcd i (by omega)) ha hz (fun hh1 gf1 gt1 f1 zg1_1 => ?_)
            intro _ _
            have zy1_1 := zy1.fr f1 (rnS (by omega) rn0)
            have zt1_1 := zt1.fr f1 (rnS (by omega) rn0)
            refine wp_aload_n dX10_countAll_49 rfl rfl ?_
            refine wp_aload_n dX10_countAll_50 rfl rfl ?_
            refine wp_getLV dX10_countAll_51 lX10_50 rfl zg1_1.o zg1_1.f3 ?_
            refine wp_aload_n dX10_countAll_54 rfl rfl ?_
            refine wp_getLV dX10_countAll_55 lX10_53 rfl zg1_1.o zg1_1.f4 ?_
            refine wp_cV2 3 68 [some _, some _, none, some _, none, none] dX10_countAll_58 tX10_vote rfl (by decide) nX10_vote vX10_vote lX10_55 ⟨by decide, by decide⟩ (Nat.le_of_ble_eq_true rfl) zy1_1.o (Nat.le_of_ble_eq_true rfl) rfl ?_
            refine pX10_vote (l := cutK P ee (K i) (mzN z) a0) zy1_1 (by omega) (by omega) (by have := hf1.1.2.2; have := f1.1.2.2; omega) ty1 (srt_cut (mzN z) a0 ha).1 (by omega) (fun o ho => by have := cvb.2 o ho; omega) (fun hh2 ow2 n2 b32 b42 b52 z32 z42 z52 N2 OL2 V2 f2 hn2 zy1_2 ty2 vt2 => ?_)
            intro _ _
            obtain ⟨FK2, cv2⟩ := cv_s cv1 hK (by omega) (decide_eq_true ⟨by omega, by omega⟩) vt2
            have zt1_2 := zt1_1.fr f2 (rnS (by omega) rn0)
            have zg1_2 := zg1_1.fr f2 (rnS (by omega) rn0)
            refine wp_iinc1 (ls1 := [_, _, _, _, some _]) dX10_countAll_61 rfl (by decide) rfl ?_
            refine wp_goto dX10_countAll_64 ?_
            exact ih (i + 1) _ _ _ _ _ _ _ _ _ _ _ _ _ _ _ _ _ (by omega) (((hf1.tr (f1.up (by decide) (Nat.le_refl _))).tr (f2.up (by decide) (Nat.le_refl _))).up (fun _ h => h) (by omega)) (by omega) zy1_2 zt1_2 zg1_2 ty2 cv2 (by omega)
  refine wp_aload_n dX10_countAll_0 rfl rfl ?_
  refine wp_iconst (v := (nI 0)) dX10_countAll_1 (by decide +kernel) ?_
  refine wp_putI dX10_countAll_2 lX10_29 rfl (Or.inl rfl) zy.o rfl rfl ?_
  refine zy.p2 (fun hh1 f1 zy_1 => ?_)
  have zt_1 := zt.fr f1 (rnS (by omega) rn0)
  have zg_1 := zg.fr f1 (rnS (by omega) rn0)
  refine wp_iconst (v := (nI 0)) dX10_countAll_5 (by decide +kernel) ?_
  refine wp_istore (ls1 := [_, _, _, _, some _]) dX10_countAll_6 (by decide) rfl ?_
  exact hlp (c + 1) 0 _ _ _ _ 0 _ _ _ (fun _ => []) (fun _ => 0) (fun _ => 0) _ _ _ _ _ _ (Nat.zero_le _) (f1.up (by decide) (Nat.zero_le _)) (by omega) zy_1 zt_1 zg_1 (fun o ho => absurd ho (Nat.not_lt_zero o)) cv_0 (by omega)
