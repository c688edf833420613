/-! ===== unlike rules are taken off the pile ===== -/
def tkP (V : Nat → Nat) (k c : Nat) (K O : Nat → Nat) : Prop := (∀ i j, i < j → j < c → K i < K j) ∧ (∀ i, i < c → ∀ p, (O i).testBit p = true ↔ ∃ x, x < k ∧ V x / 64 = K i ∧ (V x % 64).testBit p = true) ∧ (∀ x, x < k → ∃ i, i < c ∧ K i = V x / 64) ∧ ∀ i, i < c → ∃ x, x < k ∧ K i = V x / 64
theorem tkP_0 {V : Nat → Nat} {K O : Nat → Nat} : tkP V 0 0 K O := ⟨fun i j _ h => absurd h (Nat.not_lt_zero _), fun i h => absurd h (Nat.not_lt_zero _), fun x h => absurd h (Nat.not_lt_zero _), fun i h => absurd h (Nat.not_lt_zero _)⟩
theorem tkP_a {V : Nat → Nat} {k c : Nat} {K O : Nat → Nat} (g : tkP V k c K O) (hc : 0 < c) (e : K (c - 1) = V k / 64) : tkP V (k + 1) c K (upN O (c - 1) (O (c - 1) ||| V k % 64)) := by
  obtain ⟨g1, g2, g3, g4⟩ := g
  refine ⟨g1, fun i hi p => ?_, fun x hx => ?_, fun i hi => ?_⟩
  · by_cases z : i = c - 1
    · rw [z, upN_at, Nat.testBit_or, Bool.or_eq_true, g2 (c - 1) (by omega) p]
      constructor
      · rintro (⟨x, h1, h2, h3⟩ | h)
        · exact ⟨x, by omega, h2, h3⟩
        · exact ⟨k, by omega, e.symm, h⟩
      · rintro ⟨x, h1, h2, h3⟩
        by_cases w : x = k
        · subst w; exact Or.inr h3
        · exact Or.inl ⟨x, by omega, h2, h3⟩
    · rw [upN_ne z, g2 i hi p]
      constructor
      · rintro ⟨x, h1, h2, h3⟩; exact ⟨x, by omega, h2, h3⟩
      · rintro ⟨x, h1, h2, h3⟩
        by_cases w : x = k
        · subst w
          have := g1 i (c - 1) (by omega) (by omega)
          omega
        · exact ⟨x, by omega, h2, h3⟩
  · by_cases w : x = k
    · subst w; exact ⟨c - 1, by omega, e⟩
    · exact g3 x (by omega)
  · obtain ⟨x, h1, h2⟩ := g4 i hi
    exact ⟨x, by omega, h2⟩
theorem tkP_b {V : Nat → Nat} {k c : Nat} {K O : Nat → Nat} (g : tkP V k c K O) (hlt : ∀ i, i < c → K i < V k / 64) : tkP V (k + 1) (c + 1) (upN K c (V k / 64)) (upN O c (V k % 64)) := by
  obtain ⟨g1, g2, g3, g4⟩ := g
  refine ⟨fun i j h1 h2 => ?_, fun i hi p => ?_, fun x hx => ?_, fun i hi => ?_⟩
  · by_cases z : j = c
    · rw [z, upN_at, upN_ne (by omega)]; exact hlt i (by omega)
    · rw [upN_ne z, upN_ne (by omega)]; exact g1 i j h1 (by omega)
  · by_cases z : i = c
    · rw [z, upN_at, upN_at]
      constructor
      · intro h; exact ⟨k, by omega, rfl, h⟩
      · rintro ⟨x, h1, h2, h3⟩
        by_cases w : x = k
        · subst w; exact h3
        · obtain ⟨i', k1, k2⟩ := g3 x (by omega)
          have := hlt i' k1
          omega
    · rw [upN_ne z, upN_ne z, g2 i (by omega) p]
      constructor
      · rintro ⟨x, h1, h2, h3⟩; exact ⟨x, by omega, h2, h3⟩
      · rintro ⟨x, h1, h2, h3⟩
        by_cases w : x = k
        · subst w
          have := hlt i (by omega)
          omega
        · exact ⟨x, by omega, h2, h3⟩
  · by_cases w : x = k
    · subst w; exact ⟨c, by omega, upN_at ..⟩
    · obtain ⟨i, h1, h2⟩ := g3 x (by omega)
      exact ⟨i, by omega, by rw [upN_ne (by omega)]; exact h2⟩
  · by_cases z : i = c
    · exact ⟨k, by omega, by rw [z, upN_at]⟩
    · obtain ⟨x, h1, h2⟩ := g4 i (by omega)
      exact ⟨x, by omega, by rw [upN_ne z]; exact h2⟩
/-- a table of c rules -/
def tTk (ow : Nat → Nat) (h : mH) (a ρ n m c : Nat) (K O : Nat → Nat) : Prop := ∃ a2 a3 a4 a5 a6 a7 tf t2 t3 t4 t5 t6 t7 tp, zT ow h a ρ n m a2 a3 a4 a5 a6 a7 tf (nI c) t2 t3 t4 t5 t6 t7 tp ∧ (64 ≤ m ∧ m ≤ 20480) ∧ (64 ≤ n ∧ n ≤ 20480 ∧ c ≤ n) ∧ ∀ i, i < c → (t2 i = lN (K i) ∧ K i < 1099511627776) ∧ t3 i = nI (O i) ∧ O i < 64
theorem v_sh {x : Nat} (hx : x < 2 ^ 46) : lN x >>> ((nI 6).toInt64 &&& 63) = lN (x / 64) := pf_shr (d := 6) (by decide +kernel) (by omega)
theorem v_bt {x : Nat} (hx : x < 2 ^ 46) : (lN x &&& 63).toInt32 = nI (x % 64) := by
  rw [show (63 : Int64) = lN (2 ^ 6 - 1) from rfl, wb_mask (by omega) (by decide), lN_i]
set_option maxRecDepth 20000 in
theorem pX9_makeRoom {h : mH} {Q : Option Value → mH → Prop} {ow : Nat → Nat} {a ρ n m a2 a3 a4 a5 a6 a7 : Nat} {tf tc : Int32} {t2 : Nat → Int64} {t3 t4 t5 : Nat → Int32} {t6 t7 : Nat → Int64} {tp : Int32} {sz : Nat} (zt : zT ow h a ρ n m a2 a3 a4 a5 a6 a7 tf tc t2 t3 t4 t5 t6 t7 tp) (hn : 64 ≤ n ∧ n ≤ 20480) (hsz : sz ≤ 10210) (hrm : hU h + 8 * hN h + 9 * (20480 - n) ≤ 8000000) (hq : ∀ h' ow' n' b2 b3 b4 b5 u2 u3 u4 u5, cFr [ρ] (9 * (n' - n)) ow h ow' h' → (n ≤ n' ∧ sz ≤ n' ∧ n' ≤ 20480) → zT ow' h' a ρ n' m b2 b3 b4 b5 a6 a7 tf tc u2 u3 u4 u5 t6 t7 tp → Q none h') : Wp mX9_makeRoom 1 21 0 [some (.ref a), some (.int (nI sz)), none] [] h Q := by
  have hscr : scrA = 1000000000 := rfl
  refine wp_iload_n dX9_makeRoom_0 rfl rfl ?_
  refine wp_aload_n dX9_makeRoom_1 rfl rfl ?_
  refine wp_getR dX9_makeRoom_2 lX9_9 rfl zt.o zt.r2 ?_
  refine wp_alen dX9_makeRoom_5 zt.a2 (by decide) (by decide) rfl ?_
  refine wp_icmp_leN dX9_makeRoom_6 rfl rfl ⟨by omega, by omega⟩ (fun c2 => ?_) (fun c2 => ?_)
  · refine wp_vreturn dX9_makeRoom_49 rfl ?_
    exact hq _ _ n _ _ _ _ _ _ _ _ (cFr.rf.up (fun _ h => h) (by omega)) (by omega) zt
  · refine wp_iload_n dX9_makeRoom_9 rfl rfl ?_
    refine wp_iconst (v := (nI 2)) dX9_makeRoom_10 (by decide +kernel) ?_
    refine wp_aload_n dX9_makeRoom_11 rfl rfl ?_
    refine wp_getR dX9_makeRoom_12 lX9_9 rfl zt.o zt.r2 ?_
    refine wp_alen dX9_makeRoom_15 zt.a2 (by decide) (by decide) rfl ?_
    refine wp_imul dX9_makeRoom_16 ?_
    refine wp_cS2 0 0 [some _, some _] dX9_makeRoom_17 tJ9_max_7cf53 sJ9_max_7cf53 lX9_138 ⟨by decide, by decide⟩ (Nat.le_of_ble_eq_true rfl) (Nat.le_of_ble_eq_true rfl) rfl ?_
    rw [show nI 2 * Int32.ofNat n = nI (2 * n) from pk_mul 2 n]
    refine pJ9_max_7cf53 (by omega) (by omega) ?_
    intro _ _
    have erm : ∃ rm, max sz (2 * n) = rm := ⟨_, rfl⟩
    obtain ⟨rm, erm⟩ := erm
    rw [erm]
    refine wp_istore_n (ls1 := [_, _, some _]) dX9_makeRoom_20 rfl (by decide) rfl ?_
    refine wp_aload_n dX9_makeRoom_21 rfl rfl ?_
    refine wp_iload_n dX9_makeRoom_22 rfl rfl ?_
    refine wp_newL (N := rm) dX9_makeRoom_23 wAc15 (nI_pos (by omega)) (nI_clamp (by omega)) (by omega) ?_
    refine wp_putR (v := some _) dX9_makeRoom_25 lX9_9 rfl (Or.inl rfl) (hO_nw zt.o) ?_
    have r1 := rlc_of (k := 2) zt.o.1 (by omega) (nwC_nw (h := h) (kd := 15) (n := rm))
    refine wp_aload_n dX9_makeRoom_28 rfl rfl ?_
    refine wp_iload_n dX9_makeRoom_29 rfl rfl ?_
    refine wp_newI (N := rm) dX9_makeRoom_30 wAc14 (nI_pos (by omega)) (nI_clamp (by omega)) (by omega) ?_
    refine wp_putR (v := some _) dX9_makeRoom_32 lX9_15 rfl (Or.inl rfl) (hO_nw (r1.o zt.o)) ?_
    have r2 := rlc_of (k := 3) (r1.o zt.o).1 (by have := r1.1; omega) (nwC_nw (h := (sR (nw h 15 rm) a 2 (some (hN h)))) (kd := 14) (n := rm))
    refine wp_aload_n dX9_makeRoom_35 rfl rfl ?_
    refine wp_iload_n dX9_makeRoom_36 rfl rfl ?_
    refine wp_newI (N := rm) dX9_makeRoom_37 wAc14 (nI_pos (by omega)) (nI_clamp (by omega)) (by omega) ?_
    refine wp_putR (v := some _) dX9_makeRoom_39 lX9_19 rfl (Or.inl rfl) (hO_nw (r2.o (r1.o zt.o))) ?_
    have r3 := rlc_of (k := 4) (r2.o (r1.o zt.o)).1 (by have := r2.1; have := r1.1; omega) (nwC_nw (h := (sR (nw (sR (nw h 15 rm) a 2 (some (hN h))) 14 rm) a 3 (some (hN (sR (nw h 15 rm) a 2 (some (hN h))))))) (kd := 14) (n := rm))
    refine wp_aload_n dX9_makeRoom_42 rfl rfl ?_
    refine wp_iload_n dX9_makeRoom_43 rfl rfl ?_
    refine wp_newI (N := rm) dX9_makeRoom_44 wAc14 (nI_pos (by omega)) (nI_clamp (by omega)) (by omega) ?_
    refine wp_putR (v := some _) dX9_makeRoom_46 lX9_22 rfl (Or.inl rfl) (hO_nw (r3.o (r2.o (r1.o zt.o)))) ?_
    have r4 := rlc_of (k := 5) (r3.o (r2.o (r1.o zt.o))).1 (by have := r3.1; have := r2.1; have := r1.1; omega) (nwC_nw (h := (sR (nw (sR (nw (sR (nw h 15 rm) a 2 (some (hN h))) 14 rm) a 3 (some (hN (sR (nw h 15 rm) a 2 (some (hN h)))))) 14 rm) a 4 (some (hN (sR (nw (sR (nw h 15 rm) a 2 (some (hN h))) 14 rm) a 3 (some (hN (sR (nw h 15 rm) a 2 (some (hN h)))))))))) (kd := 14) (n := rm))
    refine wp_vreturn dX9_makeRoom_49 rfl ?_
    obtain ⟨f9, z9⟩ := zt.mr (by omega) r1 r2 r3 r4
    exact hq _ _ rm _ _ _ _ _ _ _ _ (f9.up (fun _ h => h) (by omega)) (by omega) z9
set_option maxRecDepth 20000 in
theorem pX9_takeUnlike {h : mH} {Q : Option Value → mH → Prop} {ow : Nat → Nat} {a ρ k m n : Nat} {V : Nat → Nat} (tp : tPl ow h a ρ k m n V) (hk : k ≤ 10210) (hso : srtd V 0 k) (hrm : hU h + 8 * hN h + 9 * (20480 - n) ≤ 8000000) (hq : ∀ h' ow' n' c K O, cFr [ρ] (9 * (n' - n)) ow h ow' h' → (n ≤ n' ∧ n' ≤ 20480) → tTk ow' h' a ρ n' m c K O → tkP V k c K O → Q none h') : Wp mX9_takeUnlike 2 43 0 [some (.ref a), none, none, none, none] [] h Q := by
  obtain ⟨a2, a3, a4, a5, a6, a7, tf, tc, t2, t3, t4, t5, t6, t7, zt, hkm, hn, hV⟩ := tp
  have hloop : ∀ (ow1 : Nat → Nat) (n1 : Nat) (b2 : Nat) (b3 : Nat) (b4 : Nat) (b5 : Nat) (u4 : Nat → Int32) (u5 : Nat → Int32) (hn1 : n ≤ n1 ∧ k ≤ n1 ∧ n1 ≤ 20480) (t9 : Nat) (i : Nat) (c : Nat) (K : Nat → Nat) (O : Nat → Nat) (u2 : Nat → Int64) (u3 : Nat → Int32) (x2 : Option Value) (x4 : Option Value) (h1 : mH), (i ≤ k) → (c ≤ i) → (cFr [ρ] (9 * (n1 - n)) ow h ow1 h1) → (zT ow1 h1 a ρ n1 m b2 b3 b4 b5 a6 a7 tf (nI c) u2 u3 u4 u5 t6 t7 (nI k)) → (tkP V i c K O) → (∀ j, j < c → (u2 j = lN (K j) ∧ K j < 1099511627776) ∧ u3 j = nI (O j) ∧ O j < 64) → (0 < i → 0 < c ∧ K (c - 1) = V (i - 1) / 64) → (k < i + t9) → Wp mX9_takeUnlike 2 43 15 [some (.ref a), some (.int (nI i)), x2, none, x4] [] h1 Q := by
    intro ow1 n1 b2 b3 b4 b5 u4 u5 hn1 t9
    induction t9 with
    | zero => intros; omega
    | succ t9 ih =>
      intro i c K O u2 u3 x2 x4 h1 hi hci hf1 zt1 hg hR hla hmz
      refine wp_iload_n dX9_takeUnlike_15 rfl rfl ?_
      refine wp_aload_n dX9_takeUnlike_16 rfl rfl ?_
      refine wp_getIV dX9_takeUnlike_17 lX9_31 rfl zt1.o zt1.f8 ?_
      refine wp_icmp_geN dX9_takeUnlike_20 rfl rfl ⟨by omega, by omega⟩ (fun c2 => ?_) (fun c2 => ?_)
      · refine wp_vreturn dX9_takeUnlike_125 rfl ?_
        have ei9 : i = k := by omega
        subst ei9
        exact hq _ _ n1 c K O ((hf1).up (fun _ h => h) (by omega)) (by omega) ⟨_, _, _, _, _, _, _, _, _, _, _, _, _, _, zt1, ⟨hkm.2.1, hkm.2.2⟩, ⟨by omega, by omega, by omega⟩, hR⟩ hg
      · have hVi := (hV i (by omega)).2
        refine wp_aload_n dX9_takeUnlike_23 rfl rfl ?_
        refine wp_getR dX9_takeUnlike_24 lX9_25 rfl zt1.o zt1.r6 ?_
        refine wp_iload_n dX9_takeUnlike_27 rfl rfl ?_
        refine wp_laldV dX9_takeUnlike_28 zt1.a6 rfl ⟨by omega, by omega⟩ ((congrFun zt1.c6 _).trans (hV i (by omega)).1) ?_
        refine wp_bipush (v := (nI 6)) dX9_takeUnlike_29 (by decide +kernel) ?_
        refine wp_lshr dX9_takeUnlike_31 ?_
        rw [v_sh (hV i (by omega)).2]
        refine wp_lstore_n (ls1 := [_, _, some _, _, _]) dX9_takeUnlike_32 rfl (by decide) rfl ?_
        refine wp_aload_n dX9_takeUnlike_33 rfl rfl ?_
        refine wp_getR dX9_takeUnlike_34 lX9_25 rfl zt1.o zt1.r6 ?_
        refine wp_iload_n dX9_takeUnlike_37 rfl rfl ?_
        refine wp_laldV dX9_takeUnlike_38 zt1.a6 rfl ⟨by omega, by omega⟩ ((congrFun zt1.c6 _).trans (hV i (by omega)).1) ?_
        refine wp_ldc2 dX9_takeUnlike_39 lX9_136 ?_
        refine wp_land dX9_takeUnlike_42 ?_
        refine wp_l2i dX9_takeUnlike_43 ?_
        rw [v_bt (hV i (by omega)).2]
        refine wp_istore (ls1 := [_, _, _, _, some _]) dX9_takeUnlike_44 (by decide) rfl ?_
        refine wp_aload_n dX9_takeUnlike_46 rfl rfl ?_
        refine wp_getIV dX9_takeUnlike_47 lX9_133 rfl zt1.o zt1.f1 ?_
        refine wp_if_leN dX9_takeUnlike_50 rfl (by omega) (fun c3 => ?_) (fun c3 => ?_)
        · refine wp_aload_n dX9_takeUnlike_88 rfl rfl ?_
          refine wp_getR dX9_takeUnlike_89 lX9_9 rfl zt1.o zt1.r2 ?_
          refine wp_aload_n dX9_takeUnlike_92 rfl rfl ?_
          refine wp_getIV dX9_takeUnlike_93 lX9_133 rfl zt1.o zt1.f1 ?_
          refine wp_lload_n dX9_takeUnlike_96 rfl rfl ?_
          refine wp_lastN dX9_takeUnlike_97 zt1.a2 rfl ⟨by omega, by omega⟩ ?_
          refine zt1.w2 (fun hh1 f1 zt1_1 => ?_)
          refine wp_aload_n dX9_takeUnlike_98 rfl rfl ?_
          refine wp_getR dX9_takeUnlike_99 lX9_15 rfl zt1_1.o zt1_1.r3 ?_
          refine wp_aload_n dX9_takeUnlike_102 rfl rfl ?_
          refine wp_getIV dX9_takeUnlike_103 lX9_133 rfl zt1_1.o zt1_1.f1 ?_
          refine wp_iload dX9_takeUnlike_106 rfl ?_
          refine wp_iastN dX9_takeUnlike_108 zt1_1.a3 rfl ⟨by omega, by omega⟩ ?_
          refine zt1_1.w3 (fun hh2 f2 zt1_2 => ?_)
          refine wp_aload_n dX9_takeUnlike_109 rfl rfl ?_
          refine wp_dup dX9_takeUnlike_110 rfl ?_
          refine wp_getIV dX9_takeUnlike_111 lX9_133 rfl zt1_2.o zt1_2.f1 ?_
          refine wp_iconst (v := (nI 1)) dX9_takeUnlike_114 (by decide +kernel) ?_
          refine wp_iadd dX9_takeUnlike_115 ?_
          refine wp_putIN dX9_takeUnlike_116 lX9_133 rfl rfl (Or.inl rfl) zt1_2.o (isN_add rfl rfl) ?_
          refine zt1_2.p1 (fun hh3 f3 zt1_3 => ?_)
          refine wp_iinc1 (ls1 := [_, some _, _, _, _]) dX9_takeUnlike_119 rfl (by decide) rfl ?_
          refine wp_goto dX9_takeUnlike_122 ?_
          have hlt9 : ∀ j, j < c → K j < V i / 64 := by
            intro j hj
            have h0 : 0 < i := Nat.pos_of_ne_zero (fun z => by subst z; obtain ⟨x, hx, _⟩ := hg.2.2.2 j hj; omega)
            obtain ⟨l1, l2⟩ := hla h0
            have hs9 := hso (i - 1) i (Nat.zero_le _) (by omega) (by omega)
            have hd9 : V (i - 1) / 64 ≤ V i / 64 := Nat.div_le_div_right hs9
            have hne9 : ¬ K (c - 1) = V i / 64 := by first | omega | exact fun z => absurd (congrArg lN z) (by assumption)
            have hj9 : K j ≤ K (c - 1) := by
              by_cases z : j = c - 1
              · rw [z]; exact Nat.le_refl _
              · exact Nat.le_of_lt (hg.1 j (c - 1) (by omega) (by omega))
            omega
          refine ih (i + 1) (c + 1) (upN K c (V i / 64)) (upN O c (V i % 64)) _ _ _ _ _ (by omega) (by omega) (((hf1.tr (f1.up (fun x hx => by simp at hx ⊢; omega) (Nat.le_refl _))).tr (f2.up (fun x hx => by simp at hx ⊢; omega) (Nat.le_refl _))).tr (f3.up (fun x hx => by simp at hx ⊢; omega) (Nat.le_refl _))) zt1_3 (tkP_b hg hlt9) (fun j hj => ?_) (fun _ => ⟨by omega, by rw [Nat.add_sub_cancel, upN_at, Nat.add_sub_cancel]⟩) (by omega)
          unfold up1 upI upN
          by_cases z : j = c
          · rw [if_pos z, if_pos z, if_pos z, if_pos z]; exact ⟨⟨rfl, by omega⟩, rfl, Nat.mod_lt _ (by decide)⟩
          · rw [if_neg z, if_neg z, if_neg z, if_neg z]; exact hR j (by omega)
        · refine wp_aload_n dX9_takeUnlike_53 rfl rfl ?_
          refine wp_getR dX9_takeUnlike_54 lX9_9 rfl zt1.o zt1.r2 ?_
          refine wp_aload_n dX9_takeUnlike_57 rfl rfl ?_
          refine wp_getIV dX9_takeUnlike_58 lX9_133 rfl zt1.o zt1.f1 ?_
          refine wp_iconst (v := (nI 1)) dX9_takeUnlike_61 (by decide +kernel) ?_
          refine wp_isub dX9_takeUnlike_62 ?_
          refine wp_laldV dX9_takeUnlike_63 zt1.a2 (isN_sub rfl rfl (by omega)) ⟨by omega, by omega⟩ ((congrFun zt1.c2 _).trans (hR (c - 1) (by omega)).1.1) ?_
          refine wp_lload_n dX9_takeUnlike_64 rfl rfl ?_
          refine wp_lc_ne dX9_takeUnlike_65 dX9_takeUnlike_66 (fun c4 => ?_) (fun c4 => ?_)
          · refine wp_aload_n dX9_takeUnlike_88 rfl rfl ?_
            refine wp_getR dX9_takeUnlike_89 lX9_9 rfl zt1.o zt1.r2 ?_
            refine wp_aload_n dX9_takeUnlike_92 rfl rfl ?_
            refine wp_getIV dX9_takeUnlike_93 lX9_133 rfl zt1.o zt1.f1 ?_
            refine wp_lload_n dX9_takeUnlike_96 rfl rfl ?_
            refine wp_lastN dX9_takeUnlike_97 zt1.a2 rfl ⟨by omega, by omega⟩ ?_
            refine zt1.w2 (fun hh4 f4 zt1_4 => ?_)
            refine wp_aload_n dX9_takeUnlike_98 rfl rfl ?_
            refine wp_getR dX9_takeUnlike_99 lX9_15 rfl zt1_4.o zt1_4.r3 ?_
            refine wp_aload_n dX9_takeUnlike_102 rfl rfl ?_
            refine wp_getIV dX9_takeUnlike_103 lX9_133 rfl zt1_4.o zt1_4.f1 ?_
            refine wp_iload dX9_takeUnlike_106 rfl ?_
            refine wp_iastN dX9_takeUnlike_108 zt1_4.a3 rfl ⟨by omega, by omega⟩ ?_
            refine zt1_4.w3 (fun hh5 f5 zt1_5 => ?_)
            refine wp_aload_n dX9_takeUnlike_109 rfl rfl ?_
            refine wp_dup dX9_takeUnlike_110 rfl ?_
            refine wp_getIV dX9_takeUnlike_111 lX9_133 rfl zt1_5.o zt1_5.f1 ?_
            refine wp_iconst (v := (nI 1)) dX9_takeUnlike_114 (by decide +kernel) ?_
            refine wp_iadd dX9_takeUnlike_115 ?_
            refine wp_putIN dX9_takeUnlike_116 lX9_133 rfl rfl (Or.inl rfl) zt1_5.o (isN_add rfl rfl) ?_
            refine zt1_5.p1 (fun hh6 f6 zt1_6 => ?_)
            refine wp_iinc1 (ls1 := [_, some _, _, _, _]) dX9_takeUnlike_119 rfl (by decide) rfl ?_
            refine wp_goto dX9_takeUnlike_122 ?_
            have hlt9 : ∀ j, j < c → K j < V i / 64 := by
              intro j hj
              have h0 : 0 < i := Nat.pos_of_ne_zero (fun z => by subst z; obtain ⟨x, hx, _⟩ := hg.2.2.2 j hj; omega)
              obtain ⟨l1, l2⟩ := hla h0
              have hs9 := hso (i - 1) i (Nat.zero_le _) (by omega) (by omega)
              have hd9 : V (i - 1) / 64 ≤ V i / 64 := Nat.div_le_div_right hs9
              have hne9 : ¬ K (c - 1) = V i / 64 := by first | omega | exact fun z => absurd (congrArg lN z) (by assumption)
              have hj9 : K j ≤ K (c - 1) := by
                by_cases z : j = c - 1
                · rw [z]; exact Nat.le_refl _
                · exact Nat.le_of_lt (hg.1 j (c - 1) (by omega) (by omega))
              omega
            refine ih (i + 1) (c + 1) (upN K c (V i / 64)) (upN O c (V i % 64)) _ _ _ _ _ (by omega) (by omega) (((hf1.tr (f4.up (fun x hx => by simp at hx ⊢; omega) (Nat.le_refl _))).tr (f5.up (fun x hx => by simp at hx ⊢; omega) (Nat.le_refl _))).tr (f6.up (fun x hx => by simp at hx ⊢; omega) (Nat.le_refl _))) zt1_6 (tkP_b hg hlt9) (fun j hj => ?_) (fun _ => ⟨by omega, by rw [Nat.add_sub_cancel, upN_at, Nat.add_sub_cancel]⟩) (by omega)
            unfold up1 upI upN
            by_cases z : j = c
            · rw [if_pos z, if_pos z, if_pos z, if_pos z]; exact ⟨⟨rfl, by omega⟩, rfl, Nat.mod_lt _ (by decide)⟩
            · rw [if_neg z, if_neg z, if_neg z, if_neg z]; exact hR j (by omega)
          · refine wp_aload_n dX9_takeUnlike_69 rfl rfl ?_
            refine wp_getR dX9_takeUnlike_70 lX9_15 rfl zt1.o zt1.r3 ?_
            refine wp_aload_n dX9_takeUnlike_73 rfl rfl ?_
            refine wp_getIV dX9_takeUnlike_74 lX9_133 rfl zt1.o zt1.f1 ?_
            refine wp_iconst (v := (nI 1)) dX9_takeUnlike_77 (by decide +kernel) ?_
            refine wp_isub dX9_takeUnlike_78 ?_
            refine wp_dup2 dX9_takeUnlike_79 rfl rfl ?_
            refine wp_ialdV dX9_takeUnlike_80 zt1.a3 (isN_sub rfl rfl (by omega)) ⟨by omega, by omega⟩ ((congrFun zt1.c3 _).trans (hR (c - 1) (by omega)).2.1) ?_
            refine wp_iload dX9_takeUnlike_81 rfl ?_
            refine wp_ior dX9_takeUnlike_83 ?_
            rw [nx_or]
            refine wp_iastN dX9_takeUnlike_84 zt1.a3 (isN_sub rfl rfl (by omega)) ⟨by omega, by omega⟩ ?_
            refine zt1.w3 (fun hh7 f7 zt1_7 => ?_)
            refine wp_goto dX9_takeUnlike_85 ?_
            refine wp_iinc1 (ls1 := [_, some _, _, _, _]) dX9_takeUnlike_119 rfl (by decide) rfl ?_
            refine wp_goto dX9_takeUnlike_122 ?_
            have ek9 : K (c - 1) = V i / 64 := (pk_lEQ (by have := (hR (c - 1) (by omega)).1.2; omega) (by omega)).mp (by assumption)
            refine ih (i + 1) c K (upN O (c - 1) (O (c - 1) ||| V i % 64)) _ _ _ _ _ (by omega) (by omega) (hf1.tr (f7.up (fun x hx => by simp at hx ⊢; omega) (Nat.le_refl _))) zt1_7 (tkP_a hg (by omega) ek9) (fun j hj => ?_) (fun _ => ⟨by omega, by rw [Nat.add_sub_cancel]; exact ek9⟩) (by omega)
            unfold upI upN
            by_cases z : j = c - 1
            · rw [if_pos z, if_pos z, z]; exact ⟨(hR (c - 1) (by omega)).1, rfl, Nat.or_lt_two_pow (n := 6) (hR (c - 1) (by omega)).2.2 (Nat.mod_lt _ (by decide))⟩
            · rw [if_neg z, if_neg z]; exact hR j hj
  refine wp_aload_n dX9_takeUnlike_0 rfl rfl ?_
  refine wp_aload_n dX9_takeUnlike_1 rfl rfl ?_
  refine wp_getIV dX9_takeUnlike_2 lX9_31 rfl zt.o zt.f8 ?_
  refine wp_cV1 1 21 [some _, some _, none] dX9_takeUnlike_5 tX9_makeRoom rfl (by decide) nX9_makeRoom vX9_makeRoom lX9_129 ⟨by decide, by decide⟩ (Nat.le_of_ble_eq_true rfl) zt.o (Nat.le_of_ble_eq_true rfl) rfl ?_
  refine pX9_makeRoom zt ⟨hn.1, hn.2⟩ (by omega) hrm (fun hh1 ow1 n1 b2 b3 b4 b5 u2 u3 u4 u5 f1 hn1 zt_1 => ?_)
  intro _ _
  refine wp_aload_n dX9_takeUnlike_8 rfl rfl ?_
  refine wp_iconst (v := (nI 0)) dX9_takeUnlike_9 (by decide +kernel) ?_
  refine wp_putI dX9_takeUnlike_10 lX9_133 rfl (Or.inl rfl) zt_1.o rfl rfl ?_
  refine zt_1.p1 (fun hh2 f2 zt_2 => ?_)
  refine wp_iconst (v := (nI 0)) dX9_takeUnlike_13 (by decide +kernel) ?_
  refine wp_istore_n (ls1 := [_, some _, _, _, _]) dX9_takeUnlike_14 rfl (by decide) rfl ?_
  exact hloop _ n1 _ _ _ _ _ _ hn1 (k + 1) 0 0 (fun _ => 0) (fun _ => 0) _ _ _ _ _ (by omega) (by omega) ((f1.tr f2).up (fun _ h => h) (by omega)) zt_2 tkP_0 (fun j hj => absurd hj (Nat.not_lt_zero j)) (fun z => absurd z (Nat.lt_irrefl 0)) (by omega)
