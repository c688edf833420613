/-! ===== drift ===== -/
def mf0 (r : Nat → Int64) (f : Nat) (W : Nat → Int64) (q : Nat × Nat) : Nat := if mf1 r f W q = 6 then 0 else mf1 r f W q
section
variable {r : Nat → Int64} {f : Nat} {W : Nat → Int64} {a b : Nat}
theorem mf_2 (h : b - a < lrS r f 0 ∨ lrS r f 1 < b - a) : mf0 r f W (a, b) = 2 := by
  have e : mf1 r f W (a, b) = 2 := if_pos h
  unfold mf0
  rw [e]
  rfl
theorem mf_3 (h : ¬ (b - a < lrS r f 0 ∨ lrS r f 1 < b - a)) (h3 : (lrS r f 2).testBit (kd (W a)) = false) : mf0 r f W (a, b) = 3 := by
  have e : mf1 r f W (a, b) = 3 := (if_neg h).trans (if_pos h3)
  unfold mf0
  rw [e]
  rfl
theorem mf_4 (h : ¬ (b - a < lrS r f 0 ∨ lrS r f 1 < b - a)) (h3 : ¬ (lrS r f 2).testBit (kd (W a)) = false) (h4 : (lrS r f 3).testBit (kd (W (b - 1))) = false) : mf0 r f W (a, b) = 4 := by
  have e : mf1 r f W (a, b) = 4 := (if_neg h).trans ((if_neg h3).trans (if_pos h4))
  unfold mf0
  rw [e]
  rfl
theorem mf_5 (h : ¬ (b - a < lrS r f 0 ∨ lrS r f 1 < b - a)) (h3 : ¬ (lrS r f 2).testBit (kd (W a)) = false) (h4 : ¬ (lrS r f 3).testBit (kd (W (b - 1))) = false) (h5 : mfK r f W a (lrS r f 0) = true) : mf0 r f W (a, b) = 5 := by
  have e0 : min (b - a) (lrS r f 0) = lrS r f 0 := by omega
  have e : mf1 r f W (a, b) = 5 := (if_neg h).trans ((if_neg h3).trans ((if_neg h4).trans (if_pos (by show mfK r f W a (min (b - a) (lrS r f 0)) = true; rw [e0]; exact h5))))
  unfold mf0
  rw [e]
  rfl
theorem mf_6 (h : ¬ (b - a < lrS r f 0 ∨ lrS r f 1 < b - a)) (h3 : ¬ (lrS r f 2).testBit (kd (W a)) = false) (h4 : ¬ (lrS r f 3).testBit (kd (W (b - 1))) = false) (h5 : mfK r f W a (lrS r f 0) = false) : mf0 r f W (a, b) = 0 := by
  have e0 : min (b - a) (lrS r f 0) = lrS r f 0 := by omega
  have e : mf1 r f W (a, b) = 6 := (if_neg h).trans ((if_neg h3).trans ((if_neg h4).trans (if_neg (by show ¬ mfK r f W a (min (b - a) (lrS r f 0)) = true; rw [e0, h5]; decide))))
  unfold mf0
  rw [e]
  rfl
theorem mfK_up {k : Nat} (h : mfK r f W a k = true) : ∀ m, mfK r f W a (k + m) = true
  | 0 => h
  | m + 1 => by
    show (mfK r f W a (k + m) || _) = true
    rw [mfK_up h m, Bool.true_or]
theorem mf1_r : ∀ q, 2 ≤ mf1 r f W q ∧ mf1 r f W q ≤ 6 := by
  intro q
  unfold mf1
  split
  · decide
  · split
    · decide
    · split
      · decide
      · split <;> decide
end
theorem mfk_t {r : Nat → Int64} {f a k N : Nat} {W : Nat → Int64} (hk : k < N) (h : mfK r f W a (k + 1) = true) : mfK r f W a N = true := by
  have := mfK_up h (N - (k + 1))
  rwa [show k + 1 + (N - (k + 1)) = N by omega] at this
set_option maxRecDepth 20000 in
theorem mis_loop {h : mH} {Q : Option Value → mH → Prop} {ow : Nat → Nat} {F f p qn qp a b : Nat} {pa my : Nat → Int32} {r : Nat → Int64} (ln : lnR ow h qn r f) (hd : sOK r F pa my) (hp : p < rP r) (hT40 : rT r p ≤ 40) (pg : pgR ow h qp r p) (hl1 : f < F ∧ r (655 + 70 * f) = 1) (hab : a + lrS r f 0 ≤ rT r p ∧ lrS r f 0 ≤ 40) (h5 : mfK r f (rwW r p (-1)) a (lrS r f 0) = true → Q (some (.int (nI 5))) h) (h6 : mfK r f (rwW r p (-1)) a (lrS r f 0) = false → Q (some (.int (nI 0))) h) : Wp mX4_misfitOf 1 21 61 [some (.ref qn), some (.ref qp), some (.int (nI a)), some (.int (nI b)), some (.int (nI 0))] [] h Q := by
  have hP6 := hd.w.1.2
  have hF4 := hd.f4
  obtain ⟨hfF, hl1⟩ := hl1
  have hloop : ∀  (t9 : Nat) (k : Nat), (k ≤ lrS r f 0) → (mfK r f (rwW r p (-1)) a k = false) → (lrS r f 0 < k + t9) → Wp mX4_misfitOf 1 21 61 [some (.ref qn), some (.ref qp), some (.int (nI a)), some (.int (nI b)), some (.int (nI k))] [] h Q := by
    intro t9
    induction t9 with
    | zero => intros; omega
    | succ t9 ih =>
      intro k hk hno hmz
      refine wp_iload dX4_misfitOf_61 rfl ?_
      refine wp_aload_n dX4_misfitOf_63 rfl rfl ?_
      refine wp_getR dX4_misfitOf_64 lX4_59 rfl ln.oo ln.r1 ?_
      refine wp_alen dX4_misfitOf_67 ln.a1 (by decide) (by decide) rfl ?_
      refine wp_icmp_geN dX4_misfitOf_68 rfl rfl ⟨by omega, by omega⟩ (fun c2 => ?_) (fun c2 => ?_)
      · refine wp_iconst (v := (nI 0)) dX4_misfitOf_108 (by decide +kernel) ?_
        refine wp_ireturn dX4_misfitOf_109 rfl ?_
        have ek9 : k = lrS r f 0 := by omega
        subst ek9
        exact h6 hno
      · have hkS : k < lrS r f 0 := by omega
        have hpt := (hd.l1 f (by omega) hl1).2.2.2.2 k (by omega)
        refine wp_aload_n dX4_misfitOf_71 rfl rfl ?_
        refine wp_getR dX4_misfitOf_72 lX4_59 rfl ln.oo ln.r1 ?_
        refine wp_iload dX4_misfitOf_75 rfl ?_
        refine wp_ialdV dX4_misfitOf_77 ln.a1 rfl ⟨by omega, by omega⟩ (ln.c1 (by omega)) ?_
        refine wp_iconst (v := (nI 3)) dX4_misfitOf_78 (by decide +kernel) ?_
        refine wp_icmp_eqN dX4_misfitOf_79 rfl rfl ⟨by omega, by omega⟩ (fun c3 => ?_) (fun c3 => ?_)
        · refine wp_iinc1 (ls1 := [_, _, _, _, some _]) dX4_misfitOf_102 rfl (by decide) rfl ?_
          refine wp_goto dX4_misfitOf_105 ?_
          exact ih (k + 1) (by omega) (by show (_ || _) = false; rw [rwW_m1 hT40 (by omega), hno, Bool.false_or]; exact decide_eq_false (fun z => by omega)) (by omega)
        · refine wp_aload_n dX4_misfitOf_82 rfl rfl ?_
          refine wp_getR dX4_misfitOf_83 lX4_59 rfl ln.oo ln.r1 ?_
          refine wp_iload dX4_misfitOf_86 rfl ?_
          refine wp_ialdV dX4_misfitOf_88 ln.a1 rfl ⟨by omega, by omega⟩ (ln.c1 (by omega)) ?_
          refine wp_aload_n dX4_misfitOf_89 rfl rfl ?_
          refine wp_iload_n dX4_misfitOf_90 rfl rfl ?_
          refine wp_iload dX4_misfitOf_91 rfl ?_
          refine wp_iadd dX4_misfitOf_93 ?_
          refine wp_cV1 0 0 [some _, some _] dX4_misfitOf_94 tX6_kindAt rfl (by decide) nX6_kindAt vX6_kindAt lX4_91 ⟨by decide, by decide⟩ (Nat.le_of_ble_eq_true rfl) pg.oo (Nat.le_of_ble_eq_true rfl) rfl ?_
          rw [nI_add]
          refine pX6_kindAt hd hp pg (fun i1 hi1 ei1 => ?_) (fun xn1 => absurd xn1 (by rw [ix_nI (by omega) (by omega)]; exact fun z => by cases z))
          have ei1 := (nI_eq (by omega) (by omega)).mp ei1
          subst ei1
          intro _ _
          have hk1 := kd_lt (rW r p (a + k))
          refine wp_icmp_eqN dX4_misfitOf_97 rfl rfl ⟨by omega, by omega⟩ (fun c4 => ?_) (fun c4 => ?_)
          · refine wp_iinc1 (ls1 := [_, _, _, _, some _]) dX4_misfitOf_102 rfl (by decide) rfl ?_
            refine wp_goto dX4_misfitOf_105 ?_
            exact ih (k + 1) (by omega) (by show (_ || _) = false; rw [rwW_m1 hT40 (by omega), hno, Bool.false_or]; exact decide_eq_false (fun z => by omega)) (by omega)
          · refine wp_iconst (v := (nI 5)) dX4_misfitOf_100 (by decide +kernel) ?_
            refine wp_ireturn dX4_misfitOf_101 rfl ?_
            exact h5 (mfk_t hkS (by show (_ || _) = true; rw [rwW_m1 hT40 (by omega), Bool.or_eq_true]; exact Or.inr (decide_eq_true ⟨by assumption, fun z => by omega⟩)))
  exact hloop (lrS r f 0 + 1) 0 (by omega) rfl (by omega)
set_option maxRecDepth 20000 in
theorem pX4_misfitOf {h : mH} {Q : Option Value → mH → Prop} {ow : Nat → Nat} {F f p qn qp : Nat} {pa my : Nat → Int32} {r : Nat → Int64} {a b : Nat} (ln : lnR ow h qn r f) (hd : sOK r F pa my) (hp : p < rP r) (pg : pgR ow h qp r p) (hl1 : f < F ∧ r (655 + 70 * f) = 1) (hab : a < b ∧ b ≤ rT r p) (hq : Q (some (.int (nI (mf0 r f (rwW r p (-1)) (a, b))))) h) : Wp mX4_misfitOf 1 21 0 [some (.ref qn), some (.ref qp), some (.int (nI a)), some (.int (nI b)), none] [] h Q := by
  have hP6 := hd.w.1.2
  have hF4 := hd.f4
  have hT40 := (hd.w.2.1 p (by omega)).2
  have hlS : ∀ w, w < 44 → lrS r f w ≤ 40 := fun w hw => (hd.ls f w (by omega) hw).2
  have hS0 := hlS 0 (by decide)
  have hS1 := hlS 1 (by decide)
  have hS2 := (hd.l1 f (by omega) hl1.2).2.2.1
  have hS3 := (hd.l1 f (by omega) hl1.2).2.2.2.1
  have hz : ∀ z, mf0 r f (rwW r p (-1)) (a, b) = z → Q (some (.int (nI z))) h := fun z e => e ▸ hq
  refine wp_iload_n dX4_misfitOf_0 rfl rfl ?_
  refine wp_iload_n dX4_misfitOf_1 rfl rfl ?_
  refine wp_isub dX4_misfitOf_2 ?_
  refine wp_aload_n dX4_misfitOf_3 rfl rfl ?_
  refine wp_getIV dX4_misfitOf_4 lX4_9 rfl ln.oo ln.f2 ?_
  refine wp_icmp_ltN dX4_misfitOf_7 (isN_sub rfl rfl (by omega)) rfl ⟨by omega, by omega⟩ (fun c2 => ?_) (fun c2 => ?_)
  · refine wp_iconst (v := (nI 2)) dX4_misfitOf_20 (by decide +kernel) ?_
    refine wp_ireturn dX4_misfitOf_21 rfl ?_
    exact hz _ (mf_2 (by omega))
  · refine wp_iload_n dX4_misfitOf_10 rfl rfl ?_
    refine wp_iload_n dX4_misfitOf_11 rfl rfl ?_
    refine wp_isub dX4_misfitOf_12 ?_
    refine wp_aload_n dX4_misfitOf_13 rfl rfl ?_
    refine wp_getIV dX4_misfitOf_14 lX4_85 rfl ln.oo ln.f3 ?_
    refine wp_icmp_leN dX4_misfitOf_17 (isN_sub rfl rfl (by omega)) rfl ⟨by omega, by omega⟩ (fun c4 => ?_) (fun c4 => ?_)
    · refine wp_aload_n dX4_misfitOf_22 rfl rfl ?_
      refine wp_getIV dX4_misfitOf_23 lX4_88 rfl ln.oo ln.f4 ?_
      refine wp_aload_n dX4_misfitOf_26 rfl rfl ?_
      refine wp_iload_n dX4_misfitOf_27 rfl rfl ?_
      refine wp_cV1 0 0 [some _, some _] dX4_misfitOf_28 tX6_kindAt rfl (by decide) nX6_kindAt vX6_kindAt lX4_91 ⟨by decide, by decide⟩ (Nat.le_of_ble_eq_true rfl) pg.oo (Nat.le_of_ble_eq_true rfl) rfl ?_
      refine pX6_kindAt hd hp pg (fun i1 hi1 ei1 => ?_) (fun xn1 => absurd xn1 (by rw [ix_nI (by omega) (by omega)]; exact fun z => by cases z))
      have ei1 := (nI_eq (by omega) (by omega)).mp ei1
      subst ei1
      intro _ _
      have hk1 := kd_lt (rW r p (a))
      refine wp_ishr dX4_misfitOf_31 ?_
      refine wp_iconst (v := (nI 1)) dX4_misfitOf_32 (by decide +kernel) ?_
      refine wp_iand dX4_misfitOf_33 ?_
      rw [bitI (by omega) (by omega)]
      by_cases b2 : (lrS r f 2).testBit (kd (rW r p (a))) = true
      · rw [if_pos b2]
        refine wp_if_ne dX4_misfitOf_34 (fun _ => ?_) (fun q => absurd q (by decide +kernel))
        refine wp_aload_n dX4_misfitOf_39 rfl rfl ?_
        refine wp_getIV dX4_misfitOf_40 lX4_97 rfl ln.oo ln.f5 ?_
        refine wp_aload_n dX4_misfitOf_43 rfl rfl ?_
        refine wp_iload_n dX4_misfitOf_44 rfl rfl ?_
        refine wp_iconst (v := (nI 1)) dX4_misfitOf_45 (by decide +kernel) ?_
        refine wp_isub dX4_misfitOf_46 ?_
        refine wp_cV1 0 0 [some _, some _] dX4_misfitOf_47 tX6_kindAt rfl (by decide) nX6_kindAt vX6_kindAt lX4_91 ⟨by decide, by decide⟩ (Nat.le_of_ble_eq_true rfl) pg.oo (Nat.le_of_ble_eq_true rfl) rfl ?_
        try rw [pk_sub (by omega)]
        refine pX6_kindAt hd hp pg (fun i2 hi2 ei2 => ?_) (fun xn2 => absurd xn2 (by rw [ix_nI (by omega) (by omega)]; exact fun z => by cases z))
        have ei2 := (nI_eq (by omega) (by omega)).mp ei2
        subst ei2
        intro _ _
        have hk2 := kd_lt (rW r p (b - 1))
        refine wp_ishr dX4_misfitOf_50 ?_
        refine wp_iconst (v := (nI 1)) dX4_misfitOf_51 (by decide +kernel) ?_
        refine wp_iand dX4_misfitOf_52 ?_
        rw [bitI (by omega) (by omega)]
        by_cases b3 : (lrS r f 3).testBit (kd (rW r p (b - 1))) = true
        · rw [if_pos b3]
          refine wp_if_ne dX4_misfitOf_53 (fun _ => ?_) (fun q => absurd q (by decide +kernel))
          refine wp_iconst (v := (nI 0)) dX4_misfitOf_58 (by decide +kernel) ?_
          refine wp_istore (ls1 := [_, _, _, _, some _]) dX4_misfitOf_59 (by decide) rfl ?_
          refine mis_loop ln hd hp hT40 pg hl1 (by omega) (fun hk => hz _ (mf_5 (by omega) (by rw [rwW_m1 hT40 (by omega), b2]; decide) (by rw [rwW_m1 hT40 (by omega), b3]; decide) hk)) (fun hk => hz _ (mf_6 (by omega) (by rw [rwW_m1 hT40 (by omega), b2]; decide) (by rw [rwW_m1 hT40 (by omega), b3]; decide) hk))
        · rw [if_neg b3]
          refine wp_if_ne dX4_misfitOf_53 (fun q => absurd rfl q) (fun _ => ?_)
          refine wp_iconst (v := (nI 4)) dX4_misfitOf_56 (by decide +kernel) ?_
          refine wp_ireturn dX4_misfitOf_57 rfl ?_
          exact hz _ (mf_4 (by omega) (by rw [rwW_m1 hT40 (by omega), b2]; decide) (by rw [rwW_m1 hT40 (by omega)]; exact Bool.eq_false_iff.mpr b3))
      · rw [if_neg b2]
        refine wp_if_ne dX4_misfitOf_34 (fun q => absurd rfl q) (fun _ => ?_)
        refine wp_iconst (v := (nI 3)) dX4_misfitOf_37 (by decide +kernel) ?_
        refine wp_ireturn dX4_misfitOf_38 rfl ?_
        exact hz _ (mf_3 (by omega) (by rw [rwW_m1 hT40 (by omega)]; exact Bool.eq_false_iff.mpr b2))
    · refine wp_iconst (v := (nI 2)) dX4_misfitOf_20 (by decide +kernel) ?_
      refine wp_ireturn dX4_misfitOf_21 rfl ?_
      exact hz _ (mf_2 (by omega))
theorem mf0_r {r : Nat → Int64} {f : Nat} {W : Nat → Int64} (q : Nat × Nat) : mf0 r f W q < 6 ∧ (mf0 r f W q = 0 ↔ mf1 r f W q = 6) ∧ (mf0 r f W q ≠ 0 → mf0 r f W q = mf1 r f W q) := by
  have h := mf1_r (r := r) (f := f) (W := W) q
  unfold mf0
  by_cases z : mf1 r f W q = 6
  · rw [if_pos z]; exact ⟨by decide, ⟨fun _ => z, fun _ => rfl⟩, fun w => absurd rfl w⟩
  · rw [if_neg z]; exact ⟨by omega, ⟨fun w => by omega, fun w => absurd w z⟩, fun _ => rfl⟩
/-- the least so far, 0 for none -/
def df0 (r : Nat → Int64) (f : Nat) (W : Nat → Int64) (l : List (Nat × Nat)) (i : Nat) : Nat := if dfM r f W l i = 6 then 0 else dfM r f W l i
theorem df0_lt {r : Nat → Int64} {f : Nat} {W : Nat → Int64} {l : List (Nat × Nat)} {i : Nat} : df0 r f W l i < 6 := by
  have := dfM_le (r := r) (f := f) (W := W) (l := l) i
  unfold df0
  split <;> omega
theorem dfM_2 {r : Nat → Int64} {f : Nat} {W : Nat → Int64} {l : List (Nat × Nat)} : ∀ i, 2 ≤ dfM r f W l i
  | 0 => by show 2 ≤ 6; decide
  | i + 1 => by
    have := dfM_2 (r := r) (f := f) (W := W) (l := l) i
    have h := mf1_r (r := r) (f := f) (W := W) (l.getD i (0, 0))
    rw [dfM_s]
    omega
theorem df_0 {r : Nat → Int64} {f i : Nat} {W : Nat → Int64} {l : List (Nat × Nat)} (h : mf0 r f W (l.getD i (0, 0)) = 0) : df0 r f W l (i + 1) = df0 r f W l i := by
  have h6 := (mf0_r (l.getD i (0, 0))).2.1.mp h
  have := dfM_le (r := r) (f := f) (W := W) (l := l) i
  unfold df0
  rw [dfM_s, h6, show min (dfM r f W l i) 6 = dfM r f W l i by omega]
theorem df_1 {r : Nat → Int64} {f i : Nat} {W : Nat → Int64} {l : List (Nat × Nat)} (h : mf0 r f W (l.getD i (0, 0)) ≠ 0) (h2 : df0 r f W l i = 0 ∨ mf0 r f W (l.getD i (0, 0)) < df0 r f W l i) : df0 r f W l (i + 1) = mf0 r f W (l.getD i (0, 0)) := by
  have a1 := (mf0_r (r := r) (f := f) (W := W) (l.getD i (0, 0))).2.2 h
  have a2 := (mf0_r (r := r) (f := f) (W := W) (l.getD i (0, 0))).1
  have a3 := dfM_le (r := r) (f := f) (W := W) (l := l) i
  have a4 := dfM_2 (r := r) (f := f) (W := W) (l := l) i
  unfold df0 at h2 ⊢
  rw [dfM_s, ← a1]
  by_cases z : dfM r f W l i = 6
  · rw [z, show min 6 (mf0 r f W (l.getD i (0, 0))) = mf0 r f W (l.getD i (0, 0)) by omega, if_neg (by omega)]
  · rw [if_neg z] at h2
    rw [show min (dfM r f W l i) (mf0 r f W (l.getD i (0, 0))) = mf0 r f W (l.getD i (0, 0)) by omega, if_neg (by omega)]
theorem df_2 {r : Nat → Int64} {f i : Nat} {W : Nat → Int64} {l : List (Nat × Nat)} (h : mf0 r f W (l.getD i (0, 0)) ≠ 0) (h2 : df0 r f W l i ≠ 0) (h3 : df0 r f W l i ≤ mf0 r f W (l.getD i (0, 0))) : df0 r f W l (i + 1) = df0 r f W l i := by
  have a1 := (mf0_r (r := r) (f := f) (W := W) (l.getD i (0, 0))).2.2 h
  have a2 := (mf0_r (r := r) (f := f) (W := W) (l.getD i (0, 0))).1
  have a3 := dfM_le (r := r) (f := f) (W := W) (l := l) i
  unfold df0 at h2 h3 ⊢
  rw [dfM_s, ← a1]
  by_cases z : dfM r f W l i = 6
  · rw [if_pos z] at h2
    exact absurd rfl h2
  · rw [if_neg z] at h2 h3 ⊢
    rw [show min (dfM r f W l i) (mf0 r f W (l.getD i (0, 0))) = dfM r f W l i by omega, if_neg z]
set_option maxRecDepth 20000 in
theorem pX4_misfit {h : mH} {Q : Option Value → mH → Prop} {ow : Nat → Nat} {F f p qn qp : Nat} {pa my : Nat → Int32} {r : Nat → Int64} {l : List (Nat × Nat)} {N : Nat} (ln : lnR ow h qn r f) (hd : sOK r F pa my) (hp : p < rP r) (pg : pgR ow h qp r p) (hl1 : f < F ∧ r (655 + 70 * f) = 1) (hs : srt l N) (hNn : N ≤ rT r p) (h8 : l.length ≤ 8) (hq : Q (some (.int (nI (dfR r f (rwW r p (-1)) l)))) h) : Wp mX4_misfit 3 67 0 [some (.ref qn), some (.ref qp), some (.long (lN (bsA l))), none, some (.long (lN (bsE l))), none, none, none, none, none] [] h Q := by
  have hP6 := hd.w.1.2
  have hF4 := hd.f4
  have hT40 := (hd.w.2.1 p (by omega)).2
  have hn : N < 63 := by omega
  have hloop : ∀  (t9 : Nat) (i : Nat) (x9 : Option Value), (i ≤ l.length) → (l.length < i + t9) → Wp mX4_misfit 3 67 12 [some (.ref qn), some (.ref qp), some (.long (lN (bsA l))), none, some (.long (lN (bsE l))), none, some (.int (nI l.length)), some (.int (nI (df0 r f (rwW r p (-1)) l i))), some (.int (nI i)), x9] [] h Q := by
    intro t9
    induction t9 with
    | zero => intros; omega
    | succ t9 ih =>
      intro i x9 hi hmz
      have hd6 := df0_lt (r := r) (f := f) (W := rwW r p (-1)) (l := l) (i := i)
      refine wp_iload dX4_misfit_12 rfl ?_
      refine wp_iload dX4_misfit_14 rfl ?_
      refine wp_icmp_geN dX4_misfit_16 rfl rfl ⟨by omega, by omega⟩ (fun c2 => ?_) (fun c2 => ?_)
      · refine wp_iload dX4_misfit_70 rfl ?_
        refine wp_ireturn dX4_misfit_72 rfl ?_
        have ei9 : i = l.length := by omega
        subst ei9
        exact hq
      · refine wp_aload_n dX4_misfit_19 rfl rfl ?_
        refine wp_ifnull dX4_misfit_20 ?_
        have hi9 := hs i (by omega)
        refine wp_aload_n dX4_misfit_23 rfl rfl ?_
        refine wp_aload_n dX4_misfit_24 rfl rfl ?_
        refine wp_lload_n dX4_misfit_25 rfl rfl ?_
        refine wp_iload dX4_misfit_26 rfl ?_
        refine wp_cSN2 2 42 [some _, none, some _, none, none, none] dX4_misfit_28 tX11_nth sX11_nth lX4_78 ⟨by decide, by decide⟩ (Nat.le_of_ble_eq_true rfl) (Nat.le_of_ble_eq_true rfl) rfl ?_
        refine pX11_nth (srt_asc hs hn).1 (by rw [List.length_map]; omega) (by rw [List.length_map]; omega) ?_
        intro _ _
        rw [map_getD rfl]
        refine wp_lload dX4_misfit_31 rfl ?_
        refine wp_iload dX4_misfit_33 rfl ?_
        refine wp_cSN2 2 42 [some _, none, some _, none, none, none] dX4_misfit_35 tX11_nth sX11_nth lX4_78 ⟨by decide, by decide⟩ (Nat.le_of_ble_eq_true rfl) (Nat.le_of_ble_eq_true rfl) rfl ?_
        refine pX11_nth (srt_asc hs hn).2 (by rw [List.length_map]; omega) (by rw [List.length_map]; omega) ?_
        intro _ _
        rw [map_getD rfl]
        refine wp_cV3 1 21 [some _, some _, some _, some _, none] dX4_misfit_38 tX4_misfitOf rfl (by decide) nX4_misfitOf vX4_misfitOf lX4_100 ⟨by decide, by decide⟩ (Nat.le_of_ble_eq_true rfl) ln.oo (Nat.le_of_ble_eq_true rfl) rfl ?_
        refine pX4_misfitOf ln hd hp pg hl1 ⟨hi9.1, by omega⟩ ?_
        intro _ _
        have hm9 := mf0_r (r := r) (f := f) (W := rwW r p (-1)) ((l.getD i (0, 0)).1, (l.getD i (0, 0)).2)
        refine wp_istore (ls1 := [_, _, _, _, _, _, _, _, _, some _]) dX4_misfit_41 (by decide) rfl ?_
        refine wp_iload dX4_misfit_43 rfl ?_
        refine wp_if_eqN dX4_misfit_45 rfl (by omega) (fun c3 => ?_) (fun c3 => ?_)
        · refine wp_iinc1 (ls1 := [_, _, _, _, _, _, _, _, some _, _]) dX4_misfit_64 rfl (by decide) rfl ?_
          refine wp_goto dX4_misfit_67 ?_
          have e9 : df0 r f (rwW r p (-1)) l (i + 1) = df0 r f (rwW r p (-1)) l i := by first | exact df_0 (by assumption) | exact df_2 (Nat.ne_of_gt (by assumption)) (Nat.ne_of_gt (by assumption)) (by assumption)
          rw [← e9]
          exact ih (i + 1) _ (by omega) (by omega)
        · refine wp_iload dX4_misfit_48 rfl ?_
          refine wp_if_eqN dX4_misfit_50 rfl (by omega) (fun c4 => ?_) (fun c4 => ?_)
          · refine wp_iload dX4_misfit_60 rfl ?_
            refine wp_istore (ls1 := [_, _, _, _, _, _, _, some _, _, _]) dX4_misfit_62 (by decide) rfl ?_
            refine wp_iinc1 (ls1 := [_, _, _, _, _, _, _, _, some _, _]) dX4_misfit_64 rfl (by decide) rfl ?_
            refine wp_goto dX4_misfit_67 ?_
            have e9 : df0 r f (rwW r p (-1)) l (i + 1) = mf0 r f (rwW r p (-1)) ((l.getD i (0, 0)).1, (l.getD i (0, 0)).2) := df_1 (Nat.ne_of_gt (by assumption)) (by first | exact Or.inl (by assumption) | exact Or.inr (by assumption))
            rw [← e9]
            exact ih (i + 1) _ (by omega) (by omega)
          · refine wp_iload dX4_misfit_53 rfl ?_
            refine wp_iload dX4_misfit_55 rfl ?_
            refine wp_icmp_geN dX4_misfit_57 rfl rfl ⟨by omega, by omega⟩ (fun c6 => ?_) (fun c6 => ?_)
            · refine wp_iinc1 (ls1 := [_, _, _, _, _, _, _, _, some _, _]) dX4_misfit_64 rfl (by decide) rfl ?_
              refine wp_goto dX4_misfit_67 ?_
              have e9 : df0 r f (rwW r p (-1)) l (i + 1) = df0 r f (rwW r p (-1)) l i := by first | exact df_0 (by assumption) | exact df_2 (Nat.ne_of_gt (by assumption)) (Nat.ne_of_gt (by assumption)) (by assumption)
              rw [← e9]
              exact ih (i + 1) _ (by omega) (by omega)
            · refine wp_iload dX4_misfit_60 rfl ?_
              refine wp_istore (ls1 := [_, _, _, _, _, _, _, some _, _, _]) dX4_misfit_62 (by decide) rfl ?_
              refine wp_iinc1 (ls1 := [_, _, _, _, _, _, _, _, some _, _]) dX4_misfit_64 rfl (by decide) rfl ?_
              refine wp_goto dX4_misfit_67 ?_
              have e9 : df0 r f (rwW r p (-1)) l (i + 1) = mf0 r f (rwW r p (-1)) ((l.getD i (0, 0)).1, (l.getD i (0, 0)).2) := df_1 (Nat.ne_of_gt (by assumption)) (by first | exact Or.inl (by assumption) | exact Or.inr (by assumption))
              rw [← e9]
              exact ih (i + 1) _ (by omega) (by omega)
  refine wp_lload_n dX4_misfit_0 rfl rfl ?_
  refine wp_cS1 0 0 [some _, none] dX4_misfit_1 tJ13_bitCount_95d88 sJ13_bitCount_95d88 lX4_72 ⟨by decide, by decide⟩ (Nat.le_of_ble_eq_true rfl) (Nat.le_of_ble_eq_true rfl) rfl ?_
  refine pJ13_bitCount_95d88 (Nat.lt_trans (bs_lt hs hn).1 (by decide)) ?_
  intro _ _
  rw [show pop (bsA l) = l.length from (bsN_pop (srt_asc hs hn).1).trans (List.length_map ..)]
  refine wp_istore (ls1 := [_, _, _, _, _, _, some _, _, _, _]) dX4_misfit_4 (by decide) rfl ?_
  refine wp_iconst (v := (nI 0)) dX4_misfit_6 (by decide +kernel) ?_
  refine wp_istore (ls1 := [_, _, _, _, _, _, _, some _, _, _]) dX4_misfit_7 (by decide) rfl ?_
  refine wp_iconst (v := (nI 0)) dX4_misfit_9 (by decide +kernel) ?_
  refine wp_istore (ls1 := [_, _, _, _, _, _, _, _, some _, _]) dX4_misfit_10 (by decide) rfl ?_
  exact hloop (l.length + 1) 0 _ (by omega) (by omega)
set_option maxRecDepth 20000 in
theorem pX11_driftOf {h : mH} {Q : Option Value → mH → Prop} {ow : Nat → Nat} {F fa o1 d1 u1 : Nat} {pa my : Nat → Int32} {r : Nat → Int64} {pl : Nat → Int64} {gb ge : Int32} {gs gn : Int64} {gf gt : Int32} {p f : Nat} (e9 : eS ow h F pa my r fa o1 d1 u1) (hd : sOK r F pa my) (zg : zG ow h pl gb ge gs gn gf gt) (hp : p < rP r) (hf : f < F) (hl : r (655 + 70 * f) = 1) (hq : ∀ h', cFr [1] 0 ow h ow h' → (∃ pl gb ge gs gn gf gt, zG ow h' pl gb ge gs gn gf gt) → Q (some (.int (nI (dfV r pa my p f)))) h') : Wp mX11_driftOf 6 146 0 [some (.ref 0), some (.int (nI p)), some (.int (nI f)), none, none] [] h Q := by
  have hP6 := hd.w.1.2
  have hF4 := hd.f4
  have hz : ∀ h' z, cFr [1] 0 ow h ow h' → (∃ pl gb ge gs gn gf gt, zG ow h' pl gb ge gs gn gf gt) → dfV r pa my p f = z → Q (some (.int (nI z))) h' := fun h' z f1 g e => e ▸ hq h' f1 g
  refine wp_aload_n dX11_driftOf_0 rfl rfl ?_
  refine wp_getR dX11_driftOf_1 lX11_34 rfl e9.oo e9.r6 ?_
  refine wp_cV0 2 43 [some _] dX11_driftOf_4 tX3_now rfl (by decide) nX3_now vX3_now lX11_101 ⟨by decide, by decide⟩ (Nat.le_of_ble_eq_true rfl) e9.hh.o (Nat.le_of_ble_eq_true rfl) rfl ?_
  refine pX3_now e9.hh e9.kb e9.od.1 e9.od.2 ?_
  intro _ _
  refine wp_astore_n (ls1 := [_, _, _, some _, _]) dX11_driftOf_7 rfl (by decide) rfl ?_
  refine wp_aload_n dX11_driftOf_8 rfl rfl ?_
  refine wp_getR dX11_driftOf_9 lX11_143 rfl e9.st.oo e9.st.r1 ?_
  refine wp_iload_n dX11_driftOf_12 rfl rfl ?_
  obtain ⟨q1, eq1, ln1⟩ := (e9.st.ln (f := f) (by omega)).elim (fun z => z.2) (fun z => absurd hl z.1)
  refine wp_aaldJ dX11_driftOf_13 e9.st.a1 (by decide) (by decide) rfl ⟨by omega, by omega⟩ eq1 ?_
  refine wp_astore (ls1 := [_, _, _, _, some _]) dX11_driftOf_14 (by decide) rfl ?_
  refine wp_aload_n dX11_driftOf_16 rfl rfl ?_
  refine wp_iload_n dX11_driftOf_17 rfl rfl ?_
  refine wp_iload_n dX11_driftOf_18 rfl rfl ?_
  refine wp_iconst (v := (-1)) dX11_driftOf_19 (by decide +kernel) ?_
  refine wp_cV3 5 119 [some _, some _, some _, some _, none, none, none, none] dX11_driftOf_20 tX11_slicePage rfl (by decide) nX11_slicePage vX11_slicePage lX11_335 ⟨by decide, by decide⟩ (Nat.le_of_ble_eq_true rfl) e9.oo (Nat.le_of_ble_eq_true rfl) rfl ?_
  refine pX11_slicePage e9 hd zg (by omega) (by omega) (fun hh2 pl2 gb2 ge2 gf2 gt2 v2 f2 zg_2 gp2 ev2 => ?_)
  intro _ _
  have e9_2 := e9.fr f2 (by decide)
  have ln1_2 := ln1.fr f2 (rnS (by omega) rn0)
  refine wp_iconst (v := (-1)) dX11_driftOf_23 (by decide +kernel) ?_
  cases ecx2 : cuX r pa my p (-1) f with
  | none =>
    rw [ecx2] at zg_2 ev2
    subst ev2
    refine wp_icmp_eq dX11_driftOf_24 (fun _ => ?_) (fun q => absurd rfl q)
    refine wp_iconst (v := (nI 1)) dX11_driftOf_32 (by decide +kernel) ?_
    refine wp_ireturn dX11_driftOf_33 rfl ?_
    exact hz _ _ (f2.up (by decide) (Nat.le_refl _)) ⟨_, _, _, _, _, _, _, zg_2⟩ (by unfold dfV; rw [ecx2] <;> rfl)
  | some x2 =>
    have hx2 := cuX_ok hd (by omega) x2 ecx2
    have hb2 := cuX_lt hd (by omega) x2 ecx2
    have sr2 := srt_cu (but := (-1)) (p := p) (f := f) hd (by omega)
    have l82 := cu_8 (but := (-1)) (p := p) (f := f) hd (by omega)
    rw [ecx2] at sr2 l82 zg_2 ev2
    subst ev2
    refine wp_icmp_eq dX11_driftOf_24 (fun q => absurd q (nI_ne_m1 (by omega))) (fun _ => ?_)
    refine wp_aload dX11_driftOf_27 rfl ?_
    refine wp_ifnonnull dX11_driftOf_29 ?_
    refine wp_aload dX11_driftOf_34 rfl ?_
    refine wp_aload_n dX11_driftOf_36 rfl rfl ?_
    refine wp_iload_n dX11_driftOf_37 rfl rfl ?_
    refine wp_cV1 0 0 [some _, some _] dX11_driftOf_38 tX8_pageAt rfl (by decide) nX8_pageAt vX8_pageAt lX11_176 ⟨by decide, by decide⟩ (Nat.le_of_ble_eq_true rfl) e9_2.st.oo (Nat.le_of_ble_eq_true rfl) rfl ?_
    refine pX8_pageAt e9_2.st hP6 (fun p3 q3 hp3 ep3 pg3 => ?_) (fun xn3 => absurd xn3 (by rw [ix_nI (by omega) (by omega)]; exact fun z => by cases z))
    have ep3 := (nI_eq (by omega) (by omega)).mp ep3
    subst ep3
    intro _ _
    refine wp_aload_n dX11_driftOf_41 rfl rfl ?_
    refine wp_getR dX11_driftOf_42 lX11_60 rfl e9_2.oo e9_2.r10 ?_
    refine wp_getLV dX11_driftOf_45 lX11_339 rfl zg_2.o zg_2.f3 ?_
    refine wp_aload_n dX11_driftOf_48 rfl rfl ?_
    refine wp_getR dX11_driftOf_49 lX11_60 rfl e9_2.oo e9_2.r10 ?_
    refine wp_getLV dX11_driftOf_52 lX11_342 rfl zg_2.o zg_2.f4 ?_
    refine wp_cV3 3 67 [some _, some _, some _, none, some _, none, none, none, none, none] dX11_driftOf_55 tX4_misfit rfl (by decide) nX4_misfit vX4_misfit lX11_364 ⟨by decide, by decide⟩ (Nat.le_of_ble_eq_true rfl) ln1_2.oo (Nat.le_of_ble_eq_true rfl) rfl ?_
    refine pX4_misfit ln1_2 hd hp pg3 ⟨hf, hl⟩ sr2 (rowL_len _ _) l82 ?_
    intro _ _
    refine wp_ireturn dX11_driftOf_58 rfl ?_
    exact hz _ _ (f2.up (by decide) (Nat.le_refl _)) ⟨_, _, _, _, _, _, _, zg_2⟩ (by unfold dfV; rw [ecx2] <;> rfl)
set_option maxRecDepth 20000 in
theorem pX11_drift {h : mH} {Q : Option Value → mH → Prop} {ow : Nat → Nat} {F fa o1 d1 u1 : Nat} {pa my : Nat → Int32} {r : Nat → Int64} {pl : Nat → Int64} {gb ge : Int32} {gs gn : Int64} {gf gt : Int32} {x y : Int32} (e9 : eS ow h F pa my r fa o1 d1 u1) (hd : sOK r F pa my) (zg : zG ow h pl gb ge gs gn gf gt) (hq : ∀ h', cFr [1] 0 ow h ow h' → (∃ pl gb ge gs gn gf gt, zG ow h' pl gb ge gs gn gf gt) → Q (some (.int (spDrift r F pa my x y))) h') : Wp mX11_drift 7 170 0 [some (.ref 0), some (.int x), some (.int y)] [] h Q := by
  have hP6 := hd.w.1.2
  have hF4 := hd.f4
  have hz : ∀ h' z, cFr [1] 0 ow h ow h' → (∃ pl gb ge gs gn gf gt, zG ow h' pl gb ge gs gn gf gt) → spDrift r F pa my x y = z → Q (some (.int z)) h' := fun h' z f1 g e => e ▸ hq h' f1 g
  refine wp_aload_n dX11_drift_0 rfl rfl ?_
  refine wp_iload_n dX11_drift_1 rfl rfl ?_
  refine wp_iload_n dX11_drift_2 rfl rfl ?_
  refine wp_cV2 4 85 [some _, some _, some _] dX11_drift_3 tX11_learntFor rfl (by decide) nX11_learntFor vX11_learntFor lX11_332 ⟨by decide, by decide⟩ (Nat.le_of_ble_eq_true rfl) e9.oo (Nat.le_of_ble_eq_true rfl) rfl ?_
  refine pX11_learntFor e9 hd (fun p1 f1 hp1 hff1 ep1 ef1 hl1 => ?_) (fun xn1 => ?_)
  · subst ep1
    subst ef1
    intro _ _
    refine wp_if_eq dX11_drift_6 (fun q => absurd q (by decide +kernel)) (fun _ => ?_)
    refine wp_aload_n dX11_drift_9 rfl rfl ?_
    refine wp_iload_n dX11_drift_10 rfl rfl ?_
    refine wp_iload_n dX11_drift_11 rfl rfl ?_
    refine wp_cV2 6 146 [some _, some _, some _, none, none] dX11_drift_12 tX11_driftOf rfl (by decide) nX11_driftOf vX11_driftOf lX11_361 ⟨by decide, by decide⟩ (Nat.le_of_ble_eq_true rfl) e9.oo (Nat.le_of_ble_eq_true rfl) rfl ?_
    refine pX11_driftOf e9 hd zg (by omega) (by omega) hl1 (fun hh2 f2 gg2 => ?_)
    intro _ _
    obtain ⟨_, _, _, _, _, _, _, zg_2⟩ := gg2
    have hv2 := dfV_le (r := r) (pa := pa) (my := my) (p := p1) (f := f1)
    have e9_2 := e9.fr f2 (by decide)
    refine wp_goto dX11_drift_15 ?_
    refine wp_ireturn dX11_drift_19 rfl ?_
    exact hz _ _ (f2.up (by decide) (Nat.le_refl _)) ⟨_, _, _, _, _, _, _, zg_2⟩ (by unfold spDrift; rw [cn_s (by omega) hP6 (by omega) hF4 hl1])
  · intro _ _
    refine wp_if_eq dX11_drift_6 (fun _ => ?_) (fun q => absurd q (by decide +kernel))
    refine wp_iconst (v := (-1)) dX11_drift_18 (by decide +kernel) ?_
    refine wp_ireturn dX11_drift_19 rfl ?_
    exact hz _ _ cFr.rf ⟨_, _, _, _, _, _, _, zg⟩ (by unfold spDrift; rw [cn_n hF4 xn1])
theorem sg_w {w : Int32} (h0 : ¬ w = 0) (h1 : ¬ w = nI 1) : ix w 2 = none := ix_none (by decide) (fun j hj e => by
  rcases (by omega : j = 0 ∨ j = 1) with rfl | rfl
  · exact h0 e
  · exact h1 e)
theorem sg_s {r : Nat → Int64} {F : Nat} {pa my : Nat → Int32} {p f j : Nat} (hj : j < 2) (hp : p < rP r) (hf : f < F) (hn : ∀ q, q < p → sgF r F pa my q = none) (hm : ∀ g, g < f → ¬ (r (655 + 70 * g) = 1 ∧ 0 < dfV r pa my p g)) (h : r (655 + 70 * f) = 1 ∧ 0 < dfV r pa my p f) : spStrange r F pa my (nI j) = if j = 0 then nI p else nI f := by
  have e1 : sgF r F pa my p = some f := fst1_eq (Nat.zero_le _) hf (decide_eq_true h) (fun i _ hi => decide_eq_false (hm i hi))
  have e2 : sgP r F pa my = some p := fst1_eq (Nat.zero_le _) hp (by show (sgF r F pa my p).isSome = true; rw [e1]; rfl) (fun i _ hi => by show (sgF r F pa my i).isSome = false; rw [hn i hi]; rfl)
  unfold spStrange
  rw [ix_nI hj (by decide), e2]
  show (if j = 0 then _ else nI ((sgF r F pa my p).getD 0)) = _
  rw [e1]
  rfl
theorem sg_0 {r : Nat → Int64} {F : Nat} {pa my : Nat → Int32} {p : Nat} (hm : ∀ g, g < F → ¬ (r (655 + 70 * g) = 1 ∧ 0 < dfV r pa my p g)) : sgF r F pa my p = none := by
  cases e : sgF r F pa my p with
  | none => rfl
  | some f =>
    have h := fst1_some e
    exact absurd (of_decide_eq_true h.2.2.1) (hm f h.2.1)
theorem sg_n {r : Nat → Int64} {F : Nat} {pa my : Nat → Int32} {j : Nat} (hj : j < 2) (hn : ∀ q, q < rP r → sgF r F pa my q = none) : spStrange r F pa my (nI j) = -1 := by
  have e2 : sgP r F pa my = none := by
    cases e : sgP r F pa my with
    | none => rfl
    | some p =>
      have h := fst1_some e
      have h3 : (sgF r F pa my p).isSome = true := h.2.2.1
      rw [hn p h.2.1] at h3
      cases h3
  unfold spStrange
  rw [ix_nI hj (by decide), e2]
set_option maxRecDepth 20000 in
theorem pX11_strange {h : mH} {Q : Option Value → mH → Prop} {ow : Nat → Nat} {F fa o1 d1 u1 : Nat} {pa my : Nat → Int32} {r : Nat → Int64} {pl : Nat → Int64} {gb ge : Int32} {gs gn : Int64} {gf gt : Int32} {w : Int32} (e9 : eS ow h F pa my r fa o1 d1 u1) (hd : sOK r F pa my) (zg : zG ow h pl gb ge gs gn gf gt) (hq : ∀ h', cFr [1] 0 ow h ow h' → (∃ pl gb ge gs gn gf gt, zG ow h' pl gb ge gs gn gf gt) → Q (some (.int (spStrange r F pa my w))) h') : Wp mX11_strange 7 170 0 [some (.ref 0), some (.int w), none, none, none] [] h Q := by
  have hP6 := hd.w.1.2
  have hF4 := hd.f4
  have hlf : ∀ (j : Nat) (hj : j < 2) (hz : ∀ h' z, cFr [1] 0 ow h ow h' → (∃ pl gb ge gs gn gf gt, zG ow h' pl gb ge gs gn gf gt) → spStrange r F pa my (nI j) = z → Q (some (.int z)) h') (p : Nat) (hp : p < rP r) (hno : ∀ q, q < p → sgF r F pa my q = none) (t9 : Nat) (f : Nat) (pl1 : Nat → Int64) (gb1 : Int32) (ge1 : Int32) (gs1 : Int64) (gn1 : Int64) (gf1 : Int32) (gt1 : Int32) (h1 : mH), (f ≤ F) → (cFr [1] 0 ow h ow h1) → (eS ow h1 F pa my r fa o1 d1 u1) → (zG ow h1 pl1 gb1 ge1 gs1 gn1 gf1 gt1) → (∀ g, g < f → ¬ (r (655 + 70 * g) = 1 ∧ 0 < dfV r pa my p g)) → (F < f + t9) → (∀ f pl1 gb1 ge1 gs1 gn1 gf1 gt1 h1, cFr [1] 0 ow h ow h1 → eS ow h1 F pa my r fa o1 d1 u1 → zG ow h1 pl1 gb1 ge1 gs1 gn1 gf1 gt1 → sgF r F pa my p = none → Wp mX11_strange 7 170 81 [some (.ref 0), some (.int (nI j)), some (.int (nI (rP r))), some (.int (nI p)), some (.int (nI f))] [] h1 Q) → Wp mX11_strange 7 170 32 [some (.ref 0), some (.int (nI j)), some (.int (nI (rP r))), some (.int (nI p)), some (.int (nI f))] [] h1 Q := by
    intro j hj hz p hp hno t9
    induction t9 with
    | zero => intros; omega
    | succ t9 ihf =>
      intro f pl1 gb1 ge1 gs1 gn1 gf1 gt1 h1 hf hf1 e1 zg1 hm hmz hcont
      refine wp_iload dX11_strange_32 rfl ?_
      refine wp_aload_n dX11_strange_34 rfl rfl ?_
      refine wp_getR dX11_strange_35 lX11_20 rfl e1.oo e1.f4 ?_
      refine wp_getIV dX11_strange_38 lX11_234 rfl e1.fl.oo e1.fl.f3 ?_
      refine wp_icmp_geN dX11_strange_41 rfl rfl ⟨by omega, by omega⟩ (fun c2 => ?_) (fun c2 => ?_)
      · have ef9 : f = F := by omega
        subst ef9
        exact hcont _ _ _ _ _ _ _ _ _ (hf1.up (by decide) (Nat.le_refl _)) e1 zg1 (sg_0 hm)
      · refine wp_aload_n dX11_strange_44 rfl rfl ?_
        refine wp_iload_n dX11_strange_45 rfl rfl ?_
        refine wp_iload dX11_strange_46 rfl ?_
        refine wp_cV2 4 85 [some _, some _, some _] dX11_strange_48 tX11_learntFor rfl (by decide) nX11_learntFor vX11_learntFor lX11_332 ⟨by decide, by decide⟩ (Nat.le_of_ble_eq_true rfl) e1.oo (Nat.le_of_ble_eq_true rfl) rfl ?_
        refine pX11_learntFor e1 hd (fun p1 f1 hp1 hff1 ep1 ef1 hl1 => ?_) (fun xn1 => ?_)
        · have ep1 := (nI_eq (by omega) (by omega)).mp ep1
          have ef1 := (nI_eq (by omega) (by omega)).mp ef1
          subst ep1 ef1
          intro _ _
          refine wp_if_eq dX11_strange_51 (fun q => absurd q (by decide +kernel)) (fun _ => ?_)
          refine wp_aload_n dX11_strange_54 rfl rfl ?_
          refine wp_iload_n dX11_strange_55 rfl rfl ?_
          refine wp_iload dX11_strange_56 rfl ?_
          refine wp_cV2 6 146 [some _, some _, some _, none, none] dX11_strange_58 tX11_driftOf rfl (by decide) nX11_driftOf vX11_driftOf lX11_361 ⟨by decide, by decide⟩ (Nat.le_of_ble_eq_true rfl) e1.oo (Nat.le_of_ble_eq_true rfl) rfl ?_
          refine pX11_driftOf e1 hd zg1 (by omega) (by omega) hl1 (fun hh2 f2 gg2 => ?_)
          intro _ _
          obtain ⟨_, _, _, _, _, _, _, zg_2⟩ := gg2
          have hv2 := dfV_le (r := r) (pa := pa) (my := my) (p := p) (f := f)
          have e1_2 := e1.fr f2 (by decide)
          refine wp_if_eqN dX11_strange_61 rfl (by omega) (fun c4 => ?_) (fun c4 => ?_)
          · refine wp_iinc1 (ls1 := [_, _, _, _, some _]) dX11_strange_75 rfl (by decide) rfl ?_
            refine wp_goto dX11_strange_78 ?_
            exact ihf (f + 1) _ _ _ _ _ _ _ _ (by omega) ((hf1.up (by decide) (Nat.le_refl _)).tr (f2.up (by decide) (Nat.le_refl _))) e1_2 zg_2 (lt_s hm (fun z => by have := z.2; omega)) (by omega) hcont
          · refine wp_iload_n dX11_strange_64 rfl rfl ?_
            rcases (by omega : j = 0 ∨ j = 1) with e8 | e8
            · subst e8
              refine wp_if_ne dX11_strange_65 (fun q => absurd rfl q) (fun _ => ?_)
              refine wp_iload_n dX11_strange_68 rfl rfl ?_
              refine wp_goto dX11_strange_69 ?_
              refine wp_ireturn dX11_strange_74 rfl ?_
              exact hz _ _ ((hf1.up (by decide) (Nat.le_refl _)).tr (f2.up (by decide) (Nat.le_refl _))) ⟨_, _, _, _, _, _, _, zg_2⟩ (sg_s (by decide) (by omega) (by omega) hno hm ⟨hl1, by assumption⟩)
            · subst e8
              refine wp_if_ne dX11_strange_65 (fun _ => ?_) (fun q => absurd q (by decide +kernel))
              refine wp_iload dX11_strange_72 rfl ?_
              refine wp_ireturn dX11_strange_74 rfl ?_
              exact hz _ _ ((hf1.up (by decide) (Nat.le_refl _)).tr (f2.up (by decide) (Nat.le_refl _))) ⟨_, _, _, _, _, _, _, zg_2⟩ (sg_s (by decide) (by omega) (by omega) hno hm ⟨hl1, by assumption⟩)
        · have hl1 := lf_no (by omega) (by omega) (by omega) (by omega) xn1
          intro _ _
          refine wp_if_eq dX11_strange_51 (fun _ => ?_) (fun q => absurd q (by decide +kernel))
          refine wp_iinc1 (ls1 := [_, _, _, _, some _]) dX11_strange_75 rfl (by decide) rfl ?_
          refine wp_goto dX11_strange_78 ?_
          exact ihf (f + 1) _ _ _ _ _ _ _ _ (by omega) (hf1.up (by decide) (Nat.le_refl _)) e1 zg1 (lt_s hm (fun z => hl1 z.1)) (by omega) hcont
  have hlp : ∀ (j : Nat) (hj : j < 2) (hz : ∀ h' z, cFr [1] 0 ow h ow h' → (∃ pl gb ge gs gn gf gt, zG ow h' pl gb ge gs gn gf gt) → spStrange r F pa my (nI j) = z → Q (some (.int z)) h') (t9 : Nat) (p : Nat) (x4 : Option Value) (pl1 : Nat → Int64) (gb1 : Int32) (ge1 : Int32) (gs1 : Int64) (gn1 : Int64) (gf1 : Int32) (gt1 : Int32) (h1 : mH), (p ≤ rP r) → (cFr [1] 0 ow h ow h1) → (eS ow h1 F pa my r fa o1 d1 u1) → (zG ow h1 pl1 gb1 ge1 gs1 gn1 gf1 gt1) → (∀ q, q < p → sgF r F pa my q = none) → (rP r < p + t9) → Wp mX11_strange 7 170 24 [some (.ref 0), some (.int (nI j)), some (.int (nI (rP r))), some (.int (nI p)), x4] [] h1 Q := by
    intro j hj hz t9
    induction t9 with
    | zero => intros; omega
    | succ t9 ih =>
      intro p x4 pl1 gb1 ge1 gs1 gn1 gf1 gt1 h1 hp hf1 e1 zg1 hno hmz
      refine wp_iload_n dX11_strange_24 rfl rfl ?_
      refine wp_iload_n dX11_strange_25 rfl rfl ?_
      refine wp_icmp_geN dX11_strange_26 rfl rfl ⟨by omega, by omega⟩ (fun c2 => ?_) (fun c2 => ?_)
      · refine wp_iconst (v := (-1)) dX11_strange_87 (by decide +kernel) ?_
        refine wp_ireturn dX11_strange_88 rfl ?_
        have ep9 : p = rP r := by omega
        subst ep9
        exact hz _ _ (hf1.up (by decide) (Nat.le_refl _)) ⟨_, _, _, _, _, _, _, zg1⟩ (sg_n hj hno)
      · refine wp_iconst (v := (nI 0)) dX11_strange_29 (by decide +kernel) ?_
        refine wp_istore (ls1 := [_, _, _, _, some _]) dX11_strange_30 (by decide) rfl ?_
        refine hlf j hj hz p (by omega) hno (F + 1) 0 _ _ _ _ _ _ _ _ (by omega) (hf1.up (by decide) (Nat.le_refl _)) e1 zg1 (fun g hg => absurd hg (Nat.not_lt_zero g)) (by omega) ?_
        intro f2 pl2 gb2 ge2 gs2 gn2 gf2 gt2 h2 hf2 e2 zg2 hs2
        refine wp_iinc1 (ls1 := [_, _, _, some _, _]) dX11_strange_81 rfl (by decide) rfl ?_
        refine wp_goto dX11_strange_84 ?_
        exact ih (p + 1) _ _ _ _ _ _ _ _ _ (by omega) hf2 e2 zg2 (lt_s hno hs2) (by omega)
  have hz : ∀ h' z, cFr [1] 0 ow h ow h' → (∃ pl gb ge gs gn gf gt, zG ow h' pl gb ge gs gn gf gt) → spStrange r F pa my w = z → Q (some (.int z)) h' := fun h' z f1 g e => e ▸ hq h' f1 g
  refine wp_iload_n dX11_strange_0 rfl rfl ?_
  by_cases w0 : w = 0
  · have w0 : w = nI 0 := w0
    subst w0
    refine wp_if_eq dX11_strange_1 (fun _ => ?_) (fun q => absurd rfl q)
    refine wp_aload_n dX11_strange_11 rfl rfl ?_
    refine wp_getR dX11_strange_12 lX11_34 rfl e9.oo e9.r6 ?_
    refine wp_cV0 2 43 [some _] dX11_strange_15 tX3_now rfl (by decide) nX3_now vX3_now lX11_101 ⟨by decide, by decide⟩ (Nat.le_of_ble_eq_true rfl) e9.hh.o (Nat.le_of_ble_eq_true rfl) rfl ?_
    refine pX3_now e9.hh e9.kb e9.od.1 e9.od.2 ?_
    intro _ _
    refine wp_getIV dX11_strange_18 lX11_123 rfl e9.st.oo e9.st.f4 ?_
    refine wp_istore_n (ls1 := [_, _, some _, _, _]) dX11_strange_21 rfl (by decide) rfl ?_
    refine wp_iconst (v := (nI 0)) dX11_strange_22 (by decide +kernel) ?_
    refine wp_istore_n (ls1 := [_, _, _, some _, _]) dX11_strange_23 rfl (by decide) rfl ?_
    exact hlp 0 (by decide) hz (rP r + 1) 0 _ _ _ _ _ _ _ _ _ (by omega) cFr.rf e9 zg (fun q hq9 => absurd hq9 (Nat.not_lt_zero q)) (by omega)
  · refine wp_if_eq dX11_strange_1 (fun q => absurd q w0) (fun _ => ?_)
    refine wp_iload_n dX11_strange_4 rfl rfl ?_
    refine wp_iconst (v := (nI 1)) dX11_strange_5 (by decide +kernel) ?_
    by_cases w1 : w = nI 1
    · subst w1
      refine wp_icmp_eq dX11_strange_6 (fun _ => ?_) (fun q => absurd rfl q)
      refine wp_aload_n dX11_strange_11 rfl rfl ?_
      refine wp_getR dX11_strange_12 lX11_34 rfl e9.oo e9.r6 ?_
      refine wp_cV0 2 43 [some _] dX11_strange_15 tX3_now rfl (by decide) nX3_now vX3_now lX11_101 ⟨by decide, by decide⟩ (Nat.le_of_ble_eq_true rfl) e9.hh.o (Nat.le_of_ble_eq_true rfl) rfl ?_
      refine pX3_now e9.hh e9.kb e9.od.1 e9.od.2 ?_
      intro _ _
      refine wp_getIV dX11_strange_18 lX11_123 rfl e9.st.oo e9.st.f4 ?_
      refine wp_istore_n (ls1 := [_, _, some _, _, _]) dX11_strange_21 rfl (by decide) rfl ?_
      refine wp_iconst (v := (nI 0)) dX11_strange_22 (by decide +kernel) ?_
      refine wp_istore_n (ls1 := [_, _, _, some _, _]) dX11_strange_23 rfl (by decide) rfl ?_
      exact hlp 1 (by decide) hz (rP r + 1) 0 _ _ _ _ _ _ _ _ _ (by omega) cFr.rf e9 zg (fun q hq9 => absurd hq9 (Nat.not_lt_zero q)) (by omega)
    · refine wp_icmp_eq dX11_strange_6 (fun q => absurd q w1) (fun _ => ?_)
      refine wp_iconst (v := (-1)) dX11_strange_9 (by decide +kernel) ?_
      refine wp_ireturn dX11_strange_10 rfl ?_
      exact hz _ _ cFr.rf ⟨_, _, _, _, _, _, _, zg⟩ (by unfold spStrange; rw [sg_w (by assumption) (by assumption)])
