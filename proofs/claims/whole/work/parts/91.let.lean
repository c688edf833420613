/-! ===== letters ===== -/
def okL (L : List Int32) : Prop := ∀ j, j < L.length → ∃ c, c < 256 ∧ L.getD j 0 = nI c
def ltR (ow : Nat → Nat) (h : mH) (a ρ : Nat) (L : List Int32) : Prop := ∃ lb, zL ow h a ρ lb (nI L.length) ∧ L.length ≤ 360 ∧ okL L ∧ ∀ j, j < L.length → lb j = (L.getD j 0).toInt8.toInt32
theorem ltR.fr {S : List Nat} {u9 : Nat} {ow ow' : Nat → Nat} {h h' : mH} {a ρ : Nat} {L : List Int32} (g : ltR ow h a ρ L) (f : cFr S u9 ow h ow' h') (h1 : ρ ∉ S) : ltR ow' h' a ρ L := by
  obtain ⟨lb, z, hz⟩ := g
  exact ⟨lb, z.fr f h1, hz⟩
theorem by_rt : ∀ c, c < 256 → (nI c).toInt8.toInt32 &&& nI 255 = nI c := by decide +kernel
theorem by_inj {x y : Int32} (hx : ∃ c, c < 256 ∧ x = nI c) (hy : ∃ c, c < 256 ∧ y = nI c) (e : x.toInt8.toInt32 = y.toInt8.toInt32) : x = y := by
  obtain ⟨c, hc, rfl⟩ := hx
  obtain ⟨d, hd, rfl⟩ := hy
  rw [← by_rt c hc, e, by_rt d hd]
theorem okL_app {L : List Int32} {c : Nat} (h : okL L) (hc : c < 256) : okL (L ++ [nI c]) := by
  intro j hj
  rw [getD_app2]
  rw [List.length_append] at hj
  have hj : j < L.length + 1 := hj
  by_cases z : j < L.length
  · rw [if_pos z]; exact h j z
  · rw [if_neg z, if_pos (by omega)]; exact ⟨c, hc, rfl⟩
theorem byt_c (w : Int64) (k : Nat) : ∃ c, c < 256 ∧ bytN w k = nI c := by
  obtain ⟨m, hm, e⟩ := wb_of (shB w k)
  refine ⟨m % 256, Nat.mod_lt _ (by decide), ?_⟩
  unfold bytN
  rw [e, show (255 : Int64) = lN (2 ^ 8 - 1) from rfl, wb_mask hm (by decide), lN_i]
theorem us_b {n k : Nat} (hn : n < 2 ^ 63) (hk : k < 8) : ((((lN n).toUInt64 >>> ((nI (8 * k)).toInt64.toUInt64 &&& Int64.toUInt64 63)).toInt64) &&& 255).toInt32 = bytN (lN n) k := by
  unfold bytN
  rw [wb_shr (by omega) (by omega), shB_N hn hk, show 256 ^ k = 2 ^ (8 * k) by rw [Nat.pow_mul]]
theorem szN_of {n k : Nat} (hz : n / 2 ^ (8 * k) ≠ 0) : szN n (k + 1) = k + 1 := by
  have : ∀ m, m ≤ k + 1 → szN n m = m := by
    intro m
    induction m with
    | zero => intro _; rfl
    | succ m ih =>
      intro hm
      show szN n m + (if n / 2 ^ (8 * m) = 0 then 0 else 1) = m + 1
      rw [ih (by omega), if_neg (fun w => hz (dv_0 w (by omega)))]
  exact this (k + 1) (Nat.le_refl _)
theorem bN_ge {n k : Nat} (hn : n < 2 ^ 63) (hk : k < 8) : n / 2 ^ (8 * k) = 0 ↔ bN (lN n) ≤ k := by
  rw [bN_sz hn]
  constructor
  · intro z
    have := szN_z z (8 - k)
    rw [show k + (8 - k) = 8 by omega] at this
    rw [this]
    exact szN_le n k
  · intro z
    apply Classical.byContradiction
    intro w
    have h1 := szN_of w
    have h2 : szN n (k + 1) ≤ szN n 8 := by
      have : ∀ m, szN n (k + 1) ≤ szN n (k + 1 + m) := by
        intro m
        induction m with
        | zero => exact Nat.le_refl _
        | succ m ih =>
          show _ ≤ szN n (k + 1 + m) + _
          exact Nat.le_trans ih (Nat.le_add_right _ _)
      have := this (7 - k)
      rwa [show k + 1 + (7 - k) = 8 by omega] at this
    omega
theorem bN_pos {w : Int64} (h : 0 < w.toInt) : 0 < bN w := by
  obtain ⟨n, hn, rfl⟩ := w_pos h
  apply Nat.pos_of_ne_zero
  intro z
  have := (bN_ge (k := 0) hn (by decide)).mpr (by omega)
  rw [Nat.mul_zero, Nat.pow_zero, Nat.div_one] at this
  subst this
  exact absurd h (by decide)
set_option maxRecDepth 20000 in
theorem pX5_put {h : mH} {Q : Option Value → mH → Prop} {ow : Nat → Nat} {a ρ : Nat} {L : List Int32} {c : Nat} (le : ltR ow h a ρ L) (hc : c < 256) (hL : L.length < 360) (hq : ∀ h', cFr [ρ] 0 ow h ow h' → ltR ow h' a ρ (L ++ [nI c]) → Q none h') : Wp mX5_put 0 0 0 [some (.ref a), some (.int (nI c))] [] h Q := by
  obtain ⟨lb, zl, h36, hok, hlb⟩ := le
  refine wp_aload_n dX5_put_0 rfl rfl ?_
  refine wp_getIV dX5_put_1 lX5_15 rfl zl.o zl.f1 ?_
  refine wp_aload_n dX5_put_4 rfl rfl ?_
  refine wp_getR dX5_put_5 lX5_9 rfl zl.o zl.r0 ?_
  refine wp_alen dX5_put_8 zl.a0 (by decide) (by decide) rfl ?_
  refine wp_icmp_geN dX5_put_9 rfl rfl ⟨by omega, by omega⟩ (fun c2 => ?_) (fun c2 => ?_)
  · refine wp_vreturn dX5_put_33 rfl ?_
    omega
  · refine wp_aload_n dX5_put_12 rfl rfl ?_
    refine wp_getR dX5_put_13 lX5_9 rfl zl.o zl.r0 ?_
    refine wp_aload_n dX5_put_16 rfl rfl ?_
    refine wp_getIV dX5_put_17 lX5_15 rfl zl.o zl.f1 ?_
    refine wp_iload_n dX5_put_20 rfl rfl ?_
    refine wp_i2b dX5_put_21 ?_
    refine wp_bastN dX5_put_22 zl.a0 rfl ⟨by omega, by omega⟩ ?_
    refine zl.w0 (fun hh1 f1 zl_1 => ?_)
    refine wp_aload_n dX5_put_23 rfl rfl ?_
    refine wp_dup dX5_put_24 rfl ?_
    refine wp_getIV dX5_put_25 lX5_15 rfl zl_1.o zl_1.f1 ?_
    refine wp_iconst (v := (nI 1)) dX5_put_28 (by decide +kernel) ?_
    refine wp_iadd dX5_put_29 ?_
    refine wp_putIN dX5_put_30 lX5_15 rfl rfl (Or.inl rfl) zl_1.o (isN_add rfl rfl) ?_
    refine zl_1.p1 (fun hh2 f2 zl_2 => ?_)
    refine wp_vreturn dX5_put_33 rfl ?_
    refine hq _ ((f1.up (fun x hx => by simp at hx ⊢; omega) (Nat.le_refl _)).tr (f2.up (fun x hx => by simp at hx ⊢; omega) (Nat.le_refl _))) ⟨_, (by rw [List.length_append]; exact zl_2), by rw [List.length_append]; exact hL, okL_app hok hc, fun j hj => ?_⟩
    rw [getD_app2]
    rw [List.length_append] at hj
    have hj : j < L.length + 1 := hj
    unfold upI
    by_cases z : j < L.length
    · rw [if_neg (by omega), if_pos z]; exact hlb j z
    · rw [if_pos (show j = L.length by omega), if_neg z, if_pos (show j = L.length by omega), pk_vb]
theorem ltR.oo {ow : Nat → Nat} {h : mH} {a ρ : Nat} {L : List Int32} (e : ltR ow h a ρ L) : hO h a 5 := e.choose_spec.1.o
theorem ltR.f1 {ow : Nat → Nat} {h : mH} {a ρ : Nat} {L : List Int32} (e : ltR ow h a ρ L) : hI h a 1 = nI L.length := e.choose_spec.1.f1
set_option maxRecDepth 20000 in
theorem pX5_putText {h : mH} {Q : Option Value → mH → Prop} {ow : Nat → Nat} {a ρ : Nat} {L : List Int32} {x : Nat} (le : ltR ow h a ρ L) (hn : x < 2 ^ 63) (hlen : L.length + bN (lN x) ≤ 360) (hq : ∀ h', cFr [ρ] 0 ow h ow h' → ltR ow h' a ρ (L ++ wbL (lN x) (bN (lN x))) → Q none h') : Wp mX5_putText 1 21 0 [some (.ref a), some (.long (lN x)), none, none] [] h Q := by
  have hloop : ∀  (t9 : Nat) (m : Nat) (L1 : List Int32) (h1 : mH), (m ≤ 8) → (cFr [ρ] 0 ow h ow h1) → (ltR ow h1 a ρ L1) → (L1.length + min m (bN (lN x)) ≤ 360) → (L1 ++ wbL (lN x) (min m (bN (lN x))) = L ++ wbL (lN x) (bN (lN x))) → (m < t9) → Wp mX5_putText 1 21 3 [some (.ref a), some (.long (lN x)), none, some (.int (nI (8 * m) - nI 8))] [] h1 Q := by
    intro t9
    induction t9 with
    | zero => intros; omega
    | succ t9 ih =>
      intro m L1 h1 hm hf1 le1 hlen hS hmz
      refine wp_iload_n dX5_putText_3 rfl rfl ?_
      cases m with
      | zero =>
        refine wp_if_lt dX5_putText_4 (fun _ => ?_) (fun q => absurd (by decide +kernel) q)
        refine wp_vreturn dX5_putText_33 rfl ?_
        have hS : L1 ++ [] = L ++ wbL (lN x) (bN (lN x)) := hS
        rw [List.append_nil] at hS
        subst hS
        exact hq _ (hf1.up (fun x hx => by simp at hx ⊢; omega) (Nat.le_refl _)) le1
      | succ k =>
        have e8 : nI (8 * (k + 1)) - nI 8 = nI (8 * k) := by rw [pk_sub (by omega)]; congr 1
        rw [e8]
        refine wp_if_lt dX5_putText_4 (fun q => absurd q (nI_pos (by omega))) (fun _ => ?_)
        refine wp_lload_n dX5_putText_7 rfl rfl ?_
        refine wp_iload_n dX5_putText_8 rfl rfl ?_
        refine wp_lushr dX5_putText_9 ?_
        refine wp_lconst (v := 0) dX5_putText_10 (by decide +kernel) ?_
        refine wp_lc_eq dX5_putText_11 dX5_putText_12 (fun c2 => ?_) (fun c2 => ?_)
        · have nz9 : x / 2 ^ (8 * k) = 0 := (us_0 hn (by omega)).mp (by assumption)
          refine wp_iinc (ls1 := [_, _, _, some _]) dX5_putText_27 rfl rfl (by decide) rfl ?_
          refine wp_goto dX5_putText_30 ?_
          have e7 : nI (8 * k) + Int32.ofInt (-8) = nI (8 * k) - nI 8 := by rw [show Int32.ofInt (-8) = -(nI 8) from by decide +kernel]; exact (Int32.sub_eq_add_neg ..).symm
          rw [e7]
          have hb9 := (bN_ge hn (show k < 8 by omega)).mp (by assumption)
          rw [show min (k + 1) (bN (lN x)) = min k (bN (lN x)) by omega] at hS hlen
          exact ih k _ _ (by omega) (hf1.up (fun x hx => by simp at hx ⊢; omega) (Nat.le_refl _)) le1 hlen hS (by omega)
        · have nz9 : ¬ x / 2 ^ (8 * k) = 0 := fun z => (by assumption : ¬ _ = _) ((us_0 hn (by omega)).mpr z)
          have hbn9 : k < bN (lN x) := Nat.lt_of_not_le (fun z => nz9 ((bN_ge hn (by omega)).mpr z))
          rw [show min (k + 1) (bN (lN x)) = k + 1 by omega] at hlen hS
          refine wp_aload_n dX5_putText_15 rfl rfl ?_
          refine wp_lload_n dX5_putText_16 rfl rfl ?_
          refine wp_iload_n dX5_putText_17 rfl rfl ?_
          refine wp_lushr dX5_putText_18 ?_
          refine wp_ldc2 dX5_putText_19 lX5_44 ?_
          refine wp_land dX5_putText_22 ?_
          refine wp_l2i dX5_putText_23 ?_
          refine wp_cV1 0 0 [some _, some _] dX5_putText_24 tX5_put rfl (by decide) nX5_put vX5_put lX5_29 ⟨by decide, by decide⟩ (Nat.le_of_ble_eq_true rfl) le1.oo (Nat.le_of_ble_eq_true rfl) rfl ?_
          obtain ⟨c9, hc9, ec9⟩ := byt_c (lN x) k
          rw [us_b hn (by omega), ec9]
          refine pX5_put le1 hc9 (by omega) (fun hh1 f1 le_1 => ?_)
          intro _ _
          refine wp_iinc (ls1 := [_, _, _, some _]) dX5_putText_27 rfl rfl (by decide) rfl ?_
          refine wp_goto dX5_putText_30 ?_
          have e7 : nI (8 * k) + Int32.ofInt (-8) = nI (8 * k) - nI 8 := by rw [show Int32.ofInt (-8) = -(nI 8) from by decide +kernel]; exact (Int32.sub_eq_add_neg ..).symm
          rw [e7]
          rw [← ec9] at le_1
          refine ih k _ _ (by omega) ((hf1.up (fun x hx => by simp at hx ⊢; omega) (Nat.le_refl _)).tr (f1.up (fun x hx => by simp at hx ⊢; omega) (Nat.le_refl _))) le_1 (by rw [List.length_append, show min k (bN (lN x)) = k by omega]; show L1.length + 1 + k ≤ 360; omega) (by rw [← hS, List.append_assoc, show min k (bN (lN x)) = k by omega]; rfl) (by omega)
  refine wp_bipush (v := (nI (8 * 8) - nI 8)) dX5_putText_0 (by decide +kernel) ?_
  refine wp_istore_n (ls1 := [_, _, _, some _]) dX5_putText_2 rfl (by decide) rfl ?_
  have hb8 := bN_le (lN x)
  refine hloop 9 8 L h (by omega) cFr.rf le (by rw [show min 8 (bN (lN x)) = bN (lN x) by omega]; exact hlen) (by rw [show min 8 (bN (lN x)) = bN (lN x) by omega]) (by omega)
set_option maxRecDepth 20000 in
theorem pX5_at {h : mH} {Q : Option Value → mH → Prop} {ow : Nat → Nat} {a ρ : Nat} {L : List Int32} {i : Int32} (le : ltR ow h a ρ L) (ht : ∀ j, j < L.length → i = nI j → Q (some (.int (L.getD j 0))) h) (hf : ix i L.length = none → Q (some (.int (-1))) h) : Wp mX5_at 0 0 0 [some (.ref a), some (.int i)] [] h Q := by
  obtain ⟨lb, zl, h36, hok, hlb⟩ := le
  refine wp_iload_n dX5_at_0 rfl rfl ?_
  refine wp_if_lt dX5_at_1 (fun c2 => ?_) (fun c2 => ?_)
  · refine wp_iconst (v := (-1)) dX5_at_25 (by decide +kernel) ?_
    refine wp_ireturn dX5_at_26 rfl ?_
    exact hf (ix_lt0 c2)
  · refine wp_iload_n dX5_at_4 rfl rfl ?_
    refine wp_aload_n dX5_at_5 rfl rfl ?_
    refine wp_getIV dX5_at_6 lX5_15 rfl zl.o zl.f1 ?_
    refine wp_icmp_ge dX5_at_9 (fun c4 => ?_) (fun c4 => ?_)
    · refine wp_iconst (v := (-1)) dX5_at_25 (by decide +kernel) ?_
      refine wp_ireturn dX5_at_26 rfl ?_
      exact hf (ix_ge (by omega) c4)
    · obtain ⟨j1, hj1, ej1⟩ := ix_pos (by omega) c2 c4
      subst ej1
      refine wp_aload_n dX5_at_12 rfl rfl ?_
      refine wp_getR dX5_at_13 lX5_9 rfl zl.o zl.r0 ?_
      refine wp_iload_n dX5_at_16 rfl rfl ?_
      refine wp_baldV dX5_at_17 zl.a0 rfl ⟨by omega, by omega⟩ ((congrFun zl.c0 _).trans (hlb _ (by omega))) ?_
      refine wp_sipush (v := (nI 255)) dX5_at_18 (by decide +kernel) ?_
      refine wp_iand dX5_at_21 ?_
      refine wp_goto dX5_at_22 ?_
      refine wp_ireturn dX5_at_26 rfl ?_
      obtain ⟨c9, hc9, ec9⟩ := hok j1 (by omega)
      rw [ec9, by_rt c9 hc9, ← ec9]
      exact ht _ (by omega) rfl
set_option maxRecDepth 20000 in
theorem pX5_isLike {h : mH} {Q : Option Value → mH → Prop} {ow : Nat → Nat} {a ρ : Nat} {L : List Int32} {b σ : Nat} {M : List Int32} (le : ltR ow h a ρ L) (lm : ltR ow h b σ M) (ht : L = M → Q (some (.int (nI 1))) h) (hf : ¬ L = M → Q (some (.int (nI 0))) h) : Wp mX5_isLike 0 0 0 [some (.ref a), some (.ref b), none] [] h Q := by
  obtain ⟨lb, zl, h36, hok, hlb⟩ := le
  obtain ⟨mb, zm, m36, hom, hmb⟩ := lm
  have hloop : ∀ (hlen : L.length = M.length) (t9 : Nat) (i : Nat), (i ≤ L.length) → (∀ j, j < i → L.getD j 0 = M.getD j 0) → (L.length < i + t9) → Wp mX5_isLike 0 0 15 [some (.ref a), some (.ref b), some (.int (nI i))] [] h Q := by
    intro hlen t9
    induction t9 with
    | zero => intros; omega
    | succ t9 ih =>
      intro i hi hal hmz
      refine wp_iload_n dX5_isLike_15 rfl rfl ?_
      refine wp_aload_n dX5_isLike_16 rfl rfl ?_
      refine wp_getIV dX5_isLike_17 lX5_15 rfl zl.o zl.f1 ?_
      refine wp_icmp_geN dX5_isLike_20 rfl rfl ⟨by omega, by omega⟩ (fun c2 => ?_) (fun c2 => ?_)
      · refine wp_iconst (v := (nI 1)) dX5_isLike_46 (by decide +kernel) ?_
        refine wp_zreturn dX5_isLike_47 rfl (by first | exact Or.inl rfl | exact Or.inr rfl) ?_
        have ei9 : i = L.length := by omega
        subst ei9
        exact ht (list_ext0 hlen hal)
      · refine wp_aload_n dX5_isLike_23 rfl rfl ?_
        refine wp_getR dX5_isLike_24 lX5_9 rfl zl.o zl.r0 ?_
        refine wp_iload_n dX5_isLike_27 rfl rfl ?_
        refine wp_baldV dX5_isLike_28 zl.a0 rfl ⟨by omega, by omega⟩ ((congrFun zl.c0 _).trans (hlb _ (by omega))) ?_
        refine wp_aload_n dX5_isLike_29 rfl rfl ?_
        refine wp_getR dX5_isLike_30 lX5_9 rfl zm.o zm.r0 ?_
        refine wp_iload_n dX5_isLike_33 rfl rfl ?_
        refine wp_baldV dX5_isLike_34 zm.a0 rfl ⟨by omega, by omega⟩ ((congrFun zm.c0 _).trans (hmb _ (by omega))) ?_
        refine wp_icmp_eq dX5_isLike_35 (fun c3 => ?_) (fun c3 => ?_)
        · refine wp_iinc1 (ls1 := [_, _, some _]) dX5_isLike_40 rfl (by decide) rfl ?_
          refine wp_goto dX5_isLike_43 ?_
          exact ih (i + 1) (by omega) (lt_s hal (by_inj (hok i (by omega)) (hom i (by omega)) (by assumption))) (by omega)
        · refine wp_iconst (v := (nI 0)) dX5_isLike_38 (by decide +kernel) ?_
          refine wp_zreturn dX5_isLike_39 rfl (by first | exact Or.inl rfl | exact Or.inr rfl) ?_
          exact hf (fun z => (by assumption : ¬ _ = _) (by rw [z]))
  refine wp_aload_n dX5_isLike_0 rfl rfl ?_
  refine wp_getIV dX5_isLike_1 lX5_15 rfl zl.o zl.f1 ?_
  refine wp_aload_n dX5_isLike_4 rfl rfl ?_
  refine wp_getIV dX5_isLike_5 lX5_15 rfl zm.o zm.f1 ?_
  refine wp_icmp_eqN dX5_isLike_8 rfl rfl ⟨by omega, by omega⟩ (fun c1 => ?_) (fun c1 => ?_)
  · refine wp_iconst (v := (nI 0)) dX5_isLike_13 (by decide +kernel) ?_
    refine wp_istore_n (ls1 := [_, _, some _]) dX5_isLike_14 rfl (by decide) rfl ?_
    exact hloop (by assumption) (L.length + 1) 0 (by omega) (fun j hj => absurd hj (Nat.not_lt_zero j)) (by omega)
  · refine wp_iconst (v := (nI 0)) dX5_isLike_11 (by decide +kernel) ?_
    refine wp_zreturn dX5_isLike_12 rfl (by first | exact Or.inl rfl | exact Or.inr rfl) ?_
    exact hf (fun z => (by assumption : ¬ _ = _) (congrArg List.length z))
