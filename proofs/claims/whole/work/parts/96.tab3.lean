/-! ===== sorted in runs that grow ===== -/
def sameS (V W : Nat → Nat) (k : Nat) : Prop := (∀ x, x < k → ∃ y, y < k ∧ W x = V y) ∧ ∀ y, y < k → ∃ x, x < k ∧ W x = V y
theorem sameS.rf {V : Nat → Nat} {k : Nat} : sameS V V k := ⟨fun x hx => ⟨x, hx, rfl⟩, fun y hy => ⟨y, hy, rfl⟩⟩
theorem sameS.tr {V W U : Nat → Nat} {k : Nat} (f : sameS V W k) (g : sameS W U k) : sameS V U k := by
  refine ⟨fun x hx => ?_, fun y hy => ?_⟩
  · obtain ⟨z, h1, h2⟩ := g.1 x hx
    obtain ⟨y, h3, h4⟩ := f.1 z h1
    exact ⟨y, h3, h2.trans h4⟩
  · obtain ⟨z, h1, h2⟩ := f.2 y hy
    obtain ⟨x, h3, h4⟩ := g.2 z h1
    exact ⟨x, h3, h4.trans h2⟩
/-- sorted in runs -/
def runS (V : Nat → Nat) (k run : Nat) : Prop := ∀ q, srtd V (q * run) (min (q * run + run) k)
/-- the runs below lo are merged by two -/
def runM (V W : Nat → Nat) (k run q : Nat) : Prop := (∀ j, j < q → srtd W (j * (2 * run)) (min (j * (2 * run) + 2 * run) k)) ∧ (∀ x, x < min (q * (2 * run)) k → ∃ y, y < min (q * (2 * run)) k ∧ W x = V y) ∧ ∀ y, y < min (q * (2 * run)) k → ∃ x, x < min (q * (2 * run)) k ∧ W x = V y
theorem srtd_cg {V W : Nat → Nat} {lo hi : Nat} (h : srtd V lo hi) (e : ∀ x, lo ≤ x → x < hi → W x = V x) : srtd W lo hi := fun x y h1 h2 h3 => by
  rw [e x h1 (by omega), e y (by omega) h3]
  exact h x y h1 h2 h3
theorem runM_s {V W U : Nat → Nat} {k run q : Nat} (hr : 0 < run) (hq : q * (2 * run) < k) (g : runM V W k run q) (s : srtd U (q * (2 * run)) (min (q * (2 * run) + 2 * run) k)) (h1 : ∀ x, q * (2 * run) ≤ x → x < min (q * (2 * run) + 2 * run) k → ∃ y, q * (2 * run) ≤ y ∧ y < min (q * (2 * run) + 2 * run) k ∧ U x = V y) (h2 : ∀ y, q * (2 * run) ≤ y → y < min (q * (2 * run) + 2 * run) k → ∃ x, q * (2 * run) ≤ x ∧ x < min (q * (2 * run) + 2 * run) k ∧ U x = V y) (he : ∀ x, x < q * (2 * run) → U x = W x) : runM V U k run (q + 1) := by
  have hm : (q + 1) * (2 * run) = q * (2 * run) + 2 * run := Nat.succ_mul q (2 * run)
  obtain ⟨g1, g2, g3⟩ := g
  refine ⟨fun j hj => ?_, fun x hx => ?_, fun y hy => ?_⟩
  · by_cases e : j = q
    · rw [e]; exact s
    · have hjq : (j + 1) * (2 * run) ≤ q * (2 * run) := Nat.mul_le_mul_right _ (by omega)
      rw [Nat.succ_mul] at hjq
      exact srtd_cg (g1 j (by omega)) (fun x _ hx => he x (by omega))
  · rw [hm] at hx ⊢
    by_cases z : x < q * (2 * run)
    · obtain ⟨y, k1, k2⟩ := g2 x (by omega)
      exact ⟨y, by omega, by rw [he x z]; exact k2⟩
    · obtain ⟨y, k1, k2, k3⟩ := h1 x (by omega) hx
      exact ⟨y, k2, k3⟩
  · rw [hm] at hy ⊢
    by_cases z : y < q * (2 * run)
    · obtain ⟨x, k1, k2⟩ := g3 y (by omega)
      exact ⟨x, by omega, by rw [he x (by omega)]; exact k2⟩
    · obtain ⟨x, k1, k2, k3⟩ := h2 y (by omega) hy
      exact ⟨x, k2, k3⟩
theorem runM_e {V W : Nat → Nat} {k run q : Nat} (_hr : 0 < run) (hq : k ≤ q * (2 * run)) (g : runM V W k run q) : runS W k (2 * run) ∧ sameS V W k := by
  obtain ⟨g1, g2, g3⟩ := g
  rw [show min (q * (2 * run)) k = k by omega] at g2 g3
  refine ⟨fun j => ?_, g2, g3⟩
  by_cases z : j < q
  · exact g1 j z
  · have : q * (2 * run) ≤ j * (2 * run) := Nat.mul_le_mul_right _ (by omega)
    intro x y h1 h2 h3
    omega
theorem runS_2 {V : Nat → Nat} {k run q : Nat} (h : runS V k run) : srtd V (q * (2 * run)) (min (q * (2 * run) + run) k) ∧ srtd V (min (q * (2 * run) + run) k) (min (q * (2 * run) + 2 * run) k) := by
  have e1 : (2 * q) * run = q * (2 * run) := by rw [Nat.mul_comm 2 q, Nat.mul_assoc]
  have e2 : (2 * q + 1) * run = q * (2 * run) + run := by rw [Nat.succ_mul, e1]
  have a := h (2 * q)
  have b := h (2 * q + 1)
  rw [e1] at a
  rw [e2] at b
  refine ⟨a, fun x y h1 h2 h3 => b x y (by omega) h2 (by omega)⟩
theorem runS_1 {V : Nat → Nat} {k : Nat} : runS V k 1 := fun q x y h1 h2 h3 => by omega
theorem runS_e {V : Nat → Nat} {k run : Nat} (hk : k ≤ run) (h : runS V k run) : srtd V 0 k := by
  have := h 0
  rwa [Nat.zero_mul, Nat.zero_add, show min run k = k by omega] at this
theorem zT.sw {ow : Nat → Nat} {h : mH} {a ρ n m a2 a3 a4 a5 a6 a7 : Nat} {tf tc : Int32} {t2 : Nat → Int64} {t3 t4 t5 : Nat → Int32} {t6 t7 : Nat → Int64} {tp : Int32} (g : zT ow h a ρ n m a2 a3 a4 a5 a6 a7 tf tc t2 t3 t4 t5 t6 t7 tp) : cFr [ρ] 0 ow h ow (sR (sR h a 7 (some a6)) a 6 (some a7)) ∧ zT ow (sR (sR h a 7 (some a6)) a 6 (some a7)) a ρ n m a2 a3 a4 a5 a7 a6 tf tc t2 t3 t4 t5 t7 t6 tp := by
  have ne9 := g.ne
  have hr : ∀ y, hR (sR (sR h a 7 (some a6)) a 6 (some a7)) a y = if y = 6 then some a7 else if y = 7 then some a6 else hR h a y := fun y => by
    rw [hR_sR, hR_sR]
    by_cases z : y = 6
    · rw [if_pos ⟨rfl, z⟩, if_pos z]
    · rw [if_neg (fun w => z w.2), if_neg z]
      by_cases z7 : y = 7
      · rw [if_pos ⟨rfl, z7⟩, if_pos z7]
      · rw [if_neg (fun w => z7 w.2), if_neg z7]
  exact ⟨(cFr_sR g.w).tr (cFr_sR g.w), g.o, g.w, by omega, g.f0, g.f1, (hr 2).trans g.r2, g.a2, g.v2, g.c2, (hr 3).trans g.r3, g.a3, g.v3, g.c3, (hr 4).trans g.r4, g.a4, g.v4, g.c4, (hr 5).trans g.r5, g.a5, g.v5, g.c5, hr 6, g.a7, g.v7, g.c7, hr 7, g.a6, g.v6, g.c6, g.f8⟩
set_option maxRecDepth 20000 in
theorem sort_in {h : mH} {Q : Option Value → mH → Prop} {ow : Nat → Nat} {a ρ n m a2 a3 a4 a5 a6 a7 k run : Nat} {tf tc : Int32} {t2 : Nat → Int64} {t3 t4 t5 : Nat → Int32} {t6 t7 : Nat → Int64} {V : Nat → Nat} (zt : zT ow h a ρ n m a2 a3 a4 a5 a6 a7 tf tc t2 t3 t4 t5 t6 t7 (nI k)) (hkm : k ≤ m ∧ m ≤ 20480) (hr : 0 < run) (hrk : run < k) (hV : ∀ i, i < k → t6 i = lN (V i) ∧ V i < 2 ^ 46) (hrs : runS V k run) (hK : ∀ (W T) (z : Nat) h1, cFr [ρ] 0 ow h ow h1 → zT ow h1 a ρ n m a2 a3 a4 a5 a6 a7 tf tc t2 t3 t4 t5 t6 T (nI k) → runS W k (2 * run) ∧ sameS V W k → (∀ x, x < k → T x = lN (W x)) → ∀ x9, Wp mX9_sortPile 1 26 56 [some (.ref a), some (.int (nI run)), x9] [] h1 Q) : Wp mX9_sortPile 1 26 12 [some (.ref a), some (.int (nI run)), some (.int (nI 0))] [] h Q := by
  have hin : ∀  (t9 : Nat) (q : Nat) (W : Nat → Nat) (T : Nat → Int64) (h1 : mH), (q * (2 * run) < k + 2 * run) → (cFr [ρ] 0 ow h ow h1) → (zT ow h1 a ρ n m a2 a3 a4 a5 a6 a7 tf tc t2 t3 t4 t5 t6 T (nI k)) → (runM V W k run q) → (∀ x, x < min (q * (2 * run)) k → T x = lN (W x)) → (k < q * (2 * run) + t9 ∧ 0 < t9) → (∀ (W T) (z : Nat) h1, cFr [ρ] 0 ow h ow h1 → zT ow h1 a ρ n m a2 a3 a4 a5 a6 a7 tf tc t2 t3 t4 t5 t6 T (nI k) → runS W k (2 * run) ∧ sameS V W k → (∀ x, x < k → T x = lN (W x)) → ∀ x9, Wp mX9_sortPile 1 26 56 [some (.ref a), some (.int (nI run)), x9] [] h1 Q) → Wp mX9_sortPile 1 26 12 [some (.ref a), some (.int (nI run)), some (.int (nI (q * (2 * run))))] [] h1 Q := by
    intro t9
    induction t9 with
    | zero => intros; omega
    | succ t9 ihn =>
      intro q W T h1 hqk hf1 zt1 hm hT hmz hcont
      refine wp_iload_n dX9_sortPile_12 rfl rfl ?_
      refine wp_aload_n dX9_sortPile_13 rfl rfl ?_
      refine wp_getIV dX9_sortPile_14 lX9_31 rfl zt1.o zt1.f8 ?_
      refine wp_icmp_geN dX9_sortPile_17 rfl rfl ⟨by omega, by omega⟩ (fun c2 => ?_) (fun c2 => ?_)
      · exact hcont _ _ 0 _ (hf1.up (fun x hx => by simp at hx ⊢; omega) (Nat.le_refl _)) zt1 (runM_e hr (by omega) hm) (fun x hx => hT x (by omega)) _
      · have hqb : q * (2 * run) < k := by omega
        have hq2 : (q + 1) * (2 * run) = q * (2 * run) + 2 * run := Nat.succ_mul q (2 * run)
        refine wp_aload_n dX9_sortPile_20 rfl rfl ?_
        refine wp_iload_n dX9_sortPile_21 rfl rfl ?_
        refine wp_iload_n dX9_sortPile_22 rfl rfl ?_
        refine wp_iload_n dX9_sortPile_23 rfl rfl ?_
        refine wp_iadd dX9_sortPile_24 ?_
        refine wp_aload_n dX9_sortPile_25 rfl rfl ?_
        refine wp_getIV dX9_sortPile_26 lX9_31 rfl zt1.o zt1.f8 ?_
        refine wp_cS2 0 0 [some _, some _] dX9_sortPile_29 tJ9_min_7cf53 sJ9_min_7cf53 lX9_120 ⟨by decide, by decide⟩ (Nat.le_of_ble_eq_true rfl) (Nat.le_of_ble_eq_true rfl) rfl ?_
        rw [nI_add]
        refine pJ9_min_7cf53 (by omega) (by omega) ?_
        intro _ _
        refine wp_iload_n dX9_sortPile_32 rfl rfl ?_
        refine wp_iconst (v := (nI 2)) dX9_sortPile_33 (by decide +kernel) ?_
        refine wp_iload_n dX9_sortPile_34 rfl rfl ?_
        refine wp_imul dX9_sortPile_35 ?_
        refine wp_iadd dX9_sortPile_36 ?_
        refine wp_aload_n dX9_sortPile_37 rfl rfl ?_
        refine wp_getIV dX9_sortPile_38 lX9_31 rfl zt1.o zt1.f8 ?_
        refine wp_cS2 0 0 [some _, some _] dX9_sortPile_41 tJ9_min_7cf53 sJ9_min_7cf53 lX9_120 ⟨by decide, by decide⟩ (Nat.le_of_ble_eq_true rfl) (Nat.le_of_ble_eq_true rfl) rfl ?_
        rw [pk_mul]
        rw [nI_add]
        refine pJ9_min_7cf53 (by omega) (by omega) ?_
        intro _ _
        refine wp_cV3 0 0 [some _, some _, some _, some _, none, none, none] dX9_sortPile_44 tX9_merge rfl (by decide) nX9_merge vX9_merge lX9_125 ⟨by decide, by decide⟩ (Nat.le_of_ble_eq_true rfl) zt1.o (Nat.le_of_ble_eq_true rfl) rfl ?_
        refine pX9_merge (V := V) zt1 (by omega) (fun i hi => hV i (by omega)) (runS_2 hrs).1 (runS_2 hrs).2 (fun hh1 T1 W1 f1 zt_1 hW1 hO1 sr1 sa1 sb1 => ?_)
        intro _ _
        refine wp_iload_n dX9_sortPile_47 rfl rfl ?_
        refine wp_iconst (v := (nI 2)) dX9_sortPile_48 (by decide +kernel) ?_
        refine wp_iload_n dX9_sortPile_49 rfl rfl ?_
        refine wp_imul dX9_sortPile_50 ?_
        refine wp_iadd dX9_sortPile_51 ?_
        refine wp_istore_n (ls1 := [_, _, some _]) dX9_sortPile_52 rfl (by decide) rfl ?_
        refine wp_goto dX9_sortPile_53 ?_
        rw [pk_mul, nI_add, ← hq2]
        refine ihn (q + 1) (fun x => if x < q * (2 * run) then W x else W1 x) _ _ (by omega) ((hf1.up (fun x hx => by simp at hx ⊢; omega) (Nat.le_refl _)).tr (f1.up (fun x hx => by simp at hx ⊢; omega) (Nat.le_refl _))) zt_1 (runM_s hr hqb hm (srtd_cg sr1 (fun x h1 _ => if_neg (by omega))) (fun x h1 h2 => by rw [if_neg (by omega)]; exact sa1 x h1 h2) (fun y h1 h2 => (sb1 y h1 h2).elim (fun x hx => ⟨x, hx.1, hx.2.1, by rw [if_neg (by omega)]; exact hx.2.2⟩)) (fun x hx => if_pos hx)) (fun x hx => ?_) (by omega) hcont
        by_cases c : x < q * (2 * run)
        · rw [if_pos c, hO1 x (Or.inl c)]; exact hT x (by omega)
        · rw [if_neg c]; exact hW1 x (by omega) (by omega)
  have e0 : 0 * (2 * run) = 0 := Nat.zero_mul _
  have w := hin (k + 1) 0 V t7 h (by rw [e0]; omega) cFr.rf zt ⟨fun j hj => absurd hj (Nat.not_lt_zero j), fun x hx => by rw [e0] at hx; omega, fun y hy => by rw [e0] at hy; omega⟩ (fun x hx => by rw [e0] at hx; omega) (by rw [e0]; omega) hK
  rw [e0] at w
  exact w
set_option maxRecDepth 20000 in
theorem pX9_sortPile {h : mH} {Q : Option Value → mH → Prop} {ow : Nat → Nat} {a ρ k m n : Nat} {V : Nat → Nat} (tp : tPl ow h a ρ k m n V) (hq : ∀ h' W, cFr [ρ] 0 ow h ow h' → tPl ow h' a ρ k m n W → srtd W 0 k → sameS V W k → Q none h') : Wp mX9_sortPile 1 26 0 [some (.ref a), none, none] [] h Q := by
  obtain ⟨a2, a3, a4, a5, a6, a7, tf, tc, t2, t3, t4, t5, t6, t7, zt, hkm, hn, hV⟩ := tp
  have hloop : ∀  (t9 : Nat) (run : Nat) (V1 : Nat → Nat) (b6 : Nat) (b7 : Nat) (T6 : Nat → Int64) (T7 : Nat → Int64) (x2 : Option Value) (h1 : mH), (0 < run ∧ run ≤ 40960) → (cFr [ρ] 0 ow h ow h1) → (zT ow h1 a ρ n m a2 a3 a4 a5 b6 b7 tf tc t2 t3 t4 t5 T6 T7 (nI k)) → (runS V1 k run) → (sameS V V1 k) → (∀ i, i < k → T6 i = lN (V1 i) ∧ V1 i < 2 ^ 46) → (k < run + t9 ∧ 0 < t9) → Wp mX9_sortPile 1 26 2 [some (.ref a), some (.int (nI run)), x2] [] h1 Q := by
    intro t9
    induction t9 with
    | zero => intros; omega
    | succ t9 ih =>
      intro run V1 b6 b7 T6 T7 x2 h1 hr hf1 zt1 hrs hss hV hmz
      refine wp_iload_n dX9_sortPile_2 rfl rfl ?_
      refine wp_aload_n dX9_sortPile_3 rfl rfl ?_
      refine wp_getIV dX9_sortPile_4 lX9_31 rfl zt1.o zt1.f8 ?_
      refine wp_icmp_geN dX9_sortPile_7 rfl rfl ⟨by omega, by omega⟩ (fun c2 => ?_) (fun c2 => ?_)
      · refine wp_vreturn dX9_sortPile_81 rfl ?_
        exact hq _ V1 hf1 ⟨_, _, _, _, _, _, _, _, _, _, _, _, _, _, zt1, hkm, hn, hV⟩ (runS_e (by omega) hrs) hss
      · refine wp_iconst (v := (nI 0)) dX9_sortPile_10 (by decide +kernel) ?_
        refine wp_istore_n (ls1 := [_, _, some _]) dX9_sortPile_11 rfl (by decide) rfl ?_
        refine sort_in zt1 (by omega) hr.1 (by omega) hV hrs (fun W1 T1 z1 h2 hf2 zt2 hS2 hT2 x9 => ?_)
        obtain ⟨fs2, zs2⟩ := zt2.sw
        refine wp_aload_n dX9_sortPile_56 rfl rfl ?_
        refine wp_getR dX9_sortPile_57 lX9_28 rfl zt2.o zt2.r7 ?_
        refine wp_astore_n (ls1 := [_, _, some _]) dX9_sortPile_60 rfl (by decide) rfl ?_
        refine wp_aload_n dX9_sortPile_61 rfl rfl ?_
        refine wp_aload_n dX9_sortPile_62 rfl rfl ?_
        refine wp_getR dX9_sortPile_63 lX9_25 rfl zt2.o zt2.r6 ?_
        refine wp_putR (v := some _) dX9_sortPile_66 lX9_28 rfl (Or.inl rfl) zt2.o ?_
        refine wp_aload_n dX9_sortPile_69 rfl rfl ?_
        refine wp_aload_n dX9_sortPile_70 rfl rfl ?_
        refine wp_putR (v := some _) dX9_sortPile_71 lX9_25 rfl (Or.inl rfl) zt2.o ?_
        refine wp_iload_n dX9_sortPile_74 rfl rfl ?_
        refine wp_iconst (v := (nI 2)) dX9_sortPile_75 (by decide +kernel) ?_
        refine wp_imul dX9_sortPile_76 ?_
        refine wp_istore_n (ls1 := [_, some _, _]) dX9_sortPile_77 rfl (by decide) rfl ?_
        refine wp_goto dX9_sortPile_78 ?_
        rw [pk_mul, Nat.mul_comm run 2]
        exact ih (2 * run) W1 _ _ _ _ _ _ (by omega) ((hf1.tr hf2).tr fs2) zs2 hS2.1 (hss.tr hS2.2) (fun i hi => ⟨hT2 i hi, (hS2.2.1 i hi).elim (fun y hy => by rw [hy.2]; exact (hV y hy.1).2)⟩) (by omega)
  refine wp_iconst (v := (nI 1)) dX9_sortPile_0 (by decide +kernel) ?_
  refine wp_istore_n (ls1 := [_, some _, _]) dX9_sortPile_1 rfl (by decide) rfl ?_
  exact hloop (k + 1) 1 V _ _ _ _ _ h (by omega) cFr.rf zt runS_1 sameS.rf hV (by omega)
