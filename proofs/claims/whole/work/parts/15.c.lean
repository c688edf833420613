/-- k tables more, in a row g -/
def iTabs (g : Nat) : Nat → mH → mH
  | 0, h => h
  | k + 1, h => sR (iX9 (nw (iTabs g k h) 9 9) (hN (iTabs g k h))) g k (some (hN (iTabs g k h)))
theorem hN_iTabs (g : Nat) : ∀ (k : Nat) (h : mH), hN (iTabs g k h) = hN h + 7 * k
  | 0, h => rfl
  | k + 1, h => by
    show hN (iTabs g k h) + 1 + 6 = _
    rw [hN_iTabs g k h]
    omega
theorem hU_iTabs (g : Nat) : ∀ (k : Nat) (h : mH), hU (iTabs g k h) = hU h + 393 * k
  | 0, h => rfl
  | k + 1, h => by
    have e := hU_iTabs g k h
    unfold iTabs
    rw [hU_sR, hU_iX9, hU_nw]
    omega
theorem hO_iTabs {g b c : Nat} : ∀ (k : Nat) {h : mH}, hO h b c → hO (iTabs g k h) b c
  | 0, _, ho => ho
  | k + 1, _, ho => hO_iX9 (hO_nw (hO_iTabs k ho))
theorem hA_iTabs {g b c m : Nat} : ∀ (k : Nat) {h : mH}, hA h b c m → hA (iTabs g k h) b c m
  | 0, _, ho => ho
  | k + 1, _, ho => hA_iX9 (hA_nw (hA_iTabs k ho))
theorem eqAt_iTabs {g x : Nat} (hx : x ≠ g) : ∀ (k : Nat) {h : mH}, (x < hN h ∨ hN h + 7 * k ≤ x) → eqAt h (iTabs g k h) x
  | 0, _, _ => eqAt.rf
  | k + 1, h, hl => by
    have hn := hN_iTabs g k h
    have ih := eqAt_iTabs hx k (h := h) (by omega)
    exact ih.tr ((eqAt_nw (by omega)).tr ((eqAt_iX9 (by rw [hN_nw]; omega) (by omega)).tr (eqAt_sR hx)))
/-- an object of a class with its constructor's heap, put into a field -/
def ob (ci n : Nat) (i : mH → Nat → mH) (h : mH) (a f : Nat) : mH := sR (i (nw h ci n) (hN h)) a f (some (hN h))
def iX11a (h : mH) (a : Nat) : mH := ob 1 4 iX1 (sI (al h a 0 13 900) a 3 (-1)) a 4
def iX11b (h : mH) (a : Nat) : mH := ob 7 12 iX7 (iX11a h a) a 5
def iX11c (h : mH) (a : Nat) : mH := ob 3 4 iX3 (iX11b h a) a 6
def iX11d (h : mH) (a : Nat) : mH := al (al (iX11c h a) a 7 17 2) a 8 18 4
def iX11e (h : mH) (a : Nat) : mH := ob 0 8 iX0 (iX11d h a) a 9
def iX11f (h : mH) (a : Nat) : mH := ob 2 7 iX2 (iX11e h a) a 10
def iX11g (h : mH) (a : Nat) : mH := ob 10 6 iX10 (iX11f h a) a 11
def iX11h1 (h : mH) (a : Nat) : mH := ob 5 2 iX5 (iX11g h a) a 12
def iX11h (h : mH) (a : Nat) : mH := ob 5 2 iX5 (iX11h1 h a) a 13
theorem hO_ob {ci n : Nat} {i : mH → Nat → mH} (hi : ∀ {h : mH} {a b c : Nat}, hO h b c → hO (i h a) b c) {h : mH} {a f b c : Nat} (ho : hO h b c) : hO (ob ci n i h a f) b c := hi (hO_nw ho)
theorem hA_ob {ci n : Nat} {i : mH → Nat → mH} (hi : ∀ {h : mH} {a b c m : Nat}, hA h b c m → hA (i h a) b c m) {h : mH} {a f b c m : Nat} (ho : hA h b c m) : hA (ob ci n i h a f) b c m := hi (hA_nw ho)
theorem hN_iX11a (h : mH) (a : Nat) : hN (iX11a h a) = hN h + 5 := by
  unfold iX11a ob
  rw [hN_sR, hN_iX1, hN_nw, hN_sI, hN_al]
  
theorem hU_iX11a (h : mH) (a : Nat) : hU (iX11a h a) = hU h + 916 := by
  unfold iX11a ob
  rw [hU_sR, hU_iX1, hU_nw, hU_sI, hU_al]
  try omega
theorem hN_iX11b (h : mH) (a : Nat) : hN (iX11b h a) = hN h + 19 := by
  have e2 := hN_iX11a h a
  unfold iX11b ob
  rw [hN_sR, hN_iX7, hN_nw]
  try omega
theorem hU_iX11b (h : mH) (a : Nat) : hU (iX11b h a) = hU h + 1196 := by
  have e2 := hU_iX11a h a
  unfold iX11b ob
  rw [hU_sR, hU_iX7, hU_nw]
  try omega
theorem hN_iX11c (h : mH) (a : Nat) : hN (iX11c h a) = hN h + 106 := by
  have e2 := hN_iX11b h a
  unfold iX11c ob
  rw [hN_sR, hN_iX3, hN_nw]
  try omega
theorem hU_iX11c (h : mH) (a : Nat) : hU (iX11c h a) = hU h + 2288 := by
  have e2 := hU_iX11b h a
  unfold iX11c ob
  rw [hU_sR, hU_iX3, hU_nw]
  try omega
theorem hN_iX11d (h : mH) (a : Nat) : hN (iX11d h a) = hN h + 108 := by
  have e2 := hN_iX11c h a
  unfold iX11d
  rw [hN_al, hN_al]
  try omega
theorem hU_iX11d (h : mH) (a : Nat) : hU (iX11d h a) = hU h + 2294 := by
  have e2 := hU_iX11c h a
  unfold iX11d
  rw [hU_al, hU_al]
  try omega
theorem hN_iX11e (h : mH) (a : Nat) : hN (iX11e h a) = hN h + 114 := by
  have e2 := hN_iX11d h a
  unfold iX11e ob
  rw [hN_sR, hN_iX0, hN_nw]
  try omega
theorem hU_iX11e (h : mH) (a : Nat) : hU (iX11e h a) = hU h + 2564 := by
  have e2 := hU_iX11d h a
  unfold iX11e ob
  rw [hU_sR, hU_iX0, hU_nw]
  try omega
theorem hN_iX11f (h : mH) (a : Nat) : hN (iX11f h a) = hN h + 116 := by
  have e2 := hN_iX11e h a
  unfold iX11f ob
  rw [hN_sR, hN_iX2, hN_nw]
  try omega
theorem hU_iX11f (h : mH) (a : Nat) : hU (iX11f h a) = hU h + 2814 := by
  have e2 := hU_iX11e h a
  unfold iX11f ob
  rw [hU_sR, hU_iX2, hU_nw]
  try omega
theorem hN_iX11g (h : mH) (a : Nat) : hN (iX11g h a) = hN h + 120 := by
  have e2 := hN_iX11f h a
  unfold iX11g ob
  rw [hN_sR, hN_iX10, hN_nw]
  try omega
theorem hU_iX11g (h : mH) (a : Nat) : hU (iX11g h a) = hU h + 3012 := by
  have e2 := hU_iX11f h a
  unfold iX11g ob
  rw [hU_sR, hU_iX10, hU_nw]
  try omega
theorem hN_iX11h1 (h : mH) (a : Nat) : hN (iX11h1 h a) = hN h + 122 := by
  have e2 := hN_iX11g h a
  unfold iX11h1 ob
  rw [hN_sR, hN_iX5, hN_nw]
  try omega
theorem hU_iX11h1 (h : mH) (a : Nat) : hU (iX11h1 h a) = hU h + 3374 := by
  have e2 := hU_iX11g h a
  unfold iX11h1 ob
  rw [hU_sR, hU_iX5, hU_nw]
  try omega
theorem hN_iX11h (h : mH) (a : Nat) : hN (iX11h h a) = hN h + 124 := by
  have e2 := hN_iX11h1 h a
  unfold iX11h ob
  rw [hN_sR, hN_iX5, hN_nw]
  try omega
theorem hU_iX11h (h : mH) (a : Nat) : hU (iX11h h a) = hU h + 3736 := by
  have e2 := hU_iX11h1 h a
  unfold iX11h ob
  rw [hU_sR, hU_iX5, hU_nw]
  try omega
theorem hR_ob {ci n : Nat} {i : mH → Nat → mH} {h : mH} {a f y : Nat} (ha : a < hN h) (hi : eqAt (nw h ci n) (i (nw h ci n) (hN h)) a) : hR (ob ci n i h a f) a y = if y = f then some (hN h) else hR h a y := by
  unfold ob
  rw [hR_sR]
  by_cases hy : y = f
  · rw [if_pos ⟨rfl, hy⟩, if_pos hy]
  · rw [if_neg (fun q => hy q.2), if_neg hy, hi.2.2.2, hR_nw, if_neg (by omega)]
theorem hR_al_at {h : mH} {a f kd n y : Nat} (ha : a < hN h) : hR (al h a f kd n) a y = if y = f then some (hN h) else hR h a y := by
  rw [hR_al]
  by_cases hy : y = f
  · rw [if_pos ⟨rfl, hy⟩, if_pos hy]
  · rw [if_neg (fun q => hy q.2), if_neg hy, if_neg (by omega)]
theorem hN_ob (ci n : Nat) (i : mH → Nat → mH) (h : mH) (a f : Nat) : hN (ob ci n i h a f) = hN (i (nw h ci n) (hN h)) := rfl
theorem hR_iX11h_8 {h : mH} {a : Nat} (ha : a < hN h) : hR (iX11h h a) a 8 = some (hN (iX11c h a) + 1) := by
  have e1 := hN_iX11g h a
  have e2 := hN_iX11f h a
  have e3 := hN_iX11e h a
  have e4 := hN_iX11d h a
  have e5 := hN_iX11c h a
  have e0 := hN_iX11h1 h a
  unfold iX11h
  rw [hR_ob (by omega) (eqAt_iX5 (by rw [hN_nw]; omega) (by omega)), if_neg (by decide)]
  unfold iX11h1
  rw [hR_ob (by omega) (eqAt_iX5 (by rw [hN_nw]; omega) (by omega)), if_neg (by decide)]
  unfold iX11g
  rw [hR_ob (by omega) (eqAt_iX10 (by rw [hN_nw]; omega) (by omega)), if_neg (by decide)]
  unfold iX11f
  rw [hR_ob (by omega) (eqAt_iX2 (by rw [hN_nw]; omega) (by omega)), if_neg (by decide)]
  unfold iX11e
  rw [hR_ob (by omega) (eqAt_iX0 (by rw [hN_nw]; omega) (by omega)), if_neg (by decide)]
  unfold iX11d
  rw [hR_al_at (by rw [hN_al]; omega), if_pos rfl, hN_al]
def iX11 (h : mH) (a : Nat) : mH := iTabs (hN (iX11c h a) + 1) 4 (iX11h h a)
theorem hN_iX11 (h : mH) (a : Nat) : hN (iX11 h a) = hN h + 152 := by show hN (iTabs _ _ _) = _; rw [hN_iTabs, hN_iX11h]
theorem hU_iX11 (h : mH) (a : Nat) : hU (iX11 h a) = hU h + 5308 := by
  have e1 := hU_iTabs (hN (iX11c h a) + 1) 4 (iX11h h a)
  have e2 := hU_iX11h h a
  unfold iX11
  omega
set_option maxRecDepth 20000 in
theorem pX11_init {h : mH} {a : Nat} {Q : Option Value → mH → Prop} (ho : hO h a 11) (hq : Q none (iX11 h a)) : Wp mX11_init 3 61 0 [some (.ref a), none] [] h Q := by
  have hoa : hO (iX11a h a) a 11 := hO_ob (i := iX1) hO_iX1 (h := sI (al h a 0 13 900) a 3 (-1)) (hO_al (a := a) (f := 0) ho)
  have hob : hO (iX11b h a) a 11 := hO_ob (i := iX7) hO_iX7 hoa
  have hoc : hO (iX11c h a) a 11 := hO_ob (i := iX3) hO_iX3 hob
  have hod : hO (iX11d h a) a 11 := hO_al (hO_al hoc)
  have hoe : hO (iX11e h a) a 11 := hO_ob (i := iX0) hO_iX0 hod
  have hof : hO (iX11f h a) a 11 := hO_ob (i := iX2) hO_iX2 hoe
  have hog : hO (iX11g h a) a 11 := hO_ob (i := iX10) hO_iX10 hof
  have hoh1 : hO (iX11h1 h a) a 11 := hO_ob (i := iX5) hO_iX5 hog
  have hoh : hO (iX11h h a) a 11 := hO_ob (i := iX5) hO_iX5 hoh1
  have hta0 : hA (iX11d h a) (hN (iX11c h a) + 1) 18 4 := hA_al_new (al (iX11c h a) a 7 17 2) a 8 18 4
  have hta : hA (iX11h h a) (hN (iX11c h a) + 1) 18 4 := hA_ob (i := iX5) hA_iX5 (hA_ob (i := iX5) hA_iX5 (hA_ob (i := iX10) hA_iX10 (hA_ob (i := iX2) hA_iX2 (hA_ob (i := iX0) hA_iX0 hta0))))
  have hloop : ∀ (n k : Nat), k ≤ 4 → 5 ≤ k + n → Wp mX11_init 3 61 124 [some (.ref a), some (.int (nI k))] [] (iTabs (hN (iX11c h a) + 1) k (iX11h h a)) Q := by
    intro n
    induction n with
    | zero => intro k h1 h2; omega
    | succ n ih =>
      intro k h1 h2
      have hla := ho.1
      have htb : hR (iTabs (hN (iX11c h a) + 1) k (iX11h h a)) a 8 = some (hN (iX11c h a) + 1) := by
        rw [(eqAt_iTabs (x := a) (by rw [hN_iX11c]; omega) k (h := iX11h h a) (Or.inl (by rw [hN_iX11h]; omega))).2.2.2]
        exact hR_iX11h_8 hla
      refine wp_iload_n dX11_init_124 rfl rfl ?_
      refine wp_iconst (v := (nI 4)) dX11_init_125 (by decide +kernel) ?_
      refine wp_icmp_geN dX11_init_126 rfl rfl ⟨by omega, by decide⟩ (fun c1 => ?_) (fun c1 => ?_)
      · have e9 : k = 4 := by omega
        subst e9
        refine wp_vreturn dX11_init_148 rfl ?_
        exact hq
      refine wp_aload_n dX11_init_129 rfl rfl ?_
      refine wp_getR dX11_init_130 lX11_46 rfl (hO_iTabs k hoh) htb ?_
      refine wp_iload_n dX11_init_133 rfl rfl ?_
      refine wp_new dX11_init_134 (by decide) lX11_44 (mInst 9 (by decide)) (mInit 9 (by decide)) ?_
      refine wp_dup dX11_init_137 rfl ?_
      refine wp_cIN0 1 20 [some _] dX11_init_138 tX9_init rfl rfl nX9_init lX11_81 ⟨by decide, by decide⟩ (Nat.le_of_ble_eq_true rfl) (Nat.le_of_ble_eq_true rfl) rfl ?_
      refine pX9_init (hO_new _ _ _) ?_
      intro _ _
      refine wp_aastJ dX11_init_141 (hA_iX9 (hA_nw (hA_iTabs k hta))) (by decide) (by decide) rfl ⟨by omega, by decide⟩ (hO_iX9 (hO_new _ _ _)) ?_
      refine wp_iinc1 (ls1 := [_, some _]) dX11_init_142 rfl (by decide) rfl ?_
      refine wp_goto dX11_init_145 ?_
      exact ih (k + 1) (by omega) (by omega)
  refine wp_aload_n dX11_init_0 rfl rfl ?_
  refine wp_objInit dX11_init_1 lX11_3 wOi wOc (Nat.le_of_ble_eq_true rfl) (by decide) ?_
  refine wp_aload_n dX11_init_4 rfl rfl ?_
  refine wp_sipush (v := (nI 900)) dX11_init_5 (by decide +kernel) ?_
  refine wp_newB (N := 900) dX11_init_8 wAc13 (by decide +kernel) (by decide +kernel) (by decide +kernel) ?_
  refine wp_putR (v := some _) dX11_init_10 lX11_9 rfl (Or.inr ⟨rfl, rfl, rfl⟩) (hO_nw ho) ?_
  refine wp_aload_n dX11_init_13 rfl rfl ?_
  refine wp_iconst (v := (-1)) dX11_init_14 (by decide +kernel) ?_
  refine wp_putI dX11_init_15 lX11_13 rfl (Or.inl rfl) (hO_nw ho) rfl rfl ?_
  refine wp_aload_n dX11_init_18 rfl rfl ?_
  refine wp_new dX11_init_19 (by decide) lX11_17 (mInst 1 (by decide)) (mInit 1 (by decide)) ?_
  refine wp_dup dX11_init_22 rfl ?_
  refine wp_cIN0 1 20 [some _] dX11_init_23 tX1_init rfl rfl nX1_init lX11_19 ⟨by decide, by decide⟩ (Nat.le_of_ble_eq_true rfl) (Nat.le_of_ble_eq_true rfl) rfl ?_
  refine pX1_init (hO_new _ _ _) ?_
  intro _ _
  refine wp_putR (v := some _) dX11_init_26 lX11_20 rfl (Or.inl rfl) (hO_iX1 (hO_nw (hO_nw ho))) ?_
  show Wp mX11_init 3 61 29 _ _ (iX11a h a) Q
  refine wp_aload_n dX11_init_29 rfl rfl ?_
  refine wp_new dX11_init_30 (by decide) lX11_24 (mInst 7 (by decide)) (mInit 7 (by decide)) ?_
  refine wp_dup dX11_init_33 rfl ?_
  refine wp_cIN0 2 40 [some _] dX11_init_34 tX7_init rfl rfl nX7_init lX11_26 ⟨by decide, by decide⟩ (Nat.le_of_ble_eq_true rfl) (Nat.le_of_ble_eq_true rfl) rfl ?_
  refine pX7_init (hO_new _ _ _) ?_
  intro _ _
  refine wp_putR (v := some _) dX11_init_37 lX11_27 rfl (Or.inr ⟨rfl, rfl, rfl⟩) (hO_iX7 (hO_nw hoa)) ?_
  show Wp mX11_init 3 61 40 _ _ (iX11b h a) Q
  refine wp_aload_n dX11_init_40 rfl rfl ?_
  refine wp_new dX11_init_41 (by decide) lX11_31 (mInst 3 (by decide)) (mInit 3 (by decide)) ?_
  refine wp_dup dX11_init_44 rfl ?_
  refine wp_cI0 2 40 [some _, none] dX11_init_45 tX3_init rfl rfl nX3_init lX11_33 ⟨by decide, by decide⟩ (Nat.le_of_ble_eq_true rfl) (Nat.le_of_ble_eq_true rfl) rfl ?_
  refine pX3_init (hO_new _ _ _) ?_
  intro _ _
  refine wp_putR (v := some _) dX11_init_48 lX11_34 rfl (Or.inr ⟨rfl, rfl, rfl⟩) (hO_iX3 (hO_nw hob)) ?_
  show Wp mX11_init 3 61 51 _ _ (iX11c h a) Q
  refine wp_aload_n dX11_init_51 rfl rfl ?_
  refine wp_iconst (v := (nI 2)) dX11_init_52 (by decide +kernel) ?_
  refine wp_newR (kd := 17) (N := 2) dX11_init_53 (by decide) (by decide) lX11_38 (by decide +kernel) (by decide +kernel) (by decide +kernel) ?_
  refine wp_putR (v := some _) dX11_init_56 lX11_40 rfl (Or.inr ⟨rfl, rfl, rfl⟩) (hO_nw hoc) ?_
  refine wp_aload_n dX11_init_59 rfl rfl ?_
  refine wp_iconst (v := (nI 4)) dX11_init_60 (by decide +kernel) ?_
  refine wp_newR (kd := 18) (N := 4) dX11_init_61 (by decide) (by decide) lX11_44 (by decide +kernel) (by decide +kernel) (by decide +kernel) ?_
  refine wp_putR (v := some _) dX11_init_64 lX11_46 rfl (Or.inr ⟨rfl, rfl, rfl⟩) (hO_nw (hO_nw hoc)) ?_
  show Wp mX11_init 3 61 67 _ _ (iX11d h a) Q
  refine wp_aload_n dX11_init_67 rfl rfl ?_
  refine wp_new dX11_init_68 (by decide) lX11_50 (mInst 0 (by decide)) (mInit 0 (by decide)) ?_
  refine wp_dup dX11_init_71 rfl ?_
  refine wp_cIN0 1 20 [some _] dX11_init_72 tX0_init rfl rfl nX0_init lX11_52 ⟨by decide, by decide⟩ (Nat.le_of_ble_eq_true rfl) (Nat.le_of_ble_eq_true rfl) rfl ?_
  refine pX0_init (hO_new _ _ _) ?_
  intro _ _
  refine wp_putR (v := some _) dX11_init_75 lX11_53 rfl (Or.inr ⟨rfl, rfl, rfl⟩) (hO_iX0 (hO_nw hod)) ?_
  show Wp mX11_init 3 61 78 _ _ (iX11e h a) Q
  refine wp_aload_n dX11_init_78 rfl rfl ?_
  refine wp_new dX11_init_79 (by decide) lX11_57 (mInst 2 (by decide)) (mInit 2 (by decide)) ?_
  refine wp_dup dX11_init_82 rfl ?_
  refine wp_cIN0 1 20 [some _] dX11_init_83 tX2_init rfl rfl nX2_init lX11_59 ⟨by decide, by decide⟩ (Nat.le_of_ble_eq_true rfl) (Nat.le_of_ble_eq_true rfl) rfl ?_
  refine pX2_init (hO_new _ _ _) ?_
  intro _ _
  refine wp_putR (v := some _) dX11_init_86 lX11_60 rfl (Or.inr ⟨rfl, rfl, rfl⟩) (hO_iX2 (hO_nw hoe)) ?_
  show Wp mX11_init 3 61 89 _ _ (iX11f h a) Q
  refine wp_aload_n dX11_init_89 rfl rfl ?_
  refine wp_new dX11_init_90 (by decide) lX11_64 (mInst 10 (by decide)) (mInit 10 (by decide)) ?_
  refine wp_dup dX11_init_93 rfl ?_
  refine wp_cIN0 1 20 [some _] dX11_init_94 tX10_init rfl rfl nX10_init lX11_66 ⟨by decide, by decide⟩ (Nat.le_of_ble_eq_true rfl) (Nat.le_of_ble_eq_true rfl) rfl ?_
  refine pX10_init (hO_new _ _ _) ?_
  intro _ _
  refine wp_putR (v := some _) dX11_init_97 lX11_67 rfl (Or.inr ⟨rfl, rfl, rfl⟩) (hO_iX10 (hO_nw hof)) ?_
  show Wp mX11_init 3 61 100 _ _ (iX11g h a) Q
  refine wp_aload_n dX11_init_100 rfl rfl ?_
  refine wp_new dX11_init_101 (by decide) lX11_71 (mInst 5 (by decide)) (mInit 5 (by decide)) ?_
  refine wp_dup dX11_init_104 rfl ?_
  refine wp_cIN0 1 20 [some _] dX11_init_105 tX5_init rfl rfl nX5_init lX11_73 ⟨by decide, by decide⟩ (Nat.le_of_ble_eq_true rfl) (Nat.le_of_ble_eq_true rfl) rfl ?_
  refine pX5_init (hO_new _ _ _) ?_
  intro _ _
  refine wp_putR (v := some _) dX11_init_108 lX11_74 rfl (Or.inr ⟨rfl, rfl, rfl⟩) (hO_iX5 (hO_nw hog)) ?_
  show Wp mX11_init 3 61 111 _ _ (iX11h1 h a) Q
  refine wp_aload_n dX11_init_111 rfl rfl ?_
  refine wp_new dX11_init_112 (by decide) lX11_71 (mInst 5 (by decide)) (mInit 5 (by decide)) ?_
  refine wp_dup dX11_init_115 rfl ?_
  refine wp_cIN0 1 20 [some _] dX11_init_116 tX5_init rfl rfl nX5_init lX11_73 ⟨by decide, by decide⟩ (Nat.le_of_ble_eq_true rfl) (Nat.le_of_ble_eq_true rfl) rfl ?_
  refine pX5_init (hO_new _ _ _) ?_
  intro _ _
  refine wp_putR (v := some _) dX11_init_119 lX11_78 rfl (Or.inr ⟨rfl, rfl, rfl⟩) (hO_iX5 (hO_nw hoh1)) ?_
  show Wp mX11_init 3 61 122 _ _ (iX11h h a) Q
  refine wp_iconst (v := (nI 0)) dX11_init_122 (by decide +kernel) ?_
  refine wp_istore_n (ls1 := [_, some _]) dX11_init_123 rfl (by decide) rfl ?_
  exact hloop 5 0 (by omega) (by omega)
