def iX7a (h : mH) (a : Nat) : mH := al (sR (mul h 6 40) a 0 (some (hN h))) a 1 14 6
def iX7b (h : mH) (a : Nat) : mH := iX1 (nw (iX7a h a) 1 4) (hN h + 8)
def iX7 (h : mH) (a : Nat) : mH := al (sR (iX7b h a) a 3 (some (hN h + 8))) a 6 13 0
theorem hN_iX7 (h : mH) (a : Nat) : hN (iX7 h a) = hN h + 13 := rfl
theorem hU_iX7 (h : mH) (a : Nat) : hU (iX7 h a) = hU h + 268 := by
  unfold iX7 iX7b iX7a
  rw [hU_al, hU_sR, hU_iX1, hU_nw, hU_al, hU_sR, hU_mul]
theorem hO_iX7 {h : mH} {a b c : Nat} (ho : hO h b c) : hO (iX7 h a) b c := hO_al (hO_iX1 (hO_nw (hO_al (hO_mul ho))))
theorem hA_iX7 {h : mH} {a b c m : Nat} (ho : hA h b c m) : hA (iX7 h a) b c m := hA_al (hA_iX1 (hA_nw (hA_al (hA_mul ho))))
set_option maxRecDepth 20000 in
theorem pX7_init {h : mH} {a : Nat} {Q : Option Value → mH → Prop} (ho : hO h a 7) (hq : Q none (iX7 h a)) : Wp mX7_init 2 40 0 [some (.ref a)] [] h Q := by
  refine wp_aload_n dX7_init_0 rfl rfl ?_
  refine wp_objInit dX7_init_1 lX7_3 wOi wOc (Nat.le_of_ble_eq_true rfl) (by decide) ?_
  refine wp_aload_n dX7_init_4 rfl rfl ?_
  refine wp_bipush (v := (nI 6)) dX7_init_5 (by decide +kernel) ?_
  refine wp_bipush (v := (nI 40)) dX7_init_7 (by decide +kernel) ?_
  refine wp_mul (N := 6) (K := 40) dX7_init_9 lX7_9 wAc15 (by decide +kernel) (by decide +kernel) (by decide +kernel) (by decide +kernel) (by decide +kernel) (by decide +kernel) ?_
  refine wp_putR (v := some _) dX7_init_13 lX7_11 rfl (Or.inr ⟨rfl, rfl, rfl⟩) (hO_mul ho) ?_
  refine wp_aload_n dX7_init_16 rfl rfl ?_
  refine wp_bipush (v := (nI 6)) dX7_init_17 (by decide +kernel) ?_
  refine wp_newI (N := 6) dX7_init_19 wAc14 (by decide +kernel) (by decide +kernel) (by decide +kernel) ?_
  refine wp_putR (v := some _) dX7_init_21 lX7_16 rfl (Or.inr ⟨rfl, rfl, rfl⟩) (hO_nw (hO_mul ho)) ?_
  refine wp_aload_n dX7_init_24 rfl rfl ?_
  refine wp_new dX7_init_25 (by decide) lX7_20 (mInst 1 (by decide)) (mInit 1 (by decide)) ?_
  refine wp_dup dX7_init_28 rfl ?_
  refine wp_cIN0 1 20 [some _] dX7_init_29 tX1_init rfl rfl nX1_init lX7_22 ⟨by decide, by decide⟩ (Nat.le_of_ble_eq_true rfl) (Nat.le_of_ble_eq_true rfl) rfl ?_
  refine pX1_init (hO_new _ _ _) ?_
  intro _ _
  refine wp_putR (v := some _) dX7_init_32 lX7_23 rfl (Or.inl rfl) (hO_iX1 (hO_nw (hO_nw (hO_mul ho)))) ?_
  refine wp_aload_n dX7_init_35 rfl rfl ?_
  refine wp_iconst (v := (nI 0)) dX7_init_36 (by decide +kernel) ?_
  refine wp_newB (N := 0) dX7_init_37 wAc13 (by decide +kernel) (by decide +kernel) (by decide +kernel) ?_
  refine wp_putR (v := some _) dX7_init_39 lX7_27 rfl (Or.inl rfl) (hO_nw (hO_iX1 (hO_nw (hO_nw (hO_mul ho))))) ?_
  refine wp_vreturn dX7_init_42 rfl ?_
  exact hq
/-- k states more, in a row g -/
def iRing (g : Nat) : Nat → mH → mH
  | 0, h => h
  | k + 1, h => sR (iX8 (nw (iRing g k h) 8 5) (hN (iRing g k h))) g k (some (hN (iRing g k h)))
theorem hN_iRing (g : Nat) : ∀ (k : Nat) (h : mH), hN (iRing g k h) = hN h + 5 * k
  | 0, h => rfl
  | k + 1, h => by
    show hN (iRing g k h) + 1 + 4 = _
    rw [hN_iRing g k h]
    omega
theorem hU_iRing (g : Nat) : ∀ (k : Nat) (h : mH), hU (iRing g k h) = hU h + 63 * k
  | 0, h => rfl
  | k + 1, h => by
    have e := hU_iRing g k h
    unfold iRing
    rw [hU_sR, hU_iX8, hU_nw]
    omega
theorem hO_iRing {g b c : Nat} : ∀ (k : Nat) {h : mH}, hO h b c → hO (iRing g k h) b c
  | 0, _, ho => ho
  | k + 1, _, ho => hO_iX8 (hO_nw (hO_iRing k ho))
theorem hA_iRing {g b c m : Nat} : ∀ (k : Nat) {h : mH}, hA h b c m → hA (iRing g k h) b c m
  | 0, _, ho => ho
  | k + 1, _, ho => hA_iX8 (hA_nw (hA_iRing k ho))
def iX3 (h : mH) (a : Nat) : mH := iRing (hN h) 17 (al h a 0 17 17)
theorem hN_iX3 (h : mH) (a : Nat) : hN (iX3 h a) = hN h + 86 := by show hN (iRing _ _ _) = _; rw [hN_iRing, hN_al]
theorem hU_iX3 (h : mH) (a : Nat) : hU (iX3 h a) = hU h + 1088 := by
  have e1 := hU_iRing (hN h) 17 (al h a 0 17 17)
  have e2 := hU_al h a 0 17 17
  unfold iX3
  omega
theorem hO_iX3 {h : mH} {a b c : Nat} (ho : hO h b c) : hO (iX3 h a) b c := hO_iRing 17 (hO_al ho)
theorem hA_iX3 {h : mH} {a b c m : Nat} (ho : hA h b c m) : hA (iX3 h a) b c m := hA_iRing 17 (hA_al ho)
theorem eqAt_iRing {g x : Nat} (hx : x ≠ g) : ∀ (k : Nat) {h : mH}, (x < hN h ∨ hN h + 5 * k ≤ x) → eqAt h (iRing g k h) x
  | 0, _, _ => eqAt.rf
  | k + 1, h, hl => by
    have hn := hN_iRing g k h
    have ih := eqAt_iRing hx k (h := h) (by omega)
    exact ih.tr ((eqAt_nw (by omega)).tr ((eqAt_iX8 (by rw [hN_nw]; omega) (by omega)).tr (eqAt_sR hx)))
theorem hA_al_new (h : mH) (a f kd n : Nat) : hA (al h a f kd n) (hN h) kd n := hA_new h kd n
set_option maxRecDepth 20000 in
theorem pX3_init {h : mH} {a : Nat} {Q : Option Value → mH → Prop} (ho : hO h a 3) (hq : Q none (iX3 h a)) : Wp mX3_init 2 40 0 [some (.ref a), none] [] h Q := by
  have hloop : ∀ (n k : Nat), k ≤ 17 → 18 ≤ k + n → Wp mX3_init 2 40 15 [some (.ref a), some (.int (nI k))] [] (iRing (hN h) k (al h a 0 17 17)) Q := by
    intro n
    induction n with
    | zero => intro k h1 h2; omega
    | succ n ih =>
      intro k h1 h2
      have hrg : hR (iRing (hN h) k (al h a 0 17 17)) a 0 = some (hN h) := by
        rw [(eqAt_iRing (x := a) (by have := ho.1; omega) k (h := al h a 0 17 17) (Or.inl (by rw [hN_al]; have := ho.1; omega))).2.2.2, hR_al, if_pos ⟨rfl, rfl⟩]
      refine wp_iload_n dX3_init_15 rfl rfl ?_
      refine wp_aload_n dX3_init_16 rfl rfl ?_
      refine wp_getR dX3_init_17 lX3_11 rfl (hO_iRing k (hO_al ho)) hrg ?_
      refine wp_alen dX3_init_20 (hA_iRing k (hA_al_new h a 0 17 17)) (by decide) (by decide) rfl ?_
      refine wp_icmp_geN dX3_init_21 rfl rfl ⟨by omega, by decide⟩ (fun c1 => ?_) (fun c1 => ?_)
      · have e9 : k = 17 := by omega
        subst e9
        refine wp_vreturn dX3_init_43 rfl ?_
        exact hq
      refine wp_aload_n dX3_init_24 rfl rfl ?_
      refine wp_getR dX3_init_25 lX3_11 rfl (hO_iRing k (hO_al ho)) hrg ?_
      refine wp_iload_n dX3_init_28 rfl rfl ?_
      refine wp_new dX3_init_29 (by decide) lX3_9 (mInst 8 (by decide)) (mInit 8 (by decide)) ?_
      refine wp_dup dX3_init_32 rfl ?_
      refine wp_cIN0 1 20 [some _] dX3_init_33 tX8_init rfl rfl nX8_init lX3_17 ⟨by decide, by decide⟩ (Nat.le_of_ble_eq_true rfl) (Nat.le_of_ble_eq_true rfl) rfl ?_
      refine pX8_init (hO_new _ _ _) ?_
      intro _ _
      refine wp_aastJ dX3_init_36 (hA_iX8 (hA_nw (hA_iRing k (hA_al_new h a 0 17 17)))) (by decide) (by decide) rfl ⟨by omega, by decide⟩ (hO_iX8 (hO_new _ _ _)) ?_
      refine wp_iinc1 (ls1 := [_, some _]) dX3_init_37 rfl (by decide) rfl ?_
      refine wp_goto dX3_init_40 ?_
      exact ih (k + 1) (by omega) (by omega)
  refine wp_aload_n dX3_init_0 rfl rfl ?_
  refine wp_objInit dX3_init_1 lX3_3 wOi wOc (Nat.le_of_ble_eq_true rfl) (by decide) ?_
  refine wp_aload_n dX3_init_4 rfl rfl ?_
  refine wp_bipush (v := (nI 17)) dX3_init_5 (by decide +kernel) ?_
  refine wp_newR (kd := 17) (N := 17) dX3_init_7 (by decide) (by decide) lX3_9 (by decide +kernel) (by decide +kernel) (by decide +kernel) ?_
  refine wp_putR (v := some _) dX3_init_10 lX3_11 rfl (Or.inr ⟨rfl, rfl, rfl⟩) (hO_nw ho) ?_
  refine wp_iconst (v := (nI 0)) dX3_init_13 (by decide +kernel) ?_
  refine wp_istore_n (ls1 := [_, some _]) dX3_init_14 rfl (by decide) rfl ?_
  exact hloop 18 0 (by omega) (by omega)
