/-! ===== the ring of states ===== -/
def agR (r : Nat → Int64) (pr : Nat → Nat → Int64) (a i : Nat) : Nat → Int64 := if i < a then pr i else if i = a then r else pr (i - 1)
def rgR (ow : Nat → Nat) (h : mH) (o a u : Nat) (r : Nat → Int64) (pr : Nat → Nat → Int64) : Prop := (∀ j, j < 17 → ∃ sp sl ss se sc, zS ow h (22 + 5 * j) (20 + j) sp sl ss se sc) ∧ ∀ i, i ≤ a + u → stX ow h (nowA o i) (nowR o i) (agR r pr a i)
theorem agR_a (r : Nat → Int64) (pr : Nat → Nat → Int64) (a : Nat) : agR r pr a a = r := by
  unfold agR
  rw [if_neg (by omega), if_pos rfl]
section
variable {S : List Nat} {u9 : Nat} {ow ow' : Nat → Nat} {h h' : mH} {o a u : Nat} {r r' : Nat → Int64} {pr : Nat → Nat → Int64}
theorem rgR.fr (g : rgR ow h o a u r pr) (f : cFr S u9 ow h ow' h') (h0 : 0 ∉ S) (h1 : ∀ j, j < 17 → 20 + j ∉ S) : rgR ow' h' o a u r pr := by
  refine ⟨fun j hj => ?_, fun i hi => (g.2 i hi).fr f h0 (h1 _ (Nat.mod_lt _ (by decide)))⟩
  obtain ⟨sp, sl, ss, se, sc, z⟩ := g.1 j hj
  exact ⟨sp, sl, ss, se, sc, z.fr f (h1 j hj)⟩
theorem rgR.st (g : rgR ow h o a u r pr) : stX ow h (nowA o a) (nowR o a) r := by
  have := g.2 a (Nat.le_add_right _ _)
  rwa [agR_a] at this
theorem rgR.z (g : rgR ow h o a u r pr) (k : Nat) : ∃ sp sl ss se sc, zS ow h (nowA o k) (nowR o k) sp sl ss se sc := g.1 _ (Nat.mod_lt _ (by decide))
theorem rg_zs {j : Nat} (g : ∀ j, j < 17 → ∃ sp sl ss se sc, zS ow h (22 + 5 * j) (20 + j) sp sl ss se sc) (hj : j < 17) (f : cFr [20 + j] u9 ow h ow h') (x : stX ow h' (22 + 5 * j) (20 + j) r) : ∀ j, j < 17 → ∃ sp sl ss se sc, zS ow h' (22 + 5 * j) (20 + j) sp sl ss se sc := fun k hk => by
  by_cases c : k = j
  · subst c
    obtain ⟨⟨sp, sl, ss, se, z, _⟩, _⟩ := x
    exact ⟨sp, sl, ss, se, _, z⟩
  · obtain ⟨sp, sl, ss, se, sc, z⟩ := g k hk
    exact ⟨sp, sl, ss, se, sc, z.fr f (rnS (by omega) rn0)⟩
theorem rgR.set (g : rgR ow h o a u r pr) (ho : o < 17) (ha : a + u ≤ 16) (f : cFr [nowR o a] u9 ow h ow h') (x : stX ow h' (nowA o a) (nowR o a) r') : rgR ow h' o a u r' pr := by
  refine ⟨rg_zs g.1 (Nat.mod_lt _ (by decide)) f x, fun i hi => ?_⟩
  by_cases c : i = a
  · subst c; rw [agR_a]; exact x
  · have e : agR r' pr a i = agR r pr a i := by
      unfold agR
      by_cases c1 : i < a
      · rw [if_pos c1, if_pos c1]
      · rw [if_neg c1, if_neg c, if_neg c1, if_neg c]
    rw [e]
    exact (g.2 i hi).fr f (rnS (by simp only [nowR]; omega) rn0) (rnS (by simp only [nowR]; omega) rn0)
theorem rgR.a1 (g : rgR ow h o a u r pr) (ho : o < 17) (ha : a < 16) (f : cFr [nowR o (a + 1)] u9 ow h ow h') (x : stX ow h' (nowA o (a + 1)) (nowR o (a + 1)) r) : rgR ow h' o (actN a) 0 r (actP pr r a) := by
  have e1 : actN a = a + 1 := if_neg (by omega)
  have e2 : actP pr r a = fun i => if i = a then r else pr i := if_neg (by omega)
  rw [e1, e2]
  refine ⟨rg_zs g.1 (Nat.mod_lt _ (by decide)) f x, fun i hi => ?_⟩
  by_cases c : i = a + 1
  · subst c; rw [agR_a]; exact x
  · have hi' : i ≤ a := by omega
    have e : agR r (fun i => if i = a then r else pr i) (a + 1) i = agR r pr a i := by
      unfold agR
      rw [if_pos (by omega)]
      by_cases c1 : i = a
      · subst c1; rw [if_neg (by omega), if_pos rfl]; exact if_pos rfl
      · rw [if_pos (by omega)]; exact if_neg c1
    rw [e]
    exact (g.2 i (by omega)).fr f (rnS (by simp only [nowR]; omega) rn0) (rnS (by simp only [nowR]; omega) rn0)
theorem rgR.a2 (g : rgR ow h o 16 u r pr) (ho : o < 17) (f : cFr [nowR ((o + 1) % 17) 16] u9 ow h ow h') (x : stX ow h' (nowA ((o + 1) % 17) 16) (nowR ((o + 1) % 17) 16) r) : rgR ow h' ((o + 1) % 17) (actN 16) 0 r (actP pr r 16) := by
  have e1 : actN 16 = 16 := rfl
  have e2 : actP pr r 16 = fun i => if i < 15 then pr (i + 1) else r := if_pos rfl
  rw [e1, e2]
  refine ⟨rg_zs g.1 (Nat.mod_lt _ (by decide)) f x, fun i hi => ?_⟩
  by_cases c : i = 16
  · subst c; rw [agR_a]; exact x
  · have hi' : i < 16 := by omega
    have e : agR r (fun i => if i < 15 then pr (i + 1) else r) 16 i = agR r pr 16 (i + 1) := by
      unfold agR
      rw [if_pos (by omega)]
      by_cases c1 : i = 15
      · subst c1; rfl
      · rw [if_pos (show i + 1 < 16 by omega)]; exact if_pos (by omega)
    have en : ((o + 1) % 17 + i) % 17 = (o + (i + 1)) % 17 := by omega
    have := (g.2 (i + 1) (by omega)).fr f (rnS (by simp only [nowR]; omega) rn0) (rnS (by simp only [nowR]; omega) rn0)
    rw [e]
    simp only [nowA, nowR] at this ⊢
    rw [en]
    exact this
/-- an empty row -/
theorem stX.zero {sp sl : Nat → Option Nat} {ss se : Nat → Int64} {b ρ : Nat} (z : zS ow h b ρ sp sl ss se (nI 0)) (h1 : ∀ p, p < 6 → sp p = none) (h2 : ∀ p, p < 4 → sl p = none) (h3 : ∀ p, p < 24 → ss p = 0) (h4 : ∀ p, p < 24 → se p = 0) : stX ow h b ρ (fun _ => 0) := by
  have e0 : rP (fun _ => 0) = 0 := rfl
  have em : ∀ f p, mkL (fun _ => 0) f p = [] := fun f p => rfl
  refine ⟨⟨sp, sl, ss, se, z, fun p hp => absurd hp (by rw [e0]; omega), fun f hf => ⟨fun e => absurd (show (0 : Int64) = 1 from e) (by decide), fun _ => h2 f hf⟩, fun f p hf hp => ?_⟩, fun p _ hp => (congrFun z.c0 p).trans (h1 p hp)⟩
  rw [em, h3 _ (by omega), h4 _ (by omega)]
  exact ⟨rfl, rfl⟩
end
theorem ring_in {j : Nat} : ∀ x ∈ [20 + j % 17], x ∈ [8, 20, 21, 22, 23, 24, 25, 26, 27, 28, 29, 30, 31, 32, 33, 34, 35, 36] := fun x hx => by
  have := Nat.mod_lt j (show 0 < 17 by decide)
  simp at hx ⊢
  omega
set_option maxRecDepth 20000 in
theorem pX3_begin {h : mH} {Q : Option Value → mH → Prop} {ow : Nat → Nat} {o a u : Nat} {r : Nat → Int64} {pr : Nat → Nat → Int64} (zh : zH ow h (nI o) (nI a) (nI u)) (kb : kB ow h) (rg : rgR ow h o a u r pr) (ho : o < 17) (ha : a + u ≤ 16) (h6 : rP r ≤ 6) (hq : ∀ h' o', o' < 17 → cFr [8, 20, 21, 22, 23, 24, 25, 26, 27, 28, 29, 30, 31, 32, 33, 34, 35, 36] 0 ow h ow h' → zH ow h' (nI o') (nI (actN a)) (nI 0) → rgR ow h' o' (actN a) 0 r (actP pr r a) → Q (some (.ref (nowA o' (actN a)))) h') : Wp mX3_begin 3 63 0 [some (.ref 20), none, none] [] h Q := by
  refine wp_aload_n dX3_begin_0 rfl rfl ?_
  refine wp_cV0 2 43 [some _] dX3_begin_1 tX3_now rfl (by decide) nX3_now vX3_now lX3_35 ⟨by decide, by decide⟩ (Nat.le_of_ble_eq_true rfl) zh.o (Nat.le_of_ble_eq_true rfl) rfl ?_
  refine pX3_now zh kb (by omega) (by omega) ?_
  intro _ _
  refine wp_astore_n (ls1 := [_, some _, _]) dX3_begin_4 rfl (by decide) rfl ?_
  refine wp_aload_n dX3_begin_5 rfl rfl ?_
  refine wp_getIV dX3_begin_6 lX3_28 rfl zh.o zh.f2 ?_
  refine wp_bipush (v := (nI 16)) dX3_begin_9 (by decide +kernel) ?_
  refine wp_icmp_geN dX3_begin_11 rfl rfl ⟨by omega, by omega⟩ (fun c2 => ?_) (fun c2 => ?_)
  · refine wp_aload_n dX3_begin_27 rfl rfl ?_
    refine wp_aload_n dX3_begin_28 rfl rfl ?_
    refine wp_getIV dX3_begin_29 lX3_18 rfl zh.o zh.f1 ?_
    refine wp_iconst (v := (nI 1)) dX3_begin_32 (by decide +kernel) ?_
    refine wp_iadd dX3_begin_33 ?_
    refine wp_aload_n dX3_begin_34 rfl rfl ?_
    refine wp_getR dX3_begin_35 lX3_11 rfl zh.o zh.r0 ?_
    refine wp_alen dX3_begin_38 kb.1.1 (by decide) (by decide) rfl ?_
    refine wp_irem dX3_begin_39 (by decide) ?_
    rw [nI_add, show (Int32.ofNat 17 : Int32) = nI 17 from rfl, pk_rem (by omega) (by omega) (by omega)]
    have ea9 : a = 16 := by omega
    subst ea9
    refine wp_putI dX3_begin_40 lX3_18 rfl (Or.inl rfl) zh.o rfl rfl ?_
    refine zh.p1 (fun hh1 f1 zh_1 => ?_)
    have kb_1 := kb.fr f1 (rnS (by omega) rn0) (rnS (by omega) rn0)
    have rg_1 := rg.fr f1 (rnS (by omega) rn0) (fun j hj => (rnS (by omega) rn0))
    refine wp_aload_n dX3_begin_43 rfl rfl ?_
    refine wp_iconst (v := (nI 0)) dX3_begin_44 (by decide +kernel) ?_
    refine wp_putI dX3_begin_45 lX3_39 rfl (Or.inl rfl) zh_1.o rfl rfl ?_
    refine zh_1.p3 (fun hh2 f2 zh_2 => ?_)
    have kb_2 := kb_1.fr f2 (rnS (by omega) rn0) (rnS (by omega) rn0)
    have rg_2 := rg_1.fr f2 (rnS (by omega) rn0) (fun j hj => (rnS (by omega) rn0))
    refine wp_aload_n dX3_begin_48 rfl rfl ?_
    refine wp_cV0 2 43 [some _] dX3_begin_49 tX3_now rfl (by decide) nX3_now vX3_now lX3_35 ⟨by decide, by decide⟩ (Nat.le_of_ble_eq_true rfl) zh_2.o (Nat.le_of_ble_eq_true rfl) rfl ?_
    refine pX3_now zh_2 kb_2 (Nat.mod_lt _ (by decide)) (by omega) ?_
    intro _ _
    obtain ⟨_, _, _, _, _, zb9⟩ := rg_2.1 ((((o + 1) % 17) + 16) % 17) (Nat.mod_lt _ (by decide))
    refine wp_astore_n (ls1 := [_, _, some _]) dX3_begin_52 rfl (by decide) rfl ?_
    refine wp_aload_n dX3_begin_53 rfl rfl ?_
    refine wp_aload_n dX3_begin_54 rfl rfl ?_
    refine wp_cV1 1 26 [some _, some _, none] dX3_begin_55 tX8_copyFrom rfl (by decide) nX8_copyFrom vX8_copyFrom lX3_42 ⟨by decide, by decide⟩ (Nat.le_of_ble_eq_true rfl) zb9.o (Nat.le_of_ble_eq_true rfl) rfl ?_
    refine pX8_copyFrom (by simp only [nowR]; omega) (by omega) h6 zb9 rg_2.st (fun hh3 f3 sx3 => ?_)
    intro _ _
    have zh_3 := zh_2.fr f3 (rnS (by omega) rn0)
    refine wp_aload_n dX3_begin_58 rfl rfl ?_
    refine wp_areturn dX3_begin_59 (Or.inl ⟨_, rfl⟩) ?_
    exact hq _ _ (Nat.mod_lt _ (by decide)) (((f1.up (by decide) (Nat.le_refl _)).tr (f2.up (by decide) (Nat.le_refl _))).tr (f3.up ring_in (Nat.le_refl _))) zh_3 (rg_2.a2 ho f3 sx3)
  · refine wp_aload_n dX3_begin_14 rfl rfl ?_
    refine wp_dup dX3_begin_15 rfl ?_
    refine wp_getIV dX3_begin_16 lX3_28 rfl zh.o zh.f2 ?_
    refine wp_iconst (v := (nI 1)) dX3_begin_19 (by decide +kernel) ?_
    refine wp_iadd dX3_begin_20 ?_
    refine wp_putIN dX3_begin_21 lX3_28 rfl rfl (Or.inl rfl) zh.o (isN_add rfl rfl) ?_
    refine zh.p2 (fun hh4 f4 zh_4 => ?_)
    have kb_4 := kb.fr f4 (rnS (by omega) rn0) (rnS (by omega) rn0)
    have rg_4 := rg.fr f4 (rnS (by omega) rn0) (fun j hj => (rnS (by omega) rn0))
    refine wp_goto dX3_begin_24 ?_
    refine wp_aload_n dX3_begin_43 rfl rfl ?_
    refine wp_iconst (v := (nI 0)) dX3_begin_44 (by decide +kernel) ?_
    refine wp_putI dX3_begin_45 lX3_39 rfl (Or.inl rfl) zh_4.o rfl rfl ?_
    refine zh_4.p3 (fun hh5 f5 zh_5 => ?_)
    have kb_5 := kb_4.fr f5 (rnS (by omega) rn0) (rnS (by omega) rn0)
    have rg_5 := rg_4.fr f5 (rnS (by omega) rn0) (fun j hj => (rnS (by omega) rn0))
    refine wp_aload_n dX3_begin_48 rfl rfl ?_
    refine wp_cV0 2 43 [some _] dX3_begin_49 tX3_now rfl (by decide) nX3_now vX3_now lX3_35 ⟨by decide, by decide⟩ (Nat.le_of_ble_eq_true rfl) zh_5.o (Nat.le_of_ble_eq_true rfl) rfl ?_
    refine pX3_now zh_5 kb_5 (by omega) (by omega) ?_
    intro _ _
    obtain ⟨_, _, _, _, _, zb9⟩ := rg_5.1 ((o + (a + 1)) % 17) (Nat.mod_lt _ (by decide))
    refine wp_astore_n (ls1 := [_, _, some _]) dX3_begin_52 rfl (by decide) rfl ?_
    refine wp_aload_n dX3_begin_53 rfl rfl ?_
    refine wp_aload_n dX3_begin_54 rfl rfl ?_
    refine wp_cV1 1 26 [some _, some _, none] dX3_begin_55 tX8_copyFrom rfl (by decide) nX8_copyFrom vX8_copyFrom lX3_42 ⟨by decide, by decide⟩ (Nat.le_of_ble_eq_true rfl) zb9.o (Nat.le_of_ble_eq_true rfl) rfl ?_
    refine pX8_copyFrom (by simp only [nowR]; omega) (by omega) h6 zb9 rg_5.st (fun hh6 f6 sx6 => ?_)
    intro _ _
    have zh_6 := zh_5.fr f6 (rnS (by omega) rn0)
    refine wp_aload_n dX3_begin_58 rfl rfl ?_
    refine wp_areturn dX3_begin_59 (Or.inl ⟨_, rfl⟩) ?_
    have e9 : actN a = a + 1 := if_neg (by omega)
    have hq9 := hq _ o ho (((f4.up (by decide) (Nat.le_refl _)).tr (f5.up (by decide) (Nat.le_refl _))).tr (f6.up ring_in (Nat.le_refl _))) (by rw [e9]; exact zh_6) (rg_5.a1 ho (by omega) f6 sx6)
    rw [e9] at hq9
    exact hq9
theorem rgR.one {ow : Nat → Nat} {h : mH} {o : Nat} {r : Nat → Int64} {pr : Nat → Nat → Int64} (g : ∀ j, j < 17 → ∃ sp sl ss se sc, zS ow h (22 + 5 * j) (20 + j) sp sl ss se sc) (x : stX ow h (nowA o 0) (nowR o 0) r) : rgR ow h o 0 0 r pr := ⟨g, fun i hi => by
  have e : i = 0 := by omega
  subst e
  rw [agR_a]
  exact x⟩
set_option maxRecDepth 20000 in
theorem pX3_restartN {h : mH} {Q : Option Value → mH → Prop} {ow : Nat → Nat} {o a u : Nat} {r : Nat → Int64} {pr : Nat → Nat → Int64} (zh : zH ow h (nI o) (nI a) (nI u)) (kb : kB ow h) (rg : rgR ow h o a u r pr) (ho : o < 17) (ha : a + u ≤ 16) (hq : ∀ h', cFr [8, 20, 21, 22, 23, 24, 25, 26, 27, 28, 29, 30, 31, 32, 33, 34, 35, 36] 0 ow h ow h' → zH ow h' (nI o) (nI 0) (nI 0) → (∀ pr', rgR ow h' o 0 0 (fun _ => 0) pr') → Q none h') : Wp mX3_restart 3 63 0 [some (.ref 20), some .null] [] h Q := by
  refine wp_aload_n dX3_restart_0 rfl rfl ?_
  refine wp_iconst (v := (nI 0)) dX3_restart_1 (by decide +kernel) ?_
  refine wp_putI dX3_restart_2 lX3_28 rfl (Or.inl rfl) zh.o rfl rfl ?_
  refine zh.p2 (fun hh1 f1 zh_1 => ?_)
  have kb_1 := kb.fr f1 (rnS (by omega) rn0) (rnS (by omega) rn0)
  have rg_1 := rg.fr f1 (rnS (by omega) rn0) (fun j hj => (rnS (by omega) rn0))
  refine wp_aload_n dX3_restart_5 rfl rfl ?_
  refine wp_iconst (v := (nI 0)) dX3_restart_6 (by decide +kernel) ?_
  refine wp_putI dX3_restart_7 lX3_39 rfl (Or.inl rfl) zh_1.o rfl rfl ?_
  refine zh_1.p3 (fun hh2 f2 zh_2 => ?_)
  have kb_2 := kb_1.fr f2 (rnS (by omega) rn0) (rnS (by omega) rn0)
  have rg_2 := rg_1.fr f2 (rnS (by omega) rn0) (fun j hj => (rnS (by omega) rn0))
  refine wp_aload_nN dX3_restart_10 rfl rfl ?_
  refine wp_ifnonnullN dX3_restart_11 ?_
  refine wp_aload_n dX3_restart_14 rfl rfl ?_
  refine wp_cV0 2 43 [some _] dX3_restart_15 tX3_now rfl (by decide) nX3_now vX3_now lX3_35 ⟨by decide, by decide⟩ (Nat.le_of_ble_eq_true rfl) zh_2.o (Nat.le_of_ble_eq_true rfl) rfl ?_
  refine pX3_now zh_2 kb_2 (by omega) (by omega) ?_
  intro _ _
  obtain ⟨_, _, _, _, _, zb9⟩ := rg_2.1 ((o + 0) % 17) (Nat.mod_lt _ (by decide))
  refine wp_cV0 1 24 [some _, none] dX3_restart_18 tX8_clear rfl (by decide) nX8_clear vX8_clear lX3_46 ⟨by decide, by decide⟩ (Nat.le_of_ble_eq_true rfl) zb9.o (Nat.le_of_ble_eq_true rfl) rfl ?_
  refine pX8_clear zb9 (fun hh3 _ _ _ _ f3 zz3 n1 n2 n3 n4 => ?_)
  intro _ _
  have sx3 := stX.zero zz3 n1 n2 n3 n4
  have zh_3 := zh_2.fr f3 (rnS (by omega) rn0)
  refine wp_goto dX3_restart_21 ?_
  refine wp_vreturn dX3_restart_32 rfl ?_
  exact hq _ (((f1.up (by decide) (Nat.le_refl _)).tr (f2.up (by decide) (Nat.le_refl _))).tr (f3.up ring_in (Nat.le_refl _))) zh_3 (fun pr9 => rgR.one (rg_zs rg_2.1 (Nat.mod_lt _ (by decide)) f3 sx3) sx3)
set_option maxRecDepth 20000 in
theorem pX3_restart {h : mH} {Q : Option Value → mH → Prop} {ow : Nat → Nat} {o a u : Nat} {r : Nat → Int64} {pr : Nat → Nat → Int64} {qb ρb : Nat} {rb : Nat → Int64} (zh : zH ow h (nI o) (nI a) (nI u)) (kb : kB ow h) (rg : rgR ow h o a u r pr) (ho : o < 17) (ha : a + u ≤ 16) (gb : stX ow h qb ρb rb) (hρ : 37 ≤ ρb) (h6 : rP rb ≤ 6) (hq : ∀ h', cFr [8, 20, 21, 22, 23, 24, 25, 26, 27, 28, 29, 30, 31, 32, 33, 34, 35, 36] 0 ow h ow h' → zH ow h' (nI o) (nI 0) (nI 0) → (∀ pr', rgR ow h' o 0 0 rb pr') → Q none h') : Wp mX3_restart 3 63 0 [some (.ref 20), some (.ref qb)] [] h Q := by
  refine wp_aload_n dX3_restart_0 rfl rfl ?_
  refine wp_iconst (v := (nI 0)) dX3_restart_1 (by decide +kernel) ?_
  refine wp_putI dX3_restart_2 lX3_28 rfl (Or.inl rfl) zh.o rfl rfl ?_
  refine zh.p2 (fun hh1 f1 zh_1 => ?_)
  have kb_1 := kb.fr f1 (rnS (by omega) rn0) (rnS (by omega) rn0)
  have rg_1 := rg.fr f1 (rnS (by omega) rn0) (fun j hj => (rnS (by omega) rn0))
  have gb_1 := gb.fr f1 (rnS (by omega) rn0) (rnS (by omega) rn0)
  refine wp_aload_n dX3_restart_5 rfl rfl ?_
  refine wp_iconst (v := (nI 0)) dX3_restart_6 (by decide +kernel) ?_
  refine wp_putI dX3_restart_7 lX3_39 rfl (Or.inl rfl) zh_1.o rfl rfl ?_
  refine zh_1.p3 (fun hh2 f2 zh_2 => ?_)
  have kb_2 := kb_1.fr f2 (rnS (by omega) rn0) (rnS (by omega) rn0)
  have rg_2 := rg_1.fr f2 (rnS (by omega) rn0) (fun j hj => (rnS (by omega) rn0))
  have gb_2 := gb_1.fr f2 (rnS (by omega) rn0) (rnS (by omega) rn0)
  refine wp_aload_n dX3_restart_10 rfl rfl ?_
  refine wp_ifnonnull dX3_restart_11 ?_
  refine wp_aload_n dX3_restart_24 rfl rfl ?_
  refine wp_cV0 2 43 [some _] dX3_restart_25 tX3_now rfl (by decide) nX3_now vX3_now lX3_35 ⟨by decide, by decide⟩ (Nat.le_of_ble_eq_true rfl) zh_2.o (Nat.le_of_ble_eq_true rfl) rfl ?_
  refine pX3_now zh_2 kb_2 (by omega) (by omega) ?_
  intro _ _
  obtain ⟨_, _, _, _, _, zb9⟩ := rg_2.1 ((o + 0) % 17) (Nat.mod_lt _ (by decide))
  refine wp_aload_n dX3_restart_28 rfl rfl ?_
  refine wp_cV1 1 26 [some _, some _, none] dX3_restart_29 tX8_copyFrom rfl (by decide) nX8_copyFrom vX8_copyFrom lX3_42 ⟨by decide, by decide⟩ (Nat.le_of_ble_eq_true rfl) zb9.o (Nat.le_of_ble_eq_true rfl) rfl ?_
  refine pX8_copyFrom (by omega) (by omega) h6 zb9 gb_2 (fun hh3 f3 sx3 => ?_)
  intro _ _
  have zh_3 := zh_2.fr f3 (rnS (by omega) rn0)
  refine wp_vreturn dX3_restart_32 rfl ?_
  exact hq _ (((f1.up (by decide) (Nat.le_refl _)).tr (f2.up (by decide) (Nat.le_refl _))).tr (f3.up ring_in (Nat.le_refl _))) zh_3 (fun pr9 => rgR.one (rg_zs rg_2.1 (Nat.mod_lt _ (by decide)) f3 sx3) sx3)
