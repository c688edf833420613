/-! ===== one page more ===== -/
def pgS (tb : Nat → Int32) (N : Nat) : Except (Nat × Nat) Nat := if isWd tb N 0 tWp = true then (match lP tb N 0 with
    | .error e => .error e
    | .ok x => if tS tb N x.1 = 0 then .ok x.2 else .error (bd tb N 2 x.1, tP tb N x.1)) else .error (bd tb N 2 0, tP tb N 0)
section MT3
variable {h h1 : mH} {r r' : Nat → Int64} {F : Nat} {pa my : Nat → Int32} {pr : Nat → Nat → Int64} {a u : Nat} {bx : Nat → Nat → Int64} {kp tp : Nat → Int32} {t : Nat} {tf tl : Int32}
theorem mT.now (q : mT h r F pa my pr a u bx kp tp t tf tl) (f : mFr (mP [] [162]) h h1) (e : hL h1 162 = r') (hz : ∀ y, 935 ≤ y → r' y = 0) : mT h1 r' F pa my pr a u bx kp tp t tf tl :=
  ⟨⟨f.s q.1.1, e, (f.fI 21 (by decide) (by decide)).trans q.1.2.2.1, (f.Ir (by decide) (by decide)).trans q.1.2.2.2.1, (f.Ir (by decide) (by decide)).trans q.1.2.2.2.2⟩, hz, fun i hi => (pastR_eq (f.Lr (by decide) (by decide))).trans (q.pp i hi), (f.fI 28 (by decide) (by decide)).trans q.aa, (f.fI 29 (by decide) (by decide)).trans q.uu, q.au, fun b hb => (boxR_eq (f.Lr (by decide) (by decide))).trans (q.bb b hb), (f.Ir (by decide) (by decide)).trans q.kk, (f.Ir (by decide) (by decide)).trans q.tt, ⟨(f.fI 1 (by decide) (by decide)).trans q.t9.1, q.t9.2⟩, (f.fI 9 (by decide) (by decide)).trans q.ff, (f.fI 10 (by decide) (by decide)).trans q.ll⟩
end MT3
theorem pgK_z {r : Nat → Int64} {p n k : Nat} {W : Nat → Int64} (hp : p < 6) (hk : k ≤ 40) (hz : ∀ y, 935 ≤ y → r y = 0) : ∀ y, 935 ≤ y → pgK r p n W k y = 0 := by
  intro y hy
  unfold pgK
  rw [if_neg (show ¬ y = 1 + p by omega), if_neg (show ¬ (7 + 40 * p ≤ y ∧ y < 7 + 40 * p + k) by omega)]
  exact hz y hy
set_option maxRecDepth 20000 in
theorem pX12_page {h : mH} {Q : Option Value → mH → Prop} {r : Nat → Int64} {F : Nat} {pa my : Nat → Int32} {pr : Nat → Nat → Int64} {a u : Nat} {bx : Nat → Nat → Int64} {kp tp : Nat → Int32} {t : Nat} {tf tl : Int32} (ht : mT h r F pa my pr a u bx kp tp t tf tl) (hd : sOK r F pa my) (hby : byt tp) (h6 : rP r = 6 → ∀ h', mFr pwM h h' → mT h' r F pa my pr a u bx kp tp 0 tf tl → Q (some (.int (-1))) h') (he : ∀ fa pl, pgS tp t = .error (fa, pl) → ∀ h', mFr pwM h h' → mT h' r F pa my pr a u bx kp tp 0 (nI fa) (nI pl) → Q (some (.int (-1))) h') (hq : ∀ n, pgS tp t = .ok n → 0 < n ∧ n ≤ 40 → rP r < 6 → ∀ h', mFr pwM h h' → mT h' (up1 (pgK r (rP r) n (fun j => tW tp t (psT tp t 0 j)) 40) 0 (lN (rP r + 1))) F pa my (actP pr r a) (actN a) 0 bx kp tp 0 (nI 0) (-1) → Q (some (.int (nI (rP r)))) h') : Wp mX12_page 3 65 0 [some (.ref 153), none] [] h Q := by
  have hP6 := hd.w.1.2
  refine wp_aload_n dX12_page_0 rfl rfl ?_
  refine wp_cV0 0 0 [some _] dX12_page_1 tX12_pages rfl (by decide) nX12_pages vX12_pages lX12_255 ⟨by decide, by decide⟩ (Nat.le_of_ble_eq_true rfl) (mO ht.1.1) (Nat.le_of_ble_eq_true rfl) rfl ?_
  refine pX12_pages' ht.1 hd ?_
  intro _ _
  refine wp_istore_n (ls1 := [_, some _]) dX12_page_4 rfl (by decide) rfl ?_
  refine wp_iload_n dX12_page_5 rfl rfl ?_
  refine wp_bipush (v := (nI 6)) dX12_page_6 (by decide +kernel) ?_
  refine wp_icmp_neN dX12_page_8 rfl rfl ⟨by omega, by omega⟩ (fun c1 => ?_) (fun c1 => ?_)
  · refine wp_aload_n dX12_page_18 rfl rfl ?_
    refine wp_cV0 2 43 [some _] dX12_page_19 tX12_beginsText rfl (by decide) nX12_beginsText vX12_beginsText lX12_233 ⟨by decide, by decide⟩ (Nat.le_of_ble_eq_true rfl) (mO ht.1.1) (Nat.le_of_ble_eq_true rfl) rfl ?_
    refine pX12_beginsText ht hby (fun hh1 f1 g1 t1 e81 => ?_)
    intro _ _
    refine wp_aload_n dX12_page_22 rfl rfl ?_
    refine wp_cV0 0 0 [some _] dX12_page_23 tX12_begins rfl (by decide) nX12_begins vX12_begins lX12_134 ⟨by decide, by decide⟩ (Nat.le_of_ble_eq_true rfl) (mO t1.1.1) (Nat.le_of_ble_eq_true rfl) rfl ?_
    refine pX12_begins t1.1.1 (fun hh2 f2 e192 e202 => ?_)
    intro _ _
    have t2 := t1.fr (f2.up (by decide) (by decide))
    have g2 := g1.fr f2 (by decide) (by decide)
    have efI8_2 := (f2.fI 8 (by decide) (by decide)).trans e81
    have rd2 : rdS hh2 0 (fun _ => 0) (fun _ => 0) (fun _ => 0) 0 (fun _ => 0) (fun _ _ => 0) := ⟨e192, fun k hk => by omega, e202, fun p hp => by omega⟩
    refine wp_aload_n dX12_page_26 rfl rfl ?_
    refine wp_ldc2 dX12_page_27 lX12_189 ?_
    refine wp_cV1 0 0 [some _, some _, none] dX12_page_30 tX12_isWord rfl (by decide) nX12_isWord vX12_isWord lX12_220 ⟨by decide, by decide⟩ (Nat.le_of_ble_eq_true rfl) (mO t2.1.1) (Nat.le_of_ble_eq_true rfl) rfl ?_
    refine pX12_isWord g2 (fun w3 => ?_) (fun w3 => ?_)
    · intro _ _
      change isWd tp _ _ tWp = _ at w3
      refine wp_if_eq dX12_page_33 (fun q => absurd q (by decide +kernel)) (fun _ => ?_)
      refine wp_aload_n dX12_page_36 rfl rfl ?_
      refine wp_cV0 2 43 [some _, none, none] dX12_page_37 tX12_pageLine rfl (by decide) nX12_pageLine vX12_pageLine lX12_239 ⟨by decide, by decide⟩ (Nat.le_of_ble_eq_true rfl) (mO t2.1.1) (Nat.le_of_ble_eq_true rfl) rfl ?_
      refine pX12_pageLine g2 rd2 (by omega) (fun p hp => by omega) (fun fa4 pl4 er4 hh4 f4 b4 => ?_) (fun a4 n4 ok4 hn4 hh4 f4 g4 rd4 e84 => ?_)
      · intro _ _
        have t4 := t2.fr (f4.up (by decide) (by decide))
        refine wp_goto dX12_page_40 ?_
        refine wp_aload_n dX12_page_48 rfl rfl ?_
        refine wp_cV0 0 0 [some _] dX12_page_49 tX12_isGood rfl (by decide) nX12_isGood vX12_isGood lX12_212 ⟨by decide, by decide⟩ (Nat.le_of_ble_eq_true rfl) (mO t4.1.1) (Nat.le_of_ble_eq_true rfl) rfl ?_
        refine wp_aload_n dX12_isGood_0 rfl rfl ?_
        refine wp_getIV dX12_isGood_1 lX12_184 rfl (mO t4.1.1) b4.2.1 ?_
        refine wp_if_neN dX12_isGood_4 rfl (by have := b4.2.2.2.1; omega) (fun _ => ?_) (fun q9 => absurd q9 (by have := b4.2.2.1; omega))
        refine wp_iconst (v := (nI 0)) dX12_isGood_11 (by decide +kernel) ?_
        refine wp_zreturn dX12_isGood_12 rfl (Or.inl rfl) ?_
        intro _ _
        refine wp_if_eq dX12_page_52 (fun _ => ?_) (fun q => absurd q (by decide +kernel))
        refine wp_aload_n dX12_page_67 rfl rfl ?_
        refine wp_cV0 0 0 [some _] dX12_page_68 tX12_endsText rfl (by decide) nX12_endsText vX12_endsText lX12_242 ⟨by decide, by decide⟩ (Nat.le_of_ble_eq_true rfl) (mO t4.1.1) (Nat.le_of_ble_eq_true rfl) rfl ?_
        refine pX12_endsTextB t4 b4 (fun hh5 f5 t5 => ?_)
        intro _ _
        have b5 := b4.fr f5 (by decide) (by decide)
        refine wp_if_ne dX12_page_71 (fun q => absurd q (by decide +kernel)) (fun _ => ?_)
        refine wp_iconst (v := (-1)) dX12_page_74 (by decide +kernel) ?_
        refine wp_ireturn dX12_page_75 rfl ?_
        exact he _ _ (by unfold pgS; rw [if_pos w3, er4]) _ ((((f1.mM (by decide)).tr (f2.mM (by decide))).tr (f4.mM (by decide))).tr (f5.mM (by decide))) t5
      · intro _ _
        have t4 := t2.fr (f4.up (by decide) (by decide))
        refine wp_goto dX12_page_40 ?_
        refine wp_aload_n dX12_page_48 rfl rfl ?_
        refine wp_cV0 0 0 [some _] dX12_page_49 tX12_isGood rfl (by decide) nX12_isGood vX12_isGood lX12_212 ⟨by decide, by decide⟩ (Nat.le_of_ble_eq_true rfl) (mO t4.1.1) (Nat.le_of_ble_eq_true rfl) rfl ?_
        refine wp_aload_n dX12_isGood_0 rfl rfl ?_
        refine wp_getIV dX12_isGood_1 lX12_184 rfl (mO t4.1.1) g4.2.2.1 ?_
        refine wp_if_ne dX12_isGood_4 (fun q => absurd q (by decide +kernel)) (fun _ => ?_)
        refine wp_iconst (v := (nI 1)) dX12_isGood_7 (by decide +kernel) ?_
        refine wp_goto dX12_isGood_8 ?_
        refine wp_zreturn dX12_isGood_12 rfl (Or.inr rfl) ?_
        intro _ _
        refine wp_if_eq dX12_page_52 (fun q => absurd q (by decide +kernel)) (fun _ => ?_)
        refine wp_aload_n dX12_page_55 rfl rfl ?_
        refine wp_getIV dX12_page_56 lX12_168 rfl (mO t4.1.1) g4.2.1.2.1 ?_
        refine wp_if_eqN dX12_page_59 rfl (by have := @tS_le tp t (0); have := @tS_le tp t a4; omega) (fun c8 => ?_) (fun c8 => ?_)
        · refine wp_aload_n dX12_page_67 rfl rfl ?_
          refine wp_cV0 0 0 [some _] dX12_page_68 tX12_endsText rfl (by decide) nX12_endsText vX12_endsText lX12_242 ⟨by decide, by decide⟩ (Nat.le_of_ble_eq_true rfl) (mO t4.1.1) (Nat.le_of_ble_eq_true rfl) rfl ?_
          refine pX12_endsText t4 g4 (e84.trans efI8_2) (fun hh6 f6 t6 => ?_)
          intro _ _
          have g6 := g4.fr f6 (by decide) (by decide)
          have rd6 := rd4.fr f6 (by decide) (by decide)
          have efI8_6 := (f6.fI 8 (by decide) (by decide)).trans (e84.trans efI8_2)
          refine wp_if_ne dX12_page_71 (fun _ => ?_) (fun q => absurd q (by decide +kernel))
          refine wp_aload_n dX12_page_76 rfl rfl ?_
          refine wp_cV0 0 0 [some _, none] dX12_page_77 tX12_act rfl (by decide) nX12_act vX12_act lX12_258 ⟨by decide, by decide⟩ (Nat.le_of_ble_eq_true rfl) (mO t6.1.1) (Nat.le_of_ble_eq_true rfl) rfl ?_
          refine pX12_act' t6 (fun hh7 f7 t7 => ?_)
          intro _ _
          have g7 := g6.fr f7 (by decide) (by decide)
          have rd7 := rd6.fr f7 (by decide) (by decide)
          have efI8_7 := (f7.fI 8 (by decide) (by decide)).trans efI8_6
          refine wp_aload_n dX12_page_80 rfl rfl ?_
          refine wp_iconst (v := (nI 0)) dX12_page_81 (by decide +kernel) ?_
          refine wp_iload_n dX12_page_82 rfl rfl ?_
          refine wp_cV2 0 0 [some _, some _, some _, none] dX12_page_83 tX12_comesPage rfl (by decide) nX12_comesPage vX12_comesPage lX12_245 ⟨by decide, by decide⟩ (Nat.le_of_ble_eq_true rfl) (mO t7.1.1) (Nat.le_of_ble_eq_true rfl) rfl ?_
          refine pX12_comesPage (x := 0) (n := n4) (W := fun j => tW tp t (psT tp t 0 j)) t7.1.1 t7.1.2.1 (by omega) (by omega) ((rd7).2.2.2 0 (by omega)).1 hn4.2 (fun j hj => ((rd7).2.2.2 0 (by omega)).2 j hj) (fun hh8 f8 e8 => ?_)
          intro _ _
          have g8 := g7.fr f8 (by decide) (by decide)
          have rd8 := rd7.fr f8 (by decide) (by decide)
          have efI8_8 := (f8.fI 8 (by decide) (by decide)).trans efI8_7
          have t8 := t7.now f8 e8 (pgK_z (by omega) (by omega) t7.zz)
          refine wp_aload_n dX12_page_86 rfl rfl ?_
          refine wp_getR dX12_page_87 lX12_43 rfl (mO t8.1.1) (mR_now t8.1.1) ?_
          refine wp_iconst (v := (nI 0)) dX12_page_90 (by decide +kernel) ?_
          refine wp_iload_n dX12_page_91 rfl rfl ?_
          refine wp_iconst (v := (nI 1)) dX12_page_92 (by decide +kernel) ?_
          refine wp_iadd dX12_page_93 ?_
          refine wp_i2l dX12_page_94 ?_
          refine wp_lastT dX12_page_95 t8 rfl (by omega) ((congrArg Int32.toInt64 (nI_add _ _)).trans (nI_l (by omega))) (fun hh9 t9 f9 => ?_)
          have g9 := g8.fr f9 (by decide) (by decide)
          have rd9 := rd8.fr f9 (by decide) (by decide)
          have efI8_9 := (f9.fI 8 (by decide) (by decide)).trans efI8_8
          refine wp_iload_n dX12_page_96 rfl rfl ?_
          refine wp_ireturn dX12_page_97 rfl ?_
          exact hq _ (by unfold pgS; rw [if_pos w3, ok4]; show (if _ then _ else _) = _; rw [if_pos (show tS tp t a4 = 0 by omega)]) hn4 (by omega) _ (((((((f1.mM (by decide)).tr (f2.mM (by decide))).tr (f4.mM (by decide))).tr (f6.mM (by decide))).tr (f7.mM (by decide))).tr (f8.mM (by decide))).tr (f9.mM (by decide))) t9
        · refine wp_aload_n dX12_page_62 rfl rfl ?_
          refine wp_iconst (v := (nI 2)) dX12_page_63 (by decide +kernel) ?_
          refine wp_cV1 0 0 [some _, some _] dX12_page_64 tX12_wrong rfl (by decide) nX12_wrong vX12_wrong lX12_197 ⟨by decide, by decide⟩ (Nat.le_of_ble_eq_true rfl) (mO t4.1.1) (Nat.le_of_ble_eq_true rfl) rfl ?_
          refine pX12_wrong g4 (by decide) (fun hh10 f10 b10 => ?_)
          intro _ _
          have t10 := t4.fr (f10.up (by decide) (by decide))
          have rd10 := rd4.fr f10 (by decide) (by decide)
          refine wp_aload_n dX12_page_67 rfl rfl ?_
          refine wp_cV0 0 0 [some _] dX12_page_68 tX12_endsText rfl (by decide) nX12_endsText vX12_endsText lX12_242 ⟨by decide, by decide⟩ (Nat.le_of_ble_eq_true rfl) (mO t10.1.1) (Nat.le_of_ble_eq_true rfl) rfl ?_
          refine pX12_endsTextB t10 b10 (fun hh11 f11 t11 => ?_)
          intro _ _
          have b11 := b10.fr f11 (by decide) (by decide)
          have rd11 := rd10.fr f11 (by decide) (by decide)
          refine wp_if_ne dX12_page_71 (fun q => absurd q (by decide +kernel)) (fun _ => ?_)
          refine wp_iconst (v := (-1)) dX12_page_74 (by decide +kernel) ?_
          refine wp_ireturn dX12_page_75 rfl ?_
          exact he _ _ (by unfold pgS; rw [if_pos w3, ok4]; show (if _ then _ else _) = _; rw [if_neg (show ¬ tS tp t a4 = 0 by omega)]) _ (((((f1.mM (by decide)).tr (f2.mM (by decide))).tr (f4.mM (by decide))).tr (f10.mM (by decide))).tr (f11.mM (by decide))) t11
    · intro _ _
      change isWd tp _ _ tWp = _ at w3
      refine wp_if_eq dX12_page_33 (fun _ => ?_) (fun q => absurd q (by decide +kernel))
      refine wp_aload_n dX12_page_43 rfl rfl ?_
      refine wp_iconst (v := (nI 2)) dX12_page_44 (by decide +kernel) ?_
      refine wp_cV1 0 0 [some _, some _] dX12_page_45 tX12_wrong rfl (by decide) nX12_wrong vX12_wrong lX12_197 ⟨by decide, by decide⟩ (Nat.le_of_ble_eq_true rfl) (mO t2.1.1) (Nat.le_of_ble_eq_true rfl) rfl ?_
      refine pX12_wrong g2 (by decide) (fun hh12 f12 b12 => ?_)
      intro _ _
      have t12 := t2.fr (f12.up (by decide) (by decide))
      have rd12 := rd2.fr f12 (by decide) (by decide)
      refine wp_aload_n dX12_page_48 rfl rfl ?_
      refine wp_cV0 0 0 [some _] dX12_page_49 tX12_isGood rfl (by decide) nX12_isGood vX12_isGood lX12_212 ⟨by decide, by decide⟩ (Nat.le_of_ble_eq_true rfl) (mO t12.1.1) (Nat.le_of_ble_eq_true rfl) rfl ?_
      refine wp_aload_n dX12_isGood_0 rfl rfl ?_
      refine wp_getIV dX12_isGood_1 lX12_184 rfl (mO t12.1.1) b12.2.1 ?_
      refine wp_if_neN dX12_isGood_4 rfl (by have := b12.2.2.2.1; omega) (fun _ => ?_) (fun q9 => absurd q9 (by have := b12.2.2.1; omega))
      refine wp_iconst (v := (nI 0)) dX12_isGood_11 (by decide +kernel) ?_
      refine wp_zreturn dX12_isGood_12 rfl (Or.inl rfl) ?_
      intro _ _
      refine wp_if_eq dX12_page_52 (fun _ => ?_) (fun q => absurd q (by decide +kernel))
      refine wp_aload_n dX12_page_67 rfl rfl ?_
      refine wp_cV0 0 0 [some _] dX12_page_68 tX12_endsText rfl (by decide) nX12_endsText vX12_endsText lX12_242 ⟨by decide, by decide⟩ (Nat.le_of_ble_eq_true rfl) (mO t12.1.1) (Nat.le_of_ble_eq_true rfl) rfl ?_
      refine pX12_endsTextB t12 b12 (fun hh13 f13 t13 => ?_)
      intro _ _
      have b13 := b12.fr f13 (by decide) (by decide)
      have rd13 := rd12.fr f13 (by decide) (by decide)
      refine wp_if_ne dX12_page_71 (fun q => absurd q (by decide +kernel)) (fun _ => ?_)
      refine wp_iconst (v := (-1)) dX12_page_74 (by decide +kernel) ?_
      refine wp_ireturn dX12_page_75 rfl ?_
      exact he _ _ (by unfold pgS; rw [if_neg (by rw [w3]; decide)]) _ ((((f1.mM (by decide)).tr (f2.mM (by decide))).tr (f12.mM (by decide))).tr (f13.mM (by decide))) t13
  · refine wp_aload_n dX12_page_11 rfl rfl ?_
    refine wp_iconst (v := (nI 0)) dX12_page_12 (by decide +kernel) ?_
    refine wp_putI dX12_page_13 lX12_140 rfl (Or.inl rfl) (mO ht.1.1) rfl rfl ?_
    refine sealI (fun hh14 f14 e14 => ?_)
    have t14 := ht.tape f14 e14 (by omega)
    refine wp_iconst (v := (-1)) dX12_page_16 (by decide +kernel) ?_
    refine wp_ireturn dX12_page_17 rfl ?_
    exact h6 (by assumption) _ (f14.mM (by decide)) t14
