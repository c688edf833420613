/-! ===== a text, a book, a page ===== -/
section MT2
variable {h h1 : mH} {r : Nat → Int64} {F : Nat} {pa my : Nat → Int32} {pr : Nat → Nat → Int64} {a u : Nat} {bx : Nat → Nat → Int64} {kp tp : Nat → Int32} {t : Nat} {tf tl : Int32}
theorem mT.tape (q : mT h r F pa my pr a u bx kp tp t tf tl) {n : Nat} (f : mFr (mP [1] []) h h1) (e : hI h1 153 1 = nI n) (hn : n ≤ 900) : mT h1 r F pa my pr a u bx kp tp n tf tl :=
  ⟨q.1.fr f (by decide) (by decide) (by decide) (by decide) (by decide), q.zz, fun i hi => (pastR_eq (f.Lr (by decide) (by decide))).trans (q.pp i hi), (f.fI 28 (by decide) (by decide)).trans q.aa, (f.fI 29 (by decide) (by decide)).trans q.uu, q.au, fun b hb => (boxR_eq (f.Lr (by decide) (by decide))).trans (q.bb b hb), (f.Ir (by decide) (by decide)).trans q.kk, (f.Ir (by decide) (by decide)).trans q.tt, ⟨e, hn⟩, (f.fI 9 (by decide) (by decide)).trans q.ff, (f.fI 10 (by decide) (by decide)).trans q.ll⟩
theorem mT.t9f (q : mT h r F pa my pr a u bx kp tp t tf tl) {v : Int32} (f : mFr (mP [9] []) h h1) (e : hI h1 153 9 = v) : mT h1 r F pa my pr a u bx kp tp t v tl :=
  ⟨q.1.fr f (by decide) (by decide) (by decide) (by decide) (by decide), q.zz, fun i hi => (pastR_eq (f.Lr (by decide) (by decide))).trans (q.pp i hi), (f.fI 28 (by decide) (by decide)).trans q.aa, (f.fI 29 (by decide) (by decide)).trans q.uu, q.au, fun b hb => (boxR_eq (f.Lr (by decide) (by decide))).trans (q.bb b hb), (f.Ir (by decide) (by decide)).trans q.kk, (f.Ir (by decide) (by decide)).trans q.tt, ⟨(f.fI 1 (by decide) (by decide)).trans q.t9.1, q.t9.2⟩, e, (f.fI 10 (by decide) (by decide)).trans q.ll⟩
theorem mT.t10f (q : mT h r F pa my pr a u bx kp tp t tf tl) {v : Int32} (f : mFr (mP [10] []) h h1) (e : hI h1 153 10 = v) : mT h1 r F pa my pr a u bx kp tp t tf v :=
  ⟨q.1.fr f (by decide) (by decide) (by decide) (by decide) (by decide), q.zz, fun i hi => (pastR_eq (f.Lr (by decide) (by decide))).trans (q.pp i hi), (f.fI 28 (by decide) (by decide)).trans q.aa, (f.fI 29 (by decide) (by decide)).trans q.uu, q.au, fun b hb => (boxR_eq (f.Lr (by decide) (by decide))).trans (q.bb b hb), (f.Ir (by decide) (by decide)).trans q.kk, (f.Ir (by decide) (by decide)).trans q.tt, ⟨(f.fI 1 (by decide) (by decide)).trans q.t9.1, q.t9.2⟩, (f.fI 9 (by decide) (by decide)).trans q.ff, e⟩
end MT2
/-- a row with a page laid -/
def pgK (r : Nat → Int64) (p n : Nat) (W : Nat → Int64) (k : Nat) : Nat → Int64 := fun y => if y = 1 + p then lN n else if 7 + 40 * p ≤ y ∧ y < 7 + 40 * p + k then (if y - (7 + 40 * p) < n then W (y - (7 + 40 * p)) else 0) else r y
theorem pgK_s {r : Nat → Int64} {p n k : Nat} {W : Nat → Int64} {v : Int64} (hp : p < 6) (e : v = if k < n then W k else 0) : up1 (pgK r p n W k) (7 + 40 * p + k) v = pgK r p n W (k + 1) := by
  subst e
  funext y
  by_cases h1 : y = 7 + 40 * p + k
  · subst h1
    rw [up1_at]
    have e2 : pgK r p n W (k + 1) (7 + 40 * p + k) = if k < n then W k else 0 := by
      unfold pgK
      rw [if_neg (show ¬ 7 + 40 * p + k = 1 + p by omega), if_pos (show 7 + 40 * p ≤ 7 + 40 * p + k ∧ 7 + 40 * p + k < 7 + 40 * p + (k + 1) by omega), show 7 + 40 * p + k - (7 + 40 * p) = k by omega]
    exact e2.symm
  · rw [up1_ne h1]
    unfold pgK
    by_cases h2 : y = 1 + p
    · rw [if_pos h2, if_pos h2]
    · rw [if_neg h2, if_neg h2]
      by_cases h3 : 7 + 40 * p ≤ y ∧ y < 7 + 40 * p + k
      · rw [if_pos h3, if_pos (show 7 + 40 * p ≤ y ∧ y < 7 + 40 * p + (k + 1) by omega)]
      · rw [if_neg h3, if_neg (show ¬ (7 + 40 * p ≤ y ∧ y < 7 + 40 * p + (k + 1)) by omega)]
theorem pgK_0 {r : Nat → Int64} {p n : Nat} {W : Nat → Int64} : up1 r (1 + p) (lN n) = pgK r p n W 0 := by
  funext y
  unfold pgK
  by_cases h1 : y = 1 + p
  · subst h1
    rw [up1_at, if_pos rfl]
  · rw [up1_ne h1, if_neg h1, if_neg (by omega)]
set_option maxRecDepth 20000 in
theorem pX12_begins {h : mH} {Q : Option Value → mH → Prop}  (hm : mS h) (hq : ∀ h', mFr (mP [19, 20] []) h h' → hI h' 153 19 = nI 0 → hI h' 153 20 = nI 0 → Q none h') : Wp mX12_begins 0 0 0 [some (.ref 153)] [] h Q := by
  refine wp_aload_n dX12_begins_0 rfl rfl ?_
  refine wp_iconst (v := (nI 0)) dX12_begins_1 (by decide +kernel) ?_
  refine wp_putI dX12_begins_2 lX12_206 rfl (Or.inl rfl) (mO hm) rfl rfl ?_
  refine sealI (fun hh1 f1 e1 => ?_)
  have S1 := f1.s hm
  refine wp_aload_n dX12_begins_5 rfl rfl ?_
  refine wp_iconst (v := (nI 0)) dX12_begins_6 (by decide +kernel) ?_
  refine wp_putI dX12_begins_7 lX12_209 rfl (Or.inl rfl) (mO S1) rfl rfl ?_
  refine sealI (fun hh2 f2 e2 => ?_)
  have S2 := f2.s S1
  have efI19_2 := (f2.fI 19 (by decide) (by decide)).trans e1
  refine wp_vreturn dX12_begins_10 rfl ?_
  exact hq _ ((f1.up (by decide) (by decide)).tr (f2.up (by decide) (by decide))) efI19_2 e2
set_option maxRecDepth 20000 in
theorem pX12_beginsText {h : mH} {Q : Option Value → mH → Prop} {r : Nat → Int64} {F : Nat} {pa my : Nat → Int32} {pr : Nat → Nat → Int64} {a u : Nat} {bx : Nat → Nat → Int64} {kp tp : Nat → Int32} {t : Nat} {tf tl : Int32} (ht : mT h r F pa my pr a u bx kp tp t tf tl) (hb : byt tp) (hq : ∀ h', mFr (mP [1, 2, 3, 4, 5, 6, 7, 8, 11] []) h h' → pG h' tp t 0 → mT h' r F pa my pr a u bx kp tp 0 tf tl → hI h' 153 8 = -1 → Q none h') : Wp mX12_beginsText 2 43 0 [some (.ref 153)] [] h Q := by
  refine wp_aload_n dX12_beginsText_0 rfl rfl ?_
  refine wp_aload_n dX12_beginsText_1 rfl rfl ?_
  refine wp_getIV dX12_beginsText_2 lX12_140 rfl (mO ht.1.1) ht.t9.1 ?_
  refine wp_putI dX12_beginsText_5 lX12_154 rfl (Or.inl rfl) (mO ht.1.1) rfl rfl ?_
  refine sealI (fun hh1 f1 e1 => ?_)
  have t1 := ht.fr (f1.up (by decide) (by decide))
  refine wp_aload_n dX12_beginsText_8 rfl rfl ?_
  refine wp_iconst (v := (nI 0)) dX12_beginsText_9 (by decide +kernel) ?_
  refine wp_putI dX12_beginsText_10 lX12_140 rfl (Or.inl rfl) (mO t1.1.1) rfl rfl ?_
  refine sealI (fun hh2 f2 e2 => ?_)
  have efI2_2 := (f2.fI 2 (by decide) (by decide)).trans e1
  have t2 := t1.tape f2 e2 (by omega)
  refine wp_aload_n dX12_beginsText_13 rfl rfl ?_
  refine wp_iconst (v := (nI 0)) dX12_beginsText_14 (by decide +kernel) ?_
  refine wp_putI dX12_beginsText_15 lX12_151 rfl (Or.inl rfl) (mO t2.1.1) rfl rfl ?_
  refine sealI (fun hh3 f3 e3 => ?_)
  have t3 := t2.fr (f3.up (by decide) (by decide))
  have efI2_3 := (f3.fI 2 (by decide) (by decide)).trans efI2_2
  have efI1_3 := (f3.fI 1 (by decide) (by decide)).trans e2
  refine wp_aload_n dX12_beginsText_18 rfl rfl ?_
  refine wp_iconst (v := (nI 0)) dX12_beginsText_19 (by decide +kernel) ?_
  refine wp_putI dX12_beginsText_20 lX12_184 rfl (Or.inl rfl) (mO t3.1.1) rfl rfl ?_
  refine sealI (fun hh4 f4 e4 => ?_)
  have t4 := t3.fr (f4.up (by decide) (by decide))
  have efI2_4 := (f4.fI 2 (by decide) (by decide)).trans efI2_3
  have efI1_4 := (f4.fI 1 (by decide) (by decide)).trans efI1_3
  have efI3_4 := (f4.fI 3 (by decide) (by decide)).trans e3
  refine wp_aload_n dX12_beginsText_23 rfl rfl ?_
  refine wp_iconst (v := (-1)) dX12_beginsText_24 (by decide +kernel) ?_
  refine wp_putI dX12_beginsText_25 lX12_13 rfl (Or.inl rfl) (mO t4.1.1) rfl rfl ?_
  refine sealI (fun hh5 f5 e5 => ?_)
  have t5 := t4.fr (f5.up (by decide) (by decide))
  have efI2_5 := (f5.fI 2 (by decide) (by decide)).trans efI2_4
  have efI1_5 := (f5.fI 1 (by decide) (by decide)).trans efI1_4
  have efI3_5 := (f5.fI 3 (by decide) (by decide)).trans efI3_4
  have efI7_5 := (f5.fI 7 (by decide) (by decide)).trans e4
  refine wp_aload_n dX12_beginsText_28 rfl rfl ?_
  refine wp_cV0 1 21 [some _, none, none] dX12_beginsText_29 tX12_goOn rfl (by decide) nX12_goOn vX12_goOn lX12_200 ⟨by decide, by decide⟩ (Nat.le_of_ble_eq_true rfl) (mO t5.1.1) (Nat.le_of_ble_eq_true rfl) rfl ?_
  refine pX12_goOn0 (tb := tp) (N := t) (a := 0) ⟨t5.1.1, efI2_5, t5.tt, efI3_5⟩ efI7_5 ht.t9.2 (by omega) hb (fun hh6 f6 g6 => ?_)
  intro _ _
  have t6 := t5.fr (f6.up (by decide) (by decide))
  have efI2_6 := (f6.fI 2 (by decide) (by decide)).trans efI2_5
  have efI1_6 := (f6.fI 1 (by decide) (by decide)).trans efI1_5
  have efI7_6 := (f6.fI 7 (by decide) (by decide)).trans efI7_5
  have efI8_6 := (f6.fI 8 (by decide) (by decide)).trans e5
  refine wp_vreturn dX12_beginsText_32 rfl ?_
  exact hq _ ((((((f1.up (by decide) (by decide)).tr (f2.up (by decide) (by decide))).tr (f3.up (by decide) (by decide))).tr (f4.up (by decide) (by decide))).tr (f5.up (by decide) (by decide))).tr (f6.up (by decide) (by decide))) g6 t6 efI8_6
set_option maxRecDepth 20000 in
theorem pX12_endsText {h : mH} {Q : Option Value → mH → Prop} {r : Nat → Int64} {F : Nat} {pa my : Nat → Int32} {pr : Nat → Nat → Int64} {a u : Nat} {bx : Nat → Nat → Int64} {kp tp : Nat → Int32} {t : Nat} {tf tl : Int32} {tb : Nat → Int32} {N a1 : Nat} (ht : mT h r F pa my pr a u bx kp tp t tf tl) (hg : pG h tb N a1) (h8 : hI h 153 8 = -1) (hq : ∀ h', mFr (mP [9, 10] []) h h' → mT h' r F pa my pr a u bx kp tp t (nI 0) (-1) → Q (some (.int (nI 1))) h') : Wp mX12_endsText 0 0 0 [some (.ref 153)] [] h Q := by
  refine wp_aload_n dX12_endsText_0 rfl rfl ?_
  refine wp_aload_n dX12_endsText_1 rfl rfl ?_
  refine wp_getIV dX12_endsText_2 lX12_184 rfl (mO ht.1.1) hg.2.2.1 ?_
  refine wp_putI dX12_endsText_5 lX12_203 rfl (Or.inl rfl) (mO ht.1.1) rfl rfl ?_
  refine sealI (fun hh1 f1 e1 => ?_)
  have g1 := hg.fr f1 (by decide) (by decide)
  have efI8_1 := (f1.fI 8 (by decide) (by decide)).trans h8
  have t1 := ht.t9f f1 e1
  refine wp_aload_n dX12_endsText_8 rfl rfl ?_
  refine wp_aload_n dX12_endsText_9 rfl rfl ?_
  refine wp_getIV dX12_endsText_10 lX12_13 rfl (mO t1.1.1) efI8_1 ?_
  refine wp_putI dX12_endsText_13 lX12_17 rfl (Or.inl rfl) (mO t1.1.1) rfl rfl ?_
  refine sealI (fun hh2 f2 e2 => ?_)
  have g2 := g1.fr f2 (by decide) (by decide)
  have efI8_2 := (f2.fI 8 (by decide) (by decide)).trans efI8_1
  have efI9_2 := (f2.fI 9 (by decide) (by decide)).trans e1
  have t2 := t1.t10f f2 e2
  refine wp_aload_n dX12_endsText_16 rfl rfl ?_
  refine wp_getIV dX12_endsText_17 lX12_184 rfl (mO t2.1.1) g2.2.2.1 ?_
  refine wp_if_ne dX12_endsText_20 (fun q => absurd q (by decide +kernel)) (fun _ => ?_)
  refine wp_iconst (v := (nI 1)) dX12_endsText_23 (by decide +kernel) ?_
  refine wp_goto dX12_endsText_24 ?_
  refine wp_zreturn dX12_endsText_28 rfl (Or.inr rfl) ?_
  exact hq _ ((f1.up (by decide) (by decide)).tr (f2.up (by decide) (by decide))) t2
set_option maxRecDepth 20000 in
theorem pX12_endsTextB {h : mH} {Q : Option Value → mH → Prop} {r : Nat → Int64} {F : Nat} {pa my : Nat → Int32} {pr : Nat → Nat → Int64} {a u : Nat} {bx : Nat → Nat → Int64} {kp tp : Nat → Int32} {t : Nat} {tf tl : Int32} {fa pl : Nat} (ht : mT h r F pa my pr a u bx kp tp t tf tl) (hb : pB h fa pl) (hq : ∀ h', mFr (mP [9, 10] []) h h' → mT h' r F pa my pr a u bx kp tp t (nI fa) (nI pl) → Q (some (.int (nI 0))) h') : Wp mX12_endsText 0 0 0 [some (.ref 153)] [] h Q := by
  refine wp_aload_n dX12_endsText_0 rfl rfl ?_
  refine wp_aload_n dX12_endsText_1 rfl rfl ?_
  refine wp_getIV dX12_endsText_2 lX12_184 rfl (mO ht.1.1) hb.2.1 ?_
  refine wp_putI dX12_endsText_5 lX12_203 rfl (Or.inl rfl) (mO ht.1.1) rfl rfl ?_
  refine sealI (fun hh1 f1 e1 => ?_)
  have b1 := hb.fr f1 (by decide) (by decide)
  have t1 := ht.t9f f1 e1
  refine wp_aload_n dX12_endsText_8 rfl rfl ?_
  refine wp_aload_n dX12_endsText_9 rfl rfl ?_
  refine wp_getIV dX12_endsText_10 lX12_13 rfl (mO t1.1.1) b1.2.2.2.2 ?_
  refine wp_putI dX12_endsText_13 lX12_17 rfl (Or.inl rfl) (mO t1.1.1) rfl rfl ?_
  refine sealI (fun hh2 f2 e2 => ?_)
  have b2 := b1.fr f2 (by decide) (by decide)
  have efI9_2 := (f2.fI 9 (by decide) (by decide)).trans e1
  have t2 := t1.t10f f2 e2
  refine wp_aload_n dX12_endsText_16 rfl rfl ?_
  refine wp_getIV dX12_endsText_17 lX12_184 rfl (mO t2.1.1) b2.2.1 ?_
  refine wp_if_neN dX12_endsText_20 rfl (by have := b2.2.2.2.1; omega) (fun _ => ?_) (fun q9 => absurd q9 (by have := b2.2.2.1; omega))
  refine wp_iconst (v := (nI 0)) dX12_endsText_27 (by decide +kernel) ?_
  refine wp_zreturn dX12_endsText_28 rfl (Or.inl rfl) ?_
  exact hq _ ((f1.up (by decide) (by decide)).tr (f2.up (by decide) (by decide))) t2
set_option maxRecDepth 20000 in
theorem pX12_comesPage {h : mH} {Q : Option Value → mH → Prop} {r : Nat → Int64} {p x n : Nat} {W : Nat → Int64} (hs : mS h) (he : hL h 162 = r) (hp : p < 6) (hx : x < 6) (hn : hI h 158 x = nI n) (hn40 : n ≤ 40) (hW : ∀ j, j < n → hL h 156 (40 * x + j) = W j) (hq : ∀ h', mFr (mP [] [162]) h h' → hL h' 162 = pgK r p n W 40 → Q none h') : Wp mX12_comesPage 0 0 0 [some (.ref 153), some (.int (nI x)), some (.int (nI p)), none] [] h Q := by
  have hloop : ∀  (m : Nat) (k : Nat) (h1 : mH), (k ≤ 40) → (mS h1) → (mFr (mP [] [162]) h h1) → (hL h1 162 = pgK r p n W k) → (hI h1 158 = hI h 158) → (hL h1 156 = hL h 156) → (40 < k + m) → Wp mX12_comesPage 0 0 17 [some (.ref 153), some (.int (nI x)), some (.int (nI p)), some (.int (nI k))] [] h1 Q := by
    intro m
    induction m with
    | zero => intros; omega
    | succ m ih =>
      intro k h1 hk hs1 hf1 e62 e58 e56 hmz
      refine wp_iload_n dX12_comesPage_17 rfl rfl ?_
      refine wp_bipush (v := (nI 40)) dX12_comesPage_18 (by decide +kernel) ?_
      refine wp_icmp_geN dX12_comesPage_20 rfl rfl ⟨by omega, by omega⟩ (fun c1 => ?_) (fun c1 => ?_)
      · refine wp_vreturn dX12_comesPage_68 rfl ?_
        have e40 : k = 40 := by omega
        subst e40
        exact hq _ hf1 e62
      · refine wp_aload_n dX12_comesPage_23 rfl rfl ?_
        refine wp_getR dX12_comesPage_24 lX12_43 rfl (mO hs1) (mR_now hs1) ?_
        refine wp_bipush (v := (nI 7)) dX12_comesPage_27 (by decide +kernel) ?_
        refine wp_bipush (v := (nI 40)) dX12_comesPage_29 (by decide +kernel) ?_
        refine wp_iload_n dX12_comesPage_31 rfl rfl ?_
        refine wp_imul dX12_comesPage_32 ?_
        refine wp_iadd dX12_comesPage_33 ?_
        refine wp_iload_n dX12_comesPage_34 rfl rfl ?_
        refine wp_iadd dX12_comesPage_35 ?_
        refine wp_iload_n dX12_comesPage_36 rfl rfl ?_
        refine wp_aload_n dX12_comesPage_37 rfl rfl ?_
        refine wp_getR dX12_comesPage_38 lX12_30 rfl (mO hs1) (mR_readTokens hs1) ?_
        refine wp_iload_n dX12_comesPage_41 rfl rfl ?_
        refine wp_ialdV dX12_comesPage_42 (mA_readTokens hs1) rfl ⟨by omega, by decide⟩ ((congrFun e58 x).trans hn) ?_
        refine wp_icmp_geN dX12_comesPage_43 rfl rfl ⟨by omega, by omega⟩ (fun c2 => ?_) (fun c2 => ?_)
        · refine wp_lconst (v := 0) dX12_comesPage_60 (by decide +kernel) ?_
          refine wp_lastN dX12_comesPage_61 (mA_now hs1) (isN_add (isN_add rfl (isN_mul rfl rfl)) rfl) ⟨by omega, by decide⟩ ?_
          refine sealAL e62 (fun hh1 f1 e1 => ?_)
          have S1 := f1.s hs1
          have eI158_1 := (f1.Ir (by decide) (by decide)).trans e58
          have eL156_1 := (f1.Lr (by decide) (by decide)).trans e56
          refine wp_iinc1 (ls1 := [_, _, _, some _]) dX12_comesPage_62 rfl (by decide) rfl ?_
          refine wp_goto dX12_comesPage_65 ?_
          refine ih (k + 1) _ (by omega) S1 ((hf1.up (by decide) (by decide)).tr (f1.up (by decide) (by decide))) (e1.trans (pgK_s hp (by first | rw [if_pos (by omega)] | rw [if_neg (by omega)]))) eI158_1 eL156_1 (by omega)
        · refine wp_aload_n dX12_comesPage_46 rfl rfl ?_
          refine wp_getR dX12_comesPage_47 lX12_24 rfl (mO hs1) (mR_readWords hs1) ?_
          refine wp_bipush (v := (nI 40)) dX12_comesPage_50 (by decide +kernel) ?_
          refine wp_iload_n dX12_comesPage_52 rfl rfl ?_
          refine wp_imul dX12_comesPage_53 ?_
          refine wp_iload_n dX12_comesPage_54 rfl rfl ?_
          refine wp_iadd dX12_comesPage_55 ?_
          refine wp_laldV dX12_comesPage_56 (mA_readWords hs1) (isN_add (isN_mul rfl rfl) rfl) ⟨by omega, by decide⟩ ((congrFun e56 _).trans (hW k (by omega))) ?_
          refine wp_goto dX12_comesPage_57 ?_
          refine wp_lastN dX12_comesPage_61 (mA_now hs1) (isN_add (isN_add rfl (isN_mul rfl rfl)) rfl) ⟨by omega, by decide⟩ ?_
          refine sealAL e62 (fun hh2 f2 e2 => ?_)
          have S2 := f2.s hs1
          have eI158_2 := (f2.Ir (by decide) (by decide)).trans e58
          have eL156_2 := (f2.Lr (by decide) (by decide)).trans e56
          refine wp_iinc1 (ls1 := [_, _, _, some _]) dX12_comesPage_62 rfl (by decide) rfl ?_
          refine wp_goto dX12_comesPage_65 ?_
          refine ih (k + 1) _ (by omega) S2 ((hf1.up (by decide) (by decide)).tr (f2.up (by decide) (by decide))) (e2.trans (pgK_s hp (by first | rw [if_pos (by omega)] | rw [if_neg (by omega)]))) eI158_2 eL156_2 (by omega)
  refine wp_aload_n dX12_comesPage_0 rfl rfl ?_
  refine wp_getR dX12_comesPage_1 lX12_43 rfl (mO hs) (mR_now hs) ?_
  refine wp_iconst (v := (nI 1)) dX12_comesPage_4 (by decide +kernel) ?_
  refine wp_iload_n dX12_comesPage_5 rfl rfl ?_
  refine wp_iadd dX12_comesPage_6 ?_
  refine wp_aload_n dX12_comesPage_7 rfl rfl ?_
  refine wp_getR dX12_comesPage_8 lX12_30 rfl (mO hs) (mR_readTokens hs) ?_
  refine wp_iload_n dX12_comesPage_11 rfl rfl ?_
  refine wp_ialdV dX12_comesPage_12 (mA_readTokens hs) rfl ⟨by omega, by decide⟩ hn ?_
  refine wp_i2l dX12_comesPage_13 ?_
  refine wp_lastN dX12_comesPage_14 (mA_now hs) (isN_add rfl rfl) ⟨by omega, by decide⟩ ?_
  refine sealAL he (fun hh1 f1 e1 => ?_)
  have S1 := f1.s hs
  have eI158_1 := (f1.Ir (by decide) (by decide)).trans (rfl : hI h 158 = hI h 158)
  have eL156_1 := (f1.Lr (by decide) (by decide)).trans (rfl : hL h 156 = hL h 156)
  refine wp_iconst (v := (nI 0)) dX12_comesPage_15 (by decide +kernel) ?_
  refine wp_istore_n (ls1 := [_, _, _, some _]) dX12_comesPage_16 rfl (by decide) rfl ?_
  exact hloop 41 0 _ (by omega) S1 (f1.up (by decide) (by decide)) (e1.trans (by rw [nI_l (by omega)]; exact pgK_0)) eI158_1 eL156_1 (by omega)
