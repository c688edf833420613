/-! ===== fields within fields; what is learnt cuts ===== -/
def chF (pa : Nat → Int32) : Nat → Nat → Nat
  | 0, _ => 0
  | n + 1, f => 2 ^ f ||| (if pa f = -1 then 0 else chF pa n (nOfI (pa f)))
theorem chF_tb (pa : Nat → Int32) : ∀ n f j, (chF pa n f).testBit j = undF pa n f j
  | 0, f, j => Nat.zero_testBit j
  | n + 1, f, j => by
    show (2 ^ f ||| _).testBit j = if f = j then true else if pa f = -1 then false else undF pa n (nOfI (pa f)) j
    rw [Nat.testBit_or, Nat.testBit_two_pow]
    by_cases e : f = j
    · rw [decide_eq_true e, if_pos e, Bool.true_or]
    · rw [decide_eq_false e, if_neg e, Bool.false_or]
      by_cases c : pa f = -1
      · rw [if_pos c, if_pos c, Nat.zero_testBit]
      · rw [if_neg c, if_neg c, chF_tb pa n]
section
variable {r : Nat → Int64} {F : Nat} {pa my : Nat → Int32}
theorem chF_lt (hd : sOK r F pa my) : ∀ n f, f < F → chF pa n f < 16
  | 0, f, _ => by show 0 < 16; decide
  | n + 1, f, hf => by
    have h4 := hd.f4
    have h2 : 2 ^ f < 2 ^ 4 := Nat.pow_lt_pow_right (by decide) (by omega)
    show 2 ^ f ||| _ < 2 ^ 4
    refine Nat.or_lt_two_pow h2 ?_
    rcases hd.par f hf with e | ⟨g, hg, e, _⟩
    · rw [if_pos e]; decide
    · rw [if_neg (by rw [e]; exact nI_ne_m1 (by omega)), e, nOfI_nI (by omega)]
      exact chF_lt hd n g (by omega)
theorem und_f (hd : sOK r F pa my) : ∀ n m f j, f < F → f < n → f < m → undF pa n f j = undF pa m f j
  | 0, m, f, j, _, h, _ => by omega
  | n + 1, 0, f, j, _, _, h => by omega
  | n + 1, m + 1, f, j, hf, h1, h2 => by
    show (if f = j then true else if pa f = -1 then false else undF pa n (nOfI (pa f)) j) = if f = j then true else if pa f = -1 then false else undF pa m (nOfI (pa f)) j
    by_cases c : f = j
    · rw [if_pos c, if_pos c]
    · rw [if_neg c, if_neg c]
      have hF4 := hd.f4
      rcases hd.par f hf with e | ⟨g, hg, e, _⟩
      · rw [if_pos e, if_pos e]
      · rw [if_neg (by rw [e]; exact nI_ne_m1 (by omega)), if_neg (by rw [e]; exact nI_ne_m1 (by omega)), e, nOfI_nI (by omega), und_f hd n m g j (by omega) (by omega) (by omega)]
theorem und_0 {f : Nat} : und pa f f = true := if_pos rfl
theorem und_s (hd : sOK r F pa my) {f g j : Nat} (hf : f < F) (hg : g < f) (e : pa f = nI g) (hj : f ≠ j) : und pa f j = und pa g j := by
  have hF4 := hd.f4
  have h1 : und pa f j = undF pa 3 g j := by
    show (if f = j then true else if pa f = -1 then false else undF pa 3 (nOfI (pa f)) j) = _
    rw [if_neg hj, if_neg (by rw [e]; exact nI_ne_m1 (by omega)), e, nOfI_nI (by omega)]
  rw [h1]
  exact und_f hd 3 4 g j (by omega) (by omega) (by omega)
theorem und_t {f j : Nat} (e : pa f = -1) (hj : f ≠ j) : und pa f j = false := by
  show (if f = j then true else if pa f = -1 then false else _) = _
  rw [if_neg hj, if_pos e]
theorem und_le (hd : sOK r F pa my) : ∀ f j, f < F → und pa f j = true → j ≤ f
  | f, j, hf, h => by
    by_cases c : f = j
    · omega
    · rcases hd.par f hf with e | ⟨g, hg, e, _⟩
      · rw [und_t e c] at h; cases h
      · rw [und_s hd hf hg e c] at h
        have := und_le hd g j (by omega) h
        omega
theorem und_tr (hd : sOK r F pa my) : ∀ f j g, f < F → und pa f j = true → pa j = nI g → g < 4 → und pa f g = true
  | f, j, g, hf, h, e2, hg4 => by
    have hF4 := hd.f4
    have hjf := und_le hd f j hf h
    have hgj : g < j := by
      rcases hd.par j (by omega) with e | ⟨g', hg, e, _⟩
      · rw [e2] at e; exact absurd e (nI_ne_m1 (by omega))
      · rw [e2, nI_eq (by omega) (by omega)] at e; omega
    by_cases c : f = j
    · subst c
      rw [und_s hd hf hgj e2 (by omega)]
      exact und_0
    · rcases hd.par f hf with e | ⟨g', hg', e, _⟩
      · rw [und_t e c] at h; cases h
      · rw [und_s hd hf hg' e c] at h
        rw [und_s hd hf hg' e (by omega)]
        exact und_tr hd g' j g (by omega) h e2 hg4
theorem und_kid (hd : sOK r F pa my) : ∀ f i, f < F → und pa f i = true → i < f → ∃ j, i < j ∧ und pa f j = true ∧ pa j = nI i ∧ ∀ m, i < m → m < j → und pa f m = false
  | f, i, hf, h, hi => by
    have hF4 := hd.f4
    rcases hd.par f hf with e | ⟨g, hg, e, _⟩
    · rw [und_t e (by omega)] at h; cases h
    · have h' := h
      rw [und_s hd hf hg e (by omega)] at h
      by_cases c : g = i
      · subst c
        refine ⟨f, hi, und_0, e, fun m h1 h2 => ?_⟩
        rw [und_s hd hf hg e (by omega)]
        cases z : und pa g m with
        | false => rfl
        | true =>
          have := und_le hd g m (by omega) z
          omega
      · have hig : i < g := by
          have := und_le hd g i (by omega) h
          omega
        obtain ⟨j, a1, a2, a3, a4⟩ := und_kid hd g i (by omega) h hig
        have hjg := und_le hd g j (by omega) a2
        refine ⟨j, a1, ?_, a3, fun m h1 h2 => ?_⟩
        · rw [und_s hd hf hg e (by omega)]; exact a2
        · rw [und_s hd hf hg e (by omega)]; exact a4 m h1 h2
theorem und_top (hd : sOK r F pa my) {f j : Nat} (hf : f < F) (h : und pa f j = true) (hm : ∀ m, m < j → und pa f m = false) : pa j = -1 := by
  have hF4 := hd.f4
  have hjf := und_le hd f j hf h
  rcases hd.par j (by omega) with e | ⟨g, hg, e, _⟩
  · exact e
  · have := und_tr hd f j g hf h e (by omega)
    rw [hm g hg] at this
    cases this
/-- where nothing is cut of a field, nothing is of those under it -/
theorem cu_und (hd : sOK r F pa my) {P : Int32 → Nat → Bool} {len : Nat} : ∀ f i, f < F → und pa f i = true → crX r pa my P len i = none → crX r pa my P len f = none
  | f, i, hf, h, hn => by
    by_cases c : f = i
    · rw [c]; exact hn
    · rcases hd.par f hf with e | ⟨g, hg, e, _⟩
      · rw [und_t e c] at h; cases h
      · rw [und_s hd hf hg e c] at h
        rw [crX_par hd hf hg e, cu_und hd g i (by omega) h hn]
end
theorem bitI {n p : Nat} (hn : n < 2147483648) (hp : p < 31) : (nI n >>> (nI p &&& 31)) &&& nI 1 = nI (if n.testBit p = true then 1 else 0) := by
  rw [nx_sshr hn (by omega), nx_and, show (1 : Nat) = 2 ^ 1 - 1 from rfl, Nat.and_two_pow_sub_one_eq_mod, Nat.testBit_eq_decide_div_mod_eq]
  by_cases z : n / 2 ^ p % 2 = 1
  · rw [show n / 2 ^ p % 2 ^ 1 = 1 from z]
    rfl
  · rw [show n / 2 ^ p % 2 ^ 1 = 0 by have := Nat.mod_lt (n / 2 ^ p) (show 0 < 2 by decide); have : n / 2 ^ p % 2 ≠ 1 := z; show n / 2 ^ p % 2 = 0; omega]
    rfl
set_option maxRecDepth 20000 in
theorem pX1_lineOf {h : mH} {Q : Option Value → mH → Prop} {ow : Nat → Nat} {qa F f0 : Nat} {pa my : Nat → Int32} {r : Nat → Int64} (fl : flR ow h qa F pa my) (hd : sOK r F pa my) (hf : f0 < F) (hq : Q (some (.int (nI (chF pa 4 f0)))) h) : Wp mX1_lineOf 1 21 0 [some (.ref qa), some (.int (nI f0)), none, none, none] [] h Q := by
  have hF4 := hd.f4
  have hloop : ∀  (t9 : Nat) (d : Nat) (acc : Nat) (cur : Int32), (d ≤ 4) → ((cur = -1 ∧ acc = chF pa 4 f0) ∨ ∃ g, g < F ∧ cur = nI g ∧ acc ||| chF pa (4 - d) g = chF pa 4 f0) → (4 < d + t9) → Wp mX1_lineOf 1 21 7 [some (.ref qa), some (.int (nI f0)), some (.int (nI acc)), some (.int cur), some (.int (nI d))] [] h Q := by
    intro t9
    induction t9 with
    | zero => intros; omega
    | succ t9 ih =>
      intro d acc cur hd4 hcur hmz
      rcases hcur with ⟨rfl, hac⟩ | ⟨g, hg, rfl, hac⟩
      · refine wp_iload dX1_lineOf_7 rfl ?_
        refine wp_iconst (v := (nI 4)) dX1_lineOf_9 (by decide +kernel) ?_
        refine wp_icmp_geN dX1_lineOf_10 rfl rfl ⟨by omega, by omega⟩ (fun c2 => ?_) (fun c2 => ?_)
        · refine wp_iload_n dX1_lineOf_40 rfl rfl ?_
          refine wp_ireturn dX1_lineOf_41 rfl ?_
          rw [hac]
          exact hq
        · refine wp_aload_n dX1_lineOf_13 rfl rfl ?_
          refine wp_iload_n dX1_lineOf_14 rfl rfl ?_
          refine wp_cV1 0 0 [some _, some _] dX1_lineOf_15 tX1_has rfl (by decide) nX1_has vX1_has lX1_27 ⟨by decide, by decide⟩ (Nat.le_of_ble_eq_true rfl) fl.oo (Nat.le_of_ble_eq_true rfl) rfl ?_
          refine pX1_has fl hF4 (fun f9 hf9 ef9 => absurd ef9.symm (nI_ne_m1 (by omega))) (fun xn9 => ?_)
          intro _ _
          refine wp_if_eq dX1_lineOf_18 (fun _ => ?_) (fun q => absurd q (by decide +kernel))
          refine wp_iload_n dX1_lineOf_40 rfl rfl ?_
          refine wp_ireturn dX1_lineOf_41 rfl ?_
          rw [hac]
          exact hq
      · refine wp_iload dX1_lineOf_7 rfl ?_
        refine wp_iconst (v := (nI 4)) dX1_lineOf_9 (by decide +kernel) ?_
        refine wp_icmp_geN dX1_lineOf_10 rfl rfl ⟨by omega, by omega⟩ (fun c2 => ?_) (fun c2 => ?_)
        · refine wp_iload_n dX1_lineOf_40 rfl rfl ?_
          refine wp_ireturn dX1_lineOf_41 rfl ?_
          have ed9 : d = 4 := by omega
          subst ed9
          have hac : acc ||| 0 = chF pa 4 f0 := hac
          rw [Nat.or_zero] at hac
          rw [hac]
          exact hq
        · refine wp_aload_n dX1_lineOf_13 rfl rfl ?_
          refine wp_iload_n dX1_lineOf_14 rfl rfl ?_
          refine wp_cV1 0 0 [some _, some _] dX1_lineOf_15 tX1_has rfl (by decide) nX1_has vX1_has lX1_27 ⟨by decide, by decide⟩ (Nat.le_of_ble_eq_true rfl) fl.oo (Nat.le_of_ble_eq_true rfl) rfl ?_
          refine pX1_has fl hF4 (fun f1 hf1 ef1 => ?_) (fun xn1 => absurd xn1 (by rw [ix_nI (by omega) (by omega)]; exact fun z => by cases z))
          intro _ _
          refine wp_if_eq dX1_lineOf_18 (fun q => absurd q (by decide +kernel)) (fun _ => ?_)
          refine wp_iload_n dX1_lineOf_21 rfl rfl ?_
          refine wp_iconst (v := (nI 1)) dX1_lineOf_22 (by decide +kernel) ?_
          refine wp_iload_n dX1_lineOf_23 rfl rfl ?_
          refine wp_ishl dX1_lineOf_24 ?_
          refine wp_ior dX1_lineOf_25 ?_
          refine wp_istore_n (ls1 := [_, _, some _, _, _]) dX1_lineOf_26 rfl (by decide) rfl ?_
          refine wp_aload_n dX1_lineOf_27 rfl rfl ?_
          refine wp_getR dX1_lineOf_28 lX1_15 rfl fl.oo fl.r1 ?_
          refine wp_iload_n dX1_lineOf_31 rfl rfl ?_
          refine wp_ialdV dX1_lineOf_32 fl.a1 rfl ⟨by omega, by omega⟩ (fl.c1 (by omega)) ?_
          refine wp_istore_n (ls1 := [_, _, _, some _, _]) dX1_lineOf_33 rfl (by decide) rfl ?_
          refine wp_iinc1 (ls1 := [_, _, _, _, some _]) dX1_lineOf_34 rfl (by decide) rfl ?_
          refine wp_goto dX1_lineOf_37 ?_
          rw [nx_shl1 (by omega), nx_or]
          rcases hd.par g hg with e8 | ⟨g8, hg8, e8, _⟩
          · rw [e8]
            refine ih (d + 1) _ _ (by omega) (Or.inl ⟨rfl, ?_⟩) (by omega)
            rw [← hac, show 4 - d = 4 - (d + 1) + 1 by omega]
            show _ = acc ||| (2 ^ g ||| if pa g = -1 then 0 else _)
            rw [if_pos e8, Nat.or_zero]
          · rw [e8]
            refine ih (d + 1) _ _ (by omega) (Or.inr ⟨g8, by omega, rfl, ?_⟩) (by omega)
            rw [← hac, show 4 - d = 4 - (d + 1) + 1 by omega]
            show _ = acc ||| (2 ^ g ||| if pa g = -1 then 0 else _)
            rw [if_neg (by rw [e8]; exact nI_ne_m1 (by omega)), e8, nOfI_nI (by omega), Nat.or_assoc]
  refine wp_iconst (v := (nI 0)) dX1_lineOf_0 (by decide +kernel) ?_
  refine wp_istore_n (ls1 := [_, _, some _, _, _]) dX1_lineOf_1 rfl (by decide) rfl ?_
  refine wp_iload_n dX1_lineOf_2 rfl rfl ?_
  refine wp_istore_n (ls1 := [_, _, _, some _, _]) dX1_lineOf_3 rfl (by decide) rfl ?_
  refine wp_iconst (v := (nI 0)) dX1_lineOf_4 (by decide +kernel) ?_
  refine wp_istore (ls1 := [_, _, _, _, some _]) dX1_lineOf_5 (by decide) rfl ?_
  exact hloop 5 0 0 _ (by omega) (Or.inr ⟨f0, hf, rfl, Nat.zero_or _⟩) (by omega)
theorem cbL_k {r : Nat → Int64} {my : Nat → Int32} {f a e k key : Nat} {P : Int32 → Nat → Bool} (hi : ∀ w, w < 4 → itm (kI key w) = lrI r f k w) : cutK P e key (mzN (my f)) a = cbL r my f P a e k := by
  unfold cutK cbL
  rw [hi 0 (by decide), hi 1 (by decide), hi 2 (by decide), hi 3 (by decide)]
theorem cbL_srt {r : Nat → Int64} {my : Nat → Int32} {f a e k : Nat} {P : Int32 → Nat → Bool} (ha : a ≤ e) : srt (cbL r my f P a e k) e := (srt_cut _ _ ha).1
set_option maxRecDepth 20000 in
theorem pX2_sliceBy {h : mH} {Q : Option Value → mH → Prop} {ow : Nat → Nat} {pl : Nat → Int64} {gs gn : Int64} {gf gt : Int32} {P : Int32 → Nat → Bool} {len e a f F qa : Nat} {pa my : Nat → Int32} {r : Nat → Int64} (zg : zG ow h pl (nI a) (nI e) gs gn gf gt) (hP : gP pl P len) (he : e ≤ len) (hl : len ≤ 40) (ha : a ≤ e) (hd : sOK r F pa my) (hf : f < F) (ln : lnR ow h qa r f) (hq : ∀ h' gf gt, cFr [1] 0 ow h ow h' → zG ow h' pl (nI a) (nI e) (lN (bsA (cuL (cbX r my f P a e)))) (lN (bsE (cuL (cbX r my f P a e)))) gf gt → Q (some (.int (cuB (cbX r my f P a e)))) h') : Wp mX2_sliceBy 4 95 0 [some (.ref 115), some (.ref qa), some (.int (my f)), none, none] [] h Q := by
  have hF4 := hd.f4
  have hl6 := (hd.ln f (by omega)).2
  have hzm := hd.my f (by omega)
  have hq : ∀ h' gf gt, cFr [1] 0 ow h ow h' → zG ow h' pl (nI a) (nI e) (lN (bsA (cuL (cbX r my f P a e)))) (lN (bsE (cuL (cbX r my f P a e)))) gf gt → ∀ {v}, cuB (cbX r my f P a e) = v → Q (some (.int v)) h' := fun h' gf gt f1 z v e9 => e9 ▸ hq h' gf gt f1 z
  have hloop : ∀  (t9 : Nat) (k : Nat) (gf1 : Int32) (gt1 : Int32) (h1 : mH), (k ≤ lrN r f) → (cFr [1] 0 ow h ow h1) → (zG ow h1 pl (nI a) (nI e) (lN (bsA [])) (lN (bsE [])) gf1 gt1) → (lnR ow h1 qa r f) → (∀ j, j < k → cbL r my f P a e j = []) → (lrN r f < k + t9) → Wp mX2_sliceBy 4 95 27 [some (.ref 115), some (.ref qa), some (.int (my f)), some (.int (nI (lrN r f))), some (.int (nI k))] [] h1 Q := by
    intro t9
    induction t9 with
    | zero => intros; omega
    | succ t9 ih =>
      intro k gf1 gt1 h1 hk hf1 zg1 ln1 hno hmz
      refine wp_iload dX2_sliceBy_27 rfl ?_
      refine wp_iload_n dX2_sliceBy_29 rfl rfl ?_
      refine wp_icmp_geN dX2_sliceBy_30 rfl rfl ⟨by omega, by omega⟩ (fun c2 => ?_) (fun c2 => ?_)
      · refine wp_iconst (v := (-1)) dX2_sliceBy_63 (by decide +kernel) ?_
        refine wp_ireturn dX2_sliceBy_64 rfl ?_
        have ek9 : k = lrN r f := by omega
        subst ek9
        have eb9 := cbX_no hno
        exact hq _ _ _ (hf1.up (by decide) (Nat.le_refl _)) (by rw [eb9]; exact zg1) (by rw [eb9]; rfl)
      · refine wp_aload_n dX2_sliceBy_33 rfl rfl ?_
        refine wp_aload_n dX2_sliceBy_34 rfl rfl ?_
        refine wp_getR dX2_sliceBy_35 lX2_73 rfl ln1.oo ln1.r0 ?_
        refine wp_iload dX2_sliceBy_38 rfl ?_
        obtain ⟨ky1, hc1, ek1, hi1⟩ := ln1.c0 (k := k) (by omega)
        refine wp_laldV dX2_sliceBy_40 ln1.a0 rfl ⟨by omega, by omega⟩ ek1 ?_
        refine wp_iload_n dX2_sliceBy_41 rfl rfl ?_
        refine wp_cV2 3 70 [some _, some _, none, some _, none, none] dX2_sliceBy_42 tX2_slice rfl (by decide) nX2_slice vX2_slice lX2_78 ⟨by decide, by decide⟩ (Nat.le_of_ble_eq_true rfl) zg1.o (Nat.le_of_ble_eq_true rfl) rfl ?_
        refine pX2_slice zg1 hP he hl (cod_lt hc1) (cod_it hc1).2 ha hzm (fun hh2 x2 y2 f2 zg_2 => ?_)
        intro _ _
        rw [cbL_k hi1] at zg_2
        have ln1_2 := ln1.fr f2 (rnS (by omega) rn0)
        refine wp_aload_n dX2_sliceBy_45 rfl rfl ?_
        refine wp_getLV dX2_sliceBy_46 lX2_68 rfl zg_2.o zg_2.f3 ?_
        refine wp_lconst (v := 0) dX2_sliceBy_49 (by decide +kernel) ?_
        refine wp_lc_eq dX2_sliceBy_50 dX2_sliceBy_51 (fun c3 => ?_) (fun c3 => ?_)
        · refine wp_iinc1 (ls1 := [_, _, _, _, some _]) dX2_sliceBy_57 rfl (by decide) rfl ?_
          refine wp_goto dX2_sliceBy_60 ?_
          have en9 := (bs_0 (cbL_srt ha) (show e < 63 by omega)).mp ((lN0 (bs_lt (cbL_srt ha) (show e < 63 by omega)).1).mp (by assumption))
          have zg9 := zg_2
          rw [en9] at zg9
          exact ih (k + 1) _ _ _ (by omega) ((hf1.up (by decide) (Nat.le_refl _)).tr (f2.up (by decide) (Nat.le_refl _))) zg9 ln1_2 (lt_s hno en9) (by omega)
        · refine wp_iload dX2_sliceBy_54 rfl ?_
          refine wp_ireturn dX2_sliceBy_56 rfl ?_
          have eb9 := cbX_of (by omega) (fun z => (by assumption : ¬ _ = _) (by rw [z]; rfl)) hno
          exact hq _ _ _ ((hf1.up (by decide) (Nat.le_refl _)).tr (f2.up (by decide) (Nat.le_refl _))) (by rw [eb9]; exact zg_2) (by rw [eb9]; rfl)
  refine wp_aload_n dX2_sliceBy_0 rfl rfl ?_
  refine wp_lconst (v := 0) dX2_sliceBy_1 (by decide +kernel) ?_
  refine wp_putL dX2_sliceBy_2 lX2_68 rfl (Or.inl rfl) zg.o ?_
  refine zg.p3 (fun hh1 f1 zg_1 => ?_)
  have ln_1 := ln.fr f1 (rnS (by omega) rn0)
  refine wp_aload_n dX2_sliceBy_5 rfl rfl ?_
  refine wp_lconst (v := 0) dX2_sliceBy_6 (by decide +kernel) ?_
  refine wp_putL dX2_sliceBy_7 lX2_71 rfl (Or.inl rfl) zg_1.o ?_
  refine zg_1.p4 (fun hh2 f2 zg_2 => ?_)
  have ln_2 := ln_1.fr f2 (rnS (by omega) rn0)
  refine wp_aload_n dX2_sliceBy_10 rfl rfl ?_
  refine wp_ifnonnull dX2_sliceBy_11 ?_
  refine wp_aload_n dX2_sliceBy_18 rfl rfl ?_
  refine wp_getR dX2_sliceBy_19 lX2_73 rfl ln_2.oo ln_2.r0 ?_
  refine wp_alen dX2_sliceBy_22 ln_2.a0 (by decide) (by decide) rfl ?_
  refine wp_istore_n (ls1 := [_, _, _, some _, _]) dX2_sliceBy_23 rfl (by decide) rfl ?_
  refine wp_iconst (v := (nI 0)) dX2_sliceBy_24 (by decide +kernel) ?_
  refine wp_istore (ls1 := [_, _, _, _, some _]) dX2_sliceBy_25 (by decide) rfl ?_
  exact hloop (lrN r f + 1) 0 _ _ _ (by omega) ((f1.up (by decide) (Nat.le_refl _)).tr (f2.up (by decide) (Nat.le_refl _))) zg_2 ln_2 (fun j hj => absurd hj (Nat.not_lt_zero j)) (by omega)
set_option maxRecDepth 20000 in
theorem pX2_sliceBy0 {h : mH} {Q : Option Value → mH → Prop} {ow : Nat → Nat} {pl : Nat → Int64} {gs gn : Int64} {gf gt : Int32} {P : Int32 → Nat → Bool} {len e a f F : Nat} {pa my : Nat → Int32} {r : Nat → Int64} (zg : zG ow h pl (nI a) (nI e) gs gn gf gt) (hP : gP pl P len) (he : e ≤ len) (hl : len ≤ 40) (ha : a ≤ e) (hd : sOK r F pa my) (hf : f < F) (hnl : ¬ r (655 + 70 * f) = 1) (hq : ∀ h' gf gt, cFr [1] 0 ow h ow h' → zG ow h' pl (nI a) (nI e) (lN (bsA (cuL (cbX r my f P a e)))) (lN (bsE (cuL (cbX r my f P a e)))) gf gt → Q (some (.int (cuB (cbX r my f P a e)))) h') : Wp mX2_sliceBy 4 95 0 [some (.ref 115), some .null, some (.int (my f)), none, none] [] h Q := by
  have hF4 := hd.f4
  have hl6 := (hd.ln f (by omega)).2
  have hzm := hd.my f (by omega)
  have hq : ∀ h' gf gt, cFr [1] 0 ow h ow h' → zG ow h' pl (nI a) (nI e) (lN (bsA (cuL (cbX r my f P a e)))) (lN (bsE (cuL (cbX r my f P a e)))) gf gt → ∀ {v}, cuB (cbX r my f P a e) = v → Q (some (.int v)) h' := fun h' gf gt f1 z v e9 => e9 ▸ hq h' gf gt f1 z
  refine wp_aload_n dX2_sliceBy_0 rfl rfl ?_
  refine wp_lconst (v := 0) dX2_sliceBy_1 (by decide +kernel) ?_
  refine wp_putL dX2_sliceBy_2 lX2_68 rfl (Or.inl rfl) zg.o ?_
  refine zg.p3 (fun hh1 f1 zg_1 => ?_)
  refine wp_aload_n dX2_sliceBy_5 rfl rfl ?_
  refine wp_lconst (v := 0) dX2_sliceBy_6 (by decide +kernel) ?_
  refine wp_putL dX2_sliceBy_7 lX2_71 rfl (Or.inl rfl) zg_1.o ?_
  refine zg_1.p4 (fun hh2 f2 zg_2 => ?_)
  refine wp_aload_nN dX2_sliceBy_10 rfl rfl ?_
  refine wp_ifnonnullN dX2_sliceBy_11 ?_
  refine wp_iconst (v := (nI 0)) dX2_sliceBy_14 (by decide +kernel) ?_
  refine wp_goto dX2_sliceBy_15 ?_
  refine wp_istore_n (ls1 := [_, _, _, some _, _]) dX2_sliceBy_23 rfl (by decide) rfl ?_
  refine wp_iconst (v := (nI 0)) dX2_sliceBy_24 (by decide +kernel) ?_
  refine wp_istore (ls1 := [_, _, _, _, some _]) dX2_sliceBy_25 (by decide) rfl ?_
  refine wp_iload dX2_sliceBy_27 rfl ?_
  refine wp_iload_n dX2_sliceBy_29 rfl rfl ?_
  refine wp_icmp_ge dX2_sliceBy_30 (fun _ => ?_) (fun q => absurd (by decide +kernel) q)
  refine wp_iconst (v := (-1)) dX2_sliceBy_63 (by decide +kernel) ?_
  refine wp_ireturn dX2_sliceBy_64 rfl ?_
  have eb9 : cbX r my f P a e = none := cbX_no (fun j hj => by rw [(hd.lz f (by omega) ((hd.lf f (by omega)).resolve_right hnl)).1] at hj; omega)
  exact hq _ _ _ ((f1.up (by decide) (Nat.le_refl _)).tr (f2.up (by decide) (Nat.le_refl _))) (by rw [eb9]; exact zg_2) (by rw [eb9]; rfl)
theorem lwA {r : Nat → Int64} {F : Nat} {pa my : Nat → Int32} {f p : Nat} (hd : sOK r F pa my) (hf : f < 4) (hp : p < 6) (hm : 0 < rM r f p) : lwB (bsA (mkL r f p)) = rA r f p 0 := by
  have hT := (hd.w.2.1 p hp).2
  have h := (srt_asc (srt_mk hd hf hp) (by omega)).1
  have e : mkL r f p = (rA r f p 0, rB r f p 0) :: (mkL r f p).tail := by
    have := mkL_getD hm
    have hl := mkL_len r f p
    cases z : mkL r f p with
    | nil => rw [z] at hl; have : rM r f p = 0 := hl.symm; omega
    | cons q t =>
      rw [z] at this
      have this : q = _ := this
      rw [this]
      rfl
  unfold bsA
  rw [e] at h ⊢
  exact bsN_low h
theorem lwE {r : Nat → Int64} {F : Nat} {pa my : Nat → Int32} {f p : Nat} (hd : sOK r F pa my) (hf : f < 4) (hp : p < 6) (hm : 0 < rM r f p) : lwB (bsE (mkL r f p)) = rB r f p 0 := by
  have hT := (hd.w.2.1 p hp).2
  have h := (srt_asc (srt_mk hd hf hp) (by omega)).2
  have e : mkL r f p = (rA r f p 0, rB r f p 0) :: (mkL r f p).tail := by
    have := mkL_getD hm
    have hl := mkL_len r f p
    cases z : mkL r f p with
    | nil => rw [z] at hl; have : rM r f p = 0 := hl.symm; omega
    | cons q t =>
      rw [z] at this
      have this : q = _ := this
      rw [this]
      rfl
  unfold bsE
  rw [e] at h ⊢
  exact bsN_low h
theorem rg_t {r : Nat → Int64} {pa : Nat → Int32} {f p : Nat} (e : pa f = -1) : rgA r pa f p = 0 ∧ rgB r pa f p = rT r p := ⟨if_pos e, if_pos e⟩
theorem rg_p {r : Nat → Int64} {pa : Nat → Int32} {f p g : Nat} (e : pa f = nI g) (hg : g < 4) : rgA r pa f p = rA r g p 0 ∧ rgB r pa f p = rB r g p 0 := by
  unfold rgA rgB
  rw [if_neg (by rw [e]; exact nI_ne_m1 (by omega)), if_neg (by rw [e]; exact nI_ne_m1 (by omega)), e, nOfI_nI (by omega)]
  exact ⟨rfl, rfl⟩
theorem row1 {k : Nat} (h : k ≤ 40) : (rowL (-1) k).length = k := by rw [rowL_m1 k (by omega), List.length_range]
set_option maxRecDepth 20000 in
theorem pX2_layMarked {h : mH} {Q : Option Value → mH → Prop} {ow : Nat → Nat} {pl : Nat → Int64} {gb ge : Int32} {gs gn : Int64} {gf gt : Int32} {a ρ F f p : Nat} {pa my : Nat → Int32} {r : Nat → Int64} (zg : zG ow h pl gb ge gs gn gf gt) (s9 : stR ow h a ρ r) (hρ : 20 ≤ ρ) (hd : sOK r F pa my) (hf : f < F) (hp : p < rP r) (hq : ∀ h' pl', cFr [1] 0 ow h ow h' → zG ow h' pl' (nI (rgA r pa f p)) (nI (rgB r pa f p)) gs gn gf gt → gP pl' (pmR r p (-1)) (rowL (-1) (rT r p)).length → Q none h') : Wp mX2_layMarked 2 49 0 [some (.ref 115), some (.ref a), some (.int (nI p)), some (.int (pa f)), none, none] [] h Q := by
  have hP6 := hd.w.1.2
  have hF4 := hd.f4
  have hT40 := (hd.w.2.1 p (by omega)).2
  refine wp_aload_n dX2_layMarked_0 rfl rfl ?_
  refine wp_aload_n dX2_layMarked_1 rfl rfl ?_
  refine wp_iload_n dX2_layMarked_2 rfl rfl ?_
  refine wp_cV1 0 0 [some _, some _] dX2_layMarked_3 tX8_pageAt rfl (by decide) nX8_pageAt vX8_pageAt lX2_38 ⟨by decide, by decide⟩ (Nat.le_of_ble_eq_true rfl) s9.oo (Nat.le_of_ble_eq_true rfl) rfl ?_
  refine pX8_pageAt s9 hP6 (fun p1 q1 hp1 ep1 pg1 => ?_) (fun xn1 => absurd xn1 (by rw [ix_nI (by omega) (by omega)]; exact fun z => by cases z))
  have ep1 := (nI_eq (by omega) (by omega)).mp ep1
  subst ep1
  intro _ _
  refine wp_iconst (v := (-1)) dX2_layMarked_6 (by decide +kernel) ?_
  refine wp_cV2 1 24 [some _, some _, some _, none, none, none] dX2_layMarked_7 tX2_lay rfl (by decide) nX2_lay vX2_lay lX2_44 ⟨by decide, by decide⟩ (Nat.le_of_ble_eq_true rfl) zg.o (Nat.le_of_ble_eq_true rfl) rfl ?_
  refine pX2_lay zg hd (by omega) pg1 (fun hh2 pl2 f2 zg_2 gp2 => ?_)
  intro _ _
  have s9_2 := s9.fr f2 (rnS (by omega) rn0) (rnS (by omega) rn0)
  have pg1_2 := pg1.fr f2 (rnS (by omega) rn0)
  refine wp_iload_n dX2_layMarked_10 rfl rfl ?_
  refine wp_iconst (v := (-1)) dX2_layMarked_11 (by decide +kernel) ?_
  rcases hd.par f hf with e8 | ⟨g, hg, e8, _⟩
  · refine wp_icmp_eq dX2_layMarked_12 (fun _ => ?_) (fun q => absurd e8 q)
    refine wp_vreturn dX2_layMarked_83 rfl ?_
    exact hq _ _ (f2.up (by decide) (Nat.le_refl _)) (by rw [(rg_t e8).1, (rg_t e8).2, ← row1 hT40]; exact zg_2) gp2
  · rw [e8]
    refine wp_icmp_eq dX2_layMarked_12 (fun q => absurd q (nI_ne_m1 (by omega))) (fun _ => ?_)
    refine wp_iload_n dX2_layMarked_15 rfl rfl ?_
    refine wp_iload_n dX2_layMarked_16 rfl rfl ?_
    refine wp_cSN2 0 0 [some _, some _] dX2_layMarked_17 tX11_spotOf sX11_spotOf lX2_48 ⟨by decide, by decide⟩ (Nat.le_of_ble_eq_true rfl) (Nat.le_of_ble_eq_true rfl) rfl ?_
    refine pX11_spotOf ?_
    intro _ _
    refine wp_istore (ls1 := [_, _, _, _, some _, _]) dX2_layMarked_20 (by decide) rfl ?_
    refine wp_aload_n dX2_layMarked_22 rfl rfl ?_
    refine wp_getR dX2_layMarked_23 lX2_52 rfl s9_2.oo s9_2.r2 ?_
    refine wp_iload dX2_layMarked_26 rfl ?_
    refine wp_laldV dX2_layMarked_28 s9_2.a2 rfl ⟨by omega, by omega⟩ (s9_2.c2 (by omega) (by omega)) ?_
    refine wp_lconst (v := 0) dX2_layMarked_29 (by decide +kernel) ?_
    refine wp_lc_eq dX2_layMarked_30 dX2_layMarked_31 (fun c2 => ?_) (fun c2 => ?_)
    · have hmg : rM r g p = 0 := (bsA0 hd (by omega) (by omega)).mp ((lN0 (bsA_lt hd (by omega) (by omega)).1).mp (by assumption))
      refine wp_iconst (v := (nI 0)) dX2_layMarked_38 (by decide +kernel) ?_
      refine wp_istore (ls1 := [_, _, _, _, _, some _]) dX2_layMarked_39 (by decide) rfl ?_
      refine wp_aload_n dX2_layMarked_41 rfl rfl ?_
      refine wp_iload dX2_layMarked_42 rfl ?_
      refine wp_if_eq dX2_layMarked_44 (fun _ => ?_) (fun q => absurd q (by decide +kernel))
      refine wp_iconst (v := (nI 0)) dX2_layMarked_60 (by decide +kernel) ?_
      refine wp_iload dX2_layMarked_61 rfl ?_
      refine wp_if_eq dX2_layMarked_63 (fun _ => ?_) (fun q => absurd q (by decide +kernel))
      refine wp_iconst (v := (nI 0)) dX2_layMarked_79 (by decide +kernel) ?_
      refine wp_cV2 0 0 [some _, some _, some _] dX2_layMarked_80 tX2_within rfl (by decide) nX2_within vX2_within lX2_35 ⟨by decide, by decide⟩ (Nat.le_of_ble_eq_true rfl) zg_2.o (Nat.le_of_ble_eq_true rfl) rfl ?_
      refine pX2_within zg_2 (fun hh3 f3 zg_3 => ?_)
      intro _ _
      have s9_3 := s9_2.fr f3 (rnS (by omega) rn0) (rnS (by omega) rn0)
      have pg1_3 := pg1_2.fr f3 (rnS (by omega) rn0)
      refine wp_vreturn dX2_layMarked_83 rfl ?_
      exact hq _ _ ((f2.up (by decide) (Nat.le_refl _)).tr (f3.up (by decide) (Nat.le_refl _))) (by rw [(rg_p e8 (by omega)).1, (rg_p e8 (by omega)).2, (hd.zA g p 0 (by omega) (by omega) (by decide) (by omega)).1, (hd.zA g p 0 (by omega) (by omega) (by decide) (by omega)).2]; exact zg_3) gp2
    · have hmg : 0 < rM r g p := Nat.pos_of_ne_zero (fun z => (by assumption : ¬ _ = _) ((lN0 (bsA_lt hd (by omega) (by omega)).1).mpr ((bsA0 hd (by omega) (by omega)).mpr z)))
      refine wp_iconst (v := (nI 1)) dX2_layMarked_34 (by decide +kernel) ?_
      refine wp_goto dX2_layMarked_35 ?_
      refine wp_istore (ls1 := [_, _, _, _, _, some _]) dX2_layMarked_39 (by decide) rfl ?_
      refine wp_aload_n dX2_layMarked_41 rfl rfl ?_
      refine wp_iload dX2_layMarked_42 rfl ?_
      refine wp_if_eq dX2_layMarked_44 (fun q => absurd q (by decide +kernel)) (fun _ => ?_)
      refine wp_aload_n dX2_layMarked_47 rfl rfl ?_
      refine wp_getR dX2_layMarked_48 lX2_52 rfl s9_2.oo s9_2.r2 ?_
      refine wp_iload dX2_layMarked_51 rfl ?_
      refine wp_laldV dX2_layMarked_53 s9_2.a2 rfl ⟨by omega, by omega⟩ (s9_2.c2 (by omega) (by omega)) ?_
      refine wp_cSN1 1 21 [some _, none] dX2_layMarked_54 tX11_lowest sX11_lowest lX2_55 ⟨by decide, by decide⟩ (Nat.le_of_ble_eq_true rfl) (Nat.le_of_ble_eq_true rfl) rfl ?_
      refine pX11_lowest (bsA_lt hd (by omega) (by omega)).1 ?_
      intro _ _
      rw [(lwA hd (by omega) (by omega) hmg)]
      refine wp_goto dX2_layMarked_57 ?_
      refine wp_iload dX2_layMarked_61 rfl ?_
      refine wp_if_eq dX2_layMarked_63 (fun q => absurd q (by decide +kernel)) (fun _ => ?_)
      refine wp_aload_n dX2_layMarked_66 rfl rfl ?_
      refine wp_getR dX2_layMarked_67 lX2_59 rfl s9_2.oo s9_2.r3 ?_
      refine wp_iload dX2_layMarked_70 rfl ?_
      refine wp_laldV dX2_layMarked_72 s9_2.a3 rfl ⟨by omega, by omega⟩ (s9_2.c3 (by omega) (by omega)) ?_
      refine wp_cSN1 1 21 [some _, none] dX2_layMarked_73 tX11_lowest sX11_lowest lX2_55 ⟨by decide, by decide⟩ (Nat.le_of_ble_eq_true rfl) (Nat.le_of_ble_eq_true rfl) rfl ?_
      refine pX11_lowest (bsA_lt hd (by omega) (by omega)).2 ?_
      intro _ _
      rw [(lwE hd (by omega) (by omega) hmg)]
      refine wp_goto dX2_layMarked_76 ?_
      refine wp_cV2 0 0 [some _, some _, some _] dX2_layMarked_80 tX2_within rfl (by decide) nX2_within vX2_within lX2_35 ⟨by decide, by decide⟩ (Nat.le_of_ble_eq_true rfl) zg_2.o (Nat.le_of_ble_eq_true rfl) rfl ?_
      refine pX2_within zg_2 (fun hh4 f4 zg_4 => ?_)
      intro _ _
      have s9_4 := s9_2.fr f4 (rnS (by omega) rn0) (rnS (by omega) rn0)
      have pg1_4 := pg1_2.fr f4 (rnS (by omega) rn0)
      refine wp_vreturn dX2_layMarked_83 rfl ?_
      exact hq _ _ ((f2.up (by decide) (Nat.le_refl _)).tr (f4.up (by decide) (Nat.le_refl _))) (by rw [(rg_p e8 (by omega)).1, (rg_p e8 (by omega)).2]; exact zg_4) gp2
