/-! ===== the ground: where items stand, what a rule cuts ===== -/
def gP (pl : Nat → Int64) (P : Int32 → Nat → Bool) (len : Nat) : Prop := ∀ it, it < 243 → ∃ b, pl it = lN b ∧ b < 2 ^ 63 ∧ ∀ j, b.testBit j = (decide (j < len) && P (nI it) j)
theorem cut1_a {P : Int32 → Nat → Bool} {a b : Nat} {far near sec stop : Int32} (h1 : (if far = -1 then some a else (fst1 (P far) a b).map (fun j => j + 1)) = none) : cut1 P a b far near sec stop = none := by
  unfold cut1
  rw [h1]
  rfl
theorem cut1_b {P : Int32 → Nat → Bool} {a b k1 : Nat} {far near sec stop : Int32} (h1 : (if far = -1 then some a else (fst1 (P far) a b).map (fun j => j + 1)) = some k1) (h2 : bhN P k1 b near sec = none) : cut1 P a b far near sec stop = none := by
  unfold cut1
  rw [h1]
  show (bhN P k1 b near sec).bind _ = _
  rw [h2]
  rfl
theorem cut1_c {P : Int32 → Nat → Bool} {a b k1 k2 : Nat} {far near sec stop : Int32} (h1 : (if far = -1 then some a else (fst1 (P far) a b).map (fun j => j + 1)) = some k1) (h2 : bhN P k1 b near sec = some k2) (h3 : b ≤ k2) : cut1 P a b far near sec stop = none := by
  unfold cut1
  rw [h1]
  show (bhN P k1 b near sec).bind _ = _
  rw [h2]
  exact if_neg (by omega)
theorem cut1_d {P : Int32 → Nat → Bool} {a b k1 k2 : Nat} {far near sec stop : Int32} (h1 : (if far = -1 then some a else (fst1 (P far) a b).map (fun j => j + 1)) = some k1) (h2 : bhN P k1 b near sec = some k2) (h3 : (if stop = -1 then some b else fst1 (P stop) (k2 + 1) b) = none) : cut1 P a b far near sec stop = none := by
  unfold cut1
  rw [h1]
  show (bhN P k1 b near sec).bind _ = _
  rw [h2]
  show (if k2 < b then (if stop = -1 then some b else fst1 (P stop) (k2 + 1) b).map (fun e => (k2, e)) else none) = _
  rw [h3]
  exact ite_self _
theorem cut1_e {P : Int32 → Nat → Bool} {a b k1 k2 e : Nat} {far near sec stop : Int32} (h1 : (if far = -1 then some a else (fst1 (P far) a b).map (fun j => j + 1)) = some k1) (h2 : bhN P k1 b near sec = some k2) (h4 : k2 < b) (h3 : (if stop = -1 then some b else fst1 (P stop) (k2 + 1) b) = some e) : cut1 P a b far near sec stop = some (k2, e) := by
  unfold cut1
  rw [h1]
  show (bhN P k1 b near sec).bind _ = _
  rw [h2]
  show (if k2 < b then (if stop = -1 then some b else fst1 (P stop) (k2 + 1) b).map (fun e => (k2, e)) else none) = _
  rw [h3, if_pos h4]
  rfl
theorem fa_n {P : Int32 → Nat → Bool} {a b c : Nat} {far : Int32} (e : far = nI c) (hc : c < 243) (h : fst1 (P (nI c)) a b = none) : (if far = -1 then some a else (fst1 (P far) a b).map (fun j => j + 1)) = none := by
  rw [e, if_neg (nI_ne_m1 (by omega)), h]
  rfl
theorem fa_s {P : Int32 → Nat → Bool} {a b c j : Nat} {far : Int32} (e : far = nI c) (hc : c < 243) (h : fst1 (P (nI c)) a b = some j) : (if far = -1 then some a else (fst1 (P far) a b).map (fun j => j + 1)) = some (j + 1) := by
  rw [e, if_neg (nI_ne_m1 (by omega)), h]
  rfl
theorem bh_0 {P : Int32 → Nat → Bool} {k b : Nat} {near sec : Int32} (e : near = -1) : bhN P k b near sec = some k := if_pos e
theorem bh_1 {P : Int32 → Nat → Bool} {k b c : Nat} {near sec : Int32} (e : near = nI c) (hc : c < 243) (e2 : sec = -1) : bhN P k b near sec = (fst1 (P (nI c)) k b).map (fun j => j + 1) := by
  unfold bhN
  rw [e, if_neg (nI_ne_m1 (by omega)), if_pos e2]
theorem bh_2 {P : Int32 → Nat → Bool} {k b c d : Nat} {near sec : Int32} (e : near = nI c) (hc : c < 243) (e2 : sec = nI d) (hd : d < 243) : bhN P k b near sec = (fst1 (fun j => P (nI c) j && P (nI d) (j + 1)) k (b - 1)).map (fun j => j + 2) := by
  unfold bhN
  rw [e, if_neg (nI_ne_m1 (by omega)), e2, if_neg (nI_ne_m1 (by omega))]
theorem st_n {P : Int32 → Nat → Bool} {a b c : Nat} {stop : Int32} (e : stop = nI c) (hc : c < 243) : (if stop = -1 then some b else fst1 (P stop) a b) = fst1 (P (nI c)) a b := by
  rw [e, if_neg (nI_ne_m1 (by omega))]
theorem some_of {α : Type} {x : Option α} (h : ¬ x = none) : ∃ j, x = some j := by
  cases x with
  | none => exact absurd rfl h
  | some j => exact ⟨j, rfl⟩
theorem lwB_pow {e : Nat} (he : e < 63) : lwB (2 ^ e) = e := by
  have := lwB_odd (a := e) (m := 0) (by omega)
  rwa [Nat.mul_zero, Nat.zero_add, Nat.mul_one] at this
theorem and2_tb {b c s e : Nat} {P R : Nat → Bool} (h1 : ∀ j, b.testBit j = (P j && decide (s ≤ j ∧ j < e))) (h2 : ∀ j, c.testBit j = (R j && decide (s ≤ j ∧ j < e))) (j : Nat) : (b &&& c / 2 ^ 1).testBit j = ((P j && R (j + 1)) && decide (s ≤ j ∧ j < e - 1)) := by
  rw [Nat.testBit_and, Nat.testBit_div_two_pow, h1, h2]
  by_cases z : s ≤ j ∧ j < e - 1
  · rw [decide_eq_true z, decide_eq_true (show s ≤ j ∧ j < e by omega), decide_eq_true (show s ≤ j + 1 ∧ j + 1 < e by omega), Bool.and_true, Bool.and_true, Bool.and_true]
  · rw [decide_eq_false z, Bool.and_false]
    by_cases w : s ≤ j ∧ j < e
    · rw [decide_eq_false (show ¬ (s ≤ j + 1 ∧ j + 1 < e) by omega), Bool.and_false, Bool.and_false]
    · rw [decide_eq_false w, Bool.and_false, Bool.false_and]
theorem pX11_itemOf2 {h : mH} {Q : Option Value → mH → Prop} {k w : Nat} (hk : k < 1099511627776) (hw : w < 4) (h1 : itm (kI k w) = -1 → Q (some (.int (-1))) h) (h2 : ∀ c, c + 1 = kI k w → itm (kI k w) = nI c → Q (some (.int (nI c))) h) : Wp mX11_itemOf 0 0 0 [some (.long (lN k)), none, some (.int (nI w))] [] h Q := by
  refine pX11_itemOf hk hw ?_
  rcases itm_cases (kI_lt k w) with ⟨e1, e2⟩ | ⟨e1, e2⟩
  · rw [e2]
    exact h1 e2
  · rw [e2]
    exact h2 (kI k w - 1) (by omega) e2
theorem sp_lt {s e : Nat} (he : e < 63) : 2 ^ e - 2 ^ s < 2 ^ 64 := Nat.lt_of_le_of_lt (Nat.sub_le _ _) (Nat.pow_lt_pow_right (by decide) (by omega))
theorem sp_e {s e len j : Nat} {p : Bool} (he : e ≤ len) : ((decide (j < len) && p) && decide (s ≤ j ∧ j < e)) = (p && decide (s ≤ j ∧ j < e)) := by
  by_cases z : s ≤ j ∧ j < e
  · rw [decide_eq_true z, decide_eq_true (show j < len by omega), Bool.true_and]
  · rw [decide_eq_false z, Bool.and_false, Bool.and_false]
set_option maxRecDepth 20000 in
theorem pX2_standing {h : mH} {Q : Option Value → mH → Prop} {ow : Nat → Nat} {pl : Nat → Int64} {gb : Int32} {gs gn : Int64} {gf gt : Int32} {P : Int32 → Nat → Bool} {len e it s : Nat} (zg : zG ow h pl gb (nI e) gs gn gf gt) (hP : gP pl P len) (he : e ≤ len) (hl : len ≤ 40) (hit : it < 243) (hs : s ≤ 70) (K : ∀ b, b < 2 ^ 63 → (∀ j, b.testBit j = (P (nI it) j && decide (s ≤ j ∧ j < e))) → Q (some (.long (lN b))) h) : Wp mX2_standing 0 0 0 [some (.ref 115), some (.int (nI it)), some (.int (nI s))] [] h Q := by
  obtain ⟨b, eb, hb, tb⟩ := hP it hit
  refine wp_iload_n dX2_standing_0 rfl rfl ?_
  refine wp_if_lt dX2_standing_1 (fun q => absurd q (nI_pos (by omega))) (fun _ => ?_)
  refine wp_iload_n dX2_standing_4 rfl rfl ?_
  refine wp_sipush (v := (nI 243)) dX2_standing_5 (by decide +kernel) ?_
  refine wp_icmp_geN dX2_standing_8 rfl rfl ⟨by omega, by omega⟩ (fun c4 => ?_) (fun c4 => ?_)
  · refine wp_lconst (v := 0) dX2_standing_19 (by decide +kernel) ?_
    refine wp_lreturn dX2_standing_20 rfl ?_
    exact K 0 (by decide) (fun j => by rw [Nat.zero_testBit, decide_eq_false (show ¬ (s ≤ j ∧ j < e) by omega), Bool.and_false])
  · refine wp_iload_n dX2_standing_11 rfl rfl ?_
    refine wp_aload_n dX2_standing_12 rfl rfl ?_
    refine wp_getIV dX2_standing_13 lX2_65 rfl zg.o zg.f2 ?_
    refine wp_icmp_ltN dX2_standing_16 rfl rfl ⟨by omega, by omega⟩ (fun c6 => ?_) (fun c6 => ?_)
    · refine wp_aload_n dX2_standing_21 rfl rfl ?_
      refine wp_getR dX2_standing_22 lX2_9 rfl zg.o zg.r0 ?_
      refine wp_iload_n dX2_standing_25 rfl rfl ?_
      refine wp_laldV dX2_standing_26 zg.a0 rfl ⟨by omega, by omega⟩ ((congrFun zg.c0 _).trans eb) ?_
      refine wp_lconst (v := 1) dX2_standing_27 (by decide +kernel) ?_
      refine wp_aload_n dX2_standing_28 rfl rfl ?_
      refine wp_getIV dX2_standing_29 lX2_65 rfl zg.o zg.f2 ?_
      refine wp_lshl dX2_standing_32 ?_
      refine wp_lconst (v := 1) dX2_standing_33 (by decide +kernel) ?_
      refine wp_iload_n dX2_standing_34 rfl rfl ?_
      refine wp_lshl dX2_standing_35 ?_
      refine wp_lsub dX2_standing_36 ?_
      refine wp_land dX2_standing_37 ?_
      refine wp_lreturn dX2_standing_38 rfl ?_
      rw [show (1 : Int64) = lN 1 from rfl, wb_shl 1 (by omega), wb_shl 1 (by omega), Nat.one_mul, Nat.one_mul, lN_sub (Nat.pow_le_pow_right (by decide) (by omega)), wb_and (by omega) (sp_lt (by omega))]
      exact K _ (Nat.lt_of_le_of_lt Nat.and_le_left hb) (fun j => by rw [Nat.testBit_and, tb, span_tb (by omega)]; exact sp_e (by omega))
    · refine wp_lconst (v := 0) dX2_standing_19 (by decide +kernel) ?_
      refine wp_lreturn dX2_standing_20 rfl ?_
      exact K 0 (by decide) (fun j => by rw [Nat.zero_testBit, decide_eq_false (show ¬ (s ≤ j ∧ j < e) by omega), Bool.and_false])
set_option maxRecDepth 20000 in
theorem pX2_findPart {h : mH} {Q : Option Value → mH → Prop} {ow : Nat → Nat} {pl : Nat → Int64} {gb : Int32} {gs gn : Int64} {gf gt : Int32} {P : Int32 → Nat → Bool} {len e k s : Nat} (zg : zG ow h pl gb (nI e) gs gn gf gt) (hP : gP pl P len) (he : e ≤ len) (hl : len ≤ 40) (hk : k < 1099511627776) (hcd : ∀ w, w < 4 → kI k w ≤ 243) (hs : s ≤ e) (hq1 : ∀ h' a b, cFr [1] 0 ow h ow h' → zG ow h' pl gb (nI e) gs gn (nI a) (nI b) → cut1 P s e (itm (kI k 0)) (itm (kI k 1)) (itm (kI k 2)) (itm (kI k 3)) = some (a, b) → Q (some (.int (nI 1))) h') (hq0 : ∀ h' gf gt, cFr [1] 0 ow h ow h' → zG ow h' pl gb (nI e) gs gn gf gt → cut1 P s e (itm (kI k 0)) (itm (kI k 1)) (itm (kI k 2)) (itm (kI k 3)) = none → Q (some (.int (nI 0))) h') : Wp mX2_findPart 2 42 0 [some (.ref 115), some (.long (lN k)), none, some (.int (nI s)), none, none, none, none, none] [] h Q := by
  refine wp_aload_n dX2_findPart_0 rfl rfl ?_
  refine wp_iload_n dX2_findPart_1 rfl rfl ?_
  refine wp_putI dX2_findPart_2 lX2_89 rfl (Or.inl rfl) zg.o rfl rfl ?_
  refine zg.p5 (fun hh1 f1 zg_1 => ?_)
  refine wp_lload_n dX2_findPart_5 rfl rfl ?_
  refine wp_iconst (v := (nI 0)) dX2_findPart_6 (by decide +kernel) ?_
  refine wp_cSN2 0 0 [some _, none, some _] dX2_findPart_7 tX11_itemOf sX11_itemOf lX2_92 ⟨by decide, by decide⟩ (Nat.le_of_ble_eq_true rfl) (Nat.le_of_ble_eq_true rfl) rfl ?_
  refine pX11_itemOf2 hk (by decide) (fun ei2 => ?_) (fun c2 hc2 ei2 => ?_)
  · intro _ _
    refine wp_istore (ls1 := [_, _, _, _, some _, _, _, _, _]) dX2_findPart_10 (by decide) rfl ?_
    refine wp_iload dX2_findPart_12 rfl ?_
    refine wp_iconst (v := (-1)) dX2_findPart_14 (by decide +kernel) ?_
    refine wp_icmp_eq dX2_findPart_15 (fun _ => ?_) (fun q => absurd (by decide +kernel) q)
    have hA3 : (if itm (kI k 0) = -1 then some s else (fst1 (P (itm (kI k 0))) s e).map (fun j => j + 1)) = some s := (if_pos ei2)
    refine wp_lload_n dX2_findPart_50 rfl rfl ?_
    refine wp_iconst (v := (nI 1)) dX2_findPart_51 (by decide +kernel) ?_
    refine wp_cSN2 0 0 [some _, none, some _] dX2_findPart_52 tX11_itemOf sX11_itemOf lX2_92 ⟨by decide, by decide⟩ (Nat.le_of_ble_eq_true rfl) (Nat.le_of_ble_eq_true rfl) rfl ?_
    refine pX11_itemOf2 hk (by decide) (fun ei4 => ?_) (fun c4 hc4 ei4 => ?_)
    · intro _ _
      refine wp_istore (ls1 := [_, _, _, _, _, some _, _, _, _]) dX2_findPart_55 (by decide) rfl ?_
      refine wp_iload dX2_findPart_57 rfl ?_
      refine wp_iconst (v := (-1)) dX2_findPart_59 (by decide +kernel) ?_
      refine wp_icmp_eq dX2_findPart_60 (fun _ => ?_) (fun q => absurd (by decide +kernel) q)
      have hB5 : bhN P s e (itm (kI k 1)) (itm (kI k 2)) = some s := bh_0 ei4
      refine wp_lload_n dX2_findPart_135 rfl rfl ?_
      refine wp_iconst (v := (nI 3)) dX2_findPart_136 (by decide +kernel) ?_
      refine wp_cSN2 0 0 [some _, none, some _] dX2_findPart_137 tX11_itemOf sX11_itemOf lX2_92 ⟨by decide, by decide⟩ (Nat.le_of_ble_eq_true rfl) (Nat.le_of_ble_eq_true rfl) rfl ?_
      refine pX11_itemOf2 hk (by decide) (fun ei6 => ?_) (fun c6 hc6 ei6 => ?_)
      · intro _ _
        refine wp_istore (ls1 := [_, _, _, _, _, _, some _, _, _]) dX2_findPart_140 (by decide) rfl ?_
        refine wp_iload dX2_findPart_142 rfl ?_
        refine wp_iconst (v := (-1)) dX2_findPart_144 (by decide +kernel) ?_
        refine wp_icmp_ne dX2_findPart_145 (fun q => absurd q (by decide +kernel)) (fun _ => ?_)
        refine wp_lconst (v := 1) dX2_findPart_148 (by decide +kernel) ?_
        refine wp_aload_n dX2_findPart_149 rfl rfl ?_
        refine wp_getIV dX2_findPart_150 lX2_65 rfl zg_1.o zg_1.f2 ?_
        refine wp_lshl dX2_findPart_153 ?_
        refine wp_goto dX2_findPart_154 ?_
        rw [show (1 : Int64) = lN 1 from rfl, wb_shl 1 (by omega), Nat.one_mul]
        refine wp_lstore (ls1 := [_, _, _, _, _, _, _, some _, _]) dX2_findPart_169 (by decide) rfl ?_
        refine wp_aload_n dX2_findPart_171 rfl rfl ?_
        refine wp_lload dX2_findPart_172 rfl ?_
        refine wp_cSN1 1 21 [some _, none] dX2_findPart_174 tX11_lowest sX11_lowest lX2_55 ⟨by decide, by decide⟩ (Nat.le_of_ble_eq_true rfl) (Nat.le_of_ble_eq_true rfl) rfl ?_
        refine pX11_lowest (Nat.pow_lt_pow_right (by decide) (by omega)) ?_
        intro _ _
        rw [lwB_pow (by omega)]
        refine wp_putI dX2_findPart_177 lX2_82 rfl (Or.inl rfl) zg_1.o rfl rfl ?_
        refine zg_1.p6 (fun hh7 f7 zg_7 => ?_)
        refine wp_aload_n dX2_findPart_180 rfl rfl ?_
        refine wp_getIV dX2_findPart_181 lX2_89 rfl zg_7.o zg_7.f5 ?_
        refine wp_aload_n dX2_findPart_184 rfl rfl ?_
        refine wp_getIV dX2_findPart_185 lX2_65 rfl zg_7.o zg_7.f2 ?_
        refine wp_icmp_geN dX2_findPart_188 rfl rfl ⟨by omega, by omega⟩ (fun c5 => ?_) (fun c5 => ?_)
        · refine wp_iconst (v := (nI 0)) dX2_findPart_202 (by decide +kernel) ?_
          refine wp_zreturn dX2_findPart_203 rfl (by first | exact Or.inl rfl | exact Or.inr rfl) ?_
          exact hq0 _ _ _ ((f1.up (by decide) (Nat.le_refl _)).tr (f7.up (by decide) (Nat.le_refl _))) zg_7 (by first | exact cut1_c hA3 hB5 (by omega) | exact absurd (by assumption : lN (2 ^ e) = 0) (fun z => absurd ((lN0 (Nat.pow_lt_pow_right (by decide) (by omega))).mp z) (Nat.ne_of_gt (Nat.two_pow_pos e))))
        · refine wp_lload dX2_findPart_191 rfl ?_
          refine wp_lconst (v := 0) dX2_findPart_193 (by decide +kernel) ?_
          refine wp_lc_eq dX2_findPart_194 dX2_findPart_195 (fun c6 => ?_) (fun c6 => ?_)
          · refine wp_iconst (v := (nI 0)) dX2_findPart_202 (by decide +kernel) ?_
            refine wp_zreturn dX2_findPart_203 rfl (by first | exact Or.inl rfl | exact Or.inr rfl) ?_
            exact hq0 _ _ _ ((f1.up (by decide) (Nat.le_refl _)).tr (f7.up (by decide) (Nat.le_refl _))) zg_7 (by first | exact cut1_c hA3 hB5 (by omega) | exact absurd (by assumption : lN (2 ^ e) = 0) (fun z => absurd ((lN0 (Nat.pow_lt_pow_right (by decide) (by omega))).mp z) (Nat.ne_of_gt (Nat.two_pow_pos e))))
          · refine wp_iconst (v := (nI 1)) dX2_findPart_198 (by decide +kernel) ?_
            refine wp_goto dX2_findPart_199 ?_
            refine wp_zreturn dX2_findPart_203 rfl (by first | exact Or.inl rfl | exact Or.inr rfl) ?_
            exact hq1 _ _ _ ((f1.up (by decide) (Nat.le_refl _)).tr (f7.up (by decide) (Nat.le_refl _))) zg_7 (cut1_e hA3 hB5 (by omega) (if_pos ei6))
      · have hc6 : c6 < 243 := by have := hcd 3 (by decide); omega
        intro _ _
        refine wp_istore (ls1 := [_, _, _, _, _, _, some _, _, _]) dX2_findPart_140 (by decide) rfl ?_
        refine wp_iload dX2_findPart_142 rfl ?_
        refine wp_iconst (v := (-1)) dX2_findPart_144 (by decide +kernel) ?_
        refine wp_icmp_ne dX2_findPart_145 (fun _ => ?_) (fun q => absurd q (nI_ne_m1 (by omega)))
        refine wp_aload_n dX2_findPart_157 rfl rfl ?_
        refine wp_iload dX2_findPart_158 rfl ?_
        refine wp_aload_n dX2_findPart_160 rfl rfl ?_
        refine wp_getIV dX2_findPart_161 lX2_89 rfl zg_1.o zg_1.f5 ?_
        refine wp_iconst (v := (nI 1)) dX2_findPart_164 (by decide +kernel) ?_
        refine wp_iadd dX2_findPart_165 ?_
        refine wp_cV2 0 0 [some _, some _, some _] dX2_findPart_166 tX2_standing rfl (by decide) nX2_standing vX2_standing lX2_96 ⟨by decide, by decide⟩ (Nat.le_of_ble_eq_true rfl) zg_1.o (Nat.le_of_ble_eq_true rfl) rfl ?_
        rw [nI_add]
        refine pX2_standing zg_1 hP he hl (by omega) (by omega) (fun b8 hb8 tb8 => ?_)
        intro _ _
        have mk8 := lwB_mask (show e ≤ 64 by omega) tb8
        refine wp_lstore (ls1 := [_, _, _, _, _, _, _, some _, _]) dX2_findPart_169 (by decide) rfl ?_
        refine wp_aload_n dX2_findPart_171 rfl rfl ?_
        refine wp_lload dX2_findPart_172 rfl ?_
        refine wp_cSN1 1 21 [some _, none] dX2_findPart_174 tX11_lowest sX11_lowest lX2_55 ⟨by decide, by decide⟩ (Nat.le_of_ble_eq_true rfl) (Nat.le_of_ble_eq_true rfl) rfl ?_
        refine pX11_lowest hb8 ?_
        intro _ _
        have ll9 := lwB_le b8
        refine wp_putI dX2_findPart_177 lX2_82 rfl (Or.inl rfl) zg_1.o rfl rfl ?_
        refine zg_1.p6 (fun hh9 f9 zg_9 => ?_)
        refine wp_aload_n dX2_findPart_180 rfl rfl ?_
        refine wp_getIV dX2_findPart_181 lX2_89 rfl zg_9.o zg_9.f5 ?_
        refine wp_aload_n dX2_findPart_184 rfl rfl ?_
        refine wp_getIV dX2_findPart_185 lX2_65 rfl zg_9.o zg_9.f2 ?_
        refine wp_icmp_geN dX2_findPart_188 rfl rfl ⟨by omega, by omega⟩ (fun c9 => ?_) (fun c9 => ?_)
        · refine wp_iconst (v := (nI 0)) dX2_findPart_202 (by decide +kernel) ?_
          refine wp_zreturn dX2_findPart_203 rfl (by first | exact Or.inl rfl | exact Or.inr rfl) ?_
          exact hq0 _ _ _ ((f1.up (by decide) (Nat.le_refl _)).tr (f9.up (by decide) (Nat.le_refl _))) zg_9 (by first | exact cut1_c hA3 hB5 (by omega) | exact cut1_d hA3 hB5 ((st_n ei6 (by omega)).trans (mk8.1.mp ((lN0 hb8).mp (by assumption)))))
        · refine wp_lload dX2_findPart_191 rfl ?_
          refine wp_lconst (v := 0) dX2_findPart_193 (by decide +kernel) ?_
          refine wp_lc_eq dX2_findPart_194 dX2_findPart_195 (fun c10 => ?_) (fun c10 => ?_)
          · refine wp_iconst (v := (nI 0)) dX2_findPart_202 (by decide +kernel) ?_
            refine wp_zreturn dX2_findPart_203 rfl (by first | exact Or.inl rfl | exact Or.inr rfl) ?_
            exact hq0 _ _ _ ((f1.up (by decide) (Nat.le_refl _)).tr (f9.up (by decide) (Nat.le_refl _))) zg_9 (by first | exact cut1_c hA3 hB5 (by omega) | exact cut1_d hA3 hB5 ((st_n ei6 (by omega)).trans (mk8.1.mp ((lN0 hb8).mp (by assumption)))))
          · refine wp_iconst (v := (nI 1)) dX2_findPart_198 (by decide +kernel) ?_
            refine wp_goto dX2_findPart_199 ?_
            refine wp_zreturn dX2_findPart_203 rfl (by first | exact Or.inl rfl | exact Or.inr rfl) ?_
            obtain ⟨j8, hj8⟩ := some_of (fun z => (by assumption : ¬ lN b8 = 0) ((lN0 hb8).mpr (mk8.1.mpr z)))
            refine hq1 _ _ j8 ((f1.up (by decide) (Nat.le_refl _)).tr (f9.up (by decide) (Nat.le_refl _))) (mk8.2 _ hj8 ▸ zg_9) (cut1_e hA3 hB5 (by omega) ((st_n ei6 (by omega)).trans hj8))
    · have hc4 : c4 < 243 := by have := hcd 1 (by decide); omega
      intro _ _
      refine wp_istore (ls1 := [_, _, _, _, _, some _, _, _, _]) dX2_findPart_55 (by decide) rfl ?_
      refine wp_iload dX2_findPart_57 rfl ?_
      refine wp_iconst (v := (-1)) dX2_findPart_59 (by decide +kernel) ?_
      refine wp_icmp_eq dX2_findPart_60 (fun q => absurd q (nI_ne_m1 (by omega))) (fun _ => ?_)
      refine wp_lload_n dX2_findPart_63 rfl rfl ?_
      refine wp_iconst (v := (nI 2)) dX2_findPart_64 (by decide +kernel) ?_
      refine wp_cSN2 0 0 [some _, none, some _] dX2_findPart_65 tX11_itemOf sX11_itemOf lX2_92 ⟨by decide, by decide⟩ (Nat.le_of_ble_eq_true rfl) (Nat.le_of_ble_eq_true rfl) rfl ?_
      refine pX11_itemOf2 hk (by decide) (fun ei10 => ?_) (fun c10 hc10 ei10 => ?_)
      · intro _ _
        refine wp_istore (ls1 := [_, _, _, _, _, _, some _, _, _]) dX2_findPart_68 (by decide) rfl ?_
        refine wp_aload_n dX2_findPart_70 rfl rfl ?_
        refine wp_iload dX2_findPart_71 rfl ?_
        refine wp_aload_n dX2_findPart_73 rfl rfl ?_
        refine wp_getIV dX2_findPart_74 lX2_89 rfl zg_1.o zg_1.f5 ?_
        refine wp_cV2 0 0 [some _, some _, some _] dX2_findPart_77 tX2_standing rfl (by decide) nX2_standing vX2_standing lX2_96 ⟨by decide, by decide⟩ (Nat.le_of_ble_eq_true rfl) zg_1.o (Nat.le_of_ble_eq_true rfl) rfl ?_
        refine pX2_standing zg_1 hP he hl (by omega) (by omega) (fun b11 hb11 tb11 => ?_)
        intro _ _
        have mk11 := lwB_mask (show e ≤ 64 by omega) tb11
        refine wp_lstore (ls1 := [_, _, _, _, _, _, _, some _, _]) dX2_findPart_80 (by decide) rfl ?_
        refine wp_iload dX2_findPart_82 rfl ?_
        refine wp_iconst (v := (-1)) dX2_findPart_84 (by decide +kernel) ?_
        refine wp_icmp_eq dX2_findPart_85 (fun _ => ?_) (fun q => absurd (by decide +kernel) q)
        refine wp_lload dX2_findPart_105 rfl ?_
        refine wp_lconst (v := 0) dX2_findPart_107 (by decide +kernel) ?_
        refine wp_lc_ne dX2_findPart_108 dX2_findPart_109 (fun c13 => ?_) (fun c13 => ?_)
        · obtain ⟨j9, hj9⟩ := some_of (fun z => (by assumption : ¬ lN b11 = 0) ((lN0 hb11).mpr (mk11.1.mpr z)))
          have hjb9 := (fst1_some hj9).2.1
          refine wp_aload_n dX2_findPart_114 rfl rfl ?_
          refine wp_lload dX2_findPart_115 rfl ?_
          refine wp_cSN1 1 21 [some _, none] dX2_findPart_117 tX11_lowest sX11_lowest lX2_55 ⟨by decide, by decide⟩ (Nat.le_of_ble_eq_true rfl) (Nat.le_of_ble_eq_true rfl) rfl ?_
          refine pX11_lowest hb11 ?_
          intro _ _
          rw [mk11.2 _ hj9]
          refine wp_iload dX2_findPart_120 rfl ?_
          refine wp_iconst (v := (-1)) dX2_findPart_122 (by decide +kernel) ?_
          refine wp_icmp_ne dX2_findPart_123 (fun q => absurd q (by decide +kernel)) (fun _ => ?_)
          refine wp_iconst (v := (nI 1)) dX2_findPart_126 (by decide +kernel) ?_
          refine wp_goto dX2_findPart_127 ?_
          refine wp_iadd dX2_findPart_131 ?_
          refine wp_putIN dX2_findPart_132 lX2_89 rfl rfl (Or.inl rfl) zg_1.o (isN_add rfl rfl) ?_
          refine zg_1.p5 (fun hh12 f12 zg_12 => ?_)
          have hB13 : bhN P s e (itm (kI k 1)) (itm (kI k 2)) = some (j9 + 1) := (bh_1 ei4 (by omega) ei10).trans (by rw [hj9]; rfl)
          refine wp_lload_n dX2_findPart_135 rfl rfl ?_
          refine wp_iconst (v := (nI 3)) dX2_findPart_136 (by decide +kernel) ?_
          refine wp_cSN2 0 0 [some _, none, some _] dX2_findPart_137 tX11_itemOf sX11_itemOf lX2_92 ⟨by decide, by decide⟩ (Nat.le_of_ble_eq_true rfl) (Nat.le_of_ble_eq_true rfl) rfl ?_
          refine pX11_itemOf2 hk (by decide) (fun ei14 => ?_) (fun c14 hc14 ei14 => ?_)
          · intro _ _
            refine wp_istore (ls1 := [_, _, _, _, _, _, some _, _, _]) dX2_findPart_140 (by decide) rfl ?_
            refine wp_iload dX2_findPart_142 rfl ?_
            refine wp_iconst (v := (-1)) dX2_findPart_144 (by decide +kernel) ?_
            refine wp_icmp_ne dX2_findPart_145 (fun q => absurd q (by decide +kernel)) (fun _ => ?_)
            refine wp_lconst (v := 1) dX2_findPart_148 (by decide +kernel) ?_
            refine wp_aload_n dX2_findPart_149 rfl rfl ?_
            refine wp_getIV dX2_findPart_150 lX2_65 rfl zg_12.o zg_12.f2 ?_
            refine wp_lshl dX2_findPart_153 ?_
            refine wp_goto dX2_findPart_154 ?_
            rw [show (1 : Int64) = lN 1 from rfl, wb_shl 1 (by omega), Nat.one_mul]
            refine wp_lstore (ls1 := [_, _, _, _, _, _, _, some _, _]) dX2_findPart_169 (by decide) rfl ?_
            refine wp_aload_n dX2_findPart_171 rfl rfl ?_
            refine wp_lload dX2_findPart_172 rfl ?_
            refine wp_cSN1 1 21 [some _, none] dX2_findPart_174 tX11_lowest sX11_lowest lX2_55 ⟨by decide, by decide⟩ (Nat.le_of_ble_eq_true rfl) (Nat.le_of_ble_eq_true rfl) rfl ?_
            refine pX11_lowest (Nat.pow_lt_pow_right (by decide) (by omega)) ?_
            intro _ _
            rw [lwB_pow (by omega)]
            refine wp_putI dX2_findPart_177 lX2_82 rfl (Or.inl rfl) zg_12.o rfl rfl ?_
            refine zg_12.p6 (fun hh15 f15 zg_15 => ?_)
            refine wp_aload_n dX2_findPart_180 rfl rfl ?_
            refine wp_getIV dX2_findPart_181 lX2_89 rfl zg_15.o zg_15.f5 ?_
            refine wp_aload_n dX2_findPart_184 rfl rfl ?_
            refine wp_getIV dX2_findPart_185 lX2_65 rfl zg_15.o zg_15.f2 ?_
            refine wp_icmp_geN dX2_findPart_188 rfl rfl ⟨by omega, by omega⟩ (fun c17 => ?_) (fun c17 => ?_)
            · refine wp_iconst (v := (nI 0)) dX2_findPart_202 (by decide +kernel) ?_
              refine wp_zreturn dX2_findPart_203 rfl (by first | exact Or.inl rfl | exact Or.inr rfl) ?_
              exact hq0 _ _ _ (((f1.up (by decide) (Nat.le_refl _)).tr (f12.up (by decide) (Nat.le_refl _))).tr (f15.up (by decide) (Nat.le_refl _))) zg_15 (by first | exact cut1_c hA3 hB13 (by omega) | exact absurd (by assumption : lN (2 ^ e) = 0) (fun z => absurd ((lN0 (Nat.pow_lt_pow_right (by decide) (by omega))).mp z) (Nat.ne_of_gt (Nat.two_pow_pos e))))
            · refine wp_lload dX2_findPart_191 rfl ?_
              refine wp_lconst (v := 0) dX2_findPart_193 (by decide +kernel) ?_
              refine wp_lc_eq dX2_findPart_194 dX2_findPart_195 (fun c18 => ?_) (fun c18 => ?_)
              · refine wp_iconst (v := (nI 0)) dX2_findPart_202 (by decide +kernel) ?_
                refine wp_zreturn dX2_findPart_203 rfl (by first | exact Or.inl rfl | exact Or.inr rfl) ?_
                exact hq0 _ _ _ (((f1.up (by decide) (Nat.le_refl _)).tr (f12.up (by decide) (Nat.le_refl _))).tr (f15.up (by decide) (Nat.le_refl _))) zg_15 (by first | exact cut1_c hA3 hB13 (by omega) | exact absurd (by assumption : lN (2 ^ e) = 0) (fun z => absurd ((lN0 (Nat.pow_lt_pow_right (by decide) (by omega))).mp z) (Nat.ne_of_gt (Nat.two_pow_pos e))))
              · refine wp_iconst (v := (nI 1)) dX2_findPart_198 (by decide +kernel) ?_
                refine wp_goto dX2_findPart_199 ?_
                refine wp_zreturn dX2_findPart_203 rfl (by first | exact Or.inl rfl | exact Or.inr rfl) ?_
                exact hq1 _ _ _ (((f1.up (by decide) (Nat.le_refl _)).tr (f12.up (by decide) (Nat.le_refl _))).tr (f15.up (by decide) (Nat.le_refl _))) zg_15 (cut1_e hA3 hB13 (by omega) (if_pos ei14))
          · have hc14 : c14 < 243 := by have := hcd 3 (by decide); omega
            intro _ _
            refine wp_istore (ls1 := [_, _, _, _, _, _, some _, _, _]) dX2_findPart_140 (by decide) rfl ?_
            refine wp_iload dX2_findPart_142 rfl ?_
            refine wp_iconst (v := (-1)) dX2_findPart_144 (by decide +kernel) ?_
            refine wp_icmp_ne dX2_findPart_145 (fun _ => ?_) (fun q => absurd q (nI_ne_m1 (by omega)))
            refine wp_aload_n dX2_findPart_157 rfl rfl ?_
            refine wp_iload dX2_findPart_158 rfl ?_
            refine wp_aload_n dX2_findPart_160 rfl rfl ?_
            refine wp_getIV dX2_findPart_161 lX2_89 rfl zg_12.o zg_12.f5 ?_
            refine wp_iconst (v := (nI 1)) dX2_findPart_164 (by decide +kernel) ?_
            refine wp_iadd dX2_findPart_165 ?_
            refine wp_cV2 0 0 [some _, some _, some _] dX2_findPart_166 tX2_standing rfl (by decide) nX2_standing vX2_standing lX2_96 ⟨by decide, by decide⟩ (Nat.le_of_ble_eq_true rfl) zg_12.o (Nat.le_of_ble_eq_true rfl) rfl ?_
            rw [nI_add]
            refine pX2_standing zg_12 hP he hl (by omega) (by omega) (fun b16 hb16 tb16 => ?_)
            intro _ _
            have mk16 := lwB_mask (show e ≤ 64 by omega) tb16
            refine wp_lstore (ls1 := [_, _, _, _, _, _, _, some _, _]) dX2_findPart_169 (by decide) rfl ?_
            refine wp_aload_n dX2_findPart_171 rfl rfl ?_
            refine wp_lload dX2_findPart_172 rfl ?_
            refine wp_cSN1 1 21 [some _, none] dX2_findPart_174 tX11_lowest sX11_lowest lX2_55 ⟨by decide, by decide⟩ (Nat.le_of_ble_eq_true rfl) (Nat.le_of_ble_eq_true rfl) rfl ?_
            refine pX11_lowest hb16 ?_
            intro _ _
            have ll9 := lwB_le b16
            refine wp_putI dX2_findPart_177 lX2_82 rfl (Or.inl rfl) zg_12.o rfl rfl ?_
            refine zg_12.p6 (fun hh17 f17 zg_17 => ?_)
            refine wp_aload_n dX2_findPart_180 rfl rfl ?_
            refine wp_getIV dX2_findPart_181 lX2_89 rfl zg_17.o zg_17.f5 ?_
            refine wp_aload_n dX2_findPart_184 rfl rfl ?_
            refine wp_getIV dX2_findPart_185 lX2_65 rfl zg_17.o zg_17.f2 ?_
            refine wp_icmp_geN dX2_findPart_188 rfl rfl ⟨by omega, by omega⟩ (fun c21 => ?_) (fun c21 => ?_)
            · refine wp_iconst (v := (nI 0)) dX2_findPart_202 (by decide +kernel) ?_
              refine wp_zreturn dX2_findPart_203 rfl (by first | exact Or.inl rfl | exact Or.inr rfl) ?_
              exact hq0 _ _ _ (((f1.up (by decide) (Nat.le_refl _)).tr (f12.up (by decide) (Nat.le_refl _))).tr (f17.up (by decide) (Nat.le_refl _))) zg_17 (by first | exact cut1_c hA3 hB13 (by omega) | exact cut1_d hA3 hB13 ((st_n ei14 (by omega)).trans (mk16.1.mp ((lN0 hb16).mp (by assumption)))))
            · refine wp_lload dX2_findPart_191 rfl ?_
              refine wp_lconst (v := 0) dX2_findPart_193 (by decide +kernel) ?_
              refine wp_lc_eq dX2_findPart_194 dX2_findPart_195 (fun c22 => ?_) (fun c22 => ?_)
              · refine wp_iconst (v := (nI 0)) dX2_findPart_202 (by decide +kernel) ?_
                refine wp_zreturn dX2_findPart_203 rfl (by first | exact Or.inl rfl | exact Or.inr rfl) ?_
                exact hq0 _ _ _ (((f1.up (by decide) (Nat.le_refl _)).tr (f12.up (by decide) (Nat.le_refl _))).tr (f17.up (by decide) (Nat.le_refl _))) zg_17 (by first | exact cut1_c hA3 hB13 (by omega) | exact cut1_d hA3 hB13 ((st_n ei14 (by omega)).trans (mk16.1.mp ((lN0 hb16).mp (by assumption)))))
              · refine wp_iconst (v := (nI 1)) dX2_findPart_198 (by decide +kernel) ?_
                refine wp_goto dX2_findPart_199 ?_
                refine wp_zreturn dX2_findPart_203 rfl (by first | exact Or.inl rfl | exact Or.inr rfl) ?_
                obtain ⟨j8, hj8⟩ := some_of (fun z => (by assumption : ¬ lN b16 = 0) ((lN0 hb16).mpr (mk16.1.mpr z)))
                refine hq1 _ _ j8 (((f1.up (by decide) (Nat.le_refl _)).tr (f12.up (by decide) (Nat.le_refl _))).tr (f17.up (by decide) (Nat.le_refl _))) (mk16.2 _ hj8 ▸ zg_17) (cut1_e hA3 hB13 (by omega) ((st_n ei14 (by omega)).trans hj8))
        · refine wp_iconst (v := (nI 0)) dX2_findPart_112 (by decide +kernel) ?_
          refine wp_zreturn dX2_findPart_113 rfl (by first | exact Or.inl rfl | exact Or.inr rfl) ?_
          exact hq0 _ _ _ (f1.up (by decide) (Nat.le_refl _)) zg_1 (cut1_b hA3 ((bh_1 ei4 (by omega) ei10).trans (by rw [mk11.1.mp ((lN0 hb11).mp (by assumption))]; rfl)))
      · have hc10 : c10 < 243 := by have := hcd 2 (by decide); omega
        intro _ _
        refine wp_istore (ls1 := [_, _, _, _, _, _, some _, _, _]) dX2_findPart_68 (by decide) rfl ?_
        refine wp_aload_n dX2_findPart_70 rfl rfl ?_
        refine wp_iload dX2_findPart_71 rfl ?_
        refine wp_aload_n dX2_findPart_73 rfl rfl ?_
        refine wp_getIV dX2_findPart_74 lX2_89 rfl zg_1.o zg_1.f5 ?_
        refine wp_cV2 0 0 [some _, some _, some _] dX2_findPart_77 tX2_standing rfl (by decide) nX2_standing vX2_standing lX2_96 ⟨by decide, by decide⟩ (Nat.le_of_ble_eq_true rfl) zg_1.o (Nat.le_of_ble_eq_true rfl) rfl ?_
        refine pX2_standing zg_1 hP he hl (by omega) (by omega) (fun b18 hb18 tb18 => ?_)
        intro _ _
        have mk18 := lwB_mask (show e ≤ 64 by omega) tb18
        refine wp_lstore (ls1 := [_, _, _, _, _, _, _, some _, _]) dX2_findPart_80 (by decide) rfl ?_
        refine wp_iload dX2_findPart_82 rfl ?_
        refine wp_iconst (v := (-1)) dX2_findPart_84 (by decide +kernel) ?_
        refine wp_icmp_eq dX2_findPart_85 (fun q => absurd q (nI_ne_m1 (by omega))) (fun _ => ?_)
        refine wp_lload dX2_findPart_88 rfl ?_
        refine wp_aload_n dX2_findPart_90 rfl rfl ?_
        refine wp_iload dX2_findPart_91 rfl ?_
        refine wp_aload_n dX2_findPart_93 rfl rfl ?_
        refine wp_getIV dX2_findPart_94 lX2_89 rfl zg_1.o zg_1.f5 ?_
        refine wp_cV2 0 0 [some _, some _, some _] dX2_findPart_97 tX2_standing rfl (by decide) nX2_standing vX2_standing lX2_96 ⟨by decide, by decide⟩ (Nat.le_of_ble_eq_true rfl) zg_1.o (Nat.le_of_ble_eq_true rfl) rfl ?_
        refine pX2_standing zg_1 hP he hl (by omega) (by omega) (fun b19 hb19 tb19 => ?_)
        intro _ _
        have mk19 := lwB_mask (show e ≤ 64 by omega) tb19
        refine wp_iconst (v := (nI 1)) dX2_findPart_100 (by decide +kernel) ?_
        refine wp_lushr dX2_findPart_101 ?_
        refine wp_land dX2_findPart_102 ?_
        rw [wb_shr (by omega) (by decide), wb_and (by omega) (Nat.lt_of_le_of_lt (Nat.div_le_self _ _) (by omega))]
        have mk9 := lwB_mask (show e - 1 ≤ 64 by omega) (and2_tb tb18 tb19)
        have hb9 : b18 &&& b19 / 2 ^ 1 < 2 ^ 63 := Nat.lt_of_le_of_lt Nat.and_le_left hb18
        refine wp_lstore (ls1 := [_, _, _, _, _, _, _, some _, _]) dX2_findPart_103 (by decide) rfl ?_
        refine wp_lload dX2_findPart_105 rfl ?_
        refine wp_lconst (v := 0) dX2_findPart_107 (by decide +kernel) ?_
        refine wp_lc_ne dX2_findPart_108 dX2_findPart_109 (fun c24 => ?_) (fun c24 => ?_)
        · obtain ⟨j9, hj9⟩ := some_of (fun z => (by assumption : ¬ lN (b18 &&& b19 / 2 ^ 1) = 0) ((lN0 hb9).mpr (mk9.1.mpr z)))
          have hjb9 := (fst1_some hj9).2.1
          refine wp_aload_n dX2_findPart_114 rfl rfl ?_
          refine wp_lload dX2_findPart_115 rfl ?_
          refine wp_cSN1 1 21 [some _, none] dX2_findPart_117 tX11_lowest sX11_lowest lX2_55 ⟨by decide, by decide⟩ (Nat.le_of_ble_eq_true rfl) (Nat.le_of_ble_eq_true rfl) rfl ?_
          refine pX11_lowest hb9 ?_
          intro _ _
          rw [mk9.2 _ hj9]
          refine wp_iload dX2_findPart_120 rfl ?_
          refine wp_iconst (v := (-1)) dX2_findPart_122 (by decide +kernel) ?_
          refine wp_icmp_ne dX2_findPart_123 (fun _ => ?_) (fun q => absurd q (nI_ne_m1 (by omega)))
          refine wp_iconst (v := (nI 2)) dX2_findPart_130 (by decide +kernel) ?_
          refine wp_iadd dX2_findPart_131 ?_
          refine wp_putIN dX2_findPart_132 lX2_89 rfl rfl (Or.inl rfl) zg_1.o (isN_add rfl rfl) ?_
          refine zg_1.p5 (fun hh20 f20 zg_20 => ?_)
          have hB21 : bhN P s e (itm (kI k 1)) (itm (kI k 2)) = some (j9 + 2) := (bh_2 ei4 (by omega) ei10 (by omega)).trans (by rw [hj9]; rfl)
          refine wp_lload_n dX2_findPart_135 rfl rfl ?_
          refine wp_iconst (v := (nI 3)) dX2_findPart_136 (by decide +kernel) ?_
          refine wp_cSN2 0 0 [some _, none, some _] dX2_findPart_137 tX11_itemOf sX11_itemOf lX2_92 ⟨by decide, by decide⟩ (Nat.le_of_ble_eq_true rfl) (Nat.le_of_ble_eq_true rfl) rfl ?_
          refine pX11_itemOf2 hk (by decide) (fun ei22 => ?_) (fun c22 hc22 ei22 => ?_)
          · intro _ _
            refine wp_istore (ls1 := [_, _, _, _, _, _, some _, _, _]) dX2_findPart_140 (by decide) rfl ?_
            refine wp_iload dX2_findPart_142 rfl ?_
            refine wp_iconst (v := (-1)) dX2_findPart_144 (by decide +kernel) ?_
            refine wp_icmp_ne dX2_findPart_145 (fun q => absurd q (by decide +kernel)) (fun _ => ?_)
            refine wp_lconst (v := 1) dX2_findPart_148 (by decide +kernel) ?_
            refine wp_aload_n dX2_findPart_149 rfl rfl ?_
            refine wp_getIV dX2_findPart_150 lX2_65 rfl zg_20.o zg_20.f2 ?_
            refine wp_lshl dX2_findPart_153 ?_
            refine wp_goto dX2_findPart_154 ?_
            rw [show (1 : Int64) = lN 1 from rfl, wb_shl 1 (by omega), Nat.one_mul]
            refine wp_lstore (ls1 := [_, _, _, _, _, _, _, some _, _]) dX2_findPart_169 (by decide) rfl ?_
            refine wp_aload_n dX2_findPart_171 rfl rfl ?_
            refine wp_lload dX2_findPart_172 rfl ?_
            refine wp_cSN1 1 21 [some _, none] dX2_findPart_174 tX11_lowest sX11_lowest lX2_55 ⟨by decide, by decide⟩ (Nat.le_of_ble_eq_true rfl) (Nat.le_of_ble_eq_true rfl) rfl ?_
            refine pX11_lowest (Nat.pow_lt_pow_right (by decide) (by omega)) ?_
            intro _ _
            rw [lwB_pow (by omega)]
            refine wp_putI dX2_findPart_177 lX2_82 rfl (Or.inl rfl) zg_20.o rfl rfl ?_
            refine zg_20.p6 (fun hh23 f23 zg_23 => ?_)
            refine wp_aload_n dX2_findPart_180 rfl rfl ?_
            refine wp_getIV dX2_findPart_181 lX2_89 rfl zg_23.o zg_23.f5 ?_
            refine wp_aload_n dX2_findPart_184 rfl rfl ?_
            refine wp_getIV dX2_findPart_185 lX2_65 rfl zg_23.o zg_23.f2 ?_
            refine wp_icmp_geN dX2_findPart_188 rfl rfl ⟨by omega, by omega⟩ (fun c28 => ?_) (fun c28 => ?_)
            · refine wp_iconst (v := (nI 0)) dX2_findPart_202 (by decide +kernel) ?_
              refine wp_zreturn dX2_findPart_203 rfl (by first | exact Or.inl rfl | exact Or.inr rfl) ?_
              exact hq0 _ _ _ (((f1.up (by decide) (Nat.le_refl _)).tr (f20.up (by decide) (Nat.le_refl _))).tr (f23.up (by decide) (Nat.le_refl _))) zg_23 (by first | exact cut1_c hA3 hB21 (by omega) | exact absurd (by assumption : lN (2 ^ e) = 0) (fun z => absurd ((lN0 (Nat.pow_lt_pow_right (by decide) (by omega))).mp z) (Nat.ne_of_gt (Nat.two_pow_pos e))))
            · refine wp_lload dX2_findPart_191 rfl ?_
              refine wp_lconst (v := 0) dX2_findPart_193 (by decide +kernel) ?_
              refine wp_lc_eq dX2_findPart_194 dX2_findPart_195 (fun c29 => ?_) (fun c29 => ?_)
              · refine wp_iconst (v := (nI 0)) dX2_findPart_202 (by decide +kernel) ?_
                refine wp_zreturn dX2_findPart_203 rfl (by first | exact Or.inl rfl | exact Or.inr rfl) ?_
                exact hq0 _ _ _ (((f1.up (by decide) (Nat.le_refl _)).tr (f20.up (by decide) (Nat.le_refl _))).tr (f23.up (by decide) (Nat.le_refl _))) zg_23 (by first | exact cut1_c hA3 hB21 (by omega) | exact absurd (by assumption : lN (2 ^ e) = 0) (fun z => absurd ((lN0 (Nat.pow_lt_pow_right (by decide) (by omega))).mp z) (Nat.ne_of_gt (Nat.two_pow_pos e))))
              · refine wp_iconst (v := (nI 1)) dX2_findPart_198 (by decide +kernel) ?_
                refine wp_goto dX2_findPart_199 ?_
                refine wp_zreturn dX2_findPart_203 rfl (by first | exact Or.inl rfl | exact Or.inr rfl) ?_
                exact hq1 _ _ _ (((f1.up (by decide) (Nat.le_refl _)).tr (f20.up (by decide) (Nat.le_refl _))).tr (f23.up (by decide) (Nat.le_refl _))) zg_23 (cut1_e hA3 hB21 (by omega) (if_pos ei22))
          · have hc22 : c22 < 243 := by have := hcd 3 (by decide); omega
            intro _ _
            refine wp_istore (ls1 := [_, _, _, _, _, _, some _, _, _]) dX2_findPart_140 (by decide) rfl ?_
            refine wp_iload dX2_findPart_142 rfl ?_
            refine wp_iconst (v := (-1)) dX2_findPart_144 (by decide +kernel) ?_
            refine wp_icmp_ne dX2_findPart_145 (fun _ => ?_) (fun q => absurd q (nI_ne_m1 (by omega)))
            refine wp_aload_n dX2_findPart_157 rfl rfl ?_
            refine wp_iload dX2_findPart_158 rfl ?_
            refine wp_aload_n dX2_findPart_160 rfl rfl ?_
            refine wp_getIV dX2_findPart_161 lX2_89 rfl zg_20.o zg_20.f5 ?_
            refine wp_iconst (v := (nI 1)) dX2_findPart_164 (by decide +kernel) ?_
            refine wp_iadd dX2_findPart_165 ?_
            refine wp_cV2 0 0 [some _, some _, some _] dX2_findPart_166 tX2_standing rfl (by decide) nX2_standing vX2_standing lX2_96 ⟨by decide, by decide⟩ (Nat.le_of_ble_eq_true rfl) zg_20.o (Nat.le_of_ble_eq_true rfl) rfl ?_
            rw [nI_add]
            refine pX2_standing zg_20 hP he hl (by omega) (by omega) (fun b24 hb24 tb24 => ?_)
            intro _ _
            have mk24 := lwB_mask (show e ≤ 64 by omega) tb24
            refine wp_lstore (ls1 := [_, _, _, _, _, _, _, some _, _]) dX2_findPart_169 (by decide) rfl ?_
            refine wp_aload_n dX2_findPart_171 rfl rfl ?_
            refine wp_lload dX2_findPart_172 rfl ?_
            refine wp_cSN1 1 21 [some _, none] dX2_findPart_174 tX11_lowest sX11_lowest lX2_55 ⟨by decide, by decide⟩ (Nat.le_of_ble_eq_true rfl) (Nat.le_of_ble_eq_true rfl) rfl ?_
            refine pX11_lowest hb24 ?_
            intro _ _
            have ll9 := lwB_le b24
            refine wp_putI dX2_findPart_177 lX2_82 rfl (Or.inl rfl) zg_20.o rfl rfl ?_
            refine zg_20.p6 (fun hh25 f25 zg_25 => ?_)
            refine wp_aload_n dX2_findPart_180 rfl rfl ?_
            refine wp_getIV dX2_findPart_181 lX2_89 rfl zg_25.o zg_25.f5 ?_
            refine wp_aload_n dX2_findPart_184 rfl rfl ?_
            refine wp_getIV dX2_findPart_185 lX2_65 rfl zg_25.o zg_25.f2 ?_
            refine wp_icmp_geN dX2_findPart_188 rfl rfl ⟨by omega, by omega⟩ (fun c32 => ?_) (fun c32 => ?_)
            · refine wp_iconst (v := (nI 0)) dX2_findPart_202 (by decide +kernel) ?_
              refine wp_zreturn dX2_findPart_203 rfl (by first | exact Or.inl rfl | exact Or.inr rfl) ?_
              exact hq0 _ _ _ (((f1.up (by decide) (Nat.le_refl _)).tr (f20.up (by decide) (Nat.le_refl _))).tr (f25.up (by decide) (Nat.le_refl _))) zg_25 (by first | exact cut1_c hA3 hB21 (by omega) | exact cut1_d hA3 hB21 ((st_n ei22 (by omega)).trans (mk24.1.mp ((lN0 hb24).mp (by assumption)))))
            · refine wp_lload dX2_findPart_191 rfl ?_
              refine wp_lconst (v := 0) dX2_findPart_193 (by decide +kernel) ?_
              refine wp_lc_eq dX2_findPart_194 dX2_findPart_195 (fun c33 => ?_) (fun c33 => ?_)
              · refine wp_iconst (v := (nI 0)) dX2_findPart_202 (by decide +kernel) ?_
                refine wp_zreturn dX2_findPart_203 rfl (by first | exact Or.inl rfl | exact Or.inr rfl) ?_
                exact hq0 _ _ _ (((f1.up (by decide) (Nat.le_refl _)).tr (f20.up (by decide) (Nat.le_refl _))).tr (f25.up (by decide) (Nat.le_refl _))) zg_25 (by first | exact cut1_c hA3 hB21 (by omega) | exact cut1_d hA3 hB21 ((st_n ei22 (by omega)).trans (mk24.1.mp ((lN0 hb24).mp (by assumption)))))
              · refine wp_iconst (v := (nI 1)) dX2_findPart_198 (by decide +kernel) ?_
                refine wp_goto dX2_findPart_199 ?_
                refine wp_zreturn dX2_findPart_203 rfl (by first | exact Or.inl rfl | exact Or.inr rfl) ?_
                obtain ⟨j8, hj8⟩ := some_of (fun z => (by assumption : ¬ lN b24 = 0) ((lN0 hb24).mpr (mk24.1.mpr z)))
                refine hq1 _ _ j8 (((f1.up (by decide) (Nat.le_refl _)).tr (f20.up (by decide) (Nat.le_refl _))).tr (f25.up (by decide) (Nat.le_refl _))) (mk24.2 _ hj8 ▸ zg_25) (cut1_e hA3 hB21 (by omega) ((st_n ei22 (by omega)).trans hj8))
        · refine wp_iconst (v := (nI 0)) dX2_findPart_112 (by decide +kernel) ?_
          refine wp_zreturn dX2_findPart_113 rfl (by first | exact Or.inl rfl | exact Or.inr rfl) ?_
          exact hq0 _ _ _ (f1.up (by decide) (Nat.le_refl _)) zg_1 (cut1_b hA3 ((bh_2 ei4 (by omega) ei10 (by omega)).trans (by rw [mk9.1.mp ((lN0 hb9).mp (by assumption))]; rfl)))
  · have hc2 : c2 < 243 := by have := hcd 0 (by decide); omega
    intro _ _
    refine wp_istore (ls1 := [_, _, _, _, some _, _, _, _, _]) dX2_findPart_10 (by decide) rfl ?_
    refine wp_iload dX2_findPart_12 rfl ?_
    refine wp_iconst (v := (-1)) dX2_findPart_14 (by decide +kernel) ?_
    refine wp_icmp_eq dX2_findPart_15 (fun q => absurd q (nI_ne_m1 (by omega))) (fun _ => ?_)
    refine wp_aload_n dX2_findPart_18 rfl rfl ?_
    refine wp_iload dX2_findPart_19 rfl ?_
    refine wp_aload_n dX2_findPart_21 rfl rfl ?_
    refine wp_getIV dX2_findPart_22 lX2_89 rfl zg_1.o zg_1.f5 ?_
    refine wp_cV2 0 0 [some _, some _, some _] dX2_findPart_25 tX2_standing rfl (by decide) nX2_standing vX2_standing lX2_96 ⟨by decide, by decide⟩ (Nat.le_of_ble_eq_true rfl) zg_1.o (Nat.le_of_ble_eq_true rfl) rfl ?_
    refine pX2_standing zg_1 hP he hl (by omega) (by omega) (fun b26 hb26 tb26 => ?_)
    intro _ _
    have mk26 := lwB_mask (show e ≤ 64 by omega) tb26
    refine wp_lstore (ls1 := [_, _, _, _, _, some _, _, _, _]) dX2_findPart_28 (by decide) rfl ?_
    refine wp_lload dX2_findPart_30 rfl ?_
    refine wp_lconst (v := 0) dX2_findPart_32 (by decide +kernel) ?_
    refine wp_lc_ne dX2_findPart_33 dX2_findPart_34 (fun c35 => ?_) (fun c35 => ?_)
    · obtain ⟨j26, hj26⟩ := some_of (fun z => (by assumption : ¬ lN b26 = 0) ((lN0 hb26).mpr (mk26.1.mpr z)))
      have hjb26 := (fst1_some hj26).2.1
      refine wp_aload_n dX2_findPart_39 rfl rfl ?_
      refine wp_lload dX2_findPart_40 rfl ?_
      refine wp_cSN1 1 21 [some _, none] dX2_findPart_42 tX11_lowest sX11_lowest lX2_55 ⟨by decide, by decide⟩ (Nat.le_of_ble_eq_true rfl) (Nat.le_of_ble_eq_true rfl) rfl ?_
      refine pX11_lowest hb26 ?_
      intro _ _
      rw [mk26.2 _ hj26]
      refine wp_iconst (v := (nI 1)) dX2_findPart_45 (by decide +kernel) ?_
      refine wp_iadd dX2_findPart_46 ?_
      refine wp_putIN dX2_findPart_47 lX2_89 rfl rfl (Or.inl rfl) zg_1.o (isN_add rfl rfl) ?_
      refine zg_1.p5 (fun hh27 f27 zg_27 => ?_)
      have hA28 : (if itm (kI k 0) = -1 then some s else (fst1 (P (itm (kI k 0))) s e).map (fun j => j + 1)) = some (j26 + 1) := (fa_s ei2 (by omega) hj26)
      refine wp_lload_n dX2_findPart_50 rfl rfl ?_
      refine wp_iconst (v := (nI 1)) dX2_findPart_51 (by decide +kernel) ?_
      refine wp_cSN2 0 0 [some _, none, some _] dX2_findPart_52 tX11_itemOf sX11_itemOf lX2_92 ⟨by decide, by decide⟩ (Nat.le_of_ble_eq_true rfl) (Nat.le_of_ble_eq_true rfl) rfl ?_
      refine pX11_itemOf2 hk (by decide) (fun ei29 => ?_) (fun c29 hc29 ei29 => ?_)
      · intro _ _
        refine wp_istore (ls1 := [_, _, _, _, _, some _, _, _, _]) dX2_findPart_55 (by decide) rfl ?_
        refine wp_iload dX2_findPart_57 rfl ?_
        refine wp_iconst (v := (-1)) dX2_findPart_59 (by decide +kernel) ?_
        refine wp_icmp_eq dX2_findPart_60 (fun _ => ?_) (fun q => absurd (by decide +kernel) q)
        have hB30 : bhN P (j26 + 1) e (itm (kI k 1)) (itm (kI k 2)) = some (j26 + 1) := bh_0 ei29
        refine wp_lload_n dX2_findPart_135 rfl rfl ?_
        refine wp_iconst (v := (nI 3)) dX2_findPart_136 (by decide +kernel) ?_
        refine wp_cSN2 0 0 [some _, none, some _] dX2_findPart_137 tX11_itemOf sX11_itemOf lX2_92 ⟨by decide, by decide⟩ (Nat.le_of_ble_eq_true rfl) (Nat.le_of_ble_eq_true rfl) rfl ?_
        refine pX11_itemOf2 hk (by decide) (fun ei31 => ?_) (fun c31 hc31 ei31 => ?_)
        · intro _ _
          refine wp_istore (ls1 := [_, _, _, _, _, _, some _, _, _]) dX2_findPart_140 (by decide) rfl ?_
          refine wp_iload dX2_findPart_142 rfl ?_
          refine wp_iconst (v := (-1)) dX2_findPart_144 (by decide +kernel) ?_
          refine wp_icmp_ne dX2_findPart_145 (fun q => absurd q (by decide +kernel)) (fun _ => ?_)
          refine wp_lconst (v := 1) dX2_findPart_148 (by decide +kernel) ?_
          refine wp_aload_n dX2_findPart_149 rfl rfl ?_
          refine wp_getIV dX2_findPart_150 lX2_65 rfl zg_27.o zg_27.f2 ?_
          refine wp_lshl dX2_findPart_153 ?_
          refine wp_goto dX2_findPart_154 ?_
          rw [show (1 : Int64) = lN 1 from rfl, wb_shl 1 (by omega), Nat.one_mul]
          refine wp_lstore (ls1 := [_, _, _, _, _, _, _, some _, _]) dX2_findPart_169 (by decide) rfl ?_
          refine wp_aload_n dX2_findPart_171 rfl rfl ?_
          refine wp_lload dX2_findPart_172 rfl ?_
          refine wp_cSN1 1 21 [some _, none] dX2_findPart_174 tX11_lowest sX11_lowest lX2_55 ⟨by decide, by decide⟩ (Nat.le_of_ble_eq_true rfl) (Nat.le_of_ble_eq_true rfl) rfl ?_
          refine pX11_lowest (Nat.pow_lt_pow_right (by decide) (by omega)) ?_
          intro _ _
          rw [lwB_pow (by omega)]
          refine wp_putI dX2_findPart_177 lX2_82 rfl (Or.inl rfl) zg_27.o rfl rfl ?_
          refine zg_27.p6 (fun hh32 f32 zg_32 => ?_)
          refine wp_aload_n dX2_findPart_180 rfl rfl ?_
          refine wp_getIV dX2_findPart_181 lX2_89 rfl zg_32.o zg_32.f5 ?_
          refine wp_aload_n dX2_findPart_184 rfl rfl ?_
          refine wp_getIV dX2_findPart_185 lX2_65 rfl zg_32.o zg_32.f2 ?_
          refine wp_icmp_geN dX2_findPart_188 rfl rfl ⟨by omega, by omega⟩ (fun c39 => ?_) (fun c39 => ?_)
          · refine wp_iconst (v := (nI 0)) dX2_findPart_202 (by decide +kernel) ?_
            refine wp_zreturn dX2_findPart_203 rfl (by first | exact Or.inl rfl | exact Or.inr rfl) ?_
            exact hq0 _ _ _ (((f1.up (by decide) (Nat.le_refl _)).tr (f27.up (by decide) (Nat.le_refl _))).tr (f32.up (by decide) (Nat.le_refl _))) zg_32 (by first | exact cut1_c hA28 hB30 (by omega) | exact absurd (by assumption : lN (2 ^ e) = 0) (fun z => absurd ((lN0 (Nat.pow_lt_pow_right (by decide) (by omega))).mp z) (Nat.ne_of_gt (Nat.two_pow_pos e))))
          · refine wp_lload dX2_findPart_191 rfl ?_
            refine wp_lconst (v := 0) dX2_findPart_193 (by decide +kernel) ?_
            refine wp_lc_eq dX2_findPart_194 dX2_findPart_195 (fun c40 => ?_) (fun c40 => ?_)
            · refine wp_iconst (v := (nI 0)) dX2_findPart_202 (by decide +kernel) ?_
              refine wp_zreturn dX2_findPart_203 rfl (by first | exact Or.inl rfl | exact Or.inr rfl) ?_
              exact hq0 _ _ _ (((f1.up (by decide) (Nat.le_refl _)).tr (f27.up (by decide) (Nat.le_refl _))).tr (f32.up (by decide) (Nat.le_refl _))) zg_32 (by first | exact cut1_c hA28 hB30 (by omega) | exact absurd (by assumption : lN (2 ^ e) = 0) (fun z => absurd ((lN0 (Nat.pow_lt_pow_right (by decide) (by omega))).mp z) (Nat.ne_of_gt (Nat.two_pow_pos e))))
            · refine wp_iconst (v := (nI 1)) dX2_findPart_198 (by decide +kernel) ?_
              refine wp_goto dX2_findPart_199 ?_
              refine wp_zreturn dX2_findPart_203 rfl (by first | exact Or.inl rfl | exact Or.inr rfl) ?_
              exact hq1 _ _ _ (((f1.up (by decide) (Nat.le_refl _)).tr (f27.up (by decide) (Nat.le_refl _))).tr (f32.up (by decide) (Nat.le_refl _))) zg_32 (cut1_e hA28 hB30 (by omega) (if_pos ei31))
        · have hc31 : c31 < 243 := by have := hcd 3 (by decide); omega
          intro _ _
          refine wp_istore (ls1 := [_, _, _, _, _, _, some _, _, _]) dX2_findPart_140 (by decide) rfl ?_
          refine wp_iload dX2_findPart_142 rfl ?_
          refine wp_iconst (v := (-1)) dX2_findPart_144 (by decide +kernel) ?_
          refine wp_icmp_ne dX2_findPart_145 (fun _ => ?_) (fun q => absurd q (nI_ne_m1 (by omega)))
          refine wp_aload_n dX2_findPart_157 rfl rfl ?_
          refine wp_iload dX2_findPart_158 rfl ?_
          refine wp_aload_n dX2_findPart_160 rfl rfl ?_
          refine wp_getIV dX2_findPart_161 lX2_89 rfl zg_27.o zg_27.f5 ?_
          refine wp_iconst (v := (nI 1)) dX2_findPart_164 (by decide +kernel) ?_
          refine wp_iadd dX2_findPart_165 ?_
          refine wp_cV2 0 0 [some _, some _, some _] dX2_findPart_166 tX2_standing rfl (by decide) nX2_standing vX2_standing lX2_96 ⟨by decide, by decide⟩ (Nat.le_of_ble_eq_true rfl) zg_27.o (Nat.le_of_ble_eq_true rfl) rfl ?_
          rw [nI_add]
          refine pX2_standing zg_27 hP he hl (by omega) (by omega) (fun b33 hb33 tb33 => ?_)
          intro _ _
          have mk33 := lwB_mask (show e ≤ 64 by omega) tb33
          refine wp_lstore (ls1 := [_, _, _, _, _, _, _, some _, _]) dX2_findPart_169 (by decide) rfl ?_
          refine wp_aload_n dX2_findPart_171 rfl rfl ?_
          refine wp_lload dX2_findPart_172 rfl ?_
          refine wp_cSN1 1 21 [some _, none] dX2_findPart_174 tX11_lowest sX11_lowest lX2_55 ⟨by decide, by decide⟩ (Nat.le_of_ble_eq_true rfl) (Nat.le_of_ble_eq_true rfl) rfl ?_
          refine pX11_lowest hb33 ?_
          intro _ _
          have ll9 := lwB_le b33
          refine wp_putI dX2_findPart_177 lX2_82 rfl (Or.inl rfl) zg_27.o rfl rfl ?_
          refine zg_27.p6 (fun hh34 f34 zg_34 => ?_)
          refine wp_aload_n dX2_findPart_180 rfl rfl ?_
          refine wp_getIV dX2_findPart_181 lX2_89 rfl zg_34.o zg_34.f5 ?_
          refine wp_aload_n dX2_findPart_184 rfl rfl ?_
          refine wp_getIV dX2_findPart_185 lX2_65 rfl zg_34.o zg_34.f2 ?_
          refine wp_icmp_geN dX2_findPart_188 rfl rfl ⟨by omega, by omega⟩ (fun c43 => ?_) (fun c43 => ?_)
          · refine wp_iconst (v := (nI 0)) dX2_findPart_202 (by decide +kernel) ?_
            refine wp_zreturn dX2_findPart_203 rfl (by first | exact Or.inl rfl | exact Or.inr rfl) ?_
            exact hq0 _ _ _ (((f1.up (by decide) (Nat.le_refl _)).tr (f27.up (by decide) (Nat.le_refl _))).tr (f34.up (by decide) (Nat.le_refl _))) zg_34 (by first | exact cut1_c hA28 hB30 (by omega) | exact cut1_d hA28 hB30 ((st_n ei31 (by omega)).trans (mk33.1.mp ((lN0 hb33).mp (by assumption)))))
          · refine wp_lload dX2_findPart_191 rfl ?_
            refine wp_lconst (v := 0) dX2_findPart_193 (by decide +kernel) ?_
            refine wp_lc_eq dX2_findPart_194 dX2_findPart_195 (fun c44 => ?_) (fun c44 => ?_)
            · refine wp_iconst (v := (nI 0)) dX2_findPart_202 (by decide +kernel) ?_
              refine wp_zreturn dX2_findPart_203 rfl (by first | exact Or.inl rfl | exact Or.inr rfl) ?_
              exact hq0 _ _ _ (((f1.up (by decide) (Nat.le_refl _)).tr (f27.up (by decide) (Nat.le_refl _))).tr (f34.up (by decide) (Nat.le_refl _))) zg_34 (by first | exact cut1_c hA28 hB30 (by omega) | exact cut1_d hA28 hB30 ((st_n ei31 (by omega)).trans (mk33.1.mp ((lN0 hb33).mp (by assumption)))))
            · refine wp_iconst (v := (nI 1)) dX2_findPart_198 (by decide +kernel) ?_
              refine wp_goto dX2_findPart_199 ?_
              refine wp_zreturn dX2_findPart_203 rfl (by first | exact Or.inl rfl | exact Or.inr rfl) ?_
              obtain ⟨j8, hj8⟩ := some_of (fun z => (by assumption : ¬ lN b33 = 0) ((lN0 hb33).mpr (mk33.1.mpr z)))
              refine hq1 _ _ j8 (((f1.up (by decide) (Nat.le_refl _)).tr (f27.up (by decide) (Nat.le_refl _))).tr (f34.up (by decide) (Nat.le_refl _))) (mk33.2 _ hj8 ▸ zg_34) (cut1_e hA28 hB30 (by omega) ((st_n ei31 (by omega)).trans hj8))
      · have hc29 : c29 < 243 := by have := hcd 1 (by decide); omega
        intro _ _
        refine wp_istore (ls1 := [_, _, _, _, _, some _, _, _, _]) dX2_findPart_55 (by decide) rfl ?_
        refine wp_iload dX2_findPart_57 rfl ?_
        refine wp_iconst (v := (-1)) dX2_findPart_59 (by decide +kernel) ?_
        refine wp_icmp_eq dX2_findPart_60 (fun q => absurd q (nI_ne_m1 (by omega))) (fun _ => ?_)
        refine wp_lload_n dX2_findPart_63 rfl rfl ?_
        refine wp_iconst (v := (nI 2)) dX2_findPart_64 (by decide +kernel) ?_
        refine wp_cSN2 0 0 [some _, none, some _] dX2_findPart_65 tX11_itemOf sX11_itemOf lX2_92 ⟨by decide, by decide⟩ (Nat.le_of_ble_eq_true rfl) (Nat.le_of_ble_eq_true rfl) rfl ?_
        refine pX11_itemOf2 hk (by decide) (fun ei35 => ?_) (fun c35 hc35 ei35 => ?_)
        · intro _ _
          refine wp_istore (ls1 := [_, _, _, _, _, _, some _, _, _]) dX2_findPart_68 (by decide) rfl ?_
          refine wp_aload_n dX2_findPart_70 rfl rfl ?_
          refine wp_iload dX2_findPart_71 rfl ?_
          refine wp_aload_n dX2_findPart_73 rfl rfl ?_
          refine wp_getIV dX2_findPart_74 lX2_89 rfl zg_27.o zg_27.f5 ?_
          refine wp_cV2 0 0 [some _, some _, some _] dX2_findPart_77 tX2_standing rfl (by decide) nX2_standing vX2_standing lX2_96 ⟨by decide, by decide⟩ (Nat.le_of_ble_eq_true rfl) zg_27.o (Nat.le_of_ble_eq_true rfl) rfl ?_
          refine pX2_standing zg_27 hP he hl (by omega) (by omega) (fun b36 hb36 tb36 => ?_)
          intro _ _
          have mk36 := lwB_mask (show e ≤ 64 by omega) tb36
          refine wp_lstore (ls1 := [_, _, _, _, _, _, _, some _, _]) dX2_findPart_80 (by decide) rfl ?_
          refine wp_iload dX2_findPart_82 rfl ?_
          refine wp_iconst (v := (-1)) dX2_findPart_84 (by decide +kernel) ?_
          refine wp_icmp_eq dX2_findPart_85 (fun _ => ?_) (fun q => absurd (by decide +kernel) q)
          refine wp_lload dX2_findPart_105 rfl ?_
          refine wp_lconst (v := 0) dX2_findPart_107 (by decide +kernel) ?_
          refine wp_lc_ne dX2_findPart_108 dX2_findPart_109 (fun c47 => ?_) (fun c47 => ?_)
          · obtain ⟨j9, hj9⟩ := some_of (fun z => (by assumption : ¬ lN b36 = 0) ((lN0 hb36).mpr (mk36.1.mpr z)))
            have hjb9 := (fst1_some hj9).2.1
            refine wp_aload_n dX2_findPart_114 rfl rfl ?_
            refine wp_lload dX2_findPart_115 rfl ?_
            refine wp_cSN1 1 21 [some _, none] dX2_findPart_117 tX11_lowest sX11_lowest lX2_55 ⟨by decide, by decide⟩ (Nat.le_of_ble_eq_true rfl) (Nat.le_of_ble_eq_true rfl) rfl ?_
            refine pX11_lowest hb36 ?_
            intro _ _
            rw [mk36.2 _ hj9]
            refine wp_iload dX2_findPart_120 rfl ?_
            refine wp_iconst (v := (-1)) dX2_findPart_122 (by decide +kernel) ?_
            refine wp_icmp_ne dX2_findPart_123 (fun q => absurd q (by decide +kernel)) (fun _ => ?_)
            refine wp_iconst (v := (nI 1)) dX2_findPart_126 (by decide +kernel) ?_
            refine wp_goto dX2_findPart_127 ?_
            refine wp_iadd dX2_findPart_131 ?_
            refine wp_putIN dX2_findPart_132 lX2_89 rfl rfl (Or.inl rfl) zg_27.o (isN_add rfl rfl) ?_
            refine zg_27.p5 (fun hh37 f37 zg_37 => ?_)
            have hB38 : bhN P (j26 + 1) e (itm (kI k 1)) (itm (kI k 2)) = some (j9 + 1) := (bh_1 ei29 (by omega) ei35).trans (by rw [hj9]; rfl)
            refine wp_lload_n dX2_findPart_135 rfl rfl ?_
            refine wp_iconst (v := (nI 3)) dX2_findPart_136 (by decide +kernel) ?_
            refine wp_cSN2 0 0 [some _, none, some _] dX2_findPart_137 tX11_itemOf sX11_itemOf lX2_92 ⟨by decide, by decide⟩ (Nat.le_of_ble_eq_true rfl) (Nat.le_of_ble_eq_true rfl) rfl ?_
            refine pX11_itemOf2 hk (by decide) (fun ei39 => ?_) (fun c39 hc39 ei39 => ?_)
            · intro _ _
              refine wp_istore (ls1 := [_, _, _, _, _, _, some _, _, _]) dX2_findPart_140 (by decide) rfl ?_
              refine wp_iload dX2_findPart_142 rfl ?_
              refine wp_iconst (v := (-1)) dX2_findPart_144 (by decide +kernel) ?_
              refine wp_icmp_ne dX2_findPart_145 (fun q => absurd q (by decide +kernel)) (fun _ => ?_)
              refine wp_lconst (v := 1) dX2_findPart_148 (by decide +kernel) ?_
              refine wp_aload_n dX2_findPart_149 rfl rfl ?_
              refine wp_getIV dX2_findPart_150 lX2_65 rfl zg_37.o zg_37.f2 ?_
              refine wp_lshl dX2_findPart_153 ?_
              refine wp_goto dX2_findPart_154 ?_
              rw [show (1 : Int64) = lN 1 from rfl, wb_shl 1 (by omega), Nat.one_mul]
              refine wp_lstore (ls1 := [_, _, _, _, _, _, _, some _, _]) dX2_findPart_169 (by decide) rfl ?_
              refine wp_aload_n dX2_findPart_171 rfl rfl ?_
              refine wp_lload dX2_findPart_172 rfl ?_
              refine wp_cSN1 1 21 [some _, none] dX2_findPart_174 tX11_lowest sX11_lowest lX2_55 ⟨by decide, by decide⟩ (Nat.le_of_ble_eq_true rfl) (Nat.le_of_ble_eq_true rfl) rfl ?_
              refine pX11_lowest (Nat.pow_lt_pow_right (by decide) (by omega)) ?_
              intro _ _
              rw [lwB_pow (by omega)]
              refine wp_putI dX2_findPart_177 lX2_82 rfl (Or.inl rfl) zg_37.o rfl rfl ?_
              refine zg_37.p6 (fun hh40 f40 zg_40 => ?_)
              refine wp_aload_n dX2_findPart_180 rfl rfl ?_
              refine wp_getIV dX2_findPart_181 lX2_89 rfl zg_40.o zg_40.f5 ?_
              refine wp_aload_n dX2_findPart_184 rfl rfl ?_
              refine wp_getIV dX2_findPart_185 lX2_65 rfl zg_40.o zg_40.f2 ?_
              refine wp_icmp_geN dX2_findPart_188 rfl rfl ⟨by omega, by omega⟩ (fun c51 => ?_) (fun c51 => ?_)
              · refine wp_iconst (v := (nI 0)) dX2_findPart_202 (by decide +kernel) ?_
                refine wp_zreturn dX2_findPart_203 rfl (by first | exact Or.inl rfl | exact Or.inr rfl) ?_
                exact hq0 _ _ _ ((((f1.up (by decide) (Nat.le_refl _)).tr (f27.up (by decide) (Nat.le_refl _))).tr (f37.up (by decide) (Nat.le_refl _))).tr (f40.up (by decide) (Nat.le_refl _))) zg_40 (by first | exact cut1_c hA28 hB38 (by omega) | exact absurd (by assumption : lN (2 ^ e) = 0) (fun z => absurd ((lN0 (Nat.pow_lt_pow_right (by decide) (by omega))).mp z) (Nat.ne_of_gt (Nat.two_pow_pos e))))
              · refine wp_lload dX2_findPart_191 rfl ?_
                refine wp_lconst (v := 0) dX2_findPart_193 (by decide +kernel) ?_
                refine wp_lc_eq dX2_findPart_194 dX2_findPart_195 (fun c52 => ?_) (fun c52 => ?_)
                · refine wp_iconst (v := (nI 0)) dX2_findPart_202 (by decide +kernel) ?_
                  refine wp_zreturn dX2_findPart_203 rfl (by first | exact Or.inl rfl | exact Or.inr rfl) ?_
                  exact hq0 _ _ _ ((((f1.up (by decide) (Nat.le_refl _)).tr (f27.up (by decide) (Nat.le_refl _))).tr (f37.up (by decide) (Nat.le_refl _))).tr (f40.up (by decide) (Nat.le_refl _))) zg_40 (by first | exact cut1_c hA28 hB38 (by omega) | exact absurd (by assumption : lN (2 ^ e) = 0) (fun z => absurd ((lN0 (Nat.pow_lt_pow_right (by decide) (by omega))).mp z) (Nat.ne_of_gt (Nat.two_pow_pos e))))
                · refine wp_iconst (v := (nI 1)) dX2_findPart_198 (by decide +kernel) ?_
                  refine wp_goto dX2_findPart_199 ?_
                  refine wp_zreturn dX2_findPart_203 rfl (by first | exact Or.inl rfl | exact Or.inr rfl) ?_
                  exact hq1 _ _ _ ((((f1.up (by decide) (Nat.le_refl _)).tr (f27.up (by decide) (Nat.le_refl _))).tr (f37.up (by decide) (Nat.le_refl _))).tr (f40.up (by decide) (Nat.le_refl _))) zg_40 (cut1_e hA28 hB38 (by omega) (if_pos ei39))
            · have hc39 : c39 < 243 := by have := hcd 3 (by decide); omega
              intro _ _
              refine wp_istore (ls1 := [_, _, _, _, _, _, some _, _, _]) dX2_findPart_140 (by decide) rfl ?_
              refine wp_iload dX2_findPart_142 rfl ?_
              refine wp_iconst (v := (-1)) dX2_findPart_144 (by decide +kernel) ?_
              refine wp_icmp_ne dX2_findPart_145 (fun _ => ?_) (fun q => absurd q (nI_ne_m1 (by omega)))
              refine wp_aload_n dX2_findPart_157 rfl rfl ?_
              refine wp_iload dX2_findPart_158 rfl ?_
              refine wp_aload_n dX2_findPart_160 rfl rfl ?_
              refine wp_getIV dX2_findPart_161 lX2_89 rfl zg_37.o zg_37.f5 ?_
              refine wp_iconst (v := (nI 1)) dX2_findPart_164 (by decide +kernel) ?_
              refine wp_iadd dX2_findPart_165 ?_
              refine wp_cV2 0 0 [some _, some _, some _] dX2_findPart_166 tX2_standing rfl (by decide) nX2_standing vX2_standing lX2_96 ⟨by decide, by decide⟩ (Nat.le_of_ble_eq_true rfl) zg_37.o (Nat.le_of_ble_eq_true rfl) rfl ?_
              rw [nI_add]
              refine pX2_standing zg_37 hP he hl (by omega) (by omega) (fun b41 hb41 tb41 => ?_)
              intro _ _
              have mk41 := lwB_mask (show e ≤ 64 by omega) tb41
              refine wp_lstore (ls1 := [_, _, _, _, _, _, _, some _, _]) dX2_findPart_169 (by decide) rfl ?_
              refine wp_aload_n dX2_findPart_171 rfl rfl ?_
              refine wp_lload dX2_findPart_172 rfl ?_
              refine wp_cSN1 1 21 [some _, none] dX2_findPart_174 tX11_lowest sX11_lowest lX2_55 ⟨by decide, by decide⟩ (Nat.le_of_ble_eq_true rfl) (Nat.le_of_ble_eq_true rfl) rfl ?_
              refine pX11_lowest hb41 ?_
              intro _ _
              have ll9 := lwB_le b41
              refine wp_putI dX2_findPart_177 lX2_82 rfl (Or.inl rfl) zg_37.o rfl rfl ?_
              refine zg_37.p6 (fun hh42 f42 zg_42 => ?_)
              refine wp_aload_n dX2_findPart_180 rfl rfl ?_
              refine wp_getIV dX2_findPart_181 lX2_89 rfl zg_42.o zg_42.f5 ?_
              refine wp_aload_n dX2_findPart_184 rfl rfl ?_
              refine wp_getIV dX2_findPart_185 lX2_65 rfl zg_42.o zg_42.f2 ?_
              refine wp_icmp_geN dX2_findPart_188 rfl rfl ⟨by omega, by omega⟩ (fun c55 => ?_) (fun c55 => ?_)
              · refine wp_iconst (v := (nI 0)) dX2_findPart_202 (by decide +kernel) ?_
                refine wp_zreturn dX2_findPart_203 rfl (by first | exact Or.inl rfl | exact Or.inr rfl) ?_
                exact hq0 _ _ _ ((((f1.up (by decide) (Nat.le_refl _)).tr (f27.up (by decide) (Nat.le_refl _))).tr (f37.up (by decide) (Nat.le_refl _))).tr (f42.up (by decide) (Nat.le_refl _))) zg_42 (by first | exact cut1_c hA28 hB38 (by omega) | exact cut1_d hA28 hB38 ((st_n ei39 (by omega)).trans (mk41.1.mp ((lN0 hb41).mp (by assumption)))))
              · refine wp_lload dX2_findPart_191 rfl ?_
                refine wp_lconst (v := 0) dX2_findPart_193 (by decide +kernel) ?_
                refine wp_lc_eq dX2_findPart_194 dX2_findPart_195 (fun c56 => ?_) (fun c56 => ?_)
                · refine wp_iconst (v := (nI 0)) dX2_findPart_202 (by decide +kernel) ?_
                  refine wp_zreturn dX2_findPart_203 rfl (by first | exact Or.inl rfl | exact Or.inr rfl) ?_
                  exact hq0 _ _ _ ((((f1.up (by decide) (Nat.le_refl _)).tr (f27.up (by decide) (Nat.le_refl _))).tr (f37.up (by decide) (Nat.le_refl _))).tr (f42.up (by decide) (Nat.le_refl _))) zg_42 (by first | exact cut1_c hA28 hB38 (by omega) | exact cut1_d hA28 hB38 ((st_n ei39 (by omega)).trans (mk41.1.mp ((lN0 hb41).mp (by assumption)))))
                · refine wp_iconst (v := (nI 1)) dX2_findPart_198 (by decide +kernel) ?_
                  refine wp_goto dX2_findPart_199 ?_
                  refine wp_zreturn dX2_findPart_203 rfl (by first | exact Or.inl rfl | exact Or.inr rfl) ?_
                  obtain ⟨j8, hj8⟩ := some_of (fun z => (by assumption : ¬ lN b41 = 0) ((lN0 hb41).mpr (mk41.1.mpr z)))
                  refine hq1 _ _ j8 ((((f1.up (by decide) (Nat.le_refl _)).tr (f27.up (by decide) (Nat.le_refl _))).tr (f37.up (by decide) (Nat.le_refl _))).tr (f42.up (by decide) (Nat.le_refl _))) (mk41.2 _ hj8 ▸ zg_42) (cut1_e hA28 hB38 (by omega) ((st_n ei39 (by omega)).trans hj8))
          · refine wp_iconst (v := (nI 0)) dX2_findPart_112 (by decide +kernel) ?_
            refine wp_zreturn dX2_findPart_113 rfl (by first | exact Or.inl rfl | exact Or.inr rfl) ?_
            exact hq0 _ _ _ ((f1.up (by decide) (Nat.le_refl _)).tr (f27.up (by decide) (Nat.le_refl _))) zg_27 (cut1_b hA28 ((bh_1 ei29 (by omega) ei35).trans (by rw [mk36.1.mp ((lN0 hb36).mp (by assumption))]; rfl)))
        · have hc35 : c35 < 243 := by have := hcd 2 (by decide); omega
          intro _ _
          refine wp_istore (ls1 := [_, _, _, _, _, _, some _, _, _]) dX2_findPart_68 (by decide) rfl ?_
          refine wp_aload_n dX2_findPart_70 rfl rfl ?_
          refine wp_iload dX2_findPart_71 rfl ?_
          refine wp_aload_n dX2_findPart_73 rfl rfl ?_
          refine wp_getIV dX2_findPart_74 lX2_89 rfl zg_27.o zg_27.f5 ?_
          refine wp_cV2 0 0 [some _, some _, some _] dX2_findPart_77 tX2_standing rfl (by decide) nX2_standing vX2_standing lX2_96 ⟨by decide, by decide⟩ (Nat.le_of_ble_eq_true rfl) zg_27.o (Nat.le_of_ble_eq_true rfl) rfl ?_
          refine pX2_standing zg_27 hP he hl (by omega) (by omega) (fun b43 hb43 tb43 => ?_)
          intro _ _
          have mk43 := lwB_mask (show e ≤ 64 by omega) tb43
          refine wp_lstore (ls1 := [_, _, _, _, _, _, _, some _, _]) dX2_findPart_80 (by decide) rfl ?_
          refine wp_iload dX2_findPart_82 rfl ?_
          refine wp_iconst (v := (-1)) dX2_findPart_84 (by decide +kernel) ?_
          refine wp_icmp_eq dX2_findPart_85 (fun q => absurd q (nI_ne_m1 (by omega))) (fun _ => ?_)
          refine wp_lload dX2_findPart_88 rfl ?_
          refine wp_aload_n dX2_findPart_90 rfl rfl ?_
          refine wp_iload dX2_findPart_91 rfl ?_
          refine wp_aload_n dX2_findPart_93 rfl rfl ?_
          refine wp_getIV dX2_findPart_94 lX2_89 rfl zg_27.o zg_27.f5 ?_
          refine wp_cV2 0 0 [some _, some _, some _] dX2_findPart_97 tX2_standing rfl (by decide) nX2_standing vX2_standing lX2_96 ⟨by decide, by decide⟩ (Nat.le_of_ble_eq_true rfl) zg_27.o (Nat.le_of_ble_eq_true rfl) rfl ?_
          refine pX2_standing zg_27 hP he hl (by omega) (by omega) (fun b44 hb44 tb44 => ?_)
          intro _ _
          have mk44 := lwB_mask (show e ≤ 64 by omega) tb44
          refine wp_iconst (v := (nI 1)) dX2_findPart_100 (by decide +kernel) ?_
          refine wp_lushr dX2_findPart_101 ?_
          refine wp_land dX2_findPart_102 ?_
          rw [wb_shr (by omega) (by decide), wb_and (by omega) (Nat.lt_of_le_of_lt (Nat.div_le_self _ _) (by omega))]
          have mk9 := lwB_mask (show e - 1 ≤ 64 by omega) (and2_tb tb43 tb44)
          have hb9 : b43 &&& b44 / 2 ^ 1 < 2 ^ 63 := Nat.lt_of_le_of_lt Nat.and_le_left hb43
          refine wp_lstore (ls1 := [_, _, _, _, _, _, _, some _, _]) dX2_findPart_103 (by decide) rfl ?_
          refine wp_lload dX2_findPart_105 rfl ?_
          refine wp_lconst (v := 0) dX2_findPart_107 (by decide +kernel) ?_
          refine wp_lc_ne dX2_findPart_108 dX2_findPart_109 (fun c58 => ?_) (fun c58 => ?_)
          · obtain ⟨j9, hj9⟩ := some_of (fun z => (by assumption : ¬ lN (b43 &&& b44 / 2 ^ 1) = 0) ((lN0 hb9).mpr (mk9.1.mpr z)))
            have hjb9 := (fst1_some hj9).2.1
            refine wp_aload_n dX2_findPart_114 rfl rfl ?_
            refine wp_lload dX2_findPart_115 rfl ?_
            refine wp_cSN1 1 21 [some _, none] dX2_findPart_117 tX11_lowest sX11_lowest lX2_55 ⟨by decide, by decide⟩ (Nat.le_of_ble_eq_true rfl) (Nat.le_of_ble_eq_true rfl) rfl ?_
            refine pX11_lowest hb9 ?_
            intro _ _
            rw [mk9.2 _ hj9]
            refine wp_iload dX2_findPart_120 rfl ?_
            refine wp_iconst (v := (-1)) dX2_findPart_122 (by decide +kernel) ?_
            refine wp_icmp_ne dX2_findPart_123 (fun _ => ?_) (fun q => absurd q (nI_ne_m1 (by omega)))
            refine wp_iconst (v := (nI 2)) dX2_findPart_130 (by decide +kernel) ?_
            refine wp_iadd dX2_findPart_131 ?_
            refine wp_putIN dX2_findPart_132 lX2_89 rfl rfl (Or.inl rfl) zg_27.o (isN_add rfl rfl) ?_
            refine zg_27.p5 (fun hh45 f45 zg_45 => ?_)
            have hB46 : bhN P (j26 + 1) e (itm (kI k 1)) (itm (kI k 2)) = some (j9 + 2) := (bh_2 ei29 (by omega) ei35 (by omega)).trans (by rw [hj9]; rfl)
            refine wp_lload_n dX2_findPart_135 rfl rfl ?_
            refine wp_iconst (v := (nI 3)) dX2_findPart_136 (by decide +kernel) ?_
            refine wp_cSN2 0 0 [some _, none, some _] dX2_findPart_137 tX11_itemOf sX11_itemOf lX2_92 ⟨by decide, by decide⟩ (Nat.le_of_ble_eq_true rfl) (Nat.le_of_ble_eq_true rfl) rfl ?_
            refine pX11_itemOf2 hk (by decide) (fun ei47 => ?_) (fun c47 hc47 ei47 => ?_)
            · intro _ _
              refine wp_istore (ls1 := [_, _, _, _, _, _, some _, _, _]) dX2_findPart_140 (by decide) rfl ?_
              refine wp_iload dX2_findPart_142 rfl ?_
              refine wp_iconst (v := (-1)) dX2_findPart_144 (by decide +kernel) ?_
              refine wp_icmp_ne dX2_findPart_145 (fun q => absurd q (by decide +kernel)) (fun _ => ?_)
              refine wp_lconst (v := 1) dX2_findPart_148 (by decide +kernel) ?_
              refine wp_aload_n dX2_findPart_149 rfl rfl ?_
              refine wp_getIV dX2_findPart_150 lX2_65 rfl zg_45.o zg_45.f2 ?_
              refine wp_lshl dX2_findPart_153 ?_
              refine wp_goto dX2_findPart_154 ?_
              rw [show (1 : Int64) = lN 1 from rfl, wb_shl 1 (by omega), Nat.one_mul]
              refine wp_lstore (ls1 := [_, _, _, _, _, _, _, some _, _]) dX2_findPart_169 (by decide) rfl ?_
              refine wp_aload_n dX2_findPart_171 rfl rfl ?_
              refine wp_lload dX2_findPart_172 rfl ?_
              refine wp_cSN1 1 21 [some _, none] dX2_findPart_174 tX11_lowest sX11_lowest lX2_55 ⟨by decide, by decide⟩ (Nat.le_of_ble_eq_true rfl) (Nat.le_of_ble_eq_true rfl) rfl ?_
              refine pX11_lowest (Nat.pow_lt_pow_right (by decide) (by omega)) ?_
              intro _ _
              rw [lwB_pow (by omega)]
              refine wp_putI dX2_findPart_177 lX2_82 rfl (Or.inl rfl) zg_45.o rfl rfl ?_
              refine zg_45.p6 (fun hh48 f48 zg_48 => ?_)
              refine wp_aload_n dX2_findPart_180 rfl rfl ?_
              refine wp_getIV dX2_findPart_181 lX2_89 rfl zg_48.o zg_48.f5 ?_
              refine wp_aload_n dX2_findPart_184 rfl rfl ?_
              refine wp_getIV dX2_findPart_185 lX2_65 rfl zg_48.o zg_48.f2 ?_
              refine wp_icmp_geN dX2_findPart_188 rfl rfl ⟨by omega, by omega⟩ (fun c62 => ?_) (fun c62 => ?_)
              · refine wp_iconst (v := (nI 0)) dX2_findPart_202 (by decide +kernel) ?_
                refine wp_zreturn dX2_findPart_203 rfl (by first | exact Or.inl rfl | exact Or.inr rfl) ?_
                exact hq0 _ _ _ ((((f1.up (by decide) (Nat.le_refl _)).tr (f27.up (by decide) (Nat.le_refl _))).tr (f45.up (by decide) (Nat.le_refl _))).tr (f48.up (by decide) (Nat.le_refl _))) zg_48 (by first | exact cut1_c hA28 hB46 (by omega) | exact absurd (by assumption : lN (2 ^ e) = 0) (fun z => absurd ((lN0 (Nat.pow_lt_pow_right (by decide) (by omega))).mp z) (Nat.ne_of_gt (Nat.two_pow_pos e))))
              · refine wp_lload dX2_findPart_191 rfl ?_
                refine wp_lconst (v := 0) dX2_findPart_193 (by decide +kernel) ?_
                refine wp_lc_eq dX2_findPart_194 dX2_findPart_195 (fun c63 => ?_) (fun c63 => ?_)
                · refine wp_iconst (v := (nI 0)) dX2_findPart_202 (by decide +kernel) ?_
                  refine wp_zreturn dX2_findPart_203 rfl (by first | exact Or.inl rfl | exact Or.inr rfl) ?_
                  exact hq0 _ _ _ ((((f1.up (by decide) (Nat.le_refl _)).tr (f27.up (by decide) (Nat.le_refl _))).tr (f45.up (by decide) (Nat.le_refl _))).tr (f48.up (by decide) (Nat.le_refl _))) zg_48 (by first | exact cut1_c hA28 hB46 (by omega) | exact absurd (by assumption : lN (2 ^ e) = 0) (fun z => absurd ((lN0 (Nat.pow_lt_pow_right (by decide) (by omega))).mp z) (Nat.ne_of_gt (Nat.two_pow_pos e))))
                · refine wp_iconst (v := (nI 1)) dX2_findPart_198 (by decide +kernel) ?_
                  refine wp_goto dX2_findPart_199 ?_
                  refine wp_zreturn dX2_findPart_203 rfl (by first | exact Or.inl rfl | exact Or.inr rfl) ?_
                  exact hq1 _ _ _ ((((f1.up (by decide) (Nat.le_refl _)).tr (f27.up (by decide) (Nat.le_refl _))).tr (f45.up (by decide) (Nat.le_refl _))).tr (f48.up (by decide) (Nat.le_refl _))) zg_48 (cut1_e hA28 hB46 (by omega) (if_pos ei47))
            · have hc47 : c47 < 243 := by have := hcd 3 (by decide); omega
              intro _ _
              refine wp_istore (ls1 := [_, _, _, _, _, _, some _, _, _]) dX2_findPart_140 (by decide) rfl ?_
              refine wp_iload dX2_findPart_142 rfl ?_
              refine wp_iconst (v := (-1)) dX2_findPart_144 (by decide +kernel) ?_
              refine wp_icmp_ne dX2_findPart_145 (fun _ => ?_) (fun q => absurd q (nI_ne_m1 (by omega)))
              refine wp_aload_n dX2_findPart_157 rfl rfl ?_
              refine wp_iload dX2_findPart_158 rfl ?_
              refine wp_aload_n dX2_findPart_160 rfl rfl ?_
              refine wp_getIV dX2_findPart_161 lX2_89 rfl zg_45.o zg_45.f5 ?_
              refine wp_iconst (v := (nI 1)) dX2_findPart_164 (by decide +kernel) ?_
              refine wp_iadd dX2_findPart_165 ?_
              refine wp_cV2 0 0 [some _, some _, some _] dX2_findPart_166 tX2_standing rfl (by decide) nX2_standing vX2_standing lX2_96 ⟨by decide, by decide⟩ (Nat.le_of_ble_eq_true rfl) zg_45.o (Nat.le_of_ble_eq_true rfl) rfl ?_
              rw [nI_add]
              refine pX2_standing zg_45 hP he hl (by omega) (by omega) (fun b49 hb49 tb49 => ?_)
              intro _ _
              have mk49 := lwB_mask (show e ≤ 64 by omega) tb49
              refine wp_lstore (ls1 := [_, _, _, _, _, _, _, some _, _]) dX2_findPart_169 (by decide) rfl ?_
              refine wp_aload_n dX2_findPart_171 rfl rfl ?_
              refine wp_lload dX2_findPart_172 rfl ?_
              refine wp_cSN1 1 21 [some _, none] dX2_findPart_174 tX11_lowest sX11_lowest lX2_55 ⟨by decide, by decide⟩ (Nat.le_of_ble_eq_true rfl) (Nat.le_of_ble_eq_true rfl) rfl ?_
              refine pX11_lowest hb49 ?_
              intro _ _
              have ll9 := lwB_le b49
              refine wp_putI dX2_findPart_177 lX2_82 rfl (Or.inl rfl) zg_45.o rfl rfl ?_
              refine zg_45.p6 (fun hh50 f50 zg_50 => ?_)
              refine wp_aload_n dX2_findPart_180 rfl rfl ?_
              refine wp_getIV dX2_findPart_181 lX2_89 rfl zg_50.o zg_50.f5 ?_
              refine wp_aload_n dX2_findPart_184 rfl rfl ?_
              refine wp_getIV dX2_findPart_185 lX2_65 rfl zg_50.o zg_50.f2 ?_
              refine wp_icmp_geN dX2_findPart_188 rfl rfl ⟨by omega, by omega⟩ (fun c66 => ?_) (fun c66 => ?_)
              · refine wp_iconst (v := (nI 0)) dX2_findPart_202 (by decide +kernel) ?_
                refine wp_zreturn dX2_findPart_203 rfl (by first | exact Or.inl rfl | exact Or.inr rfl) ?_
                exact hq0 _ _ _ ((((f1.up (by decide) (Nat.le_refl _)).tr (f27.up (by decide) (Nat.le_refl _))).tr (f45.up (by decide) (Nat.le_refl _))).tr (f50.up (by decide) (Nat.le_refl _))) zg_50 (by first | exact cut1_c hA28 hB46 (by omega) | exact cut1_d hA28 hB46 ((st_n ei47 (by omega)).trans (mk49.1.mp ((lN0 hb49).mp (by assumption)))))
              · refine wp_lload dX2_findPart_191 rfl ?_
                refine wp_lconst (v := 0) dX2_findPart_193 (by decide +kernel) ?_
                refine wp_lc_eq dX2_findPart_194 dX2_findPart_195 (fun c67 => ?_) (fun c67 => ?_)
                · refine wp_iconst (v := (nI 0)) dX2_findPart_202 (by decide +kernel) ?_
                  refine wp_zreturn dX2_findPart_203 rfl (by first | exact Or.inl rfl | exact Or.inr rfl) ?_
                  exact hq0 _ _ _ ((((f1.up (by decide) (Nat.le_refl _)).tr (f27.up (by decide) (Nat.le_refl _))).tr (f45.up (by decide) (Nat.le_refl _))).tr (f50.up (by decide) (Nat.le_refl _))) zg_50 (by first | exact cut1_c hA28 hB46 (by omega) | exact cut1_d hA28 hB46 ((st_n ei47 (by omega)).trans (mk49.1.mp ((lN0 hb49).mp (by assumption)))))
                · refine wp_iconst (v := (nI 1)) dX2_findPart_198 (by decide +kernel) ?_
                  refine wp_goto dX2_findPart_199 ?_
                  refine wp_zreturn dX2_findPart_203 rfl (by first | exact Or.inl rfl | exact Or.inr rfl) ?_
                  obtain ⟨j8, hj8⟩ := some_of (fun z => (by assumption : ¬ lN b49 = 0) ((lN0 hb49).mpr (mk49.1.mpr z)))
                  refine hq1 _ _ j8 ((((f1.up (by decide) (Nat.le_refl _)).tr (f27.up (by decide) (Nat.le_refl _))).tr (f45.up (by decide) (Nat.le_refl _))).tr (f50.up (by decide) (Nat.le_refl _))) (mk49.2 _ hj8 ▸ zg_50) (cut1_e hA28 hB46 (by omega) ((st_n ei47 (by omega)).trans hj8))
          · refine wp_iconst (v := (nI 0)) dX2_findPart_112 (by decide +kernel) ?_
            refine wp_zreturn dX2_findPart_113 rfl (by first | exact Or.inl rfl | exact Or.inr rfl) ?_
            exact hq0 _ _ _ ((f1.up (by decide) (Nat.le_refl _)).tr (f27.up (by decide) (Nat.le_refl _))) zg_27 (cut1_b hA28 ((bh_2 ei29 (by omega) ei35 (by omega)).trans (by rw [mk9.1.mp ((lN0 hb9).mp (by assumption))]; rfl)))
    · refine wp_iconst (v := (nI 0)) dX2_findPart_37 (by decide +kernel) ?_
      refine wp_zreturn dX2_findPart_38 rfl (by first | exact Or.inl rfl | exact Or.inr rfl) ?_
      exact hq0 _ _ _ (f1.up (by decide) (Nat.le_refl _)) zg_1 (cut1_a (fa_n ei2 (by omega) (mk26.1.mp ((lN0 hb26).mp (by assumption)))))
