/-! ===== questions that only read ===== -/
set_option maxRecDepth 20000 in
theorem pX11_known {h : mH} {Q : Option Value → mH → Prop} {ow : Nat → Nat} {F fa o1 d1 u1 : Nat} {pa my : Nat → Int32} {r : Nat → Int64} {x y : Int32} (e9 : eS ow h F pa my r fa o1 d1 u1) (hd : sOK r F pa my) (ht : ∀ p f, p < rP r → f < F → x = nI p → y = nI f → Q (some (.int (nI 1))) h) (hf : (ix x (rP r) = none ∨ ix y F = none) → Q (some (.int (nI 0))) h) : Wp mX11_known 3 63 0 [some (.ref 0), some (.int x), some (.int y)] [] h Q := by
  have hP6 := hd.w.1.2
  have hF4 := hd.f4
  refine wp_aload_n dX11_known_0 rfl rfl ?_
  refine wp_getR dX11_known_1 lX11_20 rfl e9.oo e9.f4 ?_
  refine wp_iload_n dX11_known_4 rfl rfl ?_
  refine wp_cV1 0 0 [some _, some _] dX11_known_5 tX1_has rfl (by decide) nX1_has vX1_has lX11_139 ⟨by decide, by decide⟩ (Nat.le_of_ble_eq_true rfl) e9.fl.oo (Nat.le_of_ble_eq_true rfl) rfl ?_
  refine pX1_has e9.fl hF4 (fun f1 hf1 ef1 => ?_) (fun xn1 => ?_)
  · subst ef1
    intro _ _
    refine wp_if_eq dX11_known_8 (fun q => absurd q (by decide +kernel)) (fun _ => ?_)
    refine wp_aload_n dX11_known_11 rfl rfl ?_
    refine wp_getR dX11_known_12 lX11_34 rfl e9.oo e9.r6 ?_
    refine wp_cV0 2 43 [some _] dX11_known_15 tX3_now rfl (by decide) nX3_now vX3_now lX11_101 ⟨by decide, by decide⟩ (Nat.le_of_ble_eq_true rfl) e9.hh.o (Nat.le_of_ble_eq_true rfl) rfl ?_
    refine pX3_now e9.hh e9.kb e9.od.1 e9.od.2 ?_
    intro _ _
    refine wp_iload_n dX11_known_18 rfl rfl ?_
    refine wp_cV1 0 0 [some _, some _] dX11_known_19 tX8_pageAt rfl (by decide) nX8_pageAt vX8_pageAt lX11_176 ⟨by decide, by decide⟩ (Nat.le_of_ble_eq_true rfl) e9.st.oo (Nat.le_of_ble_eq_true rfl) rfl ?_
    refine pX8_pageAt e9.st hP6 (fun p2 q2 hp2 ep2 pg2 => ?_) (fun xn2 => ?_)
    · subst ep2
      intro _ _
      refine wp_ifnull dX11_known_22 ?_
      refine wp_iconst (v := (nI 1)) dX11_known_25 (by decide +kernel) ?_
      refine wp_goto dX11_known_26 ?_
      refine wp_zreturn dX11_known_30 rfl (by first | exact Or.inl rfl | exact Or.inr rfl) ?_
      exact ht _ _ (by omega) (by omega) rfl rfl
    · intro _ _
      refine wp_ifnullN dX11_known_22 ?_
      refine wp_iconst (v := (nI 0)) dX11_known_29 (by decide +kernel) ?_
      refine wp_zreturn dX11_known_30 rfl (by first | exact Or.inl rfl | exact Or.inr rfl) ?_
      exact hf (Or.inl xn2)
  · intro _ _
    refine wp_if_eq dX11_known_8 (fun _ => ?_) (fun q => absurd q (by decide +kernel))
    refine wp_iconst (v := (nI 0)) dX11_known_29 (by decide +kernel) ?_
    refine wp_zreturn dX11_known_30 rfl (by first | exact Or.inl rfl | exact Or.inr rfl) ?_
    exact hf (Or.inr xn1)
set_option maxRecDepth 20000 in
theorem pX11_learntFor {h : mH} {Q : Option Value → mH → Prop} {ow : Nat → Nat} {F fa o1 d1 u1 : Nat} {pa my : Nat → Int32} {r : Nat → Int64} {x y : Int32} (e9 : eS ow h F pa my r fa o1 d1 u1) (hd : sOK r F pa my) (ht : ∀ p f, p < rP r → f < F → x = nI p → y = nI f → r (655 + 70 * f) = 1 → Q (some (.int (nI 1))) h) (hf : ((ix x (rP r) = none ∨ ix y F = none) ∨ ∃ f, f < F ∧ y = nI f ∧ ¬ r (655 + 70 * f) = 1) → Q (some (.int (nI 0))) h) : Wp mX11_learntFor 4 85 0 [some (.ref 0), some (.int x), some (.int y)] [] h Q := by
  have hP6 := hd.w.1.2
  have hF4 := hd.f4
  refine wp_aload_n dX11_learntFor_0 rfl rfl ?_
  refine wp_iload_n dX11_learntFor_1 rfl rfl ?_
  refine wp_iload_n dX11_learntFor_2 rfl rfl ?_
  refine wp_cV2 3 63 [some _, some _, some _] dX11_learntFor_3 tX11_known rfl (by decide) nX11_known vX11_known lX11_276 ⟨by decide, by decide⟩ (Nat.le_of_ble_eq_true rfl) e9.oo (Nat.le_of_ble_eq_true rfl) rfl ?_
  refine pX11_known e9 hd (fun p1 f1 hp1 hf1 ep1 ef1 => ?_) (fun xn1 => ?_)
  · subst ep1
    subst ef1
    intro _ _
    refine wp_if_eq dX11_learntFor_6 (fun q => absurd q (by decide +kernel)) (fun _ => ?_)
    refine wp_aload_n dX11_learntFor_9 rfl rfl ?_
    refine wp_getR dX11_learntFor_10 lX11_34 rfl e9.oo e9.r6 ?_
    refine wp_cV0 2 43 [some _] dX11_learntFor_13 tX3_now rfl (by decide) nX3_now vX3_now lX11_101 ⟨by decide, by decide⟩ (Nat.le_of_ble_eq_true rfl) e9.hh.o (Nat.le_of_ble_eq_true rfl) rfl ?_
    refine pX3_now e9.hh e9.kb e9.od.1 e9.od.2 ?_
    intro _ _
    refine wp_getR dX11_learntFor_16 lX11_143 rfl e9.st.oo e9.st.r1 ?_
    refine wp_iload_n dX11_learntFor_19 rfl rfl ?_
    rcases e9.st.ln (f := f1) (by omega) with ⟨hl2, q2, eq2, ln2⟩ | ⟨hl2, eq2⟩
    · refine wp_aaldJ dX11_learntFor_20 e9.st.a1 (by decide) (by decide) rfl ⟨by omega, by omega⟩ eq2 ?_
      refine wp_ifnull dX11_learntFor_21 ?_
      refine wp_iconst (v := (nI 1)) dX11_learntFor_24 (by decide +kernel) ?_
      refine wp_goto dX11_learntFor_25 ?_
      refine wp_zreturn dX11_learntFor_29 rfl (by first | exact Or.inl rfl | exact Or.inr rfl) ?_
      exact ht _ _ (by omega) (by omega) rfl rfl hl2
    · refine wp_aaldJ dX11_learntFor_20 e9.st.a1 (by decide) (by decide) rfl ⟨by omega, by omega⟩ eq2 ?_
      refine wp_ifnullN dX11_learntFor_21 ?_
      refine wp_iconst (v := (nI 0)) dX11_learntFor_28 (by decide +kernel) ?_
      refine wp_zreturn dX11_learntFor_29 rfl (by first | exact Or.inl rfl | exact Or.inr rfl) ?_
      exact hf (Or.inr ⟨_, by omega, rfl, hl2⟩)
  · intro _ _
    refine wp_if_eq dX11_learntFor_6 (fun _ => ?_) (fun q => absurd q (by decide +kernel))
    refine wp_iconst (v := (nI 0)) dX11_learntFor_28 (by decide +kernel) ?_
    refine wp_zreturn dX11_learntFor_29 rfl (by first | exact Or.inl rfl | exact Or.inr rfl) ?_
    exact hf (Or.inl xn1)
set_option maxRecDepth 20000 in
theorem pX11_fault {h : mH} {Q : Option Value → mH → Prop} {ow : Nat → Nat} {xt xf xp x : Int32} {xq : Option Nat} (zx : zX ow h xt xf xp xq) (hq : Q (some (.int (vFault xf xp x))) h) : Wp mX11_fault 0 0 0 [some (.ref 0), some (.int x)] [] h Q := by
  have hz : ∀ z, vFault xf xp x = z → Q (some (.int z)) h := fun z e => e ▸ hq
  refine wp_iload_n dX11_fault_0 rfl rfl ?_
  by_cases c0 : x = nI 0
  · subst c0
    refine wp_lookup (off := 27) (t := 28) dX11_fault_1 (by decide +kernel) (by decide +kernel) (by decide +kernel) ?_
    refine wp_aload_n dX11_fault_28 rfl rfl ?_
    refine wp_getIV dX11_fault_29 lX11_133 rfl zx.o zx.f2 ?_
    refine wp_ireturn dX11_fault_32 rfl ?_
    exact hz _ (if_pos (by decide +kernel))
  by_cases c1 : x = nI 1
  · subst c1
    refine wp_lookup (off := 32) (t := 33) dX11_fault_1 (by decide +kernel) (by decide +kernel) (by decide +kernel) ?_
    refine wp_aload_n dX11_fault_33 rfl rfl ?_
    refine wp_getIV dX11_fault_34 lX11_13 rfl zx.o zx.f3 ?_
    refine wp_ireturn dX11_fault_37 rfl ?_
    exact hz _ ((if_neg (by decide +kernel)).trans (if_pos rfl))
  refine wp_lookup (off := 37) (t := 38) dX11_fault_1 (by decide +kernel) ((lv_osw c0 (by decide +kernel)).trans (lv_osw c1 (by decide +kernel))) (by decide +kernel) ?_
  refine wp_iconst (v := (-1)) dX11_fault_38 (by decide +kernel) ?_
  refine wp_ireturn dX11_fault_39 rfl ?_
  exact hz _ ((if_neg (fun z => c0 (z.trans nI_0.symm))).trans (if_neg c1))
set_option maxRecDepth 20000 in
theorem pX11_tokens {h : mH} {Q : Option Value → mH → Prop} {ow : Nat → Nat} {F fa o1 d1 u1 : Nat} {pa my : Nat → Int32} {r : Nat → Int64} {x : Int32} (e9 : eS ow h F pa my r fa o1 d1 u1) (hd : sOK r F pa my) (hq : Q (some (.int (vTokens r x))) h) : Wp mX11_tokens 3 63 0 [some (.ref 0), some (.int x), none] [] h Q := by
  have hP6 := hd.w.1.2
  have hF4 := hd.f4
  have hz : ∀ z, vTokens r x = z → Q (some (.int z)) h := fun z e => e ▸ hq
  refine wp_aload_n dX11_tokens_0 rfl rfl ?_
  refine wp_getR dX11_tokens_1 lX11_34 rfl e9.oo e9.r6 ?_
  refine wp_cV0 2 43 [some _] dX11_tokens_4 tX3_now rfl (by decide) nX3_now vX3_now lX11_101 ⟨by decide, by decide⟩ (Nat.le_of_ble_eq_true rfl) e9.hh.o (Nat.le_of_ble_eq_true rfl) rfl ?_
  refine pX3_now e9.hh e9.kb e9.od.1 e9.od.2 ?_
  intro _ _
  refine wp_iload_n dX11_tokens_7 rfl rfl ?_
  refine wp_cV1 0 0 [some _, some _] dX11_tokens_8 tX8_pageAt rfl (by decide) nX8_pageAt vX8_pageAt lX11_176 ⟨by decide, by decide⟩ (Nat.le_of_ble_eq_true rfl) e9.st.oo (Nat.le_of_ble_eq_true rfl) rfl ?_
  refine pX8_pageAt e9.st hP6 (fun p1 q1 hp1 ep1 pg1 => ?_) (fun xn1 => ?_)
  · subst ep1
    intro _ _
    refine wp_astore_n (ls1 := [_, _, some _]) dX11_tokens_11 rfl (by decide) rfl ?_
    refine wp_aload_n dX11_tokens_12 rfl rfl ?_
    refine wp_ifnonnull dX11_tokens_13 ?_
    refine wp_aload_n dX11_tokens_20 rfl rfl ?_
    refine wp_getIV dX11_tokens_21 lX11_180 rfl pg1.oo pg1.f0 ?_
    refine wp_ireturn dX11_tokens_24 rfl ?_
    exact hz _ (by unfold vTokens; rw [ix_nI (by omega) (by omega)])
  · intro _ _
    refine wp_astore_nN (ls1 := [_, _, some _]) dX11_tokens_11 rfl (by decide) rfl ?_
    refine wp_aload_nN dX11_tokens_12 rfl rfl ?_
    refine wp_ifnonnullN dX11_tokens_13 ?_
    refine wp_iconst (v := (-1)) dX11_tokens_16 (by decide +kernel) ?_
    refine wp_goto dX11_tokens_17 ?_
    refine wp_ireturn dX11_tokens_24 rfl ?_
    exact hz _ (by unfold vTokens; rw [xn1])
theorem us_0 {n k : Nat} (hn : n < 2 ^ 63) (hk : k < 8) : ((lN n).toUInt64 >>> ((nI (8 * k)).toInt64.toUInt64 &&& Int64.toUInt64 63)).toInt64 = 0 ↔ n / 2 ^ (8 * k) = 0 := by
  rw [wb_shr (by omega) (by omega)]
  exact lN0 (Nat.lt_of_le_of_lt (Nat.div_le_self _ _) hn)
theorem ss_0 {n k : Nat} (hn : n < 2 ^ 63) (hk : k < 8) : shB (lN n) k = 0 ↔ n / 2 ^ (8 * k) = 0 := by
  rw [shB_N hn hk, show 256 ^ k = 2 ^ (8 * k) by rw [Nat.pow_mul]]
  exact lN0 (Nat.lt_of_le_of_lt (Nat.div_le_self _ _) hn)
theorem dv_0 {n k j : Nat} (h : n / 2 ^ (8 * k) = 0) (hj : k ≤ j) : n / 2 ^ (8 * j) = 0 := by
  rw [Nat.div_eq_zero_iff] at h ⊢
  rcases h with h | h
  · exact absurd h (Nat.ne_of_gt (Nat.two_pow_pos _))
  · exact Or.inr (Nat.lt_of_lt_of_le h (Nat.pow_le_pow_right (by decide) (by omega)))
/-- how many of the first k shifts leave something -/
def szN (n : Nat) : Nat → Nat
  | 0 => 0
  | k + 1 => szN n k + (if n / 2 ^ (8 * k) = 0 then 0 else 1)
theorem szN_le (n : Nat) : ∀ k, szN n k ≤ k
  | 0 => Nat.le_refl _
  | k + 1 => by
    have := szN_le n k
    unfold szN
    split <;> omega
theorem szN_z {n k : Nat} (h : n / 2 ^ (8 * k) = 0) : ∀ m, szN n (k + m) = szN n k
  | 0 => rfl
  | m + 1 => by
    show szN n (k + m) + (if n / 2 ^ (8 * (k + m)) = 0 then 0 else 1) = _
    rw [if_pos (dv_0 h (by omega)), szN_z h m, Nat.add_zero]
theorem bNf_sz {n : Nat} (hn : n < 2 ^ 63) : ∀ m k, k + m = 8 → szN n k = k → bNf (lN n) m k = szN n 8
  | 0, k, hk, hs => by
    have : k = 8 := by omega
    subst this
    exact hs.symm
  | m + 1, k, hk, hs => by
    unfold bNf
    by_cases z : n / 2 ^ (8 * k) = 0
    · rw [if_pos ((ss_0 hn (by omega)).mpr z), show (8 : Nat) = k + (m + 1) by omega, szN_z z, hs]
    · rw [if_neg (fun w => z ((ss_0 hn (by omega)).mp w))]
      refine bNf_sz hn m (k + 1) (by omega) ?_
      show szN n k + _ = _
      rw [if_neg z, hs]
theorem bN_sz {n : Nat} (hn : n < 2 ^ 63) : bN (lN n) = szN n 8 := bNf_sz hn 8 0 rfl rfl
theorem w_pos {w : Int64} (h : 0 < w.toInt) : ∃ n, n < 2 ^ 63 ∧ w = lN n := pk_lOf (fun z => by
  rw [Int64.lt_iff_toInt_lt] at z
  have h0 : (0 : Int64).toInt = 0 := by decide
  omega)
set_option maxRecDepth 20000 in
theorem pX11_sizeOf {h : mH} {Q : Option Value → mH → Prop} {w : Int64} (hw : 0 < w.toInt) (hq : Q (some (.int (nI (bN w)))) h) : Wp mX11_sizeOf 0 0 0 [some (.long w), none, none, none] [] h Q := by
  obtain ⟨n, hn, rfl⟩ := w_pos hw
  have hloop : ∀  (t9 : Nat) (k : Nat), (k ≤ 8) → (8 < k + t9) → Wp mX11_sizeOf 0 0 4 [some (.long (lN n)), none, some (.int (nI (szN n k))), some (.int (nI (8 * k)))] [] h Q := by
    intro t9
    induction t9 with
    | zero => intros; omega
    | succ t9 ih =>
      intro k hk hmz
      refine wp_iload_n dX11_sizeOf_4 rfl rfl ?_
      refine wp_bipush (v := (nI 64)) dX11_sizeOf_5 (by decide +kernel) ?_
      refine wp_icmp_geN dX11_sizeOf_7 rfl rfl ⟨by omega, by omega⟩ (fun c2 => ?_) (fun c2 => ?_)
      · refine wp_iload_n dX11_sizeOf_27 rfl rfl ?_
        refine wp_ireturn dX11_sizeOf_28 rfl ?_
        have e9 : k = 8 := by omega
        subst e9
        rw [← bN_sz hn]
        exact hq
      · refine wp_lload_n dX11_sizeOf_10 rfl rfl ?_
        refine wp_iload_n dX11_sizeOf_11 rfl rfl ?_
        refine wp_lushr dX11_sizeOf_12 ?_
        refine wp_lconst (v := 0) dX11_sizeOf_13 (by decide +kernel) ?_
        refine wp_lc_eq dX11_sizeOf_14 dX11_sizeOf_15 (fun c3 => ?_) (fun c3 => ?_)
        · have n9 : n / 2 ^ (8 * k) = 0 := (us_0 hn (by omega)).mp (by assumption)
          refine wp_iinc (ls1 := [_, _, _, some _]) dX11_sizeOf_21 rfl rfl (by decide) rfl ?_
          refine wp_goto dX11_sizeOf_24 ?_
          have e8 : nI (8 * k) + Int32.ofInt 8 = nI (8 * (k + 1)) := by rw [show Int32.ofInt 8 = nI 8 from rfl, nI_add]; rfl
          rw [e8]
          rw [show szN n k = szN n (k + 1) by show _ = szN n k + _; rw [if_pos (by assumption), Nat.add_zero]]
          exact ih (k + 1) (by omega) (by omega)
        · have n9 : ¬ n / 2 ^ (8 * k) = 0 := fun z => (by assumption : ¬ _ = _) ((us_0 hn (by omega)).mpr z)
          refine wp_iinc1 (ls1 := [_, _, some _, _]) dX11_sizeOf_18 rfl (by decide) rfl ?_
          refine wp_iinc (ls1 := [_, _, _, some _]) dX11_sizeOf_21 rfl rfl (by decide) rfl ?_
          refine wp_goto dX11_sizeOf_24 ?_
          have e8 : nI (8 * k) + Int32.ofInt 8 = nI (8 * (k + 1)) := by rw [show Int32.ofInt 8 = nI 8 from rfl, nI_add]; rfl
          rw [e8]
          rw [show szN n k + 1 = szN n (k + 1) by show _ = szN n k + _; rw [if_neg (by assumption)]]
          exact ih (k + 1) (by omega) (by omega)
  refine wp_iconst (v := (nI 0)) dX11_sizeOf_0 (by decide +kernel) ?_
  refine wp_istore_n (ls1 := [_, _, some _, _]) dX11_sizeOf_1 rfl (by decide) rfl ?_
  refine wp_iconst (v := (nI 0)) dX11_sizeOf_2 (by decide +kernel) ?_
  refine wp_istore_n (ls1 := [_, _, _, some _]) dX11_sizeOf_3 rfl (by decide) rfl ?_
  exact hloop 9 0 (by omega) (by omega)
theorem tok_n {w a b c : Int32} (h : ix w 3 = none) : (if w = 0 then a else if w = nI 1 then b else if w = nI 2 then c else (-1 : Int32)) = -1 := by
  have h0 : ¬ w = 0 := fun z => by rw [z] at h; exact absurd h (by decide +kernel)
  have h1 : ¬ w = nI 1 := fun z => by rw [z] at h; exact absurd h (by decide +kernel)
  have h2 : ¬ w = nI 2 := fun z => by rw [z] at h; exact absurd h (by decide +kernel)
  rw [if_neg h0, if_neg h1, if_neg h2]
set_option maxRecDepth 20000 in
theorem pX11_token {h : mH} {Q : Option Value → mH → Prop} {ow : Nat → Nat} {F fa o1 d1 u1 : Nat} {pa my : Nat → Int32} {r : Nat → Int64} {x y w : Int32} (e9 : eS ow h F pa my r fa o1 d1 u1) (hd : sOK r F pa my) (hq : Q (some (.int (vToken r x y w))) h) : Wp mX11_token 3 63 0 [some (.ref 0), some (.int x), some (.int y), some (.int w), none] [] h Q := by
  have hP6 := hd.w.1.2
  have hF4 := hd.f4
  have hT40 : ∀ p, p < 6 → rT r p ≤ 40 := fun p hp => (hd.w.2.1 p hp).2
  have hz : ∀ z, vToken r x y w = z → Q (some (.int z)) h := fun z e => e ▸ hq
  refine wp_aload_n dX11_token_0 rfl rfl ?_
  refine wp_getR dX11_token_1 lX11_34 rfl e9.oo e9.r6 ?_
  refine wp_cV0 2 43 [some _] dX11_token_4 tX3_now rfl (by decide) nX3_now vX3_now lX11_101 ⟨by decide, by decide⟩ (Nat.le_of_ble_eq_true rfl) e9.hh.o (Nat.le_of_ble_eq_true rfl) rfl ?_
  refine pX3_now e9.hh e9.kb e9.od.1 e9.od.2 ?_
  intro _ _
  refine wp_iload_n dX11_token_7 rfl rfl ?_
  refine wp_cV1 0 0 [some _, some _] dX11_token_8 tX8_pageAt rfl (by decide) nX8_pageAt vX8_pageAt lX11_176 ⟨by decide, by decide⟩ (Nat.le_of_ble_eq_true rfl) e9.st.oo (Nat.le_of_ble_eq_true rfl) rfl ?_
  refine pX8_pageAt e9.st hP6 (fun p1 q1 hp1 ep1 pg1 => ?_) (fun xn1 => ?_)
  · subst ep1
    have hT1 := hT40 p1 (by omega)
    intro _ _
    refine wp_astore (ls1 := [_, _, _, _, some _]) dX11_token_11 (by decide) rfl ?_
    refine wp_aload dX11_token_13 rfl ?_
    refine wp_ifnull dX11_token_15 ?_
    refine wp_iload_n dX11_token_18 rfl rfl ?_
    refine wp_if_lt dX11_token_19 (fun c2 => ?_) (fun c2 => ?_)
    · refine wp_iconst (v := (-1)) dX11_token_31 (by decide +kernel) ?_
      refine wp_ireturn dX11_token_32 rfl ?_
      exact hz _ (by unfold vToken; rw [ix_nI (by omega) (by omega)]; show (match ix y _ with | some k => _ | none => _) = _; rw [(ix_lt0 c2)])
    · refine wp_iload_n dX11_token_22 rfl rfl ?_
      refine wp_aload dX11_token_23 rfl ?_
      refine wp_getIV dX11_token_25 lX11_180 rfl pg1.oo pg1.f0 ?_
      refine wp_icmp_lt dX11_token_28 (fun c4 => ?_) (fun c4 => ?_)
      · obtain ⟨j2, hj2, ej2⟩ := ix_lt (by omega) c2 c4
        subst ej2
        refine wp_iload_n dX11_token_33 rfl rfl ?_
        rcases ix_cases (x := w) (n := 3) (by decide) with xn3 | ⟨j3, hj3, ej3⟩
        · refine wp_tableOut (t := 87) dX11_token_34 (ix_out xn3) (by decide +kernel) ?_
          refine wp_iconst (v := (-1)) dX11_token_87 (by decide +kernel) ?_
          refine wp_ireturn dX11_token_88 rfl ?_
          exact hz _ (by unfold vToken; rw [ix_nI (by omega) (by omega)]; show (match ix (nI j2) (rT r p1) with | some k => _ | none => _) = _; rw [ix_nI (by omega) (by omega)]; exact tok_n xn3)
        · subst ej3
          rcases (by omega : j3 = 0 ∨ j3 = 1 ∨ j3 = 2) with rfl | rfl | rfl
          · refine wp_tableIn (off := 26) (t := 60) dX11_token_34 (by decide +kernel) (by decide +kernel) (by decide +kernel) (by decide +kernel) ?_
            refine wp_aload dX11_token_60 rfl ?_
            refine wp_getR dX11_token_62 lX11_185 rfl pg1.oo pg1.r2 ?_
            refine wp_iload_n dX11_token_65 rfl rfl ?_
            refine wp_ialdV dX11_token_66 pg1.a2 rfl ⟨by omega, by omega⟩ (pg1.c2 (by omega)) ?_
            refine wp_ireturn dX11_token_67 rfl ?_
            exact hz _ (by unfold vToken; rw [ix_nI (by omega) (by omega)]; show (match ix (nI j2) (rT r p1) with | some k => _ | none => _) = _; rw [ix_nI (by omega) (by omega)]; exact if_pos (by decide +kernel))
          · refine wp_tableIn (off := 34) (t := 68) dX11_token_34 (by decide +kernel) (by decide +kernel) (by decide +kernel) (by decide +kernel) ?_
            refine wp_aload dX11_token_68 rfl ?_
            refine wp_getR dX11_token_70 lX11_188 rfl pg1.oo pg1.r3 ?_
            refine wp_iload_n dX11_token_73 rfl rfl ?_
            refine wp_ialdV dX11_token_74 pg1.a3 rfl ⟨by omega, by omega⟩ (pg1.c3 (by omega)) ?_
            refine wp_ireturn dX11_token_75 rfl ?_
            exact hz _ (by unfold vToken; rw [ix_nI (by omega) (by omega)]; show (match ix (nI j2) (rT r p1) with | some k => _ | none => _) = _; rw [ix_nI (by omega) (by omega)]; exact (if_neg (by decide +kernel)).trans ((if_pos rfl).trans (congrArg nI (idx_uqA (by omega) (by omega)))))
          · refine wp_tableIn (off := 42) (t := 76) dX11_token_34 (by decide +kernel) (by decide +kernel) (by decide +kernel) (by decide +kernel) ?_
            refine wp_aload dX11_token_76 rfl ?_
            refine wp_getR dX11_token_78 lX11_191 rfl pg1.oo pg1.r1 ?_
            refine wp_iload_n dX11_token_81 rfl rfl ?_
            refine wp_laldV dX11_token_82 pg1.a1 rfl ⟨by omega, by omega⟩ (pg1.c1 (by omega)) ?_
            refine wp_cS1 0 0 [some _, none, none, none] dX11_token_83 tX11_sizeOf sX11_sizeOf lX11_194 ⟨by decide, by decide⟩ (Nat.le_of_ble_eq_true rfl) (Nat.le_of_ble_eq_true rfl) rfl ?_
            refine pX11_sizeOf (hd.wd _ _ (by omega) (by omega)).1 ?_
            intro _ _
            refine wp_ireturn dX11_token_86 rfl ?_
            exact hz _ (by unfold vToken; rw [ix_nI (by omega) (by omega)]; show (match ix (nI j2) (rT r p1) with | some k => _ | none => _) = _; rw [ix_nI (by omega) (by omega)]; exact (if_neg (by decide +kernel)).trans ((if_neg (by decide +kernel)).trans (if_pos rfl)))
      · refine wp_iconst (v := (-1)) dX11_token_31 (by decide +kernel) ?_
        refine wp_ireturn dX11_token_32 rfl ?_
        exact hz _ (by unfold vToken; rw [ix_nI (by omega) (by omega)]; show (match ix y _ with | some k => _ | none => _) = _; rw [(ix_nlt (by omega) c4)])
  · intro _ _
    refine wp_astoreN (ls1 := [_, _, _, _, some _]) dX11_token_11 (by decide) rfl ?_
    refine wp_aloadN dX11_token_13 rfl ?_
    refine wp_ifnullN dX11_token_15 ?_
    refine wp_iconst (v := (-1)) dX11_token_31 (by decide +kernel) ?_
    refine wp_ireturn dX11_token_32 rfl ?_
    exact hz _ (by unfold vToken; rw [xn1])
