/-! ===== a page laid out on the ground ===== -/
def gB (pl : Nat → Int64) (T : Nat → Nat → Bool) : Prop := ∀ it, it < 243 → ∃ b, pl it = lN b ∧ b < 2 ^ 63 ∧ ∀ j, b.testBit j = T it j
theorem gB_std {pl : Nat → Int64} {T : Nat → Nat → Bool} {it j : Nat} (g : gB pl T) (hi : it < 243) (hj : j < 63) : gB (up1 pl it (pl it ||| (1 <<< ((nI j).toInt64 &&& 63)))) (fun x y => T x y || decide (x = it ∧ y = j)) := by
  intro x hx
  obtain ⟨b, e, hb, tb⟩ := g x hx
  by_cases z : x = it
  · subst z
    refine ⟨b ||| 2 ^ j, ?_, Nat.or_lt_two_pow hb (Nat.pow_lt_pow_right (by decide) hj), fun y => ?_⟩
    · show (if x = x then _ else _) = _
      rw [if_pos rfl, e, sh1 hb hj]
    · rw [Nat.testBit_or, tb, Nat.testBit_two_pow]
      congr 1
      exact decide_eq_decide.mpr ⟨fun w => ⟨rfl, w.symm⟩, fun w => w.2.symm⟩
  · refine ⟨b, ?_, hb, fun y => ?_⟩
    · show (if x = it then _ else _) = _
      rw [if_neg z, e]
    · rw [tb]
      show _ = (T x y || decide (x = it ∧ y = j))
      rw [decide_eq_false (show ¬ (x = it ∧ y = j) from fun w => z w.1), Bool.or_false]
theorem gB_cg {pl : Nat → Int64} {T T' : Nat → Nat → Bool} (g : gB pl T) (h : ∀ it j, it < 243 → T it j = T' it j) : gB pl T' := fun it hi => by
  obtain ⟨b, e, hb, tb⟩ := g it hi
  exact ⟨b, e, hb, fun j => (tb j).trans (h it j hi)⟩
theorem rowL_s1 {but : Int32} {k : Nat} (h : ¬ nI k = but) : rowL but (k + 1) = rowL but k ++ [k] := by
  unfold rowL
  rw [List.range_succ, List.filter_append]
  congr 1
  exact List.filter_cons_of_pos (by simpa using h)
theorem rowL_s0 {but : Int32} {k : Nat} (h : nI k = but) : rowL but (k + 1) = rowL but k := by
  unfold rowL
  rw [List.range_succ, List.filter_append]
  rw [List.filter_cons_of_neg (by simpa using h)]
  exact List.append_nil _
theorem rowL_pre (but : Int32) (k : Nat) : ∀ m, ∃ t, rowL but (k + m) = rowL but k ++ t
  | 0 => ⟨[], (List.append_nil _).symm⟩
  | m + 1 => by
    obtain ⟨t, e⟩ := rowL_pre but k m
    by_cases z : nI (k + m) = but
    · exact ⟨t, (rowL_s0 z).trans e⟩
    · exact ⟨t ++ [k + m], by rw [← Nat.add_assoc, rowL_s1 z, e, List.append_assoc]⟩
theorem rowL_at {but : Int32} {k n : Nat} (h : ¬ nI k = but) (hn : k < n) : (rowL but n).getD (rowL but k).length 0 = k := by
  obtain ⟨t, e⟩ := rowL_pre but (k + 1) (n - (k + 1))
  rw [show k + 1 + (n - (k + 1)) = n by omega] at e
  rw [e, rowL_s1 h, List.append_assoc, List.getD_eq_getElem?_getD, List.getElem?_append_right (Nat.le_refl _), Nat.sub_self]
  rfl
theorem rw_at {r : Nat → Int64} {p k : Nat} {but : Int32} (h : ¬ nI k = but) (hk : k < rT r p) : rwW r p but (rowL but k).length = rW r p k := by
  unfold rwW
  rw [rowL_at h hk]
theorem idxA_lt {r : Nat → Int64} {p k : Nat} (hp : p < rP r) (hk : k < rT r p) : (uqA r).idxOf (rW r p k) < (uqA r).length := by
  apply List.idxOf_lt_length_of_mem
  obtain ⟨t, e⟩ := tk_app r (p + 1) (rP r - (p + 1))
  rw [show p + 1 + (rP r - (p + 1)) = rP r by omega] at e
  unfold uqA
  rw [e, mem_uq _ _ rfl]
  exact List.mem_append.mpr (Or.inl (mem_tk hk))
theorem lay_s {r : Nat → Int64} {p k : Nat} {but : Int32} (hw : WF r) (hp : p < rP r) (hk : k < rT r p) (h : ¬ nI k = but) (x j : Nat) (hx : x < 243) : ((((decide (j < (rowL but k).length) && pmR r p but (nI x) j) || decide (x = kd (rW r p k) ∧ j = (rowL but k).length)) || decide (x = (uqA r).idxOf (rW r p k) + 3 ∧ j = (rowL but k).length))) = (decide (j < (rowL but (k + 1)).length) && pmR r p but (nI x) j) := by
  have hkd := kd_lt (rW r p k)
  have hix := idxA_lt hp hk
  have hln := uqA_len hw
  rw [rowL_s1 h, List.length_append, show [k].length = 1 from rfl]
  by_cases z : j < (rowL but k).length
  · rw [decide_eq_true z, decide_eq_true (show j < (rowL but k).length + 1 by omega), decide_eq_false (show ¬ (x = kd (rW r p k) ∧ j = (rowL but k).length) by omega), decide_eq_false (show ¬ (x = (uqA r).idxOf (rW r p k) + 3 ∧ j = (rowL but k).length) by omega), Bool.or_false, Bool.or_false]
  · rw [decide_eq_false z, Bool.false_and, Bool.false_or]
    by_cases w : j = (rowL but k).length
    · rw [decide_eq_true (show j < (rowL but k).length + 1 by omega), Bool.true_and]
      unfold pmR
      rw [w, rw_at h hk]
      by_cases v : x < 3
      · rw [if_pos (nI_lt v (by decide)), decide_eq_false (show ¬ (x = (uqA r).idxOf (rW r p k) + 3 ∧ (rowL but k).length = (rowL but k).length) by omega), Bool.or_false]
        refine decide_eq_decide.mpr ⟨fun u => by rw [u.1], fun u => ⟨((nI_eq (by omega) (by omega)).mp u).symm, rfl⟩⟩
      · rw [if_neg (nI_nlt (by omega) (by omega)), decide_eq_false (show ¬ (x = kd (rW r p k) ∧ (rowL but k).length = (rowL but k).length) by omega), Bool.false_or, pk_sub (by omega)]
        refine decide_eq_decide.mpr ⟨fun u => by rw [u.1, Nat.add_sub_cancel], fun u => ⟨?_, rfl⟩⟩
        have := (nI_eq (by omega) (by omega)).mp u
        omega
    · rw [decide_eq_false (show ¬ (x = kd (rW r p k) ∧ j = (rowL but k).length) by omega), decide_eq_false (show ¬ (x = (uqA r).idxOf (rW r p k) + 3 ∧ j = (rowL but k).length) by omega), decide_eq_false (show ¬ j < (rowL but k).length + 1 by omega)]
      rfl
set_option maxRecDepth 20000 in
theorem pX2_stand {h : mH} {Q : Option Value → mH → Prop} {ow : Nat → Nat} {pl : Nat → Int64} {gb ge : Int32} {gs gn : Int64} {gf gt : Int32} {it j : Nat} (zg : zG ow h pl gb ge gs gn gf gt) (hi : it < 243) (hq : ∀ h', cFr [1] 0 ow h ow h' → zG ow h' (up1 pl it (pl it ||| (1 <<< ((nI j).toInt64 &&& 63)))) gb ge gs gn gf gt → Q none h') : Wp mX2_stand 0 0 0 [some (.ref 115), some (.int (nI it)), some (.int (nI j))] [] h Q := by
  refine wp_iload_n dX2_stand_0 rfl rfl ?_
  refine wp_if_lt dX2_stand_1 (fun q => absurd q (nI_pos (by omega))) (fun _ => ?_)
  refine wp_iload_n dX2_stand_4 rfl rfl ?_
  refine wp_sipush (v := (nI 243)) dX2_stand_5 (by decide +kernel) ?_
  refine wp_icmp_geN dX2_stand_8 rfl rfl ⟨by omega, by omega⟩ (fun c4 => ?_) (fun c4 => ?_)
  · refine wp_vreturn dX2_stand_23 rfl ?_
    omega
  · refine wp_aload_n dX2_stand_11 rfl rfl ?_
    refine wp_getR dX2_stand_12 lX2_9 rfl zg.o zg.r0 ?_
    refine wp_iload_n dX2_stand_15 rfl rfl ?_
    refine wp_dup2 dX2_stand_16 rfl rfl ?_
    refine wp_laldV dX2_stand_17 zg.a0 rfl ⟨by omega, by omega⟩ (congrFun zg.c0 _) ?_
    refine wp_lconst (v := 1) dX2_stand_18 (by decide +kernel) ?_
    refine wp_iload_n dX2_stand_19 rfl rfl ?_
    refine wp_lshl dX2_stand_20 ?_
    refine wp_lor dX2_stand_21 ?_
    refine wp_lastN dX2_stand_22 zg.a0 rfl ⟨by omega, by omega⟩ ?_
    refine zg.w0 (fun hh1 f1 zg_1 => ?_)
    refine wp_vreturn dX2_stand_23 rfl ?_
    exact hq _ (f1.up (by decide) (Nat.le_refl _)) zg_1
theorem itm_1 {r : Nat → Int64} {p i : Nat} : itm (asC r p i 1) = nI ((uqA r).idxOf (rW r p i) + 3) := by
  have e : asC r p i 1 = (uqA r).idxOf (rW r p i) + 4 := if_neg (by decide)
  unfold itm
  rw [e, if_neg (by omega)]
  rfl
set_option maxRecDepth 20000 in
theorem pX2_lay {h : mH} {Q : Option Value → mH → Prop} {ow : Nat → Nat} {pl : Nat → Int64} {gb ge : Int32} {gs gn : Int64} {gf gt : Int32} {F p qa : Nat} {pa my : Nat → Int32} {r : Nat → Int64} {but : Int32} (zg : zG ow h pl gb ge gs gn gf gt) (hd : sOK r F pa my) (hp : p < rP r) (pg : pgR ow h qa r p) (hq : ∀ h' pl', cFr [1] 0 ow h ow h' → zG ow h' pl' (nI 0) (nI (rowL but (rT r p)).length) gs gn gf gt → gP pl' (pmR r p but) (rowL but (rT r p)).length → Q none h') : Wp mX2_lay 1 24 0 [some (.ref 115), some (.ref qa), some (.int but), none, none, none] [] h Q := by
  have hP6 := hd.w.1.2
  have hT40 := (hd.w.2.1 p (by omega)).2
  have hloop : ∀  (t9 : Nat) (i : Nat) (pl1 : Nat → Int64) (h1 : mH), (i ≤ rT r p) → (cFr [1] 0 ow h ow h1) → (zG ow h1 pl1 gb ge gs gn gf gt) → (pgR ow h1 qa r p) → (gB pl1 (fun x j => decide (j < (rowL but i).length) && pmR r p but (nI x) j)) → (rT r p < i + t9) → Wp mX2_lay 1 24 27 [some (.ref 115), some (.ref qa), some (.int but), some (.int (nI (rT r p))), some (.int (nI (rowL but i).length)), some (.int (nI i))] [] h1 Q := by
    intro t9
    induction t9 with
    | zero => intros; omega
    | succ t9 ih =>
      intro i pl1 h1 hi hf1 zg1 pg1 hg1 hmz
      refine wp_iload dX2_lay_27 rfl ?_
      refine wp_iload_n dX2_lay_29 rfl rfl ?_
      refine wp_icmp_geN dX2_lay_30 rfl rfl ⟨by omega, by omega⟩ (fun c2 => ?_) (fun c2 => ?_)
      · refine wp_aload_n dX2_lay_74 rfl rfl ?_
        refine wp_iconst (v := (nI 0)) dX2_lay_75 (by decide +kernel) ?_
        refine wp_iload dX2_lay_76 rfl ?_
        refine wp_cV2 0 0 [some _, some _, some _] dX2_lay_78 tX2_within rfl (by decide) nX2_within vX2_within lX2_35 ⟨by decide, by decide⟩ (Nat.le_of_ble_eq_true rfl) zg1.o (Nat.le_of_ble_eq_true rfl) rfl ?_
        refine pX2_within zg1 (fun hh1 f1 zg_1 => ?_)
        intro _ _
        have pg1_1 := pg1.fr f1 (rnS (by omega) rn0)
        refine wp_vreturn dX2_lay_81 rfl ?_
        have ei9 : i = rT r p := by omega
        subst ei9
        exact hq _ _ ((hf1.up (by decide) (Nat.le_refl _)).tr (f1.up (by decide) (Nat.le_refl _))) zg_1 hg1
      · refine wp_iload dX2_lay_33 rfl ?_
        refine wp_iload_n dX2_lay_35 rfl rfl ?_
        refine wp_icmp_eq dX2_lay_36 (fun c3 => ?_) (fun c3 => ?_)
        · refine wp_iinc1 (ls1 := [_, _, _, _, _, some _]) dX2_lay_68 rfl (by decide) rfl ?_
          refine wp_goto dX2_lay_71 ?_
          rw [← rowL_s0 (by assumption : nI i = but)]
          exact ih (i + 1) _ _ (by omega) (hf1.up (by decide) (Nat.le_refl _)) zg1 pg1 (by rw [rowL_s0 (by assumption : nI i = but)]; exact hg1) (by omega)
        · have hi9 : i < rT r p := by omega
          have hr9 := rowL_len but i
          refine wp_aload_n dX2_lay_39 rfl rfl ?_
          refine wp_aload_n dX2_lay_40 rfl rfl ?_
          refine wp_iload dX2_lay_41 rfl ?_
          refine wp_iconst (v := (nI 0)) dX2_lay_43 (by decide +kernel) ?_
          refine wp_cV2 0 0 [some _, some _, some _] dX2_lay_44 tX6_itemAt rfl (by decide) nX6_itemAt vX6_itemAt lX2_27 ⟨by decide, by decide⟩ (Nat.le_of_ble_eq_true rfl) pg1.oo (Nat.le_of_ble_eq_true rfl) rfl ?_
          refine pX6_itemAt hd hp pg1 (by decide) (fun i2 hi2 ei2 v2 hv2 => ?_) (fun xn2 => absurd xn2 (by rw [ix_nI (by omega) (by omega)]; exact fun z => by cases z))
          have ei2 := (nI_eq (by omega) (by omega)).mp ei2
          subst ei2
          have hv2 : v2 = nI (kd (rW r p i)) := hv2.elim (fun z => z.2.trans (it0 (by omega)).symm) (fun z => absurd z.1 (by decide))
          subst hv2
          intro _ _
          refine wp_iload dX2_lay_47 rfl ?_
          refine wp_cV2 0 0 [some _, some _, some _] dX2_lay_49 tX2_stand rfl (by decide) nX2_stand vX2_stand lX2_31 ⟨by decide, by decide⟩ (Nat.le_of_ble_eq_true rfl) zg1.o (Nat.le_of_ble_eq_true rfl) rfl ?_
          refine pX2_stand zg1 (Nat.lt_trans (kd_lt _) (by decide)) (fun hh3 f3 zg_3 => ?_)
          intro _ _
          have pg1_3 := pg1.fr f3 (rnS (by omega) rn0)
          refine wp_aload_n dX2_lay_52 rfl rfl ?_
          refine wp_aload_n dX2_lay_53 rfl rfl ?_
          refine wp_iload dX2_lay_54 rfl ?_
          refine wp_iconst (v := (nI 1)) dX2_lay_56 (by decide +kernel) ?_
          refine wp_cV2 0 0 [some _, some _, some _] dX2_lay_57 tX6_itemAt rfl (by decide) nX6_itemAt vX6_itemAt lX2_27 ⟨by decide, by decide⟩ (Nat.le_of_ble_eq_true rfl) pg1_3.oo (Nat.le_of_ble_eq_true rfl) rfl ?_
          refine pX6_itemAt hd hp pg1_3 (by decide) (fun i4 hi4 ei4 v4 hv4 => ?_) (fun xn4 => absurd xn4 (by rw [ix_nI (by omega) (by omega)]; exact fun z => by cases z))
          have ei4 := (nI_eq (by omega) (by omega)).mp ei4
          subst ei4
          have hv4 : v4 = nI ((uqA r).idxOf (rW r p i) + 3) := hv4.elim (fun z => absurd z.1 (by decide)) (fun z => z.2.trans itm_1)
          subst hv4
          intro _ _
          refine wp_iload dX2_lay_60 rfl ?_
          refine wp_cV2 0 0 [some _, some _, some _] dX2_lay_62 tX2_stand rfl (by decide) nX2_stand vX2_stand lX2_31 ⟨by decide, by decide⟩ (Nat.le_of_ble_eq_true rfl) zg_3.o (Nat.le_of_ble_eq_true rfl) rfl ?_
          refine pX2_stand zg_3 (show (uqA r).idxOf (rW r p i) + 3 < 243 by have := idxA_lt hp hi9; have := uqA_len hd.w; omega) (fun hh5 f5 zg_5 => ?_)
          intro _ _
          have pg1_5 := pg1_3.fr f5 (rnS (by omega) rn0)
          refine wp_iinc1 (ls1 := [_, _, _, _, some _, _]) dX2_lay_65 rfl (by decide) rfl ?_
          refine wp_iinc1 (ls1 := [_, _, _, _, _, some _]) dX2_lay_68 rfl (by decide) rfl ?_
          refine wp_goto dX2_lay_71 ?_
          have el9 : (rowL but i).length + 1 = (rowL but (i + 1)).length := by rw [rowL_s1 (by assumption), List.length_append]; rfl
          rw [el9]
          exact ih (i + 1) _ _ (by omega) (((hf1.up (by decide) (Nat.le_refl _)).tr (f3.up (by decide) (Nat.le_refl _))).tr (f5.up (by decide) (Nat.le_refl _))) zg_5 pg1_5 (gB_cg (gB_std (gB_std hg1 (Nat.lt_trans (kd_lt _) (by decide)) (by omega)) (show (uqA r).idxOf (rW r p i) + 3 < 243 by have := idxA_lt hp hi9; have := uqA_len hd.w; omega) (by omega)) (fun x9 j9 h9 => lay_s hd.w hp hi9 (by assumption) x9 j9 h9)) (by omega)
  refine wp_aload_n dX2_lay_0 rfl rfl ?_
  refine wp_getR dX2_lay_1 lX2_9 rfl zg.o zg.r0 ?_
  refine wp_lconst (v := 0) dX2_lay_4 (by decide +kernel) ?_
  refine wp_cS2 0 0 [some _, some _, none, none, none] dX2_lay_5 tJ7_fill_d0a16 sJ7_fill_d0a16 lX2_15 ⟨by decide, by decide⟩ (Nat.le_of_ble_eq_true rfl) (Nat.le_of_ble_eq_true rfl) rfl ?_
  refine pJ7_fill_d0a16 zg.a0 (by decide) ?_
  intro _ _
  refine zg.z0 rfl (fun hh1 f1 zg_1 => ?_)
  have pg_1 := pg.fr f1 (rnS (by omega) rn0)
  refine wp_aload_n dX2_lay_8 rfl rfl ?_
  refine wp_ifnonnull dX2_lay_9 ?_
  refine wp_aload_n dX2_lay_16 rfl rfl ?_
  refine wp_getIV dX2_lay_17 lX2_21 rfl pg_1.oo pg_1.f0 ?_
  refine wp_istore_n (ls1 := [_, _, _, some _, _, _]) dX2_lay_20 rfl (by decide) rfl ?_
  refine wp_iconst (v := (nI 0)) dX2_lay_21 (by decide +kernel) ?_
  refine wp_istore (ls1 := [_, _, _, _, some _, _]) dX2_lay_22 (by decide) rfl ?_
  refine wp_iconst (v := (nI 0)) dX2_lay_24 (by decide +kernel) ?_
  refine wp_istore (ls1 := [_, _, _, _, _, some _]) dX2_lay_25 (by decide) rfl ?_
  exact hloop (rT r p + 1) 0 _ _ (by omega) (f1.up (by decide) (Nat.le_refl _)) zg_1 pg_1 (fun it hit => ⟨0, if_pos hit, by decide, fun j => by rw [Nat.zero_testBit]; exact (Bool.and_eq_false_iff.mpr (Or.inl (decide_eq_false (Nat.not_lt_zero j)))).symm⟩) (by omega)
theorem new_iff {b s a len : Nat} {P : Nat → Bool} (hb : b < 2 ^ 63) (ha : a ≤ len) (hs : s ≤ a) (tb : ∀ j, b.testBit j = (decide (j < len) && P j)) : lN (b &&& (2 ^ a - 2 ^ s)) = 0 ↔ ∀ j, s ≤ j → j < a → P j = false := by
  rw [lN0 (Nat.lt_of_le_of_lt Nat.and_le_left hb)]
  constructor
  · intro z j h1 h2
    have h3 : (b &&& (2 ^ a - 2 ^ s)).testBit j = false := by rw [z, Nat.zero_testBit]
    rw [Nat.testBit_and, tb, span_tb hs, decide_eq_true (show j < len by omega), decide_eq_true (show s ≤ j ∧ j < a from ⟨h1, h2⟩), Bool.true_and, Bool.and_true] at h3
    exact h3
  · intro z
    apply Nat.eq_of_testBit_eq
    intro j
    rw [Nat.zero_testBit, Nat.testBit_and, tb, span_tb hs]
    by_cases w : s ≤ j ∧ j < a
    · rw [z j w.1 w.2, Bool.and_false, Bool.false_and]
    · rw [decide_eq_false w, Bool.and_false]
set_option maxRecDepth 20000 in
theorem pX2_isNewAt {h : mH} {Q : Option Value → mH → Prop} {ow : Nat → Nat} {pl : Nat → Int64} {ge : Int32} {gs gn : Int64} {gf gt : Int32} {P : Int32 → Nat → Bool} {len it s a : Nat} (zg : zG ow h pl (nI s) ge gs gn gf gt) (hP : gP pl P len) (hl : len ≤ 40) (hit : it < 243) (hs : s ≤ a) (ha : a ≤ len) (ht : (∀ j, s ≤ j → j < a → P (nI it) j = false) → Q (some (.int (nI 1))) h) (hf : ¬ (∀ j, s ≤ j → j < a → P (nI it) j = false) → Q (some (.int (nI 0))) h) : Wp mX2_isNewAt 0 0 0 [some (.ref 115), some (.int (nI it)), some (.int (nI a))] [] h Q := by
  obtain ⟨b, eb, hb, tb⟩ := hP it hit
  refine wp_iload_n dX2_isNewAt_0 rfl rfl ?_
  refine wp_if_lt dX2_isNewAt_1 (fun q => absurd q (nI_pos (by omega))) (fun _ => ?_)
  refine wp_iload_n dX2_isNewAt_4 rfl rfl ?_
  refine wp_sipush (v := (nI 243)) dX2_isNewAt_5 (by decide +kernel) ?_
  refine wp_icmp_ltN dX2_isNewAt_8 rfl rfl ⟨by omega, by omega⟩ (fun c4 => ?_) (fun c4 => ?_)
  · refine wp_aload_n dX2_isNewAt_13 rfl rfl ?_
    refine wp_getR dX2_isNewAt_14 lX2_9 rfl zg.o zg.r0 ?_
    refine wp_iload_n dX2_isNewAt_17 rfl rfl ?_
    refine wp_laldV dX2_isNewAt_18 zg.a0 rfl ⟨by omega, by omega⟩ ((congrFun zg.c0 _).trans eb) ?_
    refine wp_lconst (v := 1) dX2_isNewAt_19 (by decide +kernel) ?_
    refine wp_iload_n dX2_isNewAt_20 rfl rfl ?_
    refine wp_lshl dX2_isNewAt_21 ?_
    refine wp_lconst (v := 1) dX2_isNewAt_22 (by decide +kernel) ?_
    refine wp_aload_n dX2_isNewAt_23 rfl rfl ?_
    refine wp_getIV dX2_isNewAt_24 lX2_62 rfl zg.o zg.f1 ?_
    refine wp_lshl dX2_isNewAt_27 ?_
    refine wp_lsub dX2_isNewAt_28 ?_
    refine wp_land dX2_isNewAt_29 ?_
    rw [show (1 : Int64) = lN 1 from rfl, wb_shl 1 (by omega), wb_shl 1 (by omega), Nat.one_mul, Nat.one_mul, lN_sub (Nat.pow_le_pow_right (by decide) (by omega)), wb_and (by omega) (sp_lt (by omega))]
    refine wp_lconst (v := 0) dX2_isNewAt_30 (by decide +kernel) ?_
    refine wp_lc_ne dX2_isNewAt_31 dX2_isNewAt_32 (fun c5 => ?_) (fun c5 => ?_)
    · refine wp_iconst (v := (nI 0)) dX2_isNewAt_39 (by decide +kernel) ?_
      refine wp_zreturn dX2_isNewAt_40 rfl (by first | exact Or.inl rfl | exact Or.inr rfl) ?_
      first | omega | exact hf (fun z => (by assumption : ¬ _ = _) ((new_iff hb ha hs tb).mpr z))
    · refine wp_iconst (v := (nI 1)) dX2_isNewAt_35 (by decide +kernel) ?_
      refine wp_goto dX2_isNewAt_36 ?_
      refine wp_zreturn dX2_isNewAt_40 rfl (by first | exact Or.inl rfl | exact Or.inr rfl) ?_
      exact ht ((new_iff hb ha hs tb).mp (by assumption))
  · refine wp_iconst (v := (nI 0)) dX2_isNewAt_11 (by decide +kernel) ?_
    refine wp_zreturn dX2_isNewAt_12 rfl (by first | exact Or.inl rfl | exact Or.inr rfl) ?_
    first | omega | exact hf (fun z => (by assumption : ¬ _ = _) ((new_iff hb ha hs tb).mpr z))
