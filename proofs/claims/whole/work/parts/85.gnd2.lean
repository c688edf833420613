/-! ===== a rule cuts the region ===== -/
theorem asc_snoc : ∀ {l : List Nat} {b a : Nat}, asc l b → b ≤ a → a < 63 → (∀ j ∈ l, j < a) → asc (l ++ [a]) b
  | [], _, _, _, h1, h2, _ => ⟨h1, h2, trivial⟩
  | x :: t, _, a, h, _, h2, h3 => ⟨h.1, h.2.1, asc_snoc (l := t) h.2.2 (h3 x List.mem_cons_self) h2 (fun j hj => h3 j (List.mem_cons.mpr (Or.inr hj)))⟩
theorem bsN_snoc {l : List Nat} {a b : Nat} (h : asc (l ++ [a]) b) (hl : asc l b) : bsN l ||| 2 ^ a = bsN (l ++ [a]) := by
  apply Nat.eq_of_testBit_eq
  intro j
  rw [Nat.testBit_or, bsN_tb j hl, bsN_tb j h, Nat.testBit_two_pow]
  by_cases z : j = a
  · subst z
    rw [decide_eq_true rfl, Bool.or_true]
    exact (decide_eq_true (List.mem_append.mpr (Or.inr (List.mem_singleton.mpr rfl)))).symm
  · rw [decide_eq_false (show ¬ a = j from fun w => z w.symm), Bool.or_false]
    exact decide_eq_decide.mpr ⟨fun w => List.mem_append.mpr (Or.inl w), fun w => (List.mem_append.mp w).resolve_right (fun v => z (List.mem_singleton.mp v))⟩
theorem srt_app {l m : List (Nat × Nat)} {n : Nat} (h : srt (l ++ m) n) : srt l n := by
  intro i hi
  have g : (l ++ m).getD i (0, 0) = l.getD i (0, 0) := by
    rw [List.getD_eq_getElem?_getD, List.getD_eq_getElem?_getD, List.getElem?_append_left hi]
  have h1 := h i (by rw [List.length_append]; omega)
  rw [g] at h1
  refine ⟨h1.1, h1.2.1, fun z => ?_⟩
  have g2 : (l ++ m).getD (i + 1) (0, 0) = l.getD (i + 1) (0, 0) := by
    rw [List.getD_eq_getElem?_getD, List.getD_eq_getElem?_getD, List.getElem?_append_left z]
  have := h1.2.2 (by rw [List.length_append]; omega)
  rwa [g2] at this
theorem bs_snoc {l : List (Nat × Nat)} {q : Nat × Nat} {n : Nat} (h : srt (l ++ [q]) n) (hn : n < 63) : bsA l ||| 2 ^ q.1 = bsA (l ++ [q]) ∧ bsE l ||| 2 ^ q.2 = bsE (l ++ [q]) := by
  have h1 := srt_asc h hn
  have h2 := srt_asc (srt_app h) hn
  rw [List.map_append, List.map_append] at h1
  unfold bsA bsE
  rw [List.map_append, List.map_append]
  exact ⟨bsN_snoc h1.1 h2.1, bsN_snoc h1.2 h2.2⟩
theorem bs_lt {l : List (Nat × Nat)} {n : Nat} (h : srt l n) (hn : n < 63) : bsA l < 2 ^ 63 ∧ bsE l < 2 ^ 63 := ⟨bsN_lt (srt_asc h hn).1, bsN_lt (srt_asc h hn).2⟩
theorem bs_0 {l : List (Nat × Nat)} {n : Nat} (h : srt l n) (hn : n < 63) : bsA l = 0 ↔ l = [] := by
  unfold bsA
  rw [bsN_0 (srt_asc h hn).1, List.map_eq_nil_iff]
theorem sh1 {a b : Nat} (ha : a < 2 ^ 63) (hb : b < 63) : lN a ||| (1 <<< ((nI b).toInt64 &&& 63)) = lN (a ||| 2 ^ b) := by
  rw [show (1 : Int64) = lN 1 from rfl, wb_shl 1 (by omega), Nat.one_mul, wb_or (by omega) (Nat.pow_lt_pow_right (by decide) (by omega))]
abbrev cutK (P : Int32 → Nat → Bool) (e k n a : Nat) : List (Nat × Nat) := cutL P e (itm (kI k 0)) (itm (kI k 1)) (itm (kI k 2)) (itm (kI k 3)) n a
theorem cutK_s {P : Int32 → Nat → Bool} {e k n a : Nat} {q : Nat × Nat} (h : cut1 P a e (itm (kI k 0)) (itm (kI k 1)) (itm (kI k 2)) (itm (kI k 3)) = some q) : cutK P e k (n + 1) a = q :: cutK P e k n q.2 := by
  show (match cut1 P a e _ _ _ _ with | none => [] | some q => q :: cutL P e _ _ _ _ n q.2) = _
  rw [h]
theorem cutK_n {P : Int32 → Nat → Bool} {e k n a : Nat} (h : cut1 P a e (itm (kI k 0)) (itm (kI k 1)) (itm (kI k 2)) (itm (kI k 3)) = none) : cutK P e k n a = [] := by
  cases n with
  | zero => rfl
  | succ n =>
    show (match cut1 P a e _ _ _ _ with | none => [] | some q => q :: cutL P e _ _ _ _ n q.2) = _
    rw [h]
set_option maxRecDepth 20000 in
theorem slice_loop {h : mH} {Q : Option Value → mH → Prop} {ow : Nat → Nat} {pl : Nat → Int64} {P : Int32 → Nat → Bool} {len e k a0 m : Nat} {z : Int32} {gf : Int32} (zg : zG ow h pl (nI a0) (nI e) (lN (bsA [])) (lN (bsE [])) gf (nI a0)) (hP : gP pl P len) (he : e ≤ len) (hl : len ≤ 40) (hk : k < 1099511627776) (hcd : ∀ w, w < 4 → kI k w ≤ 243) (ha : a0 ≤ e) (hm : m ≤ 8) (hq : ∀ h' gf gt, cFr [1] 0 ow h ow h' → zG ow h' pl (nI a0) (nI e) (lN (bsA (cutK P e k m a0))) (lN (bsE (cutK P e k m a0))) gf gt → Q none h') : Wp mX2_slice 3 70 33 [some (.ref 115), some (.long (lN k)), none, some (.int z), some (.int (nI m)), some (.int (nI 0))] [] h Q := by
  have hsr : srt (cutK P e k m a0) e := (srt_cut m a0 ha).1
  have hloop : ∀  (t9 : Nat) (i : Nat) (l0 : List (Nat × Nat)) (t : Nat) (gf1 : Int32) (h1 : mH), (i ≤ m) → (l0 ++ cutK P e k (m - i) t = cutK P e k m a0) → (t ≤ e) → (cFr [1] 0 ow h ow h1) → (zG ow h1 pl (nI a0) (nI e) (lN (bsA l0)) (lN (bsE l0)) gf1 (nI t)) → (m < i + t9) → Wp mX2_slice 3 70 33 [some (.ref 115), some (.long (lN k)), none, some (.int z), some (.int (nI m)), some (.int (nI i))] [] h1 Q := by
    intro t9
    induction t9 with
    | zero => intros; omega
    | succ t9 ih =>
      intro i l0 t gf1 h1 hi hl0 ht hf1 zg1 hmz
      refine wp_iload dX2_slice_33 rfl ?_
      refine wp_iload dX2_slice_35 rfl ?_
      refine wp_icmp_geN dX2_slice_37 rfl rfl ⟨by omega, by omega⟩ (fun c2 => ?_) (fun c2 => ?_)
      · refine wp_vreturn dX2_slice_89 rfl ?_
        have ei9 : i = m := by omega
        subst ei9
        have en9 : l0 = cutK P e k i a0 := by rw [← hl0, Nat.sub_self]; exact (List.append_nil _).symm
        subst en9
        exact hq _ _ _ (hf1.up (by decide) (Nat.le_refl _)) zg1
      · refine wp_aload_n dX2_slice_40 rfl rfl ?_
        refine wp_lload_n dX2_slice_41 rfl rfl ?_
        refine wp_aload_n dX2_slice_42 rfl rfl ?_
        refine wp_getIV dX2_slice_43 lX2_82 rfl zg1.o zg1.f6 ?_
        refine wp_cV2 2 42 [some _, some _, none, some _, none, none, none, none, none] dX2_slice_46 tX2_findPart rfl (by decide) nX2_findPart vX2_findPart lX2_85 ⟨by decide, by decide⟩ (Nat.le_of_ble_eq_true rfl) zg1.o (Nat.le_of_ble_eq_true rfl) rfl ?_
        refine pX2_findPart zg1 hP he hl hk hcd (by omega) (fun hh1 x1 y1 f1 zg_1 ec1 => ?_) (fun hh1 x1 y1 f1 zg_1 ec1 => ?_)
        · intro _ _
          refine wp_if_ne dX2_slice_49 (fun _ => ?_) (fun q => absurd q (by decide +kernel))
          have es9 : l0 ++ [(x1, y1)] ++ cutK P e k (m - (i + 1)) y1 = cutK P e k m a0 := by rw [List.append_assoc]; rw [← hl0, show m - i = m - (i + 1) + 1 by omega, cutK_s ec1]; rfl
          have sr9 : srt (l0 ++ [(x1, y1)]) e := srt_app (es9 ▸ hsr)
          have bl9 := bs_lt (srt_app sr9) (show e < 63 by omega)
          have lt9 := sr9 l0.length (by rw [List.length_append]; exact Nat.lt_succ_self _)
          rw [show (l0 ++ [(x1, y1)]).getD l0.length (0, 0) = (x1, y1) by rw [List.getD_eq_getElem?_getD, List.getElem?_append_right (Nat.le_refl _), Nat.sub_self]; rfl] at lt9
          have lt8 : x1 < y1 := lt9.1
          have lt7 : y1 ≤ e := lt9.2.1
          refine wp_aload_n dX2_slice_53 rfl rfl ?_
          refine wp_dup dX2_slice_54 rfl ?_
          refine wp_getLV dX2_slice_55 lX2_68 rfl zg_1.o zg_1.f3 ?_
          refine wp_lconst (v := 1) dX2_slice_58 (by decide +kernel) ?_
          refine wp_aload_n dX2_slice_59 rfl rfl ?_
          refine wp_getIV dX2_slice_60 lX2_89 rfl zg_1.o zg_1.f5 ?_
          refine wp_lshl dX2_slice_63 ?_
          refine wp_lor dX2_slice_64 ?_
          rw [sh1 bl9.1 (by omega)]
          refine wp_putL dX2_slice_65 lX2_68 rfl (Or.inl rfl) zg_1.o ?_
          refine zg_1.p3 (fun hh2 f2 zg_2 => ?_)
          refine wp_aload_n dX2_slice_68 rfl rfl ?_
          refine wp_dup dX2_slice_69 rfl ?_
          refine wp_getLV dX2_slice_70 lX2_71 rfl zg_2.o zg_2.f4 ?_
          refine wp_lconst (v := 1) dX2_slice_73 (by decide +kernel) ?_
          refine wp_aload_n dX2_slice_74 rfl rfl ?_
          refine wp_getIV dX2_slice_75 lX2_82 rfl zg_2.o zg_2.f6 ?_
          refine wp_lshl dX2_slice_78 ?_
          refine wp_lor dX2_slice_79 ?_
          rw [sh1 bl9.2 (by omega)]
          refine wp_putL dX2_slice_80 lX2_71 rfl (Or.inl rfl) zg_2.o ?_
          refine zg_2.p4 (fun hh3 f3 zg_3 => ?_)
          refine wp_iinc1 (ls1 := [_, _, _, _, _, some _]) dX2_slice_83 rfl (by decide) rfl ?_
          refine wp_goto dX2_slice_86 ?_
          rw [(bs_snoc sr9 (show e < 63 by omega)).1] at zg_3
          rw [(bs_snoc sr9 (show e < 63 by omega)).2] at zg_3
          exact ih (i + 1) (l0 ++ [(x1, y1)]) y1 _ _ (by omega) es9 lt7 ((((hf1.up (by decide) (Nat.le_refl _)).tr (f1.up (by decide) (Nat.le_refl _))).tr (f2.up (by decide) (Nat.le_refl _))).tr (f3.up (by decide) (Nat.le_refl _))) zg_3 (by omega)
        · intro _ _
          refine wp_if_ne dX2_slice_49 (fun q => absurd q (by decide +kernel)) (fun _ => ?_)
          refine wp_vreturn dX2_slice_52 rfl ?_
          have en9 : l0 = cutK P e k m a0 := by rw [← hl0, cutK_n ec1, List.append_nil]
          subst en9
          exact hq _ _ _ ((hf1.up (by decide) (Nat.le_refl _)).tr (f1.up (by decide) (Nat.le_refl _))) zg_1
  exact hloop (m + 1) 0 [] a0 gf h (by omega) rfl ha cFr.rf zg (by omega)
set_option maxRecDepth 20000 in
theorem pX2_slice {h : mH} {Q : Option Value → mH → Prop} {ow : Nat → Nat} {pl : Nat → Int64} {gs gn : Int64} {gf gt : Int32} {P : Int32 → Nat → Bool} {len e k a0 : Nat} {z : Int32} (zg : zG ow h pl (nI a0) (nI e) gs gn gf gt) (hP : gP pl P len) (he : e ≤ len) (hl : len ≤ 40) (hk : k < 1099511627776) (hcd : ∀ w, w < 4 → kI k w ≤ 243) (ha : a0 ≤ e) (hz : z = 0 ∨ z = 1) (hq : ∀ h' gf gt, cFr [1] 0 ow h ow h' → zG ow h' pl (nI a0) (nI e) (lN (bsA (cutK P e k (mzN z) a0))) (lN (bsE (cutK P e k (mzN z) a0))) gf gt → Q none h') : Wp mX2_slice 3 70 0 [some (.ref 115), some (.long (lN k)), none, some (.int z), none, none] [] h Q := by
  refine wp_aload_n dX2_slice_0 rfl rfl ?_
  refine wp_lconst (v := 0) dX2_slice_1 (by decide +kernel) ?_
  refine wp_putL dX2_slice_2 lX2_68 rfl (Or.inl rfl) zg.o ?_
  refine zg.p3 (fun hh1 f1 zg_1 => ?_)
  refine wp_aload_n dX2_slice_5 rfl rfl ?_
  refine wp_lconst (v := 0) dX2_slice_6 (by decide +kernel) ?_
  refine wp_putL dX2_slice_7 lX2_71 rfl (Or.inl rfl) zg_1.o ?_
  refine zg_1.p4 (fun hh2 f2 zg_2 => ?_)
  refine wp_iload_n dX2_slice_10 rfl rfl ?_
  rcases hz with e9 | e9
  · subst e9
    refine wp_if_eq dX2_slice_11 (fun _ => ?_) (fun q => absurd rfl q)
    refine wp_iconst (v := (nI 1)) dX2_slice_19 (by decide +kernel) ?_
    refine wp_istore (ls1 := [_, _, _, _, some _, _]) dX2_slice_20 (by decide) rfl ?_
    refine wp_aload_n dX2_slice_22 rfl rfl ?_
    refine wp_aload_n dX2_slice_23 rfl rfl ?_
    refine wp_getIV dX2_slice_24 lX2_62 rfl zg_2.o zg_2.f1 ?_
    refine wp_putI dX2_slice_27 lX2_82 rfl (Or.inl rfl) zg_2.o rfl rfl ?_
    refine zg_2.p6 (fun hh3 f3 zg_3 => ?_)
    refine wp_iconst (v := (nI 0)) dX2_slice_30 (by decide +kernel) ?_
    refine wp_istore (ls1 := [_, _, _, _, _, some _]) dX2_slice_31 (by decide) rfl ?_
    refine slice_loop zg_3 hP he hl hk hcd ha (by decide) (fun hh9 gf9 gt9 ff9 zg9 => ?_)
    exact hq _ _ _ ((((f1.up (by decide) (Nat.le_refl _)).tr (f2.up (by decide) (Nat.le_refl _))).tr (f3.up (by decide) (Nat.le_refl _))).tr ff9) zg9
  · subst e9
    refine wp_if_eq dX2_slice_11 (fun q => absurd q (by decide +kernel)) (fun _ => ?_)
    refine wp_bipush (v := (nI 8)) dX2_slice_14 (by decide +kernel) ?_
    refine wp_goto dX2_slice_16 ?_
    refine wp_istore (ls1 := [_, _, _, _, some _, _]) dX2_slice_20 (by decide) rfl ?_
    refine wp_aload_n dX2_slice_22 rfl rfl ?_
    refine wp_aload_n dX2_slice_23 rfl rfl ?_
    refine wp_getIV dX2_slice_24 lX2_62 rfl zg_2.o zg_2.f1 ?_
    refine wp_putI dX2_slice_27 lX2_82 rfl (Or.inl rfl) zg_2.o rfl rfl ?_
    refine zg_2.p6 (fun hh4 f4 zg_4 => ?_)
    refine wp_iconst (v := (nI 0)) dX2_slice_30 (by decide +kernel) ?_
    refine wp_istore (ls1 := [_, _, _, _, _, some _]) dX2_slice_31 (by decide) rfl ?_
    refine slice_loop zg_4 hP he hl hk hcd ha (by decide) (fun hh9 gf9 gt9 ff9 zg9 => ?_)
    exact hq _ _ _ ((((f1.up (by decide) (Nat.le_refl _)).tr (f2.up (by decide) (Nat.le_refl _))).tr (f4.up (by decide) (Nat.le_refl _))).tr ff9) zg9
set_option maxRecDepth 20000 in
theorem pX2_within {h : mH} {Q : Option Value → mH → Prop} {ow : Nat → Nat} {pl : Nat → Int64} {gb ge x y : Int32} {gs gn : Int64} {gf gt : Int32} (zg : zG ow h pl gb ge gs gn gf gt) (hq : ∀ h', cFr [1] 0 ow h ow h' → zG ow h' pl x y gs gn gf gt → Q none h') : Wp mX2_within 0 0 0 [some (.ref 115), some (.int x), some (.int y)] [] h Q := by
  refine wp_aload_n dX2_within_0 rfl rfl ?_
  refine wp_iload_n dX2_within_1 rfl rfl ?_
  refine wp_putI dX2_within_2 lX2_62 rfl (Or.inl rfl) zg.o rfl rfl ?_
  refine zg.p1 (fun hh1 f1 zg_1 => ?_)
  refine wp_aload_n dX2_within_5 rfl rfl ?_
  refine wp_iload_n dX2_within_6 rfl rfl ?_
  refine wp_putI dX2_within_7 lX2_65 rfl (Or.inl rfl) zg_1.o rfl rfl ?_
  refine zg_1.p2 (fun hh2 f2 zg_2 => ?_)
  refine wp_vreturn dX2_within_10 rfl ?_
  exact hq _ ((f1.up (by decide) (Nat.le_refl _)).tr (f2.up (by decide) (Nat.le_refl _))) zg_2
def vdN (l m : List (Nat × Nat)) : Nat := if l = [] then 0 else if l = m then 1 else 2
section
variable {l m : List (Nat × Nat)} {N N2 : Nat}
theorem vd_0 (hl : srt l N) (hn : N < 63) (h : lN (bsA l) = 0) : nI (vdN l m) = nI 0 := by
  unfold vdN
  rw [if_pos ((bs_0 hl hn).mp ((lN0 (bs_lt hl hn).1).mp h))]
theorem vd_1 (hl : srt l N) (hn : N < 63) (hm : srt m N2) (hn2 : N2 < 63) (h : ¬ lN (bsA l) = 0) (h1 : lN (bsA l) = lN (bsA m)) (h2 : lN (bsE l) = lN (bsE m)) : nI (vdN l m) = nI 1 := by
  unfold vdN
  have a := bs_lt hl hn
  have b := bs_lt hm hn2
  rw [if_neg (fun z => h ((lN0 a.1).mpr ((bs_0 hl hn).mpr z))), if_pos (bs_inj hl hn hm hn2 ((pk_lEQ a.1 b.1).mp h1) ((pk_lEQ a.2 b.2).mp h2))]
theorem vd_2 (hl : srt l N) (hn : N < 63) (_hm : srt m N2) (_hn2 : N2 < 63) (h : ¬ lN (bsA l) = 0) (h1 : ¬ lN (bsA l) = lN (bsA m) ∨ ¬ lN (bsE l) = lN (bsE m)) : nI (vdN l m) = nI 2 := by
  unfold vdN
  have a := bs_lt hl hn
  rw [if_neg (fun z => h ((lN0 a.1).mpr ((bs_0 hl hn).mpr z))), if_neg (fun z => by subst z; rcases h1 with h1 | h1 <;> exact h1 rfl)]
end
set_option maxRecDepth 20000 in
theorem pX2_verdict {h : mH} {Q : Option Value → mH → Prop} {ow : Nat → Nat} {pl : Nat → Int64} {gb ge : Int32} {gf gt : Int32} {l m : List (Nat × Nat)} {N N2 : Nat} (zg : zG ow h pl gb ge (lN (bsA l)) (lN (bsE l)) gf gt) (hl : srt l N) (hn : N < 63) (hm : srt m N2) (hn2 : N2 < 63) (hq : Q (some (.int (nI (vdN l m)))) h) : Wp mX2_verdict 0 0 0 [some (.ref 115), some (.long (lN (bsA m))), none, some (.long (lN (bsE m))), none] [] h Q := by
  have hz : ∀ z, nI (vdN l m) = z → Q (some (.int z)) h := fun z e => e ▸ hq
  refine wp_aload_n dX2_verdict_0 rfl rfl ?_
  refine wp_getLV dX2_verdict_1 lX2_68 rfl zg.o zg.f3 ?_
  refine wp_lconst (v := 0) dX2_verdict_4 (by decide +kernel) ?_
  refine wp_lc_ne dX2_verdict_5 dX2_verdict_6 (fun c1 => ?_) (fun c1 => ?_)
  · refine wp_aload_n dX2_verdict_11 rfl rfl ?_
    refine wp_getLV dX2_verdict_12 lX2_68 rfl zg.o zg.f3 ?_
    refine wp_lload_n dX2_verdict_15 rfl rfl ?_
    refine wp_lc_ne dX2_verdict_16 dX2_verdict_17 (fun c2 => ?_) (fun c2 => ?_)
    · refine wp_iconst (v := (nI 2)) dX2_verdict_33 (by decide +kernel) ?_
      refine wp_ireturn dX2_verdict_34 rfl ?_
      exact hz _ (by first | exact vd_1 hl hn hm hn2 (by assumption) (by assumption) (by assumption) | exact vd_2 hl hn hm hn2 (by assumption) (Or.inl (by assumption)) | exact vd_2 hl hn hm hn2 (by assumption) (Or.inr (by assumption)))
    · refine wp_aload_n dX2_verdict_20 rfl rfl ?_
      refine wp_getLV dX2_verdict_21 lX2_71 rfl zg.o zg.f4 ?_
      refine wp_lload_n dX2_verdict_24 rfl rfl ?_
      refine wp_lc_ne dX2_verdict_25 dX2_verdict_26 (fun c3 => ?_) (fun c3 => ?_)
      · refine wp_iconst (v := (nI 2)) dX2_verdict_33 (by decide +kernel) ?_
        refine wp_ireturn dX2_verdict_34 rfl ?_
        exact hz _ (by first | exact vd_1 hl hn hm hn2 (by assumption) (by assumption) (by assumption) | exact vd_2 hl hn hm hn2 (by assumption) (Or.inl (by assumption)) | exact vd_2 hl hn hm hn2 (by assumption) (Or.inr (by assumption)))
      · refine wp_iconst (v := (nI 1)) dX2_verdict_29 (by decide +kernel) ?_
        refine wp_goto dX2_verdict_30 ?_
        refine wp_ireturn dX2_verdict_34 rfl ?_
        exact hz _ (by first | exact vd_1 hl hn hm hn2 (by assumption) (by assumption) (by assumption) | exact vd_2 hl hn hm hn2 (by assumption) (Or.inl (by assumption)) | exact vd_2 hl hn hm hn2 (by assumption) (Or.inr (by assumption)))
  · refine wp_iconst (v := (nI 0)) dX2_verdict_9 (by decide +kernel) ?_
    refine wp_ireturn dX2_verdict_10 rfl ?_
    exact hz _ (vd_0 hl hn (by assumption))
