/-! ===== the strongest opinion ===== -/
def bstO (N : Nat) (V FK : Nat → Nat) (ok : Nat → Prop) (b : Nat) : Prop := b < N ∧ ok b ∧ ∀ o, o < N → ok o → V o < V b ∨ (V o = V b ∧ FK b ≤ FK o)
theorem voP_V {g : Nat → Bool} {lk : Nat → List (Nat × Nat)} {K : Nat → Nat} {t N : Nat} {OL : Nat → List (Nat × Nat)} {V FK : Nat → Nat} (q : voP g lk K t N OL V FK) : ∀ o, o < N → V o ≤ t := fun o ho => by
  rw [(q.2.2 o ho).1]
  exact cntB_le t
theorem cd_cnt {l : List (Nat × Nat)} (h : okP l) : cntB (fun k => decide (cd l k ≠ 0)) 8 = l.length := by
  have hc : ∀ n, cntB (fun k => decide (cd l k ≠ 0)) n = min n l.length := by
    intro n
    induction n with
    | zero => exact (Nat.zero_min _).symm
    | succ n ih =>
      by_cases c : cd l n = 0
      · rw [cntB_s0 (decide_eq_false (fun z => z c)), ih]
        have := (cd_0 h n).mp c
        omega
      · rw [cntB_s1 (decide_eq_true c), ih]
        have : ¬ l.length ≤ n := fun z => c ((cd_0 h n).mpr z)
        omega
  rw [hc]
  have := h.1
  omega
theorem sh12 (m w : Nat) (hm : m < 8) (hw : w ≤ m) : (((nI 12 * (nI m - nI w)).toInt64 &&& 63).toBitVec.smod 64).toNat = 12 * (m - w) ∨ 4 ≤ m - w := by
  have : ∀ m w : Fin 8, w.val ≤ m.val → (((nI 12 * (nI m.val - nI w.val)).toInt64 &&& 63).toBitVec.smod 64).toNat = 12 * (m.val - w.val) ∨ 4 ≤ m.val - w.val := by decide +kernel
  exact this ⟨m, hm⟩ ⟨w, by omega⟩ hw
theorem pk_sh {x m w : Nat} (hx : x < 562949953421312) (hm : m < 8) (hw : w ≤ m) (h4 : m - w < 4) : lN x >>> ((nI 12 * (nI m - nI w)).toInt64 &&& 63) = lN (x / 4096 ^ (m - w)) := by
  rw [pf_shr (d := 12 * (m - w)) ((sh12 m w hm hw).elim id (fun z => by omega)) (by omega), Nat.pow_mul]
theorem pkd_lt {x j : Nat} (hx : x < 562949953421312) : x / 4096 ^ j < 9223372036854775808 := Nat.lt_of_le_of_lt (Nat.div_le_self _ _) (by omega)
theorem dg_rem {x : Nat} (hx : x < 9223372036854775808) : lN x - lN x / 4096 * 4096 = lN (x % 4096) := pk_lRem (b := 4096) hx (by decide) (by decide)
theorem dg_and {x : Nat} (hx : x < 9223372036854775808) : (lN x &&& 4095).toInt32 = nI (x % 4096) := by
  rw [show (4095 : Int64) = lN (2 ^ 12 - 1) by decide +kernel, wb_mask (by omega) (by decide), lN_i]
theorem dg_hi {x : Nat} (hx : x < 4096) : nI x >>> (nI 6 &&& 31) = nI (x / 64) := nx_sshr (by omega) (by decide)
theorem dg_lo {x : Nat} (hx : x < 4096) : nI x &&& nI 63 = nI (x % 64) := pk_andN (m := nI 63) (by omega) 6 (by decide +kernel)
theorem cd_ab {l : List (Nat × Nat)} (h : okP l) {k : Nat} (hk : k < l.length) : cd l k / 64 = (l.getD k (0, 0)).1 ∧ cd l k % 64 = (l.getD k (0, 0)).2 := by
  have := h.2 k hk
  unfold cd
  rw [if_pos hk]
  omega
set_option maxRecDepth 20000 in
theorem pX12_mostVoted {h : mH} {Q : Option Value → mH → Prop} {N : Nat} {OL : Nat → List (Nat × Nat)} {V FK T : Nat → Nat} (hs : mS h) (vo : voH h N OL V FK T) (hN : 0 < N ∧ N ≤ 9594) (hV : ∀ o, o < N → V o ≤ 9594) (hq : ∀ b, b < N → (∀ o, o < N → V o < V b ∨ (V o = V b ∧ FK b ≤ FK o)) → Q (some (.int (nI b))) h) : Wp mX12_mostVoted 0 0 0 [some (.ref 153), none, none] [] h Q := by
  have hloop : ∀  (t9 : Nat) (i : Nat) (b : Nat), (i ≤ N) → (b < i) → (∀ o, o < i → V o < V b ∨ (V o = V b ∧ FK b ≤ FK o)) → (N < i + t9) → Wp mX12_mostVoted 0 0 4 [some (.ref 153), some (.int (nI b)), some (.int (nI i))] [] h Q := by
    intro t9
    induction t9 with
    | zero => intros; omega
    | succ t9 ih =>
      intro i b hi hbi hb hmz
      refine wp_iload_n dX12_mostVoted_4 rfl rfl ?_
      refine wp_aload_n dX12_mostVoted_5 rfl rfl ?_
      refine wp_getIV dX12_mostVoted_6 lX12_517 rfl (mO hs) vo.1 ?_
      refine wp_icmp_geN dX12_mostVoted_9 rfl rfl ⟨by omega, by omega⟩ (fun c1 => ?_) (fun c1 => ?_)
      · refine wp_iload_n dX12_mostVoted_66 rfl rfl ?_
        refine wp_ireturn dX12_mostVoted_67 rfl ?_
        have e9 : i = N := by omega
        subst e9
        exact hq b (by omega) hb
      · refine wp_aload_n dX12_mostVoted_12 rfl rfl ?_
        refine wp_getR dX12_mostVoted_13 lX12_122 rfl (mO hs) (mR_votes hs) ?_
        refine wp_iload_n dX12_mostVoted_16 rfl rfl ?_
        refine wp_ialdV dX12_mostVoted_17 (mA_votes hs) rfl ⟨by omega, by decide⟩ (vo.2.1 i (by omega)).2.2.1 ?_
        refine wp_aload_n dX12_mostVoted_18 rfl rfl ?_
        refine wp_getR dX12_mostVoted_19 lX12_122 rfl (mO hs) (mR_votes hs) ?_
        refine wp_iload_n dX12_mostVoted_22 rfl rfl ?_
        refine wp_ialdV dX12_mostVoted_23 (mA_votes hs) rfl ⟨by omega, by decide⟩ (vo.2.1 b (by omega)).2.2.1 ?_
        refine wp_icmp_gtN dX12_mostVoted_24 rfl rfl ⟨by first | omega | (have := hV i (by omega); omega), by first | omega | (have := hV b (by omega); omega)⟩ (fun c2 => ?_) (fun c2 => ?_)
        · refine wp_iload_n dX12_mostVoted_58 rfl rfl ?_
          refine wp_istore_n (ls1 := [_, some _, _]) dX12_mostVoted_59 rfl (by decide) rfl ?_
          refine wp_iinc1 (ls1 := [_, _, some _]) dX12_mostVoted_60 rfl (by decide) rfl ?_
          refine wp_goto dX12_mostVoted_63 ?_
          refine ih (i + 1) i (by omega) (by omega) ?_ (by omega)
          intro o9 ho9
          by_cases e9 : o9 = i
          · subst e9; exact Or.inr ⟨rfl, Nat.le_refl _⟩
          · have h9 := hb o9 (by omega)
            first | omega | (have h8 : FK i < FK b := Nat.lt_of_not_le (fun z9 => (by assumption : ¬ lN (FK b) ≤ lN (FK i)) ((pk_lLE (by have := (vo.2.1 b (by omega)).2.1.2; omega) (by have := (vo.2.1 i (by omega)).2.1.2; omega)).mpr z9)); omega)
        · refine wp_aload_n dX12_mostVoted_27 rfl rfl ?_
          refine wp_getR dX12_mostVoted_28 lX12_122 rfl (mO hs) (mR_votes hs) ?_
          refine wp_iload_n dX12_mostVoted_31 rfl rfl ?_
          refine wp_ialdV dX12_mostVoted_32 (mA_votes hs) rfl ⟨by omega, by decide⟩ (vo.2.1 i (by omega)).2.2.1 ?_
          refine wp_aload_n dX12_mostVoted_33 rfl rfl ?_
          refine wp_getR dX12_mostVoted_34 lX12_122 rfl (mO hs) (mR_votes hs) ?_
          refine wp_iload_n dX12_mostVoted_37 rfl rfl ?_
          refine wp_ialdV dX12_mostVoted_38 (mA_votes hs) rfl ⟨by omega, by decide⟩ (vo.2.1 b (by omega)).2.2.1 ?_
          refine wp_icmp_neN dX12_mostVoted_39 rfl rfl ⟨by first | omega | (have := hV i (by omega); omega), by first | omega | (have := hV b (by omega); omega)⟩ (fun c3 => ?_) (fun c3 => ?_)
          · refine wp_iinc1 (ls1 := [_, _, some _]) dX12_mostVoted_60 rfl (by decide) rfl ?_
            refine wp_goto dX12_mostVoted_63 ?_
            refine ih (i + 1) b (by omega) (by omega) ?_ (by omega)
            intro o9 ho9
            by_cases e9 : o9 = i
            · subst e9
              first | (have h8 := (pk_lLE (by have := (vo.2.1 b (by omega)).2.1.2; omega) (by have := (vo.2.1 o9 (by omega)).2.1.2; omega)).mp (by assumption : lN (FK b) ≤ lN (FK o9)); omega) | omega
            · exact hb o9 (by omega)
          · refine wp_aload_n dX12_mostVoted_42 rfl rfl ?_
            refine wp_getR dX12_mostVoted_43 lX12_119 rfl (mO hs) (mR_firstKey hs) ?_
            refine wp_iload_n dX12_mostVoted_46 rfl rfl ?_
            refine wp_laldV dX12_mostVoted_47 (mA_firstKey hs) rfl ⟨by omega, by decide⟩ (vo.2.1 i (by omega)).2.1.1 ?_
            refine wp_aload_n dX12_mostVoted_48 rfl rfl ?_
            refine wp_getR dX12_mostVoted_49 lX12_119 rfl (mO hs) (mR_firstKey hs) ?_
            refine wp_iload_n dX12_mostVoted_52 rfl rfl ?_
            refine wp_laldV dX12_mostVoted_53 (mA_firstKey hs) rfl ⟨by omega, by decide⟩ (vo.2.1 b (by omega)).2.1.1 ?_
            refine wp_lc_ge dX12_mostVoted_54 dX12_mostVoted_55 (fun c4 => ?_) (fun c4 => ?_)
            · refine wp_iinc1 (ls1 := [_, _, some _]) dX12_mostVoted_60 rfl (by decide) rfl ?_
              refine wp_goto dX12_mostVoted_63 ?_
              refine ih (i + 1) b (by omega) (by omega) ?_ (by omega)
              intro o9 ho9
              by_cases e9 : o9 = i
              · subst e9
                first | (have h8 := (pk_lLE (by have := (vo.2.1 b (by omega)).2.1.2; omega) (by have := (vo.2.1 o9 (by omega)).2.1.2; omega)).mp (by assumption : lN (FK b) ≤ lN (FK o9)); omega) | omega
              · exact hb o9 (by omega)
            · refine wp_iload_n dX12_mostVoted_58 rfl rfl ?_
              refine wp_istore_n (ls1 := [_, some _, _]) dX12_mostVoted_59 rfl (by decide) rfl ?_
              refine wp_iinc1 (ls1 := [_, _, some _]) dX12_mostVoted_60 rfl (by decide) rfl ?_
              refine wp_goto dX12_mostVoted_63 ?_
              refine ih (i + 1) i (by omega) (by omega) ?_ (by omega)
              intro o9 ho9
              by_cases e9 : o9 = i
              · subst e9; exact Or.inr ⟨rfl, Nat.le_refl _⟩
              · have h9 := hb o9 (by omega)
                first | omega | (have h8 : FK i < FK b := Nat.lt_of_not_le (fun z9 => (by assumption : ¬ lN (FK b) ≤ lN (FK i)) ((pk_lLE (by have := (vo.2.1 b (by omega)).2.1.2; omega) (by have := (vo.2.1 i (by omega)).2.1.2; omega)).mpr z9)); omega)
  refine wp_iconst (v := (nI 0)) dX12_mostVoted_0 (by decide +kernel) ?_
  refine wp_istore_n (ls1 := [_, some _, _]) dX12_mostVoted_1 rfl (by decide) rfl ?_
  refine wp_iconst (v := (nI 1)) dX12_mostVoted_2 (by decide +kernel) ?_
  refine wp_istore_n (ls1 := [_, _, some _]) dX12_mostVoted_3 rfl (by decide) rfl ?_
  exact hloop (N + 1) 1 0 (by omega) (by omega) (fun o ho => by rw [show o = 0 by omega]; exact Or.inr ⟨rfl, Nat.le_refl _⟩) (by omega)
theorem cuts_add {h h' : mH} {l : List (Nat × Nat)} {k : Nat} (hk : k < l.length) (ok : okP l) (ok40 : ∀ i, (l.getD i (0, 0)).1 ≤ 40 ∧ (l.getD i (0, 0)).2 ≤ 40) (q : cutsOK h (l.take k)) (e1 : hI h' 153 35 = nI ((l.take k).length + 1)) (e2 : hI h' 169 = upI (hI h 169) k (nI (l.getD k (0, 0)).1)) (e3 : hI h' 170 = upI (hI h 170) k (nI (l.getD k (0, 0)).2)) : cutsOK h' (l.take (k + 1)) := by
  have h1 : (l.take k).length = k := by
    rw [List.length_take]
    omega
  have h2 : (l.take (k + 1)).length = k + 1 := by
    rw [List.length_take]
    omega
  have hg : ∀ n i, i < n → (l.take n).getD i (0, 0) = l.getD i (0, 0) := fun n i hi => by
    rw [List.getD_eq_getElem?_getD, List.getD_eq_getElem?_getD, List.getElem?_take, if_pos hi]
  refine ⟨by rw [e1, h1, h2], by rw [h2]; have := ok.1; omega, fun i hi => ?_⟩
  rw [h2] at hi
  rw [e2, e3, hg (k + 1) i hi]
  by_cases c : i = k
  · subst c
    rw [upI_at, upI_at]
    have h9 := ok40 i
    exact ⟨rfl, rfl, h9⟩
  · rw [upI_ne c, upI_ne c]
    have h9 := q.2.2 i (by rw [h1]; omega)
    rw [hg k i (by omega)] at h9
    exact h9
set_option maxRecDepth 20000 in
theorem pX12_laysParts {h : mH} {Q : Option Value → mH → Prop} {N b : Nat} {OL : Nat → List (Nat × Nat)} {V FK T : Nat → Nat} (hs : mS h) (vo : voH h N OL V FK T) (hN : N ≤ 9594) (hb : b < N) (ok40 : ∀ i, ((OL b).getD i (0, 0)).1 ≤ 40 ∧ ((OL b).getD i (0, 0)).2 ≤ 40) (hq : ∀ h', mFr (mP [35] [169, 170]) h h' → cutsOK h' (OL b) → Q none h') : Wp mX12_laysParts 0 0 0 [some (.ref 153), some (.int (nI b)), none, none] [] h Q := by
  have ok := (vo.2.1 b hb).2.2.2
  have hloop : ∀  (t9 : Nat) (k : Nat) (x3 : Option Value) (h1 : mH), (k ≤ 8) → (mS h1) → (voH h1 N OL V FK T) → (mFr (mP [35] [169, 170]) h h1) → (cutsOK h1 ((OL b).take k)) → (8 < k + t9) → Wp mX12_laysParts 0 0 7 [some (.ref 153), some (.int (nI b)), some (.int (nI k)), x3] [] h1 Q := by
    intro t9
    induction t9 with
    | zero => intros; omega
    | succ t9 ih =>
      intro k x3 h1 hk hs1 vo1 hf1 k1 hmz
      have hk1l : ((OL b).take k).length ≤ 8 := k1.2.1
      refine wp_iload_n dX12_laysParts_7 rfl rfl ?_
      refine wp_bipush (v := (nI 8)) dX12_laysParts_8 (by decide +kernel) ?_
      refine wp_icmp_geN dX12_laysParts_10 rfl rfl ⟨by omega, by omega⟩ (fun c1 => ?_) (fun c1 => ?_)
      · refine wp_vreturn dX12_laysParts_101 rfl ?_
        refine hq _ hf1 ?_
        have hkl : (OL b).length ≤ k := by first | (have := ok.1; omega) | exact (cd_0 ok k).mp (by assumption)
        rw [List.take_of_length_le hkl] at k1
        exact k1
      · refine wp_iload_n dX12_laysParts_13 rfl rfl ?_
        refine wp_iconst (v := (nI 4)) dX12_laysParts_14 (by decide +kernel) ?_
        refine wp_icmp_geN dX12_laysParts_15 rfl rfl ⟨by omega, by omega⟩ (fun c2 => ?_) (fun c2 => ?_)
        · refine wp_aload_n dX12_laysParts_34 rfl rfl ?_
          refine wp_getR dX12_laysParts_35 lX12_116 rfl (mO hs1) (mR_lastParts hs1) ?_
          refine wp_iload_n dX12_laysParts_38 rfl rfl ?_
          refine wp_laldV dX12_laysParts_39 (mA_lastParts hs1) rfl ⟨by omega, by decide⟩ (vo1.2.1 b hb).1.2 ?_
          refine wp_bipush (v := (nI 12)) dX12_laysParts_40 (by decide +kernel) ?_
          refine wp_bipush (v := (nI 7)) dX12_laysParts_42 (by decide +kernel) ?_
          refine wp_iload_n dX12_laysParts_44 rfl rfl ?_
          refine wp_isub dX12_laysParts_45 ?_
          refine wp_imul dX12_laysParts_46 ?_
          refine wp_lshr dX12_laysParts_47 ?_
          refine wp_ldc2 dX12_laysParts_48 lX12_534 ?_
          refine wp_land dX12_laysParts_51 ?_
          refine wp_l2i dX12_laysParts_52 ?_
          rw [pk_sh (pkk_lt ok).2 (m := 7) (w := k) (by decide) (by omega) (by omega), dg_and (pkd_lt (pkk_lt ok).2), show _ % 4096 = cd (OL b) k from (by have h9 := pk_cd ok k (by omega); rw [if_neg (by omega)] at h9; exact h9)]
          refine wp_istore_n (ls1 := [_, _, _, some _]) dX12_laysParts_53 rfl (by decide) rfl ?_
          refine wp_iload_n dX12_laysParts_54 rfl rfl ?_
          refine wp_if_neN dX12_laysParts_55 rfl (by have := cd_lt ok k; omega) (fun c3 => ?_) (fun c3 => ?_)
          · refine wp_aload_n dX12_laysParts_59 rfl rfl ?_
            refine wp_getR dX12_laysParts_60 lX12_64 rfl (mO hs1) (mR_cutFrom hs1) ?_
            refine wp_aload_n dX12_laysParts_63 rfl rfl ?_
            refine wp_getIV dX12_laysParts_64 lX12_337 rfl (mO hs1) k1.1 ?_
            refine wp_iload_n dX12_laysParts_67 rfl rfl ?_
            refine wp_bipush (v := (nI 6)) dX12_laysParts_68 (by decide +kernel) ?_
            refine wp_ishr dX12_laysParts_70 ?_
            rw [dg_hi (cd_lt ok k)]
            refine wp_iastN dX12_laysParts_71 (mA_cutFrom hs1) rfl ⟨by rw [List.length_take]; omega, by decide⟩ ?_
            refine sealAI (rfl : hI h1 169 = hI h1 169) (fun hh1 f1 e1 => ?_)
            have S1 := f1.s hs1
            have vo1 := vo1.fr f1 (by decide) (by decide)
            have efI35_1 := (f1.fI 35 (by decide) (by decide)).trans k1.1
            have eI170_1 := (f1.Ir (by decide) (by decide)).trans (rfl : hI h1 170 = hI h1 170)
            refine wp_aload_n dX12_laysParts_72 rfl rfl ?_
            refine wp_getR dX12_laysParts_73 lX12_67 rfl (mO S1) (mR_cutTo S1) ?_
            refine wp_aload_n dX12_laysParts_76 rfl rfl ?_
            refine wp_getIV dX12_laysParts_77 lX12_337 rfl (mO S1) efI35_1 ?_
            refine wp_iload_n dX12_laysParts_80 rfl rfl ?_
            refine wp_bipush (v := (nI 63)) dX12_laysParts_81 (by decide +kernel) ?_
            refine wp_iand dX12_laysParts_83 ?_
            rw [dg_lo (cd_lt ok k)]
            refine wp_iastN dX12_laysParts_84 (mA_cutTo S1) rfl ⟨by rw [List.length_take]; omega, by decide⟩ ?_
            refine sealAI eI170_1 (fun hh2 f2 e2 => ?_)
            have S2 := f2.s S1
            have vo2 := vo1.fr f2 (by decide) (by decide)
            have efI35_2 := (f2.fI 35 (by decide) (by decide)).trans efI35_1
            have eI169_2 := (f2.Ir (by decide) (by decide)).trans e1
            refine wp_aload_n dX12_laysParts_85 rfl rfl ?_
            refine wp_dup dX12_laysParts_86 rfl ?_
            refine wp_getIV dX12_laysParts_87 lX12_337 rfl (mO S2) efI35_2 ?_
            refine wp_iconst (v := (nI 1)) dX12_laysParts_90 (by decide +kernel) ?_
            refine wp_iadd dX12_laysParts_91 ?_
            refine wp_putIN dX12_laysParts_92 lX12_337 rfl rfl (Or.inl rfl) (mO S2) (isN_add rfl rfl) ?_
            refine sealI (fun hh3 f3 e3 => ?_)
            have S3 := f3.s S2
            have vo3 := vo2.fr f3 (by decide) (by decide)
            have eI169_3 := (f3.Ir (by decide) (by decide)).trans eI169_2
            have eI170_3 := (f3.Ir (by decide) (by decide)).trans e2
            refine wp_iinc1 (ls1 := [_, _, some _, _]) dX12_laysParts_95 rfl (by decide) rfl ?_
            refine wp_goto dX12_laysParts_98 ?_
            have hkl : k < (OL b).length := Nat.lt_of_not_le (fun z9 => by have := (cd_0 ok k).mpr z9; omega)
            have hab := cd_ab ok hkl
            refine ih (k + 1) _ _ (by omega) S3 vo3 ((((hf1.up (by decide) (by decide)).tr (f1.up (by decide) (by decide))).tr (f2.up (by decide) (by decide))).tr (f3.up (by decide) (by decide))) ?_ (by omega)
            exact cuts_add hkl ok ok40 k1 e3 (eI169_3.trans (by rw [List.length_take, Nat.min_eq_left (Nat.le_of_lt hkl), hab.1])) (eI170_3.trans (by rw [List.length_take, Nat.min_eq_left (Nat.le_of_lt hkl), hab.2]))
          · refine wp_vreturn dX12_laysParts_58 rfl ?_
            refine hq _ hf1 ?_
            have hkl : (OL b).length ≤ k := by first | (have := ok.1; omega) | exact (cd_0 ok k).mp (by assumption)
            rw [List.take_of_length_le hkl] at k1
            exact k1
        · refine wp_aload_n dX12_laysParts_18 rfl rfl ?_
          refine wp_getR dX12_laysParts_19 lX12_113 rfl (mO hs1) (mR_firstParts hs1) ?_
          refine wp_iload_n dX12_laysParts_22 rfl rfl ?_
          refine wp_laldV dX12_laysParts_23 (mA_firstParts hs1) rfl ⟨by omega, by decide⟩ (vo1.2.1 b hb).1.1 ?_
          refine wp_bipush (v := (nI 12)) dX12_laysParts_24 (by decide +kernel) ?_
          refine wp_iconst (v := (nI 3)) dX12_laysParts_26 (by decide +kernel) ?_
          refine wp_iload_n dX12_laysParts_27 rfl rfl ?_
          refine wp_isub dX12_laysParts_28 ?_
          refine wp_imul dX12_laysParts_29 ?_
          refine wp_lshr dX12_laysParts_30 ?_
          refine wp_goto dX12_laysParts_31 ?_
          refine wp_ldc2 dX12_laysParts_48 lX12_534 ?_
          refine wp_land dX12_laysParts_51 ?_
          refine wp_l2i dX12_laysParts_52 ?_
          rw [pk_sh (pkk_lt ok).1 (m := 3) (w := k) (by decide) (by omega) (by omega), dg_and (pkd_lt (pkk_lt ok).1), show _ % 4096 = cd (OL b) k from (by have h9 := pk_cd ok k (by omega); rw [if_pos (by omega)] at h9; exact h9)]
          refine wp_istore_n (ls1 := [_, _, _, some _]) dX12_laysParts_53 rfl (by decide) rfl ?_
          refine wp_iload_n dX12_laysParts_54 rfl rfl ?_
          refine wp_if_neN dX12_laysParts_55 rfl (by have := cd_lt ok k; omega) (fun c4 => ?_) (fun c4 => ?_)
          · refine wp_aload_n dX12_laysParts_59 rfl rfl ?_
            refine wp_getR dX12_laysParts_60 lX12_64 rfl (mO hs1) (mR_cutFrom hs1) ?_
            refine wp_aload_n dX12_laysParts_63 rfl rfl ?_
            refine wp_getIV dX12_laysParts_64 lX12_337 rfl (mO hs1) k1.1 ?_
            refine wp_iload_n dX12_laysParts_67 rfl rfl ?_
            refine wp_bipush (v := (nI 6)) dX12_laysParts_68 (by decide +kernel) ?_
            refine wp_ishr dX12_laysParts_70 ?_
            rw [dg_hi (cd_lt ok k)]
            refine wp_iastN dX12_laysParts_71 (mA_cutFrom hs1) rfl ⟨by rw [List.length_take]; omega, by decide⟩ ?_
            refine sealAI (rfl : hI h1 169 = hI h1 169) (fun hh4 f4 e4 => ?_)
            have S4 := f4.s hs1
            have vo4 := vo1.fr f4 (by decide) (by decide)
            have efI35_4 := (f4.fI 35 (by decide) (by decide)).trans k1.1
            have eI170_4 := (f4.Ir (by decide) (by decide)).trans (rfl : hI h1 170 = hI h1 170)
            refine wp_aload_n dX12_laysParts_72 rfl rfl ?_
            refine wp_getR dX12_laysParts_73 lX12_67 rfl (mO S4) (mR_cutTo S4) ?_
            refine wp_aload_n dX12_laysParts_76 rfl rfl ?_
            refine wp_getIV dX12_laysParts_77 lX12_337 rfl (mO S4) efI35_4 ?_
            refine wp_iload_n dX12_laysParts_80 rfl rfl ?_
            refine wp_bipush (v := (nI 63)) dX12_laysParts_81 (by decide +kernel) ?_
            refine wp_iand dX12_laysParts_83 ?_
            rw [dg_lo (cd_lt ok k)]
            refine wp_iastN dX12_laysParts_84 (mA_cutTo S4) rfl ⟨by rw [List.length_take]; omega, by decide⟩ ?_
            refine sealAI eI170_4 (fun hh5 f5 e5 => ?_)
            have S5 := f5.s S4
            have vo5 := vo4.fr f5 (by decide) (by decide)
            have efI35_5 := (f5.fI 35 (by decide) (by decide)).trans efI35_4
            have eI169_5 := (f5.Ir (by decide) (by decide)).trans e4
            refine wp_aload_n dX12_laysParts_85 rfl rfl ?_
            refine wp_dup dX12_laysParts_86 rfl ?_
            refine wp_getIV dX12_laysParts_87 lX12_337 rfl (mO S5) efI35_5 ?_
            refine wp_iconst (v := (nI 1)) dX12_laysParts_90 (by decide +kernel) ?_
            refine wp_iadd dX12_laysParts_91 ?_
            refine wp_putIN dX12_laysParts_92 lX12_337 rfl rfl (Or.inl rfl) (mO S5) (isN_add rfl rfl) ?_
            refine sealI (fun hh6 f6 e6 => ?_)
            have S6 := f6.s S5
            have vo6 := vo5.fr f6 (by decide) (by decide)
            have eI169_6 := (f6.Ir (by decide) (by decide)).trans eI169_5
            have eI170_6 := (f6.Ir (by decide) (by decide)).trans e5
            refine wp_iinc1 (ls1 := [_, _, some _, _]) dX12_laysParts_95 rfl (by decide) rfl ?_
            refine wp_goto dX12_laysParts_98 ?_
            have hkl : k < (OL b).length := Nat.lt_of_not_le (fun z9 => by have := (cd_0 ok k).mpr z9; omega)
            have hab := cd_ab ok hkl
            refine ih (k + 1) _ _ (by omega) S6 vo6 ((((hf1.up (by decide) (by decide)).tr (f4.up (by decide) (by decide))).tr (f5.up (by decide) (by decide))).tr (f6.up (by decide) (by decide))) ?_ (by omega)
            exact cuts_add hkl ok ok40 k1 e6 (eI169_6.trans (by rw [List.length_take, Nat.min_eq_left (Nat.le_of_lt hkl), hab.1])) (eI170_6.trans (by rw [List.length_take, Nat.min_eq_left (Nat.le_of_lt hkl), hab.2]))
          · refine wp_vreturn dX12_laysParts_58 rfl ?_
            refine hq _ hf1 ?_
            have hkl : (OL b).length ≤ k := by first | (have := ok.1; omega) | exact (cd_0 ok k).mp (by assumption)
            rw [List.take_of_length_le hkl] at k1
            exact k1
  refine wp_aload_n dX12_laysParts_0 rfl rfl ?_
  refine wp_iconst (v := (nI 0)) dX12_laysParts_1 (by decide +kernel) ?_
  refine wp_putI dX12_laysParts_2 lX12_337 rfl (Or.inl rfl) (mO hs) rfl rfl ?_
  refine sealI (fun hh1 f1 e1 => ?_)
  have S1 := f1.s hs
  have vo1 := vo.fr f1 (by decide) (by decide)
  refine wp_iconst (v := (nI 0)) dX12_laysParts_5 (by decide +kernel) ?_
  refine wp_istore_n (ls1 := [_, _, some _, _]) dX12_laysParts_6 rfl (by decide) rfl ?_
  exact hloop 9 0 _ _ (by omega) S1 vo1 (f1.up (by decide) (by decide)) ⟨e1, Nat.zero_le _, fun i hi => absurd hi (by show ¬ i < 0; omega)⟩ (by omega)
