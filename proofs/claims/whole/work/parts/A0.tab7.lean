/-! ===== a table is collected ===== -/
/-- the rules of a table, the examples by which they are -/
def ruS (r : Nat → Int64) (pa : Nat → Int32) (f c : Nat) (K O : Nat → Nat) : Prop := (∀ i j, i < j → j < c → K i < K j) ∧ (∀ i, i < c → ∀ p, (O i).testBit p = true ↔ (exE r f).testBit p = true ∧ bNr r pa f p (K i)) ∧ (∀ p k, (exE r f).testBit p = true → bNr r pa f p k → ∃ i, i < c ∧ K i = k) ∧ ∀ i, i < c → ∃ p, (exE r f).testBit p = true ∧ bNr r pa f p (K i)
theorem ps_d {key p : Nat} (hp : p < 6) : (key * 64 + 2 ^ p) / 64 = key ∧ (key * 64 + 2 ^ p) % 64 = 2 ^ p := by
  have := pow6 hp
  generalize 2 ^ p = y at *
  omega
theorem ruS_of {r : Nat → Int64} {F : Nat} {pa my : Nat → Int32} {f k c : Nat} {V W : Nat → Nat} {K O : Nat → Nat} (hd : sOK r F pa my) (hs : ∀ x, pSt V k x ↔ ∃ q, q < rP r ∧ 0 < rM r f q ∧ bNs r pa f q x) (hw : sameS V W k) (g : tkP W k c K O) : ruS r pa f c K O := by
  have hP6 := hd.w.1.2
  have hW : ∀ x, x < k → ∃ q key, q < rP r ∧ 0 < rM r f q ∧ bNr r pa f q key ∧ W x = key * 64 + 2 ^ q := fun x hx => by
    obtain ⟨y, h1, h2⟩ := hw.1 x hx
    obtain ⟨q, h3, h4, key, h5, h6⟩ := (hs (W x)).mp ⟨y, h1, h2.symm⟩
    exact ⟨q, key, h3, h4, h5, h6⟩
  have hV : ∀ q key, q < rP r → 0 < rM r f q → bNr r pa f q key → ∃ x, x < k ∧ W x = key * 64 + 2 ^ q := fun q key h1 h2 h3 => by
    obtain ⟨y, h4, h5⟩ := (hs (key * 64 + 2 ^ q)).mpr ⟨q, h1, h2, key, h3, rfl⟩
    obtain ⟨x, h6, h7⟩ := hw.2 y h4
    exact ⟨x, h6, h7.trans h5⟩
  obtain ⟨g1, g2, g3, g4⟩ := g
  refine ⟨g1, fun i hi p => ?_, fun p key h1 h2 => ?_, fun i hi => ?_⟩
  · rw [g2 i hi p]
    constructor
    · rintro ⟨x, h1, h2, h3⟩
      obtain ⟨q, key, k1, k2, k3, k4⟩ := hW x h1
      have hd9 := ps_d (key := key) (show q < 6 by omega)
      rw [k4, hd9.1] at h2
      rw [k4, hd9.2, Nat.testBit_two_pow] at h3
      have h3 := of_decide_eq_true h3
      subst h3 h2
      exact ⟨exE_of ⟨k1, k2⟩, k3⟩
    · rintro ⟨h1, h2⟩
      obtain ⟨k1, k2⟩ := exE_tb h1
      obtain ⟨x, h3, h4⟩ := hV p (K i) k1 k2 h2
      have hd9 := ps_d (key := K i) (show p < 6 by omega)
      exact ⟨x, h3, by rw [h4, hd9.1], by rw [h4, hd9.2, Nat.testBit_two_pow]; exact decide_eq_true rfl⟩
  · obtain ⟨k1, k2⟩ := exE_tb h1
    obtain ⟨x, h3, h4⟩ := hV p key k1 k2 h2
    have hd9 := ps_d (key := key) (show p < 6 by omega)
    obtain ⟨i, h5, h6⟩ := g3 x h3
    exact ⟨i, h5, by rw [h6, h4, hd9.1]⟩
  · obtain ⟨x, h1, h2⟩ := g4 i hi
    obtain ⟨q, key, k1, k2, k3, k4⟩ := hW x h1
    have hd9 := ps_d (key := key) (show q < 6 by omega)
    refine ⟨q, exE_of ⟨k1, k2⟩, ?_⟩
    rw [h2, k4, hd9.1]
    exact k3
theorem nx_shl1b {p : Nat} (hp : p < 31) : nI 1 <<< (nI p &&& 31) = nI (2 ^ p) := nx_shl1 hp
set_option maxRecDepth 20000 in
theorem pX9_collect {h : mH} {Q : Option Value → mH → Prop} {ow : Nat → Nat} {a ρ n m a2 a3 a4 a5 a6 a7 : Nat} {tf tc : Int32} {t2 : Nat → Int64} {t3 t4 t5 : Nat → Int32} {t6 t7 : Nat → Int64} {tp : Int32} {pl : Nat → Int64} {gb ge : Int32} {gs gn : Int64} {gf gt : Int32} {sa σ fq F f : Nat} {pa my : Nat → Int32} {r : Nat → Int64} (zt : zT ow h a ρ n m a2 a3 a4 a5 a6 a7 tf tc t2 t3 t4 t5 t6 t7 tp) (hmn : (64 ≤ m ∧ m ≤ 20480) ∧ 64 ≤ n ∧ n ≤ 20480) (hρ : 10 < ρ ∧ ρ < 20) (zg : zG ow h pl gb ge gs gn gf gt) (s9 : stR ow h sa σ r) (hσ : 20 ≤ σ) (fl : flR ow h fq F pa my) (hd : sOK r F pa my) (hf : f < F) (hrm : hU h + 8 * hN h + 5 * (20480 - m) + 9 * (20480 - n) ≤ 8000000) (hq : ∀ h' ow' m' n' c K O, cFr [1, ρ] (5 * (m' - m) + 9 * (n' - n)) ow h ow' h' → (m ≤ m' ∧ m' ≤ 20480 ∧ n ≤ n' ∧ n' ≤ 20480) → tTk ow' h' a ρ n' m' c K O → (∃ pl gb ge gs gn gf gt, zG ow' h' pl gb ge gs gn gf gt) → ruS r pa f c K O → Q none h') : Wp mX9_collect 5 134 0 [some (.ref a), some (.ref sa), some (.ref fq), some (.int (nI f)), some (.ref 115), none, none, none, none] [] h Q := by
  have hP6 := hd.w.1.2
  have hF4 := hd.f4
  have hloop : ∀  (t9 : Nat) (p : Nat) (k1 : Nat) (V1 : Nat → Nat) (m1 : Nat) (ow1 : Nat → Nat) (x6 : Option Value) (x7 : Option Value) (x8 : Option Value) (pl1 : Nat → Int64) (gb1 : Int32) (ge1 : Int32) (gs1 : Int64) (gn1 : Int64) (gf1 : Int32) (gt1 : Int32) (h1 : mH), (p ≤ rP r) → (k1 ≤ 1701 * p) → (cFr [1, ρ] (5 * (m1 - m)) ow h ow1 h1) → (m ≤ m1 ∧ m1 ≤ 20480) → (tPl ow1 h1 a ρ k1 m1 n V1) → (zG ow1 h1 pl1 gb1 ge1 gs1 gn1 gf1 gt1) → (stR ow1 h1 sa σ r) → (flR ow1 h1 fq F pa my) → (∀ x, pSt V1 k1 x ↔ ∃ q, q < p ∧ 0 < rM r f q ∧ bNs r pa f q x) → (rP r < p + t9) → Wp mX9_collect 5 134 8 [some (.ref a), some (.ref sa), some (.ref fq), some (.int (nI f)), some (.ref 115), some (.int (nI p)), x6, x7, x8] [] h1 Q := by
    intro t9
    induction t9 with
    | zero => intros; omega
    | succ t9 ih =>
      intro p k1 V1 m1 ow1 x6 x7 x8 pl1 gb1 ge1 gs1 gn1 gf1 gt1 h1 hp hk1 hf1 hm1 tp1 zg1 s1 fl1 hset hmz
      refine wp_iload dX9_collect_8 rfl ?_
      refine wp_aload_n dX9_collect_10 rfl rfl ?_
      refine wp_getIV dX9_collect_11 lX9_35 rfl s1.oo s1.f4 ?_
      refine wp_icmp_geN dX9_collect_14 rfl rfl ⟨by omega, by omega⟩ (fun c2 => ?_) (fun c2 => ?_)
      · refine wp_aload_n dX9_collect_108 rfl rfl ?_
        refine wp_cV0 1 26 [some _, none, none] dX9_collect_109 tX9_sortPile rfl (by decide) nX9_sortPile vX9_sortPile lX9_77 ⟨by decide, by decide⟩ (Nat.le_of_ble_eq_true rfl) tp1.oo (Nat.le_of_ble_eq_true rfl) rfl ?_
        refine pX9_sortPile tp1 (fun hh1 W1 f1 tp_1 so1 sm1 => ?_)
        intro _ _
        have zg1_1 := zg1.fr f1 (rnS (by omega) rn0)
        have s1_1 := s1.fr f1 (rnS (by omega) rn0) (rnS (by omega) rn0)
        have fl1_1 := fl1.fr f1 (rnS (by omega) rn0)
        refine wp_aload_n dX9_collect_112 rfl rfl ?_
        refine wp_cV0 2 43 [some _, none, none, none, none] dX9_collect_113 tX9_takeUnlike rfl (by decide) nX9_takeUnlike vX9_takeUnlike lX9_80 ⟨by decide, by decide⟩ (Nat.le_of_ble_eq_true rfl) tp_1.oo (Nat.le_of_ble_eq_true rfl) rfl ?_
        refine pX9_takeUnlike tp_1 (by omega) so1 (by have := hf1.1.2.2; have := f1.1.2.2; omega) (fun hh2 ow2 n2 cc2 K2 O2 f2 hn2 tk2 tq2 => ?_)
        intro _ _
        have zg1_2 := zg1_1.fr f2 (rnS (by omega) rn0)
        have s1_2 := s1_1.fr f2 (rnS (by omega) rn0) (rnS (by omega) rn0)
        have fl1_2 := fl1_1.fr f2 (rnS (by omega) rn0)
        refine wp_vreturn dX9_collect_116 rfl ?_
        have ep9 : p = rP r := by omega
        subst ep9
        exact hq _ _ m1 n2 cc2 K2 O2 (((hf1.tr (f1.up (fun x hx => by simp at hx ⊢; omega) (Nat.le_refl _))).tr (f2.up (fun x hx => by simp at hx ⊢; omega) (Nat.le_refl _))).up (fun _ h => h) (by omega)) (by omega) tk2 ⟨_, _, _, _, _, _, _, zg1_2⟩ (ruS_of hd hset sm1 tq2)
      · refine wp_aload_n dX9_collect_17 rfl rfl ?_
        refine wp_iload dX9_collect_18 rfl ?_
        refine wp_cV1 0 0 [some _, some _] dX9_collect_20 tX8_pageAt rfl (by decide) nX8_pageAt vX8_pageAt lX9_40 ⟨by decide, by decide⟩ (Nat.le_of_ble_eq_true rfl) s1.oo (Nat.le_of_ble_eq_true rfl) rfl ?_
        refine pX8_pageAt s1 hP6 (fun p3 q3 hp3 ep3 pg3 => ?_) (fun xn3 => absurd xn3 (by rw [ix_nI (by omega) (by omega)]; exact fun z => by cases z))
        have ep3 := (nI_eq (by omega) (by omega)).mp ep3
        subst ep3
        intro _ _
        refine wp_astore (ls1 := [_, _, _, _, _, _, some _, _, _]) dX9_collect_23 (by decide) rfl ?_
        refine wp_aload dX9_collect_25 rfl ?_
        refine wp_ifnull dX9_collect_27 ?_
        refine wp_aload_n dX9_collect_30 rfl rfl ?_
        refine wp_iload dX9_collect_31 rfl ?_
        refine wp_iload_n dX9_collect_33 rfl rfl ?_
        refine wp_cV2 1 21 [some _, some _, some _] dX9_collect_34 tX8_isExample rfl (by decide) nX8_isExample vX8_isExample lX9_44 ⟨by decide, by decide⟩ (Nat.le_of_ble_eq_true rfl) s1.oo (Nat.le_of_ble_eq_true rfl) rfl ?_
        refine pX8_isExample s1 hd (by omega) (fun p4 hp4 ep4 hm4 => ?_) (fun hn4 => ?_)
        · have ep4 := (nI_eq (by omega) (by omega)).mp ep4
          subst ep4
          intro _ _
          refine wp_if_eq dX9_collect_37 (fun q => absurd q (by decide +kernel)) (fun _ => ?_)
          refine wp_aload dX9_collect_40 rfl ?_
          refine wp_aload_n dX9_collect_42 rfl rfl ?_
          refine wp_iload dX9_collect_43 rfl ?_
          refine wp_aload_n dX9_collect_45 rfl rfl ?_
          refine wp_getR dX9_collect_46 lX9_48 rfl fl1.oo fl1.r1 ?_
          refine wp_iload_n dX9_collect_49 rfl rfl ?_
          refine wp_ialdV dX9_collect_50 fl1.a1 rfl ⟨by omega, by omega⟩ (fl1.c1 hf) ?_
          refine wp_cV3 2 49 [some _, some _, some _, some _, none, none] dX9_collect_51 tX2_layMarked rfl (by decide) nX2_layMarked vX2_layMarked lX9_53 ⟨by decide, by decide⟩ (Nat.le_of_ble_eq_true rfl) zg1.o (Nat.le_of_ble_eq_true rfl) rfl ?_
          refine pX2_layMarked zg1 s1 (by first | exact Nat.le_add_right _ _ | omega) hd (by omega) (by omega) (fun hh5 pl5 f5 zg_5 gp5 => ?_)
          intro _ _
          have tp1_5 := tp1.fr f5 (rnS (by omega) rn0)
          have s1_5 := s1.fr f5 (rnS (by omega) rn0) (rnS (by omega) rn0)
          have fl1_5 := fl1.fr f5 (rnS (by omega) rn0)
          have pg3_5 := pg3.fr f5 (rnS (by omega) rn0)
          refine wp_aload_n dX9_collect_54 rfl rfl ?_
          refine wp_getR dX9_collect_55 lX9_59 rfl s1_5.oo s1_5.r2 ?_
          refine wp_iload dX9_collect_58 rfl ?_
          refine wp_iload_n dX9_collect_60 rfl rfl ?_
          refine wp_cSN2 0 0 [some _, some _] dX9_collect_61 tX11_spotOf sX11_spotOf lX9_62 ⟨by decide, by decide⟩ (Nat.le_of_ble_eq_true rfl) (Nat.le_of_ble_eq_true rfl) rfl ?_
          refine pX11_spotOf ?_
          intro _ _
          refine wp_laldV dX9_collect_64 s1_5.a2 rfl ⟨by omega, by omega⟩ (s1_5.c2 (by omega) (by omega)) ?_
          refine wp_cSN1 1 21 [some _, none] dX9_collect_65 tX11_lowest sX11_lowest lX9_66 ⟨by decide, by decide⟩ (Nat.le_of_ble_eq_true rfl) (Nat.le_of_ble_eq_true rfl) rfl ?_
          refine pX11_lowest (bsA_lt hd (by omega) (by omega)).1 ?_
          intro _ _
          rw [(lwA hd (by omega) (by omega) hm4)]
          refine wp_istore (ls1 := [_, _, _, _, _, _, _, some _, _]) dX9_collect_68 (by decide) rfl ?_
          refine wp_aload_n dX9_collect_70 rfl rfl ?_
          refine wp_getR dX9_collect_71 lX9_70 rfl s1_5.oo s1_5.r3 ?_
          refine wp_iload dX9_collect_74 rfl ?_
          refine wp_iload_n dX9_collect_76 rfl rfl ?_
          refine wp_cSN2 0 0 [some _, some _] dX9_collect_77 tX11_spotOf sX11_spotOf lX9_62 ⟨by decide, by decide⟩ (Nat.le_of_ble_eq_true rfl) (Nat.le_of_ble_eq_true rfl) rfl ?_
          refine pX11_spotOf ?_
          intro _ _
          refine wp_laldV dX9_collect_80 s1_5.a3 rfl ⟨by omega, by omega⟩ (s1_5.c3 (by omega) (by omega)) ?_
          refine wp_cSN1 1 21 [some _, none] dX9_collect_81 tX11_lowest sX11_lowest lX9_66 ⟨by decide, by decide⟩ (Nat.le_of_ble_eq_true rfl) (Nat.le_of_ble_eq_true rfl) rfl ?_
          refine pX11_lowest (bsA_lt hd (by omega) (by omega)).2 ?_
          intro _ _
          rw [(lwE hd (by omega) (by omega) hm4)]
          refine wp_istore (ls1 := [_, _, _, _, _, _, _, _, some _]) dX9_collect_84 (by decide) rfl ?_
          refine wp_aload_n dX9_collect_86 rfl rfl ?_
          refine wp_aload dX9_collect_87 rfl ?_
          refine wp_aload dX9_collect_89 rfl ?_
          refine wp_iload dX9_collect_91 rfl ?_
          refine wp_iload dX9_collect_93 rfl ?_
          refine wp_iconst (v := (nI 1)) dX9_collect_95 (by decide +kernel) ?_
          refine wp_iload dX9_collect_96 rfl ?_
          refine wp_ishl dX9_collect_98 ?_
          refine wp_cV5 4 100 [some _, some _, some _, some _, some _, some _, none, none, none, none, none, none, none, none, none] dX9_collect_99 tX9_pileRules rfl (by decide) nX9_pileRules vX9_pileRules lX9_73 ⟨by decide, by decide⟩ (Nat.le_of_ble_eq_true rfl) tp1_5.oo (Nat.le_of_ble_eq_true rfl) rfl ?_
          rw [nx_shl1b (by omega)]
          refine pX9_pileRules tp1_5 (by omega) zg_5 gp5 hd (by omega) pg3_5 (by have := hf1.1.2.2; have := f5.1.2.2; omega) hf hm4 (by omega) (fun hh6 ow6 m6 k6 V6 f6 hm6 hk6 tp_6 zg_6 pp6 hs6 => ?_)
          intro _ _
          have bm6 := tPl_m tp_6
          have s1_6 := s1_5.fr f6 (rnS (by omega) rn0) (rnS (by omega) rn0)
          have fl1_6 := fl1_5.fr f6 (rnS (by omega) rn0)
          have pg3_6 := pg3_5.fr f6 (rnS (by omega) rn0)
          refine wp_iinc1 (ls1 := [_, _, _, _, _, some _, _, _, _]) dX9_collect_102 rfl (by decide) rfl ?_
          refine wp_goto dX9_collect_105 ?_
          refine ih (p + 1) k6 V6 m6 _ _ _ _ _ _ _ _ _ _ _ _ (by omega) (by omega) (((hf1.tr (f5.up (fun x hx => by simp at hx ⊢; omega) (Nat.le_refl _))).tr (f6.up (fun x hx => by simp at hx ⊢; omega) (Nat.le_refl _))).up (fun _ h => h) (by omega)) (by omega) tp_6 zg_6 s1_6 fl1_6 (fun x => ?_) (by omega)
          rw [hs6 x, hset x]
          constructor
          · rintro (⟨q, h1, h2, h3⟩ | h)
            · exact ⟨q, by omega, h2, h3⟩
            · exact ⟨p, by omega, hm4, h⟩
          · rintro ⟨q, h1, h2, h3⟩
            by_cases c : q = p
            · rw [c] at h3; exact Or.inr h3
            · exact Or.inl ⟨q, by omega, h2, h3⟩
        · have hn4 := ex_no (by omega) (by omega) hn4
          intro _ _
          refine wp_if_eq dX9_collect_37 (fun _ => ?_) (fun q => absurd q (by decide +kernel))
          refine wp_iinc1 (ls1 := [_, _, _, _, _, some _, _, _, _]) dX9_collect_102 rfl (by decide) rfl ?_
          refine wp_goto dX9_collect_105 ?_
          refine ih (p + 1) k1 V1 m1 _ _ _ _ _ _ _ _ _ _ _ _ (by omega) (by omega) (hf1.up (fun _ h => h) (by omega)) (by omega) tp1 zg1 s1 fl1 (fun x => ?_) (by omega)
          rw [hset x]
          constructor
          · rintro ⟨q, h1, h2, h3⟩; exact ⟨q, by omega, h2, h3⟩
          · rintro ⟨q, h1, h2, h3⟩
            by_cases c : q = p
            · rw [c] at h2; omega
            · exact ⟨q, by omega, h2, h3⟩
  refine wp_aload_n dX9_collect_0 rfl rfl ?_
  refine wp_iconst (v := (nI 0)) dX9_collect_1 (by decide +kernel) ?_
  refine wp_putI dX9_collect_2 lX9_31 rfl (Or.inl rfl) zt.o rfl rfl ?_
  refine zt.p8 (fun hh1 f1 zt_1 => ?_)
  have zg_1 := zg.fr f1 (rnS (by omega) rn0)
  have s9_1 := s9.fr f1 (rnS (by omega) rn0) (rnS (by omega) rn0)
  have fl_1 := fl.fr f1 (rnS (by omega) rn0)
  refine wp_iconst (v := (nI 0)) dX9_collect_5 (by decide +kernel) ?_
  refine wp_istore (ls1 := [_, _, _, _, _, some _, _, _, _]) dX9_collect_6 (by decide) rfl ?_
  exact hloop (rP r + 1) 0 0 (fun _ => 0) m _ _ _ _ _ _ _ _ _ _ _ _ (by omega) (by omega) ((f1.up (fun x hx => by simp at hx ⊢; omega) (Nat.le_refl _)).up (fun _ h => h) (by omega)) (by omega) ⟨_, _, _, _, _, _, _, _, _, _, _, _, _, _, zt_1, by omega, by omega, fun i hi => absurd hi (Nat.not_lt_zero i)⟩ zg_1 s9_1 fl_1 (fun x => ⟨fun z => z.elim (fun i hi => absurd hi.1 (Nat.not_lt_zero i)), fun z => z.elim (fun i hi => absurd hi.1 (Nat.not_lt_zero i))⟩) (by omega)
