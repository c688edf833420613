/-! ===== votes of a page for a field, whole ===== -/
theorem rl_T {t : Nat} (h : t ≤ 40) : (rowL (-1) t).length = t := by
  rw [rowL_m1 t (by omega), List.length_range]
theorem hd2_b {r : Nat → Int64} {F : Nat} {pa my : Nat → Int32} {p f : Nat} {but : Int32} (hd : sOK r F pa my) (hf : f < F) (x : Nat × List (Nat × Nat)) (h : cuX r pa my p but f = some x) : (hd2 x.2).1 < (hd2 x.2).2 ∧ (hd2 x.2).2 ≤ (rowL but (rT r p)).length := by
  have h1 := cuX_ok hd hf x h
  refine h1.1 _ ?_
  unfold hd2
  cases e : x.2 with
  | nil => exact absurd e h1.2
  | cons y t => exact List.mem_cons_self
set_option maxRecDepth 20000 in
theorem pX11_countVotes {h : mH} {Q : Option Value → mH → Prop} {ow : Nat → Nat} {F fa o1 d1 u1 : Nat} {pa my : Nat → Int32} {r : Nat → Int64} {pl : Nat → Int64} {gb ge : Int32} {gs gn : Int64} {gf gt : Int32} {p f n w : Nat} (e9 : eS ow h F pa my r fa o1 d1 u1) (hd : sOK r F pa my) (zg : zG ow h pl gb ge gs gn gf gt) (tw : tbW ow h r pa my F (7 * (20480 - n)) w) (hw : w ≤ 8000000) (ti : tyI ow h r pa my F n) (hp : p < rP r) (hf : f < F) (hq : ∀ h' ow' u n', cFr [1, 10, 11, 12, 13, 14] u ow h ow' h' → eS ow' h' F pa my r fa o1 d1 u1 → tbW ow' h' r pa my F (7 * (20480 - n')) w → (∃ pl gb ge gs gn gf gt, zG ow' h' pl gb ge gs gn gf gt) → (64 ≤ n' ∧ n' ≤ 20480) → tyT ow' h' r pa my p f n' → Q none h') : Wp mX11_countVotes 7 185 0 [some (.ref 0), some (.int (nI p)), some (.int (nI f)), none, none, none] [] h Q := by
  have hP6 := hd.w.1.2
  have hF4 := hd.f4
  have hT40 := (hd.w.2.1 p (by omega)).2
  have hrl := rl_T hT40
  have hn := ti.1
  rcases ti.2 with ⟨b3, b4, b5, yf, yc, z3, z4, z5, zy⟩ | ⟨p9, f9, hp9, hf9, ty0⟩
  · skip
    refine wp_aload_n dX11_countVotes_0 rfl rfl ?_
    refine wp_getR dX11_countVotes_1 lX11_67 rfl e9.oo e9.r11 ?_
    refine wp_getIV dX11_countVotes_4 lX11_422 rfl zy.o zy.f0 ?_
    refine wp_iload_n dX11_countVotes_7 rfl rfl ?_
    refine wp_icmp_ne dX11_countVotes_8 (fun _ => ?_) (fun q => absurd q.symm (nI_ne_m1 (by omega)))
    refine wp_aload_n dX11_countVotes_23 rfl rfl ?_
    refine wp_iload_n dX11_countVotes_24 rfl rfl ?_
    refine wp_cV1 6 162 [some _, some _, none, none] dX11_countVotes_25 tX11_tableOf rfl (by decide) nX11_tableOf vX11_tableOf lX11_249 ⟨by decide, by decide⟩ (Nat.le_of_ble_eq_true rfl) e9.oo (Nat.le_of_ble_eq_true rfl) rfl ?_
    refine pX11_tableW e9 hd zg tw hw (by omega) (fun hh1 ow1 u1 n1 m1 cc1 K1 O1 f1 tw_1 tb_1 gg1 => ?_)
    intro _ _
    obtain ⟨_, _, _, _, _, _, _, zg_1⟩ := gg1
    have e9_1 := e9.fr f1 (by decide)
    have zy_1 := zy.fr f1 (by decide)
    refine wp_astore_n (ls1 := [_, _, _, some _, _, _]) dX11_countVotes_28 rfl (by decide) rfl ?_
    refine wp_aload_n dX11_countVotes_29 rfl rfl ?_
    refine wp_getR dX11_countVotes_30 lX11_20 rfl e9_1.oo e9_1.f4 ?_
    refine wp_getR dX11_countVotes_33 lX11_147 rfl e9_1.fl.oo e9_1.fl.r1 ?_
    refine wp_iload_n dX11_countVotes_36 rfl rfl ?_
    refine wp_ialdV dX11_countVotes_37 e9_1.fl.a1 rfl ⟨by omega, by omega⟩ (e9_1.fl.c1 (by omega)) ?_
    refine wp_istore (ls1 := [_, _, _, _, some _, _]) dX11_countVotes_38 (by decide) rfl ?_
    refine wp_iload dX11_countVotes_40 rfl ?_
    refine wp_iconst (v := (-1)) dX11_countVotes_42 (by decide +kernel) ?_
    refine wp_icmp_ne dX11_countVotes_43 (fun c2 => ?_) (fun c2 => ?_)
    · obtain ⟨g, hg, eg, _⟩ := (hd.par f hf).resolve_left (by assumption)
      rw [eg]
      refine wp_aload_n dX11_countVotes_68 rfl rfl ?_
      refine wp_iload_n dX11_countVotes_69 rfl rfl ?_
      refine wp_iload dX11_countVotes_70 rfl ?_
      refine wp_iconst (v := (-1)) dX11_countVotes_72 (by decide +kernel) ?_
      refine wp_cV3 5 119 [some _, some _, some _, some _, none, none, none, none] dX11_countVotes_73 tX11_slicePage rfl (by decide) nX11_slicePage vX11_slicePage lX11_335 ⟨by decide, by decide⟩ (Nat.le_of_ble_eq_true rfl) e9_1.oo (Nat.le_of_ble_eq_true rfl) rfl ?_
      refine pX11_slicePage e9_1 hd zg_1 (by omega) (by omega) (fun hh2 pl2 gb2 ge2 gf2 gt2 v2 f2 zg_2 gp2 ev2 => ?_)
      intro _ _
      have e9_2 := e9_1.fr f2 (by decide)
      have tw_2 := tw_1.fr f2 (fun f9 hf9 => by simp <;> omega)
      have tb_2 := tb_1.fr f2 (rnS (by omega) rn0)
      have zy_2 := zy_1.fr f2 (rnS (by omega) rn0)
      refine wp_iconst (v := (-1)) dX11_countVotes_76 (by decide +kernel) ?_
      cases ecx2 : cuX r pa my p (-1) g with
      | none =>
        rw [ecx2] at zg_2 ev2
        subst ev2
        refine wp_icmp_eq dX11_countVotes_77 (fun _ => ?_) (fun q => absurd rfl q)
        refine wp_iconst (v := (nI 0)) dX11_countVotes_84 (by decide +kernel) ?_
        refine wp_istore (ls1 := [_, _, _, _, _, some _]) dX11_countVotes_85 (by decide) rfl ?_
        refine wp_aload_n dX11_countVotes_87 rfl rfl ?_
        refine wp_getR dX11_countVotes_88 lX11_60 rfl e9_2.oo e9_2.r10 ?_
        refine wp_iload dX11_countVotes_91 rfl ?_
        refine wp_if_eq dX11_countVotes_93 (fun _ => ?_) (fun q => absurd q (by decide +kernel))
        refine wp_iconst (v := (nI 0)) dX11_countVotes_109 (by decide +kernel) ?_
        refine wp_iload dX11_countVotes_110 rfl ?_
        refine wp_if_eq dX11_countVotes_112 (fun _ => ?_) (fun q => absurd q (by decide +kernel))
        refine wp_iconst (v := (nI 0)) dX11_countVotes_128 (by decide +kernel) ?_
        refine wp_cV2 0 0 [some _, some _, some _] dX11_countVotes_129 tX2_within rfl (by decide) nX2_within vX2_within lX11_419 ⟨by decide, by decide⟩ (Nat.le_of_ble_eq_true rfl) zg_2.o (Nat.le_of_ble_eq_true rfl) rfl ?_
        refine pX2_within zg_2 (fun hh3 f3 zg_3 => ?_)
        intro _ _
        have e9_3 := e9_2.fr f3 (by decide)
        have tw_3 := tw_2.fr f3 (fun f9 hf9 => by simp <;> omega)
        have tb_3 := tb_2.fr f3 (rnS (by omega) rn0)
        have zy_3 := zy_2.fr f3 (rnS (by omega) rn0)
        refine votesC_tail e9_3 hd tw_3 hw hp hf hn tb_3 zy_3 zg_3 gp2 (Nat.zero_le _) (by omega) (Nat.le_refl _) (Nat.zero_le _) (vt_2 (by omega) eg ecx2) (fun hT owT uT nT fT eT tT gT hnT tyT9 => ?_)
        exact hq _ _ _ nT ((((f1.up (by decide) (Nat.le_refl _)).tr (f2.up (by decide) (Nat.le_refl _))).tr (f3.up (by decide) (Nat.le_refl _))).tr fT) eT tT gT hnT tyT9
      | some x2 =>
        have hx2 := cuX_ok hd (by omega) x2 ecx2
        have hb2 := cuX_lt hd (by omega) x2 ecx2
        have sr2 := srt_cu (but := (-1)) (p := p) (f := g) hd (by omega)
        have l82 := cu_8 (but := (-1)) (p := p) (f := g) hd (by omega)
        rw [ecx2] at sr2 l82 zg_2 ev2
        subst ev2
        refine wp_icmp_eq dX11_countVotes_77 (fun q => absurd q (nI_ne_m1 (by omega))) (fun _ => ?_)
        refine wp_iconst (v := (nI 1)) dX11_countVotes_80 (by decide +kernel) ?_
        refine wp_goto dX11_countVotes_81 ?_
        refine wp_istore (ls1 := [_, _, _, _, _, some _]) dX11_countVotes_85 (by decide) rfl ?_
        refine wp_aload_n dX11_countVotes_87 rfl rfl ?_
        refine wp_getR dX11_countVotes_88 lX11_60 rfl e9_2.oo e9_2.r10 ?_
        refine wp_iload dX11_countVotes_91 rfl ?_
        refine wp_if_eq dX11_countVotes_93 (fun q => absurd q (by decide +kernel)) (fun _ => ?_)
        refine wp_aload_n dX11_countVotes_96 rfl rfl ?_
        refine wp_getR dX11_countVotes_97 lX11_60 rfl e9_2.oo e9_2.r10 ?_
        refine wp_getLV dX11_countVotes_100 lX11_339 rfl zg_2.o zg_2.f3 ?_
        refine wp_cS1 1 21 [some _, none] dX11_countVotes_103 tX11_lowest sX11_lowest lX11_227 ⟨by decide, by decide⟩ (Nat.le_of_ble_eq_true rfl) (Nat.le_of_ble_eq_true rfl) rfl ?_
        refine pX11_lowest (bs_lt sr2 (show (rowL (-1) (rT r p)).length < 63 by omega)).1 ?_
        intro _ _
        rw [(cu_low sr2 (show (rowL (-1) (rT r p)).length < 63 by omega) hx2.2).1]
        refine wp_goto dX11_countVotes_106 ?_
        refine wp_iload dX11_countVotes_110 rfl ?_
        refine wp_if_eq dX11_countVotes_112 (fun q => absurd q (by decide +kernel)) (fun _ => ?_)
        refine wp_aload_n dX11_countVotes_115 rfl rfl ?_
        refine wp_getR dX11_countVotes_116 lX11_60 rfl e9_2.oo e9_2.r10 ?_
        refine wp_getLV dX11_countVotes_119 lX11_342 rfl zg_2.o zg_2.f4 ?_
        refine wp_cS1 1 21 [some _, none] dX11_countVotes_122 tX11_lowest sX11_lowest lX11_227 ⟨by decide, by decide⟩ (Nat.le_of_ble_eq_true rfl) (Nat.le_of_ble_eq_true rfl) rfl ?_
        refine pX11_lowest (bs_lt sr2 (show (rowL (-1) (rT r p)).length < 63 by omega)).2 ?_
        intro _ _
        rw [(cu_low sr2 (show (rowL (-1) (rT r p)).length < 63 by omega) hx2.2).2]
        refine wp_goto dX11_countVotes_125 ?_
        refine wp_cV2 0 0 [some _, some _, some _] dX11_countVotes_129 tX2_within rfl (by decide) nX2_within vX2_within lX11_419 ⟨by decide, by decide⟩ (Nat.le_of_ble_eq_true rfl) zg_2.o (Nat.le_of_ble_eq_true rfl) rfl ?_
        refine pX2_within zg_2 (fun hh4 f4 zg_4 => ?_)
        intro _ _
        have e9_4 := e9_2.fr f4 (by decide)
        have tw_4 := tw_2.fr f4 (fun f9 hf9 => by simp <;> omega)
        have tb_4 := tb_2.fr f4 (rnS (by omega) rn0)
        have zy_4 := zy_2.fr f4 (rnS (by omega) rn0)
        have hbT := hd2_b hd (by omega) x2 ecx2
        refine votesC_tail e9_4 hd tw_4 hw hp hf hn tb_4 zy_4 zg_4 gp2 hbT.2 (by omega) (Nat.le_of_lt hbT.1) (Nat.le_trans hbT.2 rowL_le) (vt_3 (by omega) eg ecx2) (fun hT owT uT nT fT eT tT gT hnT tyT9 => ?_)
        exact hq _ _ _ nT ((((f1.up (by decide) (Nat.le_refl _)).tr (f2.up (by decide) (Nat.le_refl _))).tr (f4.up (by decide) (Nat.le_refl _))).tr fT) eT tT gT hnT tyT9
    · refine wp_aload_n dX11_countVotes_46 rfl rfl ?_
      refine wp_getR dX11_countVotes_47 lX11_60 rfl e9_1.oo e9_1.r10 ?_
      refine wp_aload_n dX11_countVotes_50 rfl rfl ?_
      refine wp_getR dX11_countVotes_51 lX11_34 rfl e9_1.oo e9_1.r6 ?_
      refine wp_cV0 2 43 [some _] dX11_countVotes_54 tX3_now rfl (by decide) nX3_now vX3_now lX11_101 ⟨by decide, by decide⟩ (Nat.le_of_ble_eq_true rfl) e9_1.hh.o (Nat.le_of_ble_eq_true rfl) rfl ?_
      refine pX3_now e9_1.hh e9_1.kb e9_1.od.1 e9_1.od.2 ?_
      intro _ _
      refine wp_iload_n dX11_countVotes_57 rfl rfl ?_
      refine wp_cV1 0 0 [some _, some _] dX11_countVotes_58 tX8_pageAt rfl (by decide) nX8_pageAt vX8_pageAt lX11_176 ⟨by decide, by decide⟩ (Nat.le_of_ble_eq_true rfl) e9_1.st.oo (Nat.le_of_ble_eq_true rfl) rfl ?_
      refine pX8_pageAt e9_1.st hP6 (fun p5 q5 hp5 ep5 pg5 => ?_) (fun xn5 => absurd xn5 (by rw [ix_nI (by omega) (by omega)]; exact fun z => by cases z))
      have ep5 := (nI_eq (by omega) (by omega)).mp ep5
      subst ep5
      intro _ _
      refine wp_iconst (v := (-1)) dX11_countVotes_61 (by decide +kernel) ?_
      refine wp_cV2 1 24 [some _, some _, some _, none, none, none] dX11_countVotes_62 tX2_lay rfl (by decide) nX2_lay vX2_lay lX11_415 ⟨by decide, by decide⟩ (Nat.le_of_ble_eq_true rfl) zg_1.o (Nat.le_of_ble_eq_true rfl) rfl ?_
      refine pX2_lay zg_1 hd (by omega) pg5 (fun hh6 pl6 f6 zg_6 gp6 => ?_)
      intro _ _
      have e9_6 := e9_1.fr f6 (by decide)
      have tw_6 := tw_1.fr f6 (fun f9 hf9 => by simp <;> omega)
      have tb_6 := tb_1.fr f6 (rnS (by omega) rn0)
      have zy_6 := zy_1.fr f6 (rnS (by omega) rn0)
      have pg5_6 := pg5.fr f6 (rnS (by omega) rn0)
      refine wp_goto dX11_countVotes_65 ?_
      refine votesC_tail e9_6 hd tw_6 hw hp hf hn tb_6 zy_6 zg_6 gp6 (Nat.le_refl _) (by omega) (Nat.zero_le _) (by omega) (by rw [hrl]; exact vt_1 (by assumption)) (fun hT owT uT nT fT eT tT gT hnT tyT9 => ?_)
      exact hq _ _ _ nT (((f1.up (by decide) (Nat.le_refl _)).tr (f6.up (by decide) (Nat.le_refl _))).tr fT) eT tT gT hnT tyT9
  · obtain ⟨b3, b4, b5, z3, z4, z5, N9, OL9, V9, FK9, T9, zy, _⟩ := id ty0
    refine wp_aload_n dX11_countVotes_0 rfl rfl ?_
    refine wp_getR dX11_countVotes_1 lX11_67 rfl e9.oo e9.r11 ?_
    refine wp_getIV dX11_countVotes_4 lX11_422 rfl zy.o zy.f0 ?_
    refine wp_iload_n dX11_countVotes_7 rfl rfl ?_
    refine wp_icmp_neN dX11_countVotes_8 rfl rfl ⟨by omega, by omega⟩ (fun c2 => ?_) (fun c2 => ?_)
    · refine wp_aload_n dX11_countVotes_23 rfl rfl ?_
      refine wp_iload_n dX11_countVotes_24 rfl rfl ?_
      refine wp_cV1 6 162 [some _, some _, none, none] dX11_countVotes_25 tX11_tableOf rfl (by decide) nX11_tableOf vX11_tableOf lX11_249 ⟨by decide, by decide⟩ (Nat.le_of_ble_eq_true rfl) e9.oo (Nat.le_of_ble_eq_true rfl) rfl ?_
      refine pX11_tableW e9 hd zg tw hw (by omega) (fun hh1 ow1 u1 n1 m1 cc1 K1 O1 f1 tw_1 tb_1 gg1 => ?_)
      intro _ _
      obtain ⟨_, _, _, _, _, _, _, zg_1⟩ := gg1
      have e9_1 := e9.fr f1 (by decide)
      have zy_1 := zy.fr f1 (by decide)
      refine wp_astore_n (ls1 := [_, _, _, some _, _, _]) dX11_countVotes_28 rfl (by decide) rfl ?_
      refine wp_aload_n dX11_countVotes_29 rfl rfl ?_
      refine wp_getR dX11_countVotes_30 lX11_20 rfl e9_1.oo e9_1.f4 ?_
      refine wp_getR dX11_countVotes_33 lX11_147 rfl e9_1.fl.oo e9_1.fl.r1 ?_
      refine wp_iload_n dX11_countVotes_36 rfl rfl ?_
      refine wp_ialdV dX11_countVotes_37 e9_1.fl.a1 rfl ⟨by omega, by omega⟩ (e9_1.fl.c1 (by omega)) ?_
      refine wp_istore (ls1 := [_, _, _, _, some _, _]) dX11_countVotes_38 (by decide) rfl ?_
      refine wp_iload dX11_countVotes_40 rfl ?_
      refine wp_iconst (v := (-1)) dX11_countVotes_42 (by decide +kernel) ?_
      refine wp_icmp_ne dX11_countVotes_43 (fun c3 => ?_) (fun c3 => ?_)
      · obtain ⟨g, hg, eg, _⟩ := (hd.par f hf).resolve_left (by assumption)
        rw [eg]
        refine wp_aload_n dX11_countVotes_68 rfl rfl ?_
        refine wp_iload_n dX11_countVotes_69 rfl rfl ?_
        refine wp_iload dX11_countVotes_70 rfl ?_
        refine wp_iconst (v := (-1)) dX11_countVotes_72 (by decide +kernel) ?_
        refine wp_cV3 5 119 [some _, some _, some _, some _, none, none, none, none] dX11_countVotes_73 tX11_slicePage rfl (by decide) nX11_slicePage vX11_slicePage lX11_335 ⟨by decide, by decide⟩ (Nat.le_of_ble_eq_true rfl) e9_1.oo (Nat.le_of_ble_eq_true rfl) rfl ?_
        refine pX11_slicePage e9_1 hd zg_1 (by omega) (by omega) (fun hh2 pl2 gb2 ge2 gf2 gt2 v2 f2 zg_2 gp2 ev2 => ?_)
        intro _ _
        have e9_2 := e9_1.fr f2 (by decide)
        have tw_2 := tw_1.fr f2 (fun f9 hf9 => by simp <;> omega)
        have tb_2 := tb_1.fr f2 (rnS (by omega) rn0)
        have zy_2 := zy_1.fr f2 (rnS (by omega) rn0)
        refine wp_iconst (v := (-1)) dX11_countVotes_76 (by decide +kernel) ?_
        cases ecx2 : cuX r pa my p (-1) g with
        | none =>
          rw [ecx2] at zg_2 ev2
          subst ev2
          refine wp_icmp_eq dX11_countVotes_77 (fun _ => ?_) (fun q => absurd rfl q)
          refine wp_iconst (v := (nI 0)) dX11_countVotes_84 (by decide +kernel) ?_
          refine wp_istore (ls1 := [_, _, _, _, _, some _]) dX11_countVotes_85 (by decide) rfl ?_
          refine wp_aload_n dX11_countVotes_87 rfl rfl ?_
          refine wp_getR dX11_countVotes_88 lX11_60 rfl e9_2.oo e9_2.r10 ?_
          refine wp_iload dX11_countVotes_91 rfl ?_
          refine wp_if_eq dX11_countVotes_93 (fun _ => ?_) (fun q => absurd q (by decide +kernel))
          refine wp_iconst (v := (nI 0)) dX11_countVotes_109 (by decide +kernel) ?_
          refine wp_iload dX11_countVotes_110 rfl ?_
          refine wp_if_eq dX11_countVotes_112 (fun _ => ?_) (fun q => absurd q (by decide +kernel))
          refine wp_iconst (v := (nI 0)) dX11_countVotes_128 (by decide +kernel) ?_
          refine wp_cV2 0 0 [some _, some _, some _] dX11_countVotes_129 tX2_within rfl (by decide) nX2_within vX2_within lX11_419 ⟨by decide, by decide⟩ (Nat.le_of_ble_eq_true rfl) zg_2.o (Nat.le_of_ble_eq_true rfl) rfl ?_
          refine pX2_within zg_2 (fun hh3 f3 zg_3 => ?_)
          intro _ _
          have e9_3 := e9_2.fr f3 (by decide)
          have tw_3 := tw_2.fr f3 (fun f9 hf9 => by simp <;> omega)
          have tb_3 := tb_2.fr f3 (rnS (by omega) rn0)
          have zy_3 := zy_2.fr f3 (rnS (by omega) rn0)
          refine votesC_tail e9_3 hd tw_3 hw hp hf hn tb_3 zy_3 zg_3 gp2 (Nat.zero_le _) (by omega) (Nat.le_refl _) (Nat.zero_le _) (vt_2 (by omega) eg ecx2) (fun hT owT uT nT fT eT tT gT hnT tyT9 => ?_)
          exact hq _ _ _ nT ((((f1.up (by decide) (Nat.le_refl _)).tr (f2.up (by decide) (Nat.le_refl _))).tr (f3.up (by decide) (Nat.le_refl _))).tr fT) eT tT gT hnT tyT9
        | some x2 =>
          have hx2 := cuX_ok hd (by omega) x2 ecx2
          have hb2 := cuX_lt hd (by omega) x2 ecx2
          have sr2 := srt_cu (but := (-1)) (p := p) (f := g) hd (by omega)
          have l82 := cu_8 (but := (-1)) (p := p) (f := g) hd (by omega)
          rw [ecx2] at sr2 l82 zg_2 ev2
          subst ev2
          refine wp_icmp_eq dX11_countVotes_77 (fun q => absurd q (nI_ne_m1 (by omega))) (fun _ => ?_)
          refine wp_iconst (v := (nI 1)) dX11_countVotes_80 (by decide +kernel) ?_
          refine wp_goto dX11_countVotes_81 ?_
          refine wp_istore (ls1 := [_, _, _, _, _, some _]) dX11_countVotes_85 (by decide) rfl ?_
          refine wp_aload_n dX11_countVotes_87 rfl rfl ?_
          refine wp_getR dX11_countVotes_88 lX11_60 rfl e9_2.oo e9_2.r10 ?_
          refine wp_iload dX11_countVotes_91 rfl ?_
          refine wp_if_eq dX11_countVotes_93 (fun q => absurd q (by decide +kernel)) (fun _ => ?_)
          refine wp_aload_n dX11_countVotes_96 rfl rfl ?_
          refine wp_getR dX11_countVotes_97 lX11_60 rfl e9_2.oo e9_2.r10 ?_
          refine wp_getLV dX11_countVotes_100 lX11_339 rfl zg_2.o zg_2.f3 ?_
          refine wp_cS1 1 21 [some _, none] dX11_countVotes_103 tX11_lowest sX11_lowest lX11_227 ⟨by decide, by decide⟩ (Nat.le_of_ble_eq_true rfl) (Nat.le_of_ble_eq_true rfl) rfl ?_
          refine pX11_lowest (bs_lt sr2 (show (rowL (-1) (rT r p)).length < 63 by omega)).1 ?_
          intro _ _
          rw [(cu_low sr2 (show (rowL (-1) (rT r p)).length < 63 by omega) hx2.2).1]
          refine wp_goto dX11_countVotes_106 ?_
          refine wp_iload dX11_countVotes_110 rfl ?_
          refine wp_if_eq dX11_countVotes_112 (fun q => absurd q (by decide +kernel)) (fun _ => ?_)
          refine wp_aload_n dX11_countVotes_115 rfl rfl ?_
          refine wp_getR dX11_countVotes_116 lX11_60 rfl e9_2.oo e9_2.r10 ?_
          refine wp_getLV dX11_countVotes_119 lX11_342 rfl zg_2.o zg_2.f4 ?_
          refine wp_cS1 1 21 [some _, none] dX11_countVotes_122 tX11_lowest sX11_lowest lX11_227 ⟨by decide, by decide⟩ (Nat.le_of_ble_eq_true rfl) (Nat.le_of_ble_eq_true rfl) rfl ?_
          refine pX11_lowest (bs_lt sr2 (show (rowL (-1) (rT r p)).length < 63 by omega)).2 ?_
          intro _ _
          rw [(cu_low sr2 (show (rowL (-1) (rT r p)).length < 63 by omega) hx2.2).2]
          refine wp_goto dX11_countVotes_125 ?_
          refine wp_cV2 0 0 [some _, some _, some _] dX11_countVotes_129 tX2_within rfl (by decide) nX2_within vX2_within lX11_419 ⟨by decide, by decide⟩ (Nat.le_of_ble_eq_true rfl) zg_2.o (Nat.le_of_ble_eq_true rfl) rfl ?_
          refine pX2_within zg_2 (fun hh4 f4 zg_4 => ?_)
          intro _ _
          have e9_4 := e9_2.fr f4 (by decide)
          have tw_4 := tw_2.fr f4 (fun f9 hf9 => by simp <;> omega)
          have tb_4 := tb_2.fr f4 (rnS (by omega) rn0)
          have zy_4 := zy_2.fr f4 (rnS (by omega) rn0)
          have hbT := hd2_b hd (by omega) x2 ecx2
          refine votesC_tail e9_4 hd tw_4 hw hp hf hn tb_4 zy_4 zg_4 gp2 hbT.2 (by omega) (Nat.le_of_lt hbT.1) (Nat.le_trans hbT.2 rowL_le) (vt_3 (by omega) eg ecx2) (fun hT owT uT nT fT eT tT gT hnT tyT9 => ?_)
          exact hq _ _ _ nT ((((f1.up (by decide) (Nat.le_refl _)).tr (f2.up (by decide) (Nat.le_refl _))).tr (f4.up (by decide) (Nat.le_refl _))).tr fT) eT tT gT hnT tyT9
      · refine wp_aload_n dX11_countVotes_46 rfl rfl ?_
        refine wp_getR dX11_countVotes_47 lX11_60 rfl e9_1.oo e9_1.r10 ?_
        refine wp_aload_n dX11_countVotes_50 rfl rfl ?_
        refine wp_getR dX11_countVotes_51 lX11_34 rfl e9_1.oo e9_1.r6 ?_
        refine wp_cV0 2 43 [some _] dX11_countVotes_54 tX3_now rfl (by decide) nX3_now vX3_now lX11_101 ⟨by decide, by decide⟩ (Nat.le_of_ble_eq_true rfl) e9_1.hh.o (Nat.le_of_ble_eq_true rfl) rfl ?_
        refine pX3_now e9_1.hh e9_1.kb e9_1.od.1 e9_1.od.2 ?_
        intro _ _
        refine wp_iload_n dX11_countVotes_57 rfl rfl ?_
        refine wp_cV1 0 0 [some _, some _] dX11_countVotes_58 tX8_pageAt rfl (by decide) nX8_pageAt vX8_pageAt lX11_176 ⟨by decide, by decide⟩ (Nat.le_of_ble_eq_true rfl) e9_1.st.oo (Nat.le_of_ble_eq_true rfl) rfl ?_
        refine pX8_pageAt e9_1.st hP6 (fun p5 q5 hp5 ep5 pg5 => ?_) (fun xn5 => absurd xn5 (by rw [ix_nI (by omega) (by omega)]; exact fun z => by cases z))
        have ep5 := (nI_eq (by omega) (by omega)).mp ep5
        subst ep5
        intro _ _
        refine wp_iconst (v := (-1)) dX11_countVotes_61 (by decide +kernel) ?_
        refine wp_cV2 1 24 [some _, some _, some _, none, none, none] dX11_countVotes_62 tX2_lay rfl (by decide) nX2_lay vX2_lay lX11_415 ⟨by decide, by decide⟩ (Nat.le_of_ble_eq_true rfl) zg_1.o (Nat.le_of_ble_eq_true rfl) rfl ?_
        refine pX2_lay zg_1 hd (by omega) pg5 (fun hh6 pl6 f6 zg_6 gp6 => ?_)
        intro _ _
        have e9_6 := e9_1.fr f6 (by decide)
        have tw_6 := tw_1.fr f6 (fun f9 hf9 => by simp <;> omega)
        have tb_6 := tb_1.fr f6 (rnS (by omega) rn0)
        have zy_6 := zy_1.fr f6 (rnS (by omega) rn0)
        have pg5_6 := pg5.fr f6 (rnS (by omega) rn0)
        refine wp_goto dX11_countVotes_65 ?_
        refine votesC_tail e9_6 hd tw_6 hw hp hf hn tb_6 zy_6 zg_6 gp6 (Nat.le_refl _) (by omega) (Nat.zero_le _) (by omega) (by rw [hrl]; exact vt_1 (by assumption)) (fun hT owT uT nT fT eT tT gT hnT tyT9 => ?_)
        exact hq _ _ _ nT (((f1.up (by decide) (Nat.le_refl _)).tr (f6.up (by decide) (Nat.le_refl _))).tr fT) eT tT gT hnT tyT9
    · refine wp_aload_n dX11_countVotes_11 rfl rfl ?_
      refine wp_getR dX11_countVotes_12 lX11_67 rfl e9.oo e9.r11 ?_
      refine wp_getIV dX11_countVotes_15 lX11_425 rfl zy.o zy.f1 ?_
      refine wp_iload_n dX11_countVotes_18 rfl rfl ?_
      refine wp_icmp_neN dX11_countVotes_19 rfl rfl ⟨by omega, by omega⟩ (fun c9 => ?_) (fun c9 => ?_)
      · refine wp_aload_n dX11_countVotes_23 rfl rfl ?_
        refine wp_iload_n dX11_countVotes_24 rfl rfl ?_
        refine wp_cV1 6 162 [some _, some _, none, none] dX11_countVotes_25 tX11_tableOf rfl (by decide) nX11_tableOf vX11_tableOf lX11_249 ⟨by decide, by decide⟩ (Nat.le_of_ble_eq_true rfl) e9.oo (Nat.le_of_ble_eq_true rfl) rfl ?_
        refine pX11_tableW e9 hd zg tw hw (by omega) (fun hh7 ow7 u7 n7 m7 cc7 K7 O7 f7 tw_7 tb_7 gg7 => ?_)
        intro _ _
        obtain ⟨_, _, _, _, _, _, _, zg_7⟩ := gg7
        have e9_7 := e9.fr f7 (by decide)
        have zy_7 := zy.fr f7 (by decide)
        refine wp_astore_n (ls1 := [_, _, _, some _, _, _]) dX11_countVotes_28 rfl (by decide) rfl ?_
        refine wp_aload_n dX11_countVotes_29 rfl rfl ?_
        refine wp_getR dX11_countVotes_30 lX11_20 rfl e9_7.oo e9_7.f4 ?_
        refine wp_getR dX11_countVotes_33 lX11_147 rfl e9_7.fl.oo e9_7.fl.r1 ?_
        refine wp_iload_n dX11_countVotes_36 rfl rfl ?_
        refine wp_ialdV dX11_countVotes_37 e9_7.fl.a1 rfl ⟨by omega, by omega⟩ (e9_7.fl.c1 (by omega)) ?_
        refine wp_istore (ls1 := [_, _, _, _, some _, _]) dX11_countVotes_38 (by decide) rfl ?_
        refine wp_iload dX11_countVotes_40 rfl ?_
        refine wp_iconst (v := (-1)) dX11_countVotes_42 (by decide +kernel) ?_
        refine wp_icmp_ne dX11_countVotes_43 (fun c10 => ?_) (fun c10 => ?_)
        · obtain ⟨g, hg, eg, _⟩ := (hd.par f hf).resolve_left (by assumption)
          rw [eg]
          refine wp_aload_n dX11_countVotes_68 rfl rfl ?_
          refine wp_iload_n dX11_countVotes_69 rfl rfl ?_
          refine wp_iload dX11_countVotes_70 rfl ?_
          refine wp_iconst (v := (-1)) dX11_countVotes_72 (by decide +kernel) ?_
          refine wp_cV3 5 119 [some _, some _, some _, some _, none, none, none, none] dX11_countVotes_73 tX11_slicePage rfl (by decide) nX11_slicePage vX11_slicePage lX11_335 ⟨by decide, by decide⟩ (Nat.le_of_ble_eq_true rfl) e9_7.oo (Nat.le_of_ble_eq_true rfl) rfl ?_
          refine pX11_slicePage e9_7 hd zg_7 (by omega) (by omega) (fun hh8 pl8 gb8 ge8 gf8 gt8 v8 f8 zg_8 gp8 ev8 => ?_)
          intro _ _
          have e9_8 := e9_7.fr f8 (by decide)
          have tw_8 := tw_7.fr f8 (fun f9 hf9 => by simp <;> omega)
          have tb_8 := tb_7.fr f8 (rnS (by omega) rn0)
          have zy_8 := zy_7.fr f8 (rnS (by omega) rn0)
          refine wp_iconst (v := (-1)) dX11_countVotes_76 (by decide +kernel) ?_
          cases ecx8 : cuX r pa my p (-1) g with
          | none =>
            rw [ecx8] at zg_8 ev8
            subst ev8
            refine wp_icmp_eq dX11_countVotes_77 (fun _ => ?_) (fun q => absurd rfl q)
            refine wp_iconst (v := (nI 0)) dX11_countVotes_84 (by decide +kernel) ?_
            refine wp_istore (ls1 := [_, _, _, _, _, some _]) dX11_countVotes_85 (by decide) rfl ?_
            refine wp_aload_n dX11_countVotes_87 rfl rfl ?_
            refine wp_getR dX11_countVotes_88 lX11_60 rfl e9_8.oo e9_8.r10 ?_
            refine wp_iload dX11_countVotes_91 rfl ?_
            refine wp_if_eq dX11_countVotes_93 (fun _ => ?_) (fun q => absurd q (by decide +kernel))
            refine wp_iconst (v := (nI 0)) dX11_countVotes_109 (by decide +kernel) ?_
            refine wp_iload dX11_countVotes_110 rfl ?_
            refine wp_if_eq dX11_countVotes_112 (fun _ => ?_) (fun q => absurd q (by decide +kernel))
            refine wp_iconst (v := (nI 0)) dX11_countVotes_128 (by decide +kernel) ?_
            refine wp_cV2 0 0 [some _, some _, some _] dX11_countVotes_129 tX2_within rfl (by decide) nX2_within vX2_within lX11_419 ⟨by decide, by decide⟩ (Nat.le_of_ble_eq_true rfl) zg_8.o (Nat.le_of_ble_eq_true rfl) rfl ?_
            refine pX2_within zg_8 (fun hh9 f9 zg_9 => ?_)
            intro _ _
            have e9_9 := e9_8.fr f9 (by decide)
            have tw_9 := tw_8.fr f9 (fun f9 hf9 => by simp <;> omega)
            have tb_9 := tb_8.fr f9 (rnS (by omega) rn0)
            have zy_9 := zy_8.fr f9 (rnS (by omega) rn0)
            refine votesC_tail e9_9 hd tw_9 hw hp hf hn tb_9 zy_9 zg_9 gp8 (Nat.zero_le _) (by omega) (Nat.le_refl _) (Nat.zero_le _) (vt_2 (by omega) eg ecx8) (fun hT owT uT nT fT eT tT gT hnT tyT9 => ?_)
            exact hq _ _ _ nT ((((f7.up (by decide) (Nat.le_refl _)).tr (f8.up (by decide) (Nat.le_refl _))).tr (f9.up (by decide) (Nat.le_refl _))).tr fT) eT tT gT hnT tyT9
          | some x8 =>
            have hx8 := cuX_ok hd (by omega) x8 ecx8
            have hb8 := cuX_lt hd (by omega) x8 ecx8
            have sr8 := srt_cu (but := (-1)) (p := p) (f := g) hd (by omega)
            have l88 := cu_8 (but := (-1)) (p := p) (f := g) hd (by omega)
            rw [ecx8] at sr8 l88 zg_8 ev8
            subst ev8
            refine wp_icmp_eq dX11_countVotes_77 (fun q => absurd q (nI_ne_m1 (by omega))) (fun _ => ?_)
            refine wp_iconst (v := (nI 1)) dX11_countVotes_80 (by decide +kernel) ?_
            refine wp_goto dX11_countVotes_81 ?_
            refine wp_istore (ls1 := [_, _, _, _, _, some _]) dX11_countVotes_85 (by decide) rfl ?_
            refine wp_aload_n dX11_countVotes_87 rfl rfl ?_
            refine wp_getR dX11_countVotes_88 lX11_60 rfl e9_8.oo e9_8.r10 ?_
            refine wp_iload dX11_countVotes_91 rfl ?_
            refine wp_if_eq dX11_countVotes_93 (fun q => absurd q (by decide +kernel)) (fun _ => ?_)
            refine wp_aload_n dX11_countVotes_96 rfl rfl ?_
            refine wp_getR dX11_countVotes_97 lX11_60 rfl e9_8.oo e9_8.r10 ?_
            refine wp_getLV dX11_countVotes_100 lX11_339 rfl zg_8.o zg_8.f3 ?_
            refine wp_cS1 1 21 [some _, none] dX11_countVotes_103 tX11_lowest sX11_lowest lX11_227 ⟨by decide, by decide⟩ (Nat.le_of_ble_eq_true rfl) (Nat.le_of_ble_eq_true rfl) rfl ?_
            refine pX11_lowest (bs_lt sr8 (show (rowL (-1) (rT r p)).length < 63 by omega)).1 ?_
            intro _ _
            rw [(cu_low sr8 (show (rowL (-1) (rT r p)).length < 63 by omega) hx8.2).1]
            refine wp_goto dX11_countVotes_106 ?_
            refine wp_iload dX11_countVotes_110 rfl ?_
            refine wp_if_eq dX11_countVotes_112 (fun q => absurd q (by decide +kernel)) (fun _ => ?_)
            refine wp_aload_n dX11_countVotes_115 rfl rfl ?_
            refine wp_getR dX11_countVotes_116 lX11_60 rfl e9_8.oo e9_8.r10 ?_
            refine wp_getLV dX11_countVotes_119 lX11_342 rfl zg_8.o zg_8.f4 ?_
            refine wp_cS1 1 21 [some _, none] dX11_countVotes_122 tX11_lowest sX11_lowest lX11_227 ⟨by decide, by decide⟩ (Nat.le_of_ble_eq_true rfl) (Nat.le_of_ble_eq_true rfl) rfl ?_
            refine pX11_lowest (bs_lt sr8 (show (rowL (-1) (rT r p)).length < 63 by omega)).2 ?_
            intro _ _
            rw [(cu_low sr8 (show (rowL (-1) (rT r p)).length < 63 by omega) hx8.2).2]
            refine wp_goto dX11_countVotes_125 ?_
            refine wp_cV2 0 0 [some _, some _, some _] dX11_countVotes_129 tX2_within rfl (by decide) nX2_within vX2_within lX11_419 ⟨by decide, by decide⟩ (Nat.le_of_ble_eq_true rfl) zg_8.o (Nat.le_of_ble_eq_true rfl) rfl ?_
            refine pX2_within zg_8 (fun hh10 f10 zg_10 => ?_)
            intro _ _
            have e9_10 := e9_8.fr f10 (by decide)
            have tw_10 := tw_8.fr f10 (fun f9 hf9 => by simp <;> omega)
            have tb_10 := tb_8.fr f10 (rnS (by omega) rn0)
            have zy_10 := zy_8.fr f10 (rnS (by omega) rn0)
            have hbT := hd2_b hd (by omega) x8 ecx8
            refine votesC_tail e9_10 hd tw_10 hw hp hf hn tb_10 zy_10 zg_10 gp8 hbT.2 (by omega) (Nat.le_of_lt hbT.1) (Nat.le_trans hbT.2 rowL_le) (vt_3 (by omega) eg ecx8) (fun hT owT uT nT fT eT tT gT hnT tyT9 => ?_)
            exact hq _ _ _ nT ((((f7.up (by decide) (Nat.le_refl _)).tr (f8.up (by decide) (Nat.le_refl _))).tr (f10.up (by decide) (Nat.le_refl _))).tr fT) eT tT gT hnT tyT9
        · refine wp_aload_n dX11_countVotes_46 rfl rfl ?_
          refine wp_getR dX11_countVotes_47 lX11_60 rfl e9_7.oo e9_7.r10 ?_
          refine wp_aload_n dX11_countVotes_50 rfl rfl ?_
          refine wp_getR dX11_countVotes_51 lX11_34 rfl e9_7.oo e9_7.r6 ?_
          refine wp_cV0 2 43 [some _] dX11_countVotes_54 tX3_now rfl (by decide) nX3_now vX3_now lX11_101 ⟨by decide, by decide⟩ (Nat.le_of_ble_eq_true rfl) e9_7.hh.o (Nat.le_of_ble_eq_true rfl) rfl ?_
          refine pX3_now e9_7.hh e9_7.kb e9_7.od.1 e9_7.od.2 ?_
          intro _ _
          refine wp_iload_n dX11_countVotes_57 rfl rfl ?_
          refine wp_cV1 0 0 [some _, some _] dX11_countVotes_58 tX8_pageAt rfl (by decide) nX8_pageAt vX8_pageAt lX11_176 ⟨by decide, by decide⟩ (Nat.le_of_ble_eq_true rfl) e9_7.st.oo (Nat.le_of_ble_eq_true rfl) rfl ?_
          refine pX8_pageAt e9_7.st hP6 (fun p11 q11 hp11 ep11 pg11 => ?_) (fun xn11 => absurd xn11 (by rw [ix_nI (by omega) (by omega)]; exact fun z => by cases z))
          have ep11 := (nI_eq (by omega) (by omega)).mp ep11
          subst ep11
          intro _ _
          refine wp_iconst (v := (-1)) dX11_countVotes_61 (by decide +kernel) ?_
          refine wp_cV2 1 24 [some _, some _, some _, none, none, none] dX11_countVotes_62 tX2_lay rfl (by decide) nX2_lay vX2_lay lX11_415 ⟨by decide, by decide⟩ (Nat.le_of_ble_eq_true rfl) zg_7.o (Nat.le_of_ble_eq_true rfl) rfl ?_
          refine pX2_lay zg_7 hd (by omega) pg11 (fun hh12 pl12 f12 zg_12 gp12 => ?_)
          intro _ _
          have e9_12 := e9_7.fr f12 (by decide)
          have tw_12 := tw_7.fr f12 (fun f9 hf9 => by simp <;> omega)
          have tb_12 := tb_7.fr f12 (rnS (by omega) rn0)
          have zy_12 := zy_7.fr f12 (rnS (by omega) rn0)
          have pg11_12 := pg11.fr f12 (rnS (by omega) rn0)
          refine wp_goto dX11_countVotes_65 ?_
          refine votesC_tail e9_12 hd tw_12 hw hp hf hn tb_12 zy_12 zg_12 gp12 (Nat.le_refl _) (by omega) (Nat.zero_le _) (by omega) (by rw [hrl]; exact vt_1 (by assumption)) (fun hT owT uT nT fT eT tT gT hnT tyT9 => ?_)
          exact hq _ _ _ nT (((f7.up (by decide) (Nat.le_refl _)).tr (f12.up (by decide) (Nat.le_refl _))).tr fT) eT tT gT hnT tyT9
      · refine wp_vreturn dX11_countVotes_22 rfl ?_
        have ep9 : p9 = p := by omega
        have ef9 : f9 = f := by omega
        subst ep9 ef9
        exact hq _ _ 0 n cFr.rf e9 tw ⟨_, _, _, _, _, _, _, zg⟩ hn ty0
