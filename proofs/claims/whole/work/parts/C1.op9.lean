/-! ===== what is proposed ===== -/
theorem prp_u {r : Nat → Int64} {F : Nat} {pa my : Nat → Int32} {p f N : Nat} {OL : Nat → List (Nat × Nat)} {V FK : Nat → Nat} {bo : Option Nat} {res : Option (List (Nat × Nat))} (hd : sOK r F pa my) (q : opC r pa my p f N OL V FK) (sg : sgI (fun o => okO r p f (OL o)) V N bo) (h : prP r pa my p f res) : res = bo.map OL := by
  obtain ⟨N', OL', V', FK', q', h⟩ := h
  have hs := op_set hd q q'
  cases bo with
  | none =>
    cases res with
    | none => rfl
    | some l =>
      obtain ⟨b', hb', e⟩ := h
      obtain ⟨o, ho, eo⟩ := hs.2.1 b' hb'.1
      exact absurd (by show okO r p f (OL o); rw [eo]; exact hb'.2.1) (sg o ho)
  | some b =>
    cases res with
    | none =>
      obtain ⟨o', ho', eo'⟩ := hs.1 b sg.1
      exact absurd (by rw [eo']; exact sg.2.1) (h o' ho')
    | some l =>
      obtain ⟨b', hb', e⟩ := h
      obtain ⟨c, K, O, ru, cv⟩ := id q
      have := op_b (ok := fun l => okO r p f l) hd q q' (sg_fin cv sg) hb'
      rw [← e, ← this.1]
      rfl
theorem prd_no {r : Nat → Int64} {F : Nat} {pa my : Nat → Int32} {x y i w : Int32} (h : cnC r F x y = none) : ∀ v, spProposed r F pa my x y i w v → v = -1 := by
  intro v hv
  unfold spProposed at hv
  rw [h] at hv
  exact hv
theorem prd_v {r : Nat → Int64} {F : Nat} {pa my : Nat → Int32} {p f N : Nat} {OL : Nat → List (Nat × Nat)} {V FK : Nat → Nat} {bo : Option Nat} {x y i w : Int32} (hd : sOK r F pa my) (hc : cnC r F x y = some (p, f)) (q : opC r pa my p f N OL V FK) (sg : sgI (fun o => okO r p f (OL o)) V N bo) : ∀ v, spProposed r F pa my x y i w v → v = match bo with | some b => partV (OL b) i w | none => -1 := by
  intro v hv
  unfold spProposed at hv
  rw [hc] at hv
  obtain ⟨res, h1, h2⟩ := hv
  have := prp_u hd q sg h1
  subst this
  rw [h2]
  cases bo <;> rfl
set_option maxRecDepth 20000 in
theorem pX11_proposalFor {h : mH} {Q : Option Value → mH → Prop} {ow : Nat → Nat} {F fa o1 d1 u1 : Nat} {pa my : Nat → Int32} {r : Nat → Int64} {pl : Nat → Int64} {gb ge : Int32} {gs gn : Int64} {gf gt : Int32} {n w : Nat} {x y : Int32} (e9 : eS ow h F pa my r fa o1 d1 u1) (hd : sOK r F pa my) (zg : zG ow h pl gb ge gs gn gf gt) (tw : tbW ow h r pa my F (7 * (20480 - n)) w) (hw : w ≤ 8000000) (ti : tyI ow h r pa my F n) (hq0 : cnC r F x y = none → Q (some (.int (-1))) h) (hq : ∀ h' ow' u n' p f a3 a4 a5 y3 y4 y5 N OL V FK T bo, cFr [1, 10, 11, 12, 13, 14] u ow h ow' h' → eS ow' h' F pa my r fa o1 d1 u1 → tbW ow' h' r pa my F (7 * (20480 - n')) w → (∃ pl gb ge gs gn gf gt, zG ow' h' pl gb ge gs gn gf gt) → ((64 ≤ n' ∧ n' ≤ 20480) ∧ p < rP r ∧ f < F) → tyT ow' h' r pa my p f n' → cnC r F x y = some (p, f) → zY ow' h' n' a3 a4 a5 (nI p) (nI f) (nI N) y3 y4 y5 → (N ≤ n' ∧ n' ≤ 20480) → T ≤ rT r p → tyV y3 y4 y5 N OL V T → opC r pa my p f N OL V FK → sgI (fun o => okO r p f (OL o)) V N bo → Q (some (.int (sgB bo))) h') : Wp mX11_proposalFor 8 210 0 [some (.ref 0), some (.int x), some (.int y), none] [] h Q := by
  have hP6 := hd.w.1.2
  have hF4 := hd.f4
  refine wp_aload_n dX11_proposalFor_0 rfl rfl ?_
  refine wp_iload_n dX11_proposalFor_1 rfl rfl ?_
  refine wp_iload_n dX11_proposalFor_2 rfl rfl ?_
  refine wp_cV2 4 85 [some _, some _, some _] dX11_proposalFor_3 tX11_learntFor rfl (by decide) nX11_learntFor vX11_learntFor lX11_332 ⟨by decide, by decide⟩ (Nat.le_of_ble_eq_true rfl) e9.oo (Nat.le_of_ble_eq_true rfl) rfl ?_
  refine pX11_learntFor e9 hd (fun p1 f1 hp1 hff1 ep1 ef1 hl1 => ?_) (fun xn1 => ?_)
  · subst ep1
    subst ef1
    intro _ _
    refine wp_if_ne dX11_proposalFor_6 (fun _ => ?_) (fun q => absurd q (by decide +kernel))
    refine wp_aload_n dX11_proposalFor_11 rfl rfl ?_
    refine wp_getR dX11_proposalFor_12 lX11_34 rfl e9.oo e9.r6 ?_
    refine wp_cV0 2 43 [some _] dX11_proposalFor_15 tX3_now rfl (by decide) nX3_now vX3_now lX11_101 ⟨by decide, by decide⟩ (Nat.le_of_ble_eq_true rfl) e9.hh.o (Nat.le_of_ble_eq_true rfl) rfl ?_
    refine pX3_now e9.hh e9.kb e9.od.1 e9.od.2 ?_
    intro _ _
    refine wp_astore_n (ls1 := [_, _, _, some _]) dX11_proposalFor_18 rfl (by decide) rfl ?_
    refine wp_aload_n dX11_proposalFor_19 rfl rfl ?_
    refine wp_iload_n dX11_proposalFor_20 rfl rfl ?_
    refine wp_iload_n dX11_proposalFor_21 rfl rfl ?_
    refine wp_cV2 7 185 [some _, some _, some _, none, none, none] dX11_proposalFor_22 tX11_countVotes rfl (by decide) nX11_countVotes vX11_countVotes lX11_380 ⟨by decide, by decide⟩ (Nat.le_of_ble_eq_true rfl) e9.oo (Nat.le_of_ble_eq_true rfl) rfl ?_
    refine pX11_countVotes e9 hd zg tw hw ti (by omega) (by omega) (fun hh2 ow2 uu2 n2 f2r e9_2 tw_2 gg2 hn2 ty2 => ?_)
    intro _ _
    obtain ⟨_, _, _, _, _, _, _, zg_2⟩ := gg2
    obtain ⟨_, _, _, _, _, _, N2, OL2, V2, FK2, T2, zy2, hNn2, hTT2, tyv2, oc2⟩ := id ty2
    have ob2 := op_8 hd oc2 (by omega) (by omega)
    have hT2 := (hd.w.2.1 p1 (by omega)).2
    refine wp_aload_n dX11_proposalFor_25 rfl rfl ?_
    refine wp_getR dX11_proposalFor_26 lX11_67 rfl e9_2.oo e9_2.r11 ?_
    refine wp_aload_n dX11_proposalFor_29 rfl rfl ?_
    refine wp_getR dX11_proposalFor_30 lX11_143 rfl e9_2.st.oo e9_2.st.r1 ?_
    refine wp_iload_n dX11_proposalFor_33 rfl rfl ?_
    obtain ⟨q9, eq9, ln9⟩ := (e9_2.st.ln (f := f1) (by omega)).elim (fun z => z.2) (fun z => absurd hl1 z.1)
    refine wp_aaldJ dX11_proposalFor_34 e9_2.st.a1 (by decide) (by decide) rfl ⟨by omega, by omega⟩ eq9 ?_
    refine wp_aload_n dX11_proposalFor_35 rfl rfl ?_
    refine wp_iload_n dX11_proposalFor_36 rfl rfl ?_
    refine wp_cV1 0 0 [some _, some _] dX11_proposalFor_37 tX8_pageAt rfl (by decide) nX8_pageAt vX8_pageAt lX11_176 ⟨by decide, by decide⟩ (Nat.le_of_ble_eq_true rfl) e9_2.st.oo (Nat.le_of_ble_eq_true rfl) rfl ?_
    refine pX8_pageAt e9_2.st hP6 (fun p3 q3 hp3 ep3 pg3 => ?_) (fun xn3 => absurd xn3 (by rw [ix_nI (by omega) (by omega)]; exact fun z => by cases z))
    have ep3 := (nI_eq (by omega) (by omega)).mp ep3
    subst ep3
    intro _ _
    refine wp_cV2 4 96 [some _, some _, some _, none, none, none] dX11_proposalFor_40 tX10_strongest rfl (by decide) nX10_strongest vX10_strongest lX11_385 ⟨by decide, by decide⟩ (Nat.le_of_ble_eq_true rfl) zy2.o (Nat.le_of_ble_eq_true rfl) rfl ?_
    refine pX10_strongest zy2 hNn2 tyv2 (by omega) ob2.2.1 ln9 hd (by omega) pg3 ⟨by omega, hl1⟩ hTT2 ob2.1 (fun bo9 sg9 => ?_)
    intro _ _
    refine wp_ireturn dX11_proposalFor_43 rfl ?_
    exact hq _ _ _ n2 p1 f1 _ _ _ _ _ _ N2 OL2 V2 FK2 T2 bo9 (f2r.up (by decide) (Nat.le_refl _)) e9_2 tw_2 ⟨_, _, _, _, _, _, _, zg_2⟩ ⟨hn2, by omega, by omega⟩ ty2 (cn_s (by omega) hP6 (by omega) hF4 hl1) zy2 hNn2 hTT2 tyv2 oc2 sg9
  · intro _ _
    refine wp_if_ne dX11_proposalFor_6 (fun q => absurd q (by decide +kernel)) (fun _ => ?_)
    refine wp_iconst (v := (-1)) dX11_proposalFor_9 (by decide +kernel) ?_
    refine wp_ireturn dX11_proposalFor_10 rfl ?_
    exact hq0 (cn_n hF4 xn1)
set_option maxRecDepth 20000 in
theorem pX11_proposed {h : mH} {Q : Option Value → mH → Prop} {ow : Nat → Nat} {F fa o1 d1 u1 : Nat} {pa my : Nat → Int32} {r : Nat → Int64} {pl : Nat → Int64} {gb ge : Int32} {gs gn : Int64} {gf gt : Int32} {n w : Nat} {x y i z : Int32} (e9 : eS ow h F pa my r fa o1 d1 u1) (hd : sOK r F pa my) (zg : zG ow h pl gb ge gs gn gf gt) (tw : tbW ow h r pa my F (7 * (20480 - n)) w) (hw : w ≤ 8000000) (ti : tyI ow h r pa my F n) (hq : ∀ h' ow' u n' v, cFr [1, 10, 11, 12, 13, 14] u ow h ow' h' → tbW ow' h' r pa my F (7 * (20480 - n')) w → (∃ pl gb ge gs gn gf gt, zG ow' h' pl gb ge gs gn gf gt) → tyI ow' h' r pa my F n' → (∀ v', spProposed r F pa my x y i z v' → v' = v) → Q (some (.int v)) h') : Wp mX11_proposed 9 233 0 [some (.ref 0), some (.int x), some (.int y), some (.int i), some (.int z), none] [] h Q := by
  have hP6 := hd.w.1.2
  have hF4 := hd.f4
  refine wp_aload_n dX11_proposed_0 rfl rfl ?_
  refine wp_iload_n dX11_proposed_1 rfl rfl ?_
  refine wp_iload_n dX11_proposed_2 rfl rfl ?_
  refine wp_cV2 8 210 [some _, some _, some _, none] dX11_proposed_3 tX11_proposalFor rfl (by decide) nX11_proposalFor vX11_proposalFor lX11_260 ⟨by decide, by decide⟩ (Nat.le_of_ble_eq_true rfl) e9.oo (Nat.le_of_ble_eq_true rfl) rfl ?_
  refine pX11_proposalFor e9 hd zg tw hw ti (fun hc9 => ?_) (fun hP owP uP nP pP fP0 a3P a4P a5P y3P y4P y5P NP OLP VP FKP TP boP fP eP twP ggP hnP tyP cnP zyP hNnP hTTP tyvP ocP sgP => ?_)
  · intro _ _
    refine wp_istore (ls1 := [_, _, _, _, _, some _]) dX11_proposed_6 (by decide) rfl ?_
    refine wp_iload dX11_proposed_8 rfl ?_
    refine wp_iconst (v := (-1)) dX11_proposed_10 (by decide +kernel) ?_
    refine wp_icmp_ne dX11_proposed_11 (fun q => absurd rfl q) (fun _ => ?_)
    refine wp_iconst (v := (-1)) dX11_proposed_14 (by decide +kernel) ?_
    refine wp_goto dX11_proposed_15 ?_
    refine wp_ireturn dX11_proposed_44 rfl ?_
    exact hq _ _ 0 n _ cFr.rf tw ⟨_, _, _, _, _, _, _, zg⟩ ti (prd_no hc9)
  · intro _ _
    obtain ⟨_, _, _, _, _, _, _, zgP⟩ := ggP
    refine wp_istore (ls1 := [_, _, _, _, _, some _]) dX11_proposed_6 (by decide) rfl ?_
    refine wp_iload dX11_proposed_8 rfl ?_
    refine wp_iconst (v := (-1)) dX11_proposed_10 (by decide +kernel) ?_
    cases boP with
    | none =>
      refine wp_icmp_ne dX11_proposed_11 (fun q => absurd rfl q) (fun _ => ?_)
      refine wp_iconst (v := (-1)) dX11_proposed_14 (by decide +kernel) ?_
      refine wp_goto dX11_proposed_15 ?_
      refine wp_ireturn dX11_proposed_44 rfl ?_
      exact hq _ _ _ nP _ (fP.up (by decide) (Nat.le_refl _)) twP ⟨_, _, _, _, _, _, _, zgP⟩ ⟨hnP.1, Or.inr ⟨pP, fP0, hnP.2.1, hnP.2.2, tyP⟩⟩ (prd_v hd cnP ocP sgP)
    | some b =>
      have hbN := sgP.1
      refine wp_icmp_ne dX11_proposed_11 (fun _ => ?_) (fun q => absurd q (nI_ne_m1 (show b < 2147483648 by omega)))
      refine wp_aload_n dX11_proposed_18 rfl rfl ?_
      refine wp_getR dX11_proposed_19 lX11_67 rfl eP.oo eP.r11 ?_
      refine wp_getR dX11_proposed_22 lX11_263 rfl zyP.o zyP.r3 ?_
      refine wp_iload dX11_proposed_25 rfl ?_
      refine wp_laldV dX11_proposed_27 zyP.a3 rfl ⟨by omega, by omega⟩ ((congrFun zyP.c3 _).trans (tyvP b hbN).1.1) ?_
      refine wp_aload_n dX11_proposed_28 rfl rfl ?_
      refine wp_getR dX11_proposed_29 lX11_67 rfl eP.oo eP.r11 ?_
      refine wp_getR dX11_proposed_32 lX11_264 rfl zyP.o zyP.r4 ?_
      refine wp_iload dX11_proposed_35 rfl ?_
      refine wp_laldV dX11_proposed_37 zyP.a4 rfl ⟨by omega, by omega⟩ ((congrFun zyP.c4 _).trans (tyvP b hbN).1.2) ?_
      refine wp_iload_n dX11_proposed_38 rfl rfl ?_
      refine wp_iload dX11_proposed_39 rfl ?_
      refine wp_cS4 3 67 [some _, none, some _, none, some _, some _, none] dX11_proposed_41 tX11_partOf sX11_partOf lX11_279 ⟨by decide, by decide⟩ (Nat.le_of_ble_eq_true rfl) (Nat.le_of_ble_eq_true rfl) rfl ?_
      have hT40 := (hd.w.2.1 pP (by omega)).2
      have obP := op_8 hd ocP (by omega) (by omega)
      refine pX11_partOf (tyvP b hbN).2.2 (by omega) (obP.1 b hbN) ?_
      intro _ _
      refine wp_ireturn dX11_proposed_44 rfl ?_
      exact hq _ _ _ nP _ (fP.up (by decide) (Nat.le_refl _)) twP ⟨_, _, _, _, _, _, _, zgP⟩ ⟨hnP.1, Or.inr ⟨pP, fP0, hnP.2.1, hnP.2.2, tyP⟩⟩ (prd_v hd cnP ocP sgP)
