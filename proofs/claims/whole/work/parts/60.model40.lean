/-! ===== alike, sturdy ===== -/
theorem alk_iff {r : Nat → Int64} {F : Nat} {pa my : Nat → Int32} {f q : Nat} {L : List Int32} (hd : sOK r F pa my) (hf : f < F) : alkB r pa my f L q = decide (0 < (cuL (cuX r pa my q (-1) f)).length ∧ ltA (rwW r q (-1)) (cuL (cuX r pa my q (-1) f)) = L) := by
  unfold alkB
  cases e : cuX r pa my q (-1) f with
  | none => exact (decide_eq_false (fun z => absurd z.1 (Nat.lt_irrefl 0))).symm
  | some c =>
    refine decide_eq_decide.mpr ⟨fun z => ⟨?_, z⟩, fun z => z.2⟩
    exact Nat.pos_of_ne_zero (fun z0 => (cuX_ok hd hf c e).2 (List.length_eq_zero_iff.mp z0))
set_option maxRecDepth 20000 in
theorem alike_loop {h : mH} {Q : Option Value → mH → Prop} {r : Nat → Int64} {F : Nat} {pa my : Nat → Int32} {p f : Nat} {L : List Int32} {x5 x6 : Option Value} (hc : mC h r F pa my) (hd : sOK r F pa my) (hp : p < rP r) (hf : f < F) (hL : L.length ≤ 360) (wa : wasR h L) (K9 : ∀ h' v, mFr (mP [24, 32, 35, 50, 54] [163, 164, 165, 167, 168, 169, 170, 182, 183]) h h' → (fst1 (alkB r pa my f L) 0 p).getD p = v → Q (some (.int (nI v))) h') : Wp mX12_alike 8 198 67 [some (.ref 153), some (.int (nI p)), some (.int (nI f)), some (.int (nI L.length)), some (.int (nI 0)), x5, x6] [] h Q := by
  have hF4 := hd.f4
  have hP6 := hd.w.1.2
  have hloop : ∀  (t9 : Nat) (u : Nat) (x5 : Option Value) (x6 : Option Value) (h1 : mH), (u ≤ p) → (mC h1 r F pa my) → (wasR h1 L) → (mFr (mP [24, 32, 35, 50, 54] [163, 164, 165, 167, 168, 169, 170, 182, 183]) h h1) → (∀ j, j < u → alkB r pa my f L j = false) → (p < u + t9) → Wp mX12_alike 8 198 67 [some (.ref 153), some (.int (nI p)), some (.int (nI f)), some (.int (nI L.length)), some (.int (nI u)), x5, x6] [] h1 Q := by
    intro t9
    induction t9 with
    | zero => intros; omega
    | succ t9 ih =>
      intro u x5 x6 h1 hu hc1 wa1 hf1 hno hmz
      refine wp_iload dX12_alike_67 rfl ?_
      refine wp_iload_n dX12_alike_69 rfl rfl ?_
      refine wp_icmp_geN dX12_alike_70 rfl rfl ⟨by omega, by omega⟩ (fun c1 => ?_) (fun c1 => ?_)
      · refine wp_iload_n dX12_alike_164 rfl rfl ?_
        refine wp_ireturn dX12_alike_165 rfl ?_
        exact K9 _ p hf1 (by rw [fst1_no (fun j hj => hno j (by omega))]; rfl)
      · refine wp_aload_n dX12_alike_73 rfl rfl ?_
        refine wp_iload dX12_alike_74 rfl ?_
        refine wp_iload_n dX12_alike_76 rfl rfl ?_
        refine wp_cV2 7 176 [some _, some _, some _] dX12_alike_77 tX12_cutsPage rfl (by decide) nX12_cutsPage vX12_cutsPage lX12_488 ⟨by decide, by decide⟩ (Nat.le_of_ble_eq_true rfl) (mO hc1.1) (Nat.le_of_ble_eq_true rfl) rfl ?_
        refine pX12_cutsPage hc1 hd hf (by omega) (fun hh1 f1 nx1 rx1 k1 b1 => ?_)
        intro _ _
        have mc1 := hc1.fr f1 (by decide) (by decide) (by decide) (by decide) (by decide)
        have wa1 := wa1.fr f1 (by decide) (by decide)
        have hk8 := k1.2.1
        refine wp_aload_n dX12_alike_80 rfl rfl ?_
        refine wp_cV0 1 22 [some _, none, none, none, none, none] dX12_alike_81 tX12_laysLetters rfl (by decide) nX12_laysLetters vX12_laysLetters lX12_497 ⟨by decide, by decide⟩ (Nat.le_of_ble_eq_true rfl) (mO mc1.1) (Nat.le_of_ble_eq_true rfl) rfl ?_
        refine pX12_laysLetters hd (by omega) mc1.1 rx1 nx1 k1 (srt_cu hd hf) (fun hh2 f2 sd2 sl2 => ?_)
        intro _ _
        have mc2 := mc1.fr f2 (by decide) (by decide) (by decide) (by decide) (by decide)
        have nx2 := nx1.fr f2 (by decide) (by decide)
        have rx2 := rx1.fr f2 (by decide) (by decide)
        have k2 := k1.fr f2 (by decide) (by decide)
        have wa2 := wa1.fr f2 (by decide) (by decide)
        have efI50_2 := (f2.fI 50 (by decide) (by decide)).trans b1
        refine wp_aload_n dX12_alike_84 rfl rfl ?_
        refine wp_getIV dX12_alike_85 lX12_337 rfl (mO mc2.1) k2.1 ?_
        refine wp_if_leN dX12_alike_88 rfl (by omega) (fun c2 => ?_) (fun c2 => ?_)
        · refine wp_iconst (v := (nI 0)) dX12_alike_103 (by decide +kernel) ?_
          refine wp_istore (ls1 := [_, _, _, _, _, some _, _]) dX12_alike_104 (by decide) rfl ?_
          refine wp_iconst (v := (nI 0)) dX12_alike_106 (by decide +kernel) ?_
          refine wp_istore (ls1 := [_, _, _, _, _, _, some _]) dX12_alike_107 (by decide) rfl ?_
          refine wp_iload dX12_alike_109 rfl ?_
          refine wp_iload_n dX12_alike_111 rfl rfl ?_
          refine wp_icmp_geN dX12_alike_112 rfl rfl ⟨by omega, by omega⟩ (fun c3 => ?_) (fun c3 => ?_)
          · refine wp_iload dX12_alike_150 rfl ?_
            refine wp_if_eq dX12_alike_152 (fun _ => ?_) (fun q => absurd q (by decide +kernel))
            refine wp_iinc1 (ls1 := [_, _, _, _, some _, _, _]) dX12_alike_158 rfl (by decide) rfl ?_
            refine wp_goto dX12_alike_161 ?_
            have hno9 : alkB r pa my f L u = false := by
              rw [alk_iff hd hf]
              exact decide_eq_false (fun z9 => by first | omega | exact absurd (congrArg List.length z9.2) (by assumption) | exact na (fun j hj => by rw [z9.2]))
            refine ih (u + 1) _ _ _ (by omega) mc2 wa2 (((hf1.up (by decide) (by decide)).tr (f1.up (by decide) (by decide))).tr (f2.up (by decide) (by decide))) ?_ (by omega)
            intro j hj
            by_cases e9 : j = u
            · rw [e9]; exact hno9
            · exact hno j (by omega)
          · refine wp_iload dX12_alike_115 rfl ?_
            refine wp_if_eq dX12_alike_117 (fun _ => ?_) (fun q => absurd q (by decide +kernel))
            refine wp_iload dX12_alike_150 rfl ?_
            refine wp_if_eq dX12_alike_152 (fun _ => ?_) (fun q => absurd q (by decide +kernel))
            refine wp_iinc1 (ls1 := [_, _, _, _, some _, _, _]) dX12_alike_158 rfl (by decide) rfl ?_
            refine wp_goto dX12_alike_161 ?_
            have hno9 : alkB r pa my f L u = false := by
              rw [alk_iff hd hf]
              exact decide_eq_false (fun z9 => by first | omega | exact absurd (congrArg List.length z9.2) (by assumption) | exact na (fun j hj => by rw [z9.2]))
            refine ih (u + 1) _ _ _ (by omega) mc2 wa2 (((hf1.up (by decide) (by decide)).tr (f1.up (by decide) (by decide))).tr (f2.up (by decide) (by decide))) ?_ (by omega)
            intro j hj
            by_cases e9 : j = u
            · rw [e9]; exact hno9
            · exact hno j (by omega)
        · refine wp_aload_n dX12_alike_91 rfl rfl ?_
          refine wp_getIV dX12_alike_92 lX12_491 rfl (mO mc2.1) sd2.1 ?_
          refine wp_iload_n dX12_alike_95 rfl rfl ?_
          refine wp_icmp_neN dX12_alike_96 rfl rfl ⟨by omega, by omega⟩ (fun c7 => ?_) (fun c7 => ?_)
          · refine wp_iconst (v := (nI 0)) dX12_alike_103 (by decide +kernel) ?_
            refine wp_istore (ls1 := [_, _, _, _, _, some _, _]) dX12_alike_104 (by decide) rfl ?_
            refine wp_iconst (v := (nI 0)) dX12_alike_106 (by decide +kernel) ?_
            refine wp_istore (ls1 := [_, _, _, _, _, _, some _]) dX12_alike_107 (by decide) rfl ?_
            refine wp_iload dX12_alike_109 rfl ?_
            refine wp_iload_n dX12_alike_111 rfl rfl ?_
            refine wp_icmp_geN dX12_alike_112 rfl rfl ⟨by omega, by omega⟩ (fun c8 => ?_) (fun c8 => ?_)
            · refine wp_iload dX12_alike_150 rfl ?_
              refine wp_if_eq dX12_alike_152 (fun _ => ?_) (fun q => absurd q (by decide +kernel))
              refine wp_iinc1 (ls1 := [_, _, _, _, some _, _, _]) dX12_alike_158 rfl (by decide) rfl ?_
              refine wp_goto dX12_alike_161 ?_
              have hno9 : alkB r pa my f L u = false := by
                rw [alk_iff hd hf]
                exact decide_eq_false (fun z9 => by first | omega | exact absurd (congrArg List.length z9.2) (by assumption) | exact na (fun j hj => by rw [z9.2]))
              refine ih (u + 1) _ _ _ (by omega) mc2 wa2 (((hf1.up (by decide) (by decide)).tr (f1.up (by decide) (by decide))).tr (f2.up (by decide) (by decide))) ?_ (by omega)
              intro j hj
              by_cases e9 : j = u
              · rw [e9]; exact hno9
              · exact hno j (by omega)
            · refine wp_iload dX12_alike_115 rfl ?_
              refine wp_if_eq dX12_alike_117 (fun _ => ?_) (fun q => absurd q (by decide +kernel))
              refine wp_iload dX12_alike_150 rfl ?_
              refine wp_if_eq dX12_alike_152 (fun _ => ?_) (fun q => absurd q (by decide +kernel))
              refine wp_iinc1 (ls1 := [_, _, _, _, some _, _, _]) dX12_alike_158 rfl (by decide) rfl ?_
              refine wp_goto dX12_alike_161 ?_
              have hno9 : alkB r pa my f L u = false := by
                rw [alk_iff hd hf]
                exact decide_eq_false (fun z9 => by first | omega | exact absurd (congrArg List.length z9.2) (by assumption) | exact na (fun j hj => by rw [z9.2]))
              refine ih (u + 1) _ _ _ (by omega) mc2 wa2 (((hf1.up (by decide) (by decide)).tr (f1.up (by decide) (by decide))).tr (f2.up (by decide) (by decide))) ?_ (by omega)
              intro j hj
              by_cases e9 : j = u
              · rw [e9]; exact hno9
              · exact hno j (by omega)
          · refine wp_iconst (v := (nI 1)) dX12_alike_99 (by decide +kernel) ?_
            refine wp_goto dX12_alike_100 ?_
            refine wp_istore (ls1 := [_, _, _, _, _, some _, _]) dX12_alike_104 (by decide) rfl ?_
            refine wp_iconst (v := (nI 0)) dX12_alike_106 (by decide +kernel) ?_
            refine wp_istore (ls1 := [_, _, _, _, _, _, some _]) dX12_alike_107 (by decide) rfl ?_
            refine cmp_X12_alike (c4 := 0) mc2.1 sd2 wa2 hL (by assumption) (fun al => ?_) (fun k9 na => ?_)
            · refine wp_iload dX12_alike_150 rfl ?_
              refine wp_if_eq dX12_alike_152 (fun q => absurd q (by decide +kernel)) (fun _ => ?_)
              refine wp_iload dX12_alike_155 rfl ?_
              refine wp_ireturn dX12_alike_157 rfl ?_
              have hy9 : alkB r pa my f L u = true := by
                rw [alk_iff hd hf]
                exact decide_eq_true ⟨by omega, list_ext0 (by assumption) (fun j hj => al j (by omega))⟩
              exact K9 _ u (((hf1.up (by decide) (by decide)).tr (f1.up (by decide) (by decide))).tr (f2.up (by decide) (by decide))) (by rw [fst1_of (by omega) hy9 hno]; rfl)
            · refine wp_iload dX12_alike_150 rfl ?_
              refine wp_if_eq dX12_alike_152 (fun _ => ?_) (fun q => absurd q (by decide +kernel))
              refine wp_iinc1 (ls1 := [_, _, _, _, some _, _, _]) dX12_alike_158 rfl (by decide) rfl ?_
              refine wp_goto dX12_alike_161 ?_
              have hno9 : alkB r pa my f L u = false := by
                rw [alk_iff hd hf]
                exact decide_eq_false (fun z9 => by first | omega | exact absurd (congrArg List.length z9.2) (by assumption) | exact na (fun j hj => by rw [z9.2]))
              refine ih (u + 1) _ _ _ (by omega) mc2 wa2 (((hf1.up (by decide) (by decide)).tr (f1.up (by decide) (by decide))).tr (f2.up (by decide) (by decide))) ?_ (by omega)
              intro j hj
              by_cases e9 : j = u
              · rw [e9]; exact hno9
              · exact hno j (by omega)
  exact hloop (p + 1) 0 x5 x6 h (by omega) hc wa mFr.rf (fun j hj => by omega) (by omega)
set_option maxRecDepth 20000 in
theorem pX12_alike {h : mH} {Q : Option Value → mH → Prop} {r : Nat → Int64} {F : Nat} {pa my : Nat → Int32} {x y : Int32} (hc : mC h r F pa my) (hd : sOK r F pa my) (hq : ∀ {v} h', mFr pwS h h' → spAlike r F pa my x y = v → Q (some (.int v)) h') : Wp mX12_alike 8 198 0 [some (.ref 153), some (.int x), some (.int y), none, none, none, none] [] h Q := by
  have hF4 := hd.f4
  have hP6 := hd.w.1.2
  refine wp_aload_n dX12_alike_0 rfl rfl ?_
  refine wp_iload_n dX12_alike_1 rfl rfl ?_
  refine wp_iload_n dX12_alike_2 rfl rfl ?_
  refine wp_cV2 2 43 [some _, some _, some _] dX12_alike_3 tX12_canCut rfl (by decide) nX12_canCut vX12_canCut lX12_485 ⟨by decide, by decide⟩ (Nat.le_of_ble_eq_true rfl) (mO hc.1) (Nat.le_of_ble_eq_true rfl) rfl ?_
  refine pX12_canCut hc hd (fun p1 q1 cn1 ex1 ey1 hp1 hf1 hl1 => ?_) (fun cn1 => ?_)
  · subst ex1
    subst ey1
    intro _ _
    refine wp_if_ne dX12_alike_6 (fun _ => ?_) (fun q => absurd q (by decide +kernel))
    refine wp_aload_n dX12_alike_11 rfl rfl ?_
    refine wp_iload_n dX12_alike_12 rfl rfl ?_
    refine wp_iload_n dX12_alike_13 rfl rfl ?_
    refine wp_cV2 7 176 [some _, some _, some _] dX12_alike_14 tX12_cutsPage rfl (by decide) nX12_cutsPage vX12_cutsPage lX12_488 ⟨by decide, by decide⟩ (Nat.le_of_ble_eq_true rfl) (mO hc.1) (Nat.le_of_ble_eq_true rfl) rfl ?_
    refine pX12_cutsPage hc hd (by omega) (by omega) (fun hh2 f2 nx2 rx2 k2 b2 => ?_)
    intro _ _
    have mc2 := hc.fr f2 (by decide) (by decide) (by decide) (by decide) (by decide)
    have hk8 := k2.2.1
    refine wp_aload_n dX12_alike_17 rfl rfl ?_
    refine wp_getIV dX12_alike_18 lX12_337 rfl (mO mc2.1) k2.1 ?_
    refine wp_if_neN dX12_alike_21 rfl (by omega) (fun c2 => ?_) (fun c2 => ?_)
    · obtain ⟨c9, hc9⟩ := cu_some hd hf1 (by assumption)
      refine wp_aload_n dX12_alike_26 rfl rfl ?_
      refine wp_cV0 1 22 [some _, none, none, none, none, none] dX12_alike_27 tX12_laysLetters rfl (by decide) nX12_laysLetters vX12_laysLetters lX12_497 ⟨by decide, by decide⟩ (Nat.le_of_ble_eq_true rfl) (mO mc2.1) (Nat.le_of_ble_eq_true rfl) rfl ?_
      refine pX12_laysLetters hd (by omega) mc2.1 rx2 nx2 k2 (srt_cu hd (by omega)) (fun hh3 f3 sd3 sl3 => ?_)
      intro _ _
      have mc3 := mc2.fr f3 (by decide) (by decide) (by decide) (by decide) (by decide)
      have nx3 := nx2.fr f3 (by decide) (by decide)
      have rx3 := rx2.fr f3 (by decide) (by decide)
      have k3 := k2.fr f3 (by decide) (by decide)
      have efI50_3 := (f3.fI 50 (by decide) (by decide)).trans b2
      refine wp_aload_n dX12_alike_30 rfl rfl ?_
      refine wp_getIV dX12_alike_31 lX12_491 rfl (mO mc3.1) sd3.1 ?_
      refine wp_istore_n (ls1 := [_, _, _, some _, _, _, _]) dX12_alike_34 rfl (by decide) rfl ?_
      refine wp_iconst (v := (nI 0)) dX12_alike_35 (by decide +kernel) ?_
      refine wp_istore (ls1 := [_, _, _, _, some _, _, _]) dX12_alike_36 (by decide) rfl ?_
      refine copy_X12_alike mc3.1 sd3 sl3 (fun k4 hh4 f4 wa4 => ?_)
      have mc4 := mc3.fr f4 (by decide) (by decide) (by decide) (by decide) (by decide)
      have nx4 := nx3.fr f4 (by decide) (by decide)
      have rx4 := rx3.fr f4 (by decide) (by decide)
      have k4 := k3.fr f4 (by decide) (by decide)
      have sd4 := sd3.fr f4 (by decide) (by decide)
      have efI50_4 := (f4.fI 50 (by decide) (by decide)).trans efI50_3
      refine wp_iconst (v := (nI 0)) dX12_alike_64 (by decide +kernel) ?_
      refine wp_istore (ls1 := [_, _, _, _, some _, _, _]) dX12_alike_65 (by decide) rfl ?_
      refine alike_loop mc4 hd (by omega) hf1 sl3 wa4 (fun hh5 v9 f5 ev => ?_)
      refine hq _ ((((f2.up (by decide) (by decide)).tr (f3.up (by decide) (by decide))).tr (f4.up (by decide) (by decide))).tr (f5.up (by decide) (by decide))) ?_
      unfold spAlike
      rw [cn1]
      show (match cuX r pa my p1 (-1) q1 with | some c => _ | none => _) = _
      rw [hc9] at ev ⊢
      exact congrArg nI ev
    · have hn9 := cu_none hd hf1 (by assumption)
      refine wp_iconst (v := (-1)) dX12_alike_24 (by decide +kernel) ?_
      refine wp_ireturn dX12_alike_25 rfl ?_
      exact hq _ (f2.up (by decide) (by decide)) (by unfold spAlike; rw [cn1]; show (match cuX r pa my p1 (-1) q1 with | some c => _ | none => _) = _; rw [hn9])
  · intro _ _
    refine wp_if_ne dX12_alike_6 (fun q => absurd q (by decide +kernel)) (fun _ => ?_)
    refine wp_iconst (v := (-1)) dX12_alike_9 (by decide +kernel) ?_
    refine wp_ireturn dX12_alike_10 rfl ?_
    exact hq _ mFr.rf (by unfold spAlike; rw [cn1])
set_option maxRecDepth 20000 in
theorem sturdy_loop {h : mH} {Q : Option Value → mH → Prop} {r : Nat → Int64} {F : Nat} {pa my : Nat → Int32} {p f : Nat} {L : List Int32} {x6 x7 : Option Value} (hc : mC h r F pa my) (hd : sOK r F pa my) (nx : numX r h) (hp : p < rP r) (hf : f < F) (hL : L.length ≤ 360) (wa : wasR h L) (K9 : ∀ h', mFr (mP [24, 32, 35, 50, 54] [163, 164, 165, 167, 168, 169, 170, 182, 183]) h h' → Q (some (.int (nI (cntB (stuB r pa my p f L) (rT r p))))) h') : Wp mX12_sturdy 8 198 70 [some (.ref 153), some (.int (nI p)), some (.int (nI f)), some (.int (nI L.length)), some (.int (nI (cntB (stuB r pa my p f L) 0))), some (.int (nI 0)), x6, x7] [] h Q := by
  have hF4 := hd.f4
  have hP6 := hd.w.1.2
  have hT40 := (hd.w.2.1 p (by omega)).2
  have hloop : ∀  (t9 : Nat) (u : Nat) (x6 : Option Value) (x7 : Option Value) (h1 : mH), (u ≤ rT r p) → (mC h1 r F pa my) → (numX r h1) → (wasR h1 L) → (mFr (mP [24, 32, 35, 50, 54] [163, 164, 165, 167, 168, 169, 170, 182, 183]) h h1) → (rT r p < u + t9) → Wp mX12_sturdy 8 198 70 [some (.ref 153), some (.int (nI p)), some (.int (nI f)), some (.int (nI L.length)), some (.int (nI (cntB (stuB r pa my p f L) u))), some (.int (nI u)), x6, x7] [] h1 Q := by
    intro t9
    induction t9 with
    | zero => intros; omega
    | succ t9 ih =>
      intro u x6 x7 h1 hu hc1 nx1 wa1 hf1 hmz
      refine wp_iload dX12_sturdy_70 rfl ?_
      refine wp_aload_n dX12_sturdy_72 rfl rfl ?_
      refine wp_iload_n dX12_sturdy_73 rfl rfl ?_
      refine wp_cV1 0 0 [some _, some _] dX12_sturdy_74 tX12_tokensOf rfl (by decide) nX12_tokensOf vX12_tokensOf lX12_273 ⟨by decide, by decide⟩ (Nat.le_of_ble_eq_true rfl) (mO hc1.1) (Nat.le_of_ble_eq_true rfl) rfl ?_
      refine pX12_tokensOf' hc1 hd (by omega) ?_
      intro _ _
      refine wp_icmp_geN dX12_sturdy_77 rfl rfl ⟨by omega, by omega⟩ (fun c1 => ?_) (fun c1 => ?_)
      · refine wp_iload dX12_sturdy_171 rfl ?_
        refine wp_ireturn dX12_sturdy_173 rfl ?_
        have e9 : u = rT r p := by omega
        subst e9
        exact K9 _ hf1
      · refine wp_aload_n dX12_sturdy_80 rfl rfl ?_
        refine wp_iload_n dX12_sturdy_81 rfl rfl ?_
        refine wp_iload dX12_sturdy_82 rfl ?_
        refine wp_cV2 1 21 [some _, some _, some _, none] dX12_sturdy_84 tX12_laysRow rfl (by decide) nX12_laysRow vX12_laysRow lX12_344 ⟨by decide, by decide⟩ (Nat.le_of_ble_eq_true rfl) (mO hc1.1) (Nat.le_of_ble_eq_true rfl) rfl ?_
        refine pX12_laysRow' hc1 hd nx1 (by omega) (fun hh1 f1 rx1 => ?_)
        intro _ _
        have mc1 := hc1.fr f1 (by decide) (by decide) (by decide) (by decide) (by decide)
        have nx1 := nx1.fr f1 (by decide) (by decide)
        have wa1 := wa1.fr f1 (by decide) (by decide)
        refine wp_aload_n dX12_sturdy_87 rfl rfl ?_
        refine wp_iload_n dX12_sturdy_88 rfl rfl ?_
        refine wp_cV1 6 151 [some _, some _, none, none, none, none] dX12_sturdy_89 tX12_cutsRow rfl (by decide) nX12_cutsRow vX12_cutsRow lX12_482 ⟨by decide, by decide⟩ (Nat.le_of_ble_eq_true rfl) (mO mc1.1) (Nat.le_of_ble_eq_true rfl) rfl ?_
        refine pX12_cutsRow mc1 hd hf (by omega) rx1 (fun hh2 f2 k2 b2 => ?_)
        intro _ _
        have mc2 := mc1.fr f2 (by decide) (by decide) (by decide) (by decide) (by decide)
        have nx2 := nx1.fr f2 (by decide) (by decide)
        have rx2 := rx1.fr f2 (by decide) (by decide)
        have wa2 := wa1.fr f2 (by decide) (by decide)
        refine wp_aload_n dX12_sturdy_92 rfl rfl ?_
        refine wp_cV0 1 22 [some _, none, none, none, none, none] dX12_sturdy_93 tX12_laysLetters rfl (by decide) nX12_laysLetters vX12_laysLetters lX12_497 ⟨by decide, by decide⟩ (Nat.le_of_ble_eq_true rfl) (mO mc2.1) (Nat.le_of_ble_eq_true rfl) rfl ?_
        refine pX12_laysLetters hd (by omega) mc2.1 rx2 nx2 k2 (srt_cu hd hf) (fun hh3 f3 sd3 sl3 => ?_)
        intro _ _
        have mc3 := mc2.fr f3 (by decide) (by decide) (by decide) (by decide) (by decide)
        have nx3 := nx2.fr f3 (by decide) (by decide)
        have rx3 := rx2.fr f3 (by decide) (by decide)
        have k3 := k2.fr f3 (by decide) (by decide)
        have wa3 := wa2.fr f3 (by decide) (by decide)
        have efI50_3 := (f3.fI 50 (by decide) (by decide)).trans b2
        refine wp_aload_n dX12_sturdy_96 rfl rfl ?_
        refine wp_getIV dX12_sturdy_97 lX12_491 rfl (mO mc3.1) sd3.1 ?_
        refine wp_iload_n dX12_sturdy_100 rfl rfl ?_
        refine wp_icmp_neN dX12_sturdy_101 rfl rfl ⟨by omega, by omega⟩ (fun c2 => ?_) (fun c2 => ?_)
        · refine wp_iconst (v := (nI 0)) dX12_sturdy_108 (by decide +kernel) ?_
          refine wp_istore (ls1 := [_, _, _, _, _, _, some _, _]) dX12_sturdy_109 (by decide) rfl ?_
          refine wp_iconst (v := (nI 0)) dX12_sturdy_111 (by decide +kernel) ?_
          refine wp_istore (ls1 := [_, _, _, _, _, _, _, some _]) dX12_sturdy_112 (by decide) rfl ?_
          refine wp_iload dX12_sturdy_114 rfl ?_
          refine wp_iload_n dX12_sturdy_116 rfl rfl ?_
          refine wp_icmp_geN dX12_sturdy_117 rfl rfl ⟨by omega, by omega⟩ (fun c3 => ?_) (fun c3 => ?_)
          · refine wp_iload dX12_sturdy_155 rfl ?_
            refine wp_iload dX12_sturdy_157 rfl ?_
            refine wp_cS1 0 0 [some _] dX12_sturdy_159 tX12_truth sX12_truth lX12_320 ⟨by decide, by decide⟩ (Nat.le_of_ble_eq_true rfl) (Nat.le_of_ble_eq_true rfl) rfl ?_
            refine pX12_truth0 ?_
            intro _ _
            refine wp_iadd dX12_sturdy_162 ?_
            refine wp_istore (ls1 := [_, _, _, _, some _, _, _, _]) dX12_sturdy_163 (by decide) rfl ?_
            refine wp_iinc1 (ls1 := [_, _, _, _, _, some _, _, _]) dX12_sturdy_165 rfl (by decide) rfl ?_
            refine wp_goto dX12_sturdy_168 ?_
            have hy9 : stuB r pa my p f L u = false := decide_eq_false (fun z9 => by first | exact absurd (congrArg List.length z9) (by assumption) | exact na (fun j hj => by rw [z9]))
            rw [nI_add, ← cntB_s0 hy9]
            exact ih (u + 1) _ _ _ (by omega) mc3 nx3 wa3 ((((hf1.up (by decide) (by decide)).tr (f1.up (by decide) (by decide))).tr (f2.up (by decide) (by decide))).tr (f3.up (by decide) (by decide))) (by omega)
          · refine wp_iload dX12_sturdy_120 rfl ?_
            refine wp_if_eq dX12_sturdy_122 (fun _ => ?_) (fun q => absurd q (by decide +kernel))
            refine wp_iload dX12_sturdy_155 rfl ?_
            refine wp_iload dX12_sturdy_157 rfl ?_
            refine wp_cS1 0 0 [some _] dX12_sturdy_159 tX12_truth sX12_truth lX12_320 ⟨by decide, by decide⟩ (Nat.le_of_ble_eq_true rfl) (Nat.le_of_ble_eq_true rfl) rfl ?_
            refine pX12_truth0 ?_
            intro _ _
            refine wp_iadd dX12_sturdy_162 ?_
            refine wp_istore (ls1 := [_, _, _, _, some _, _, _, _]) dX12_sturdy_163 (by decide) rfl ?_
            refine wp_iinc1 (ls1 := [_, _, _, _, _, some _, _, _]) dX12_sturdy_165 rfl (by decide) rfl ?_
            refine wp_goto dX12_sturdy_168 ?_
            have hy9 : stuB r pa my p f L u = false := decide_eq_false (fun z9 => by first | exact absurd (congrArg List.length z9) (by assumption) | exact na (fun j hj => by rw [z9]))
            rw [nI_add, ← cntB_s0 hy9]
            exact ih (u + 1) _ _ _ (by omega) mc3 nx3 wa3 ((((hf1.up (by decide) (by decide)).tr (f1.up (by decide) (by decide))).tr (f2.up (by decide) (by decide))).tr (f3.up (by decide) (by decide))) (by omega)
        · refine wp_iconst (v := (nI 1)) dX12_sturdy_104 (by decide +kernel) ?_
          refine wp_goto dX12_sturdy_105 ?_
          refine wp_istore (ls1 := [_, _, _, _, _, _, some _, _]) dX12_sturdy_109 (by decide) rfl ?_
          refine wp_iconst (v := (nI 0)) dX12_sturdy_111 (by decide +kernel) ?_
          refine wp_istore (ls1 := [_, _, _, _, _, _, _, some _]) dX12_sturdy_112 (by decide) rfl ?_
          refine cmp_X12_sturdy mc3.1 sd3 wa3 hL (by assumption) (fun al => ?_) (fun k9 na => ?_)
          · refine wp_iload dX12_sturdy_155 rfl ?_
            refine wp_iload dX12_sturdy_157 rfl ?_
            refine wp_cS1 0 0 [some _] dX12_sturdy_159 tX12_truth sX12_truth lX12_320 ⟨by decide, by decide⟩ (Nat.le_of_ble_eq_true rfl) (Nat.le_of_ble_eq_true rfl) rfl ?_
            refine pX12_truth1 ?_
            intro _ _
            refine wp_iadd dX12_sturdy_162 ?_
            refine wp_istore (ls1 := [_, _, _, _, some _, _, _, _]) dX12_sturdy_163 (by decide) rfl ?_
            refine wp_iinc1 (ls1 := [_, _, _, _, _, some _, _, _]) dX12_sturdy_165 rfl (by decide) rfl ?_
            refine wp_goto dX12_sturdy_168 ?_
            have hy9 : stuB r pa my p f L u = true := decide_eq_true (list_ext0 (by assumption) (fun j hj => al j (Nat.lt_of_lt_of_eq hj (by assumption))))
            rw [nI_add, ← cntB_s1 hy9]
            exact ih (u + 1) _ _ _ (by omega) mc3 nx3 wa3 ((((hf1.up (by decide) (by decide)).tr (f1.up (by decide) (by decide))).tr (f2.up (by decide) (by decide))).tr (f3.up (by decide) (by decide))) (by omega)
          · refine wp_iload dX12_sturdy_155 rfl ?_
            refine wp_iload dX12_sturdy_157 rfl ?_
            refine wp_cS1 0 0 [some _] dX12_sturdy_159 tX12_truth sX12_truth lX12_320 ⟨by decide, by decide⟩ (Nat.le_of_ble_eq_true rfl) (Nat.le_of_ble_eq_true rfl) rfl ?_
            refine pX12_truth0 ?_
            intro _ _
            refine wp_iadd dX12_sturdy_162 ?_
            refine wp_istore (ls1 := [_, _, _, _, some _, _, _, _]) dX12_sturdy_163 (by decide) rfl ?_
            refine wp_iinc1 (ls1 := [_, _, _, _, _, some _, _, _]) dX12_sturdy_165 rfl (by decide) rfl ?_
            refine wp_goto dX12_sturdy_168 ?_
            have hy9 : stuB r pa my p f L u = false := decide_eq_false (fun z9 => by first | exact absurd (congrArg List.length z9) (by assumption) | exact na (fun j hj => by rw [z9]))
            rw [nI_add, ← cntB_s0 hy9]
            exact ih (u + 1) _ _ _ (by omega) mc3 nx3 wa3 ((((hf1.up (by decide) (by decide)).tr (f1.up (by decide) (by decide))).tr (f2.up (by decide) (by decide))).tr (f3.up (by decide) (by decide))) (by omega)
  exact hloop (rT r p + 1) 0 x6 x7 h (by omega) hc nx wa mFr.rf (by omega)
set_option maxRecDepth 20000 in
theorem pX12_sturdy {h : mH} {Q : Option Value → mH → Prop} {r : Nat → Int64} {F : Nat} {pa my : Nat → Int32} {x y : Int32} (hc : mC h r F pa my) (hd : sOK r F pa my) (hq : ∀ {v} h', mFr pwS h h' → spSturdy r F pa my x y = v → Q (some (.int v)) h') : Wp mX12_sturdy 8 198 0 [some (.ref 153), some (.int x), some (.int y), none, none, none, none, none] [] h Q := by
  have hF4 := hd.f4
  have hP6 := hd.w.1.2
  refine wp_aload_n dX12_sturdy_0 rfl rfl ?_
  refine wp_iload_n dX12_sturdy_1 rfl rfl ?_
  refine wp_iload_n dX12_sturdy_2 rfl rfl ?_
  refine wp_cV2 2 43 [some _, some _, some _] dX12_sturdy_3 tX12_canCut rfl (by decide) nX12_canCut vX12_canCut lX12_485 ⟨by decide, by decide⟩ (Nat.le_of_ble_eq_true rfl) (mO hc.1) (Nat.le_of_ble_eq_true rfl) rfl ?_
  refine pX12_canCut hc hd (fun p1 q1 cn1 ex1 ey1 hp1 hf1 hl1 => ?_) (fun cn1 => ?_)
  · subst ex1
    subst ey1
    intro _ _
    refine wp_if_ne dX12_sturdy_6 (fun _ => ?_) (fun q => absurd q (by decide +kernel))
    refine wp_aload_n dX12_sturdy_11 rfl rfl ?_
    refine wp_iload_n dX12_sturdy_12 rfl rfl ?_
    refine wp_iload_n dX12_sturdy_13 rfl rfl ?_
    refine wp_cV2 7 176 [some _, some _, some _] dX12_sturdy_14 tX12_cutsPage rfl (by decide) nX12_cutsPage vX12_cutsPage lX12_488 ⟨by decide, by decide⟩ (Nat.le_of_ble_eq_true rfl) (mO hc.1) (Nat.le_of_ble_eq_true rfl) rfl ?_
    refine pX12_cutsPage hc hd (by omega) (by omega) (fun hh2 f2 nx2 rx2 k2 b2 => ?_)
    intro _ _
    have mc2 := hc.fr f2 (by decide) (by decide) (by decide) (by decide) (by decide)
    have hk8 := k2.2.1
    refine wp_aload_n dX12_sturdy_17 rfl rfl ?_
    refine wp_getIV dX12_sturdy_18 lX12_337 rfl (mO mc2.1) k2.1 ?_
    refine wp_if_neN dX12_sturdy_21 rfl (by omega) (fun c2 => ?_) (fun c2 => ?_)
    · obtain ⟨c9, hc9⟩ := cu_some hd hf1 (by assumption)
      refine wp_aload_n dX12_sturdy_26 rfl rfl ?_
      refine wp_cV0 1 22 [some _, none, none, none, none, none] dX12_sturdy_27 tX12_laysLetters rfl (by decide) nX12_laysLetters vX12_laysLetters lX12_497 ⟨by decide, by decide⟩ (Nat.le_of_ble_eq_true rfl) (mO mc2.1) (Nat.le_of_ble_eq_true rfl) rfl ?_
      refine pX12_laysLetters hd (by omega) mc2.1 rx2 nx2 k2 (srt_cu hd (by omega)) (fun hh3 f3 sd3 sl3 => ?_)
      intro _ _
      have mc3 := mc2.fr f3 (by decide) (by decide) (by decide) (by decide) (by decide)
      have nx3 := nx2.fr f3 (by decide) (by decide)
      have rx3 := rx2.fr f3 (by decide) (by decide)
      have k3 := k2.fr f3 (by decide) (by decide)
      have efI50_3 := (f3.fI 50 (by decide) (by decide)).trans b2
      refine wp_aload_n dX12_sturdy_30 rfl rfl ?_
      refine wp_getIV dX12_sturdy_31 lX12_491 rfl (mO mc3.1) sd3.1 ?_
      refine wp_istore_n (ls1 := [_, _, _, some _, _, _, _, _]) dX12_sturdy_34 rfl (by decide) rfl ?_
      refine wp_iconst (v := (nI 0)) dX12_sturdy_35 (by decide +kernel) ?_
      refine wp_istore (ls1 := [_, _, _, _, some _, _, _, _]) dX12_sturdy_36 (by decide) rfl ?_
      refine copy_X12_sturdy mc3.1 sd3 sl3 (fun k4 hh4 f4 wa4 => ?_)
      have mc4 := mc3.fr f4 (by decide) (by decide) (by decide) (by decide) (by decide)
      have nx4 := nx3.fr f4 (by decide) (by decide)
      have rx4 := rx3.fr f4 (by decide) (by decide)
      have k4 := k3.fr f4 (by decide) (by decide)
      have sd4 := sd3.fr f4 (by decide) (by decide)
      have efI50_4 := (f4.fI 50 (by decide) (by decide)).trans efI50_3
      refine wp_iconst (v := (nI 0)) dX12_sturdy_64 (by decide +kernel) ?_
      refine wp_istore (ls1 := [_, _, _, _, some _, _, _, _]) dX12_sturdy_65 (by decide) rfl ?_
      refine wp_iconst (v := (nI 0)) dX12_sturdy_67 (by decide +kernel) ?_
      refine wp_istore (ls1 := [_, _, _, _, _, some _, _, _]) dX12_sturdy_68 (by decide) rfl ?_
      refine sturdy_loop (f := q1) (L := ltA (rwW r p1 (-1)) (cuL (cuX r pa my p1 (-1) q1))) mc4 hd nx4 (by omega) hf1 sl3 wa4 (fun hh5 f5 => ?_)
      refine hq _ ((((f2.up (by decide) (by decide)).tr (f3.up (by decide) (by decide))).tr (f4.up (by decide) (by decide))).tr (f5.up (by decide) (by decide))) ?_
      unfold spSturdy
      rw [cn1]
      show (match cuX r pa my p1 (-1) q1 with | some c => _ | none => _) = _
      rw [hc9]
      rfl
    · have hn9 := cu_none hd hf1 (by assumption)
      refine wp_iconst (v := (-1)) dX12_sturdy_24 (by decide +kernel) ?_
      refine wp_ireturn dX12_sturdy_25 rfl ?_
      exact hq _ (f2.up (by decide) (by decide)) (by unfold spSturdy; rw [cn1]; show (match cuX r pa my p1 (-1) q1 with | some c => _ | none => _) = _; rw [hn9])
  · intro _ _
    refine wp_if_ne dX12_sturdy_6 (fun q => absurd q (by decide +kernel)) (fun _ => ?_)
    refine wp_iconst (v := (-1)) dX12_sturdy_9 (by decide +kernel) ?_
    refine wp_ireturn dX12_sturdy_10 rfl ?_
    exact hq _ mFr.rf (by unfold spSturdy; rw [cn1])
