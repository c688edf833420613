/-! ===== next ===== -/
def mxI (NN : Nat → Nat) (bo : Option Nat) : Int32 := match bo with
  | none => -1
  | some b => nI (NN b)
theorem nle_m1 {n : Nat} (h : n < 2147483648) : ¬ nI n ≤ -1 := by
  rw [Int32.le_iff_toInt_le, nI_toInt h]
  have : (-1 : Int32).toInt = -1 := by decide
  omega
theorem nx_no {r : Nat → Int64} {pa my : Nat → Int32} {f t : Nat} {NN : Nat → Nat} {bo : Option Nat} (q : nxP r pa my f t NN bo) (h : 0 < rM r f t) : nxP r pa my f (t + 1) NN bo := by
  cases bo with
  | none =>
    intro x hx
    by_cases e : x = t
    · subst e; exact h
    · exact q x (by omega)
  | some b =>
    refine ⟨by have := q.1; omega, q.2.1, fun x hx h0 => ?_⟩
    by_cases e : x = t
    · subst e; omega
    · exact q.2.2 x (by omega) h0
theorem nx_cg {r : Nat → Int64} {pa my : Nat → Int32} {f t : Nat} {NN : Nat → Nat} {bo : Option Nat} {v : Nat} (q : nxP r pa my f t NN bo) : nxP r pa my f t (upN NN t v) bo := by
  cases bo with
  | none => exact q
  | some b =>
    have hb := q.1
    refine ⟨hb, q.2.1, fun x hx h0 => ?_⟩
    rw [upN_ne (by omega), upN_ne (by omega)]
    exact q.2.2 x hx h0
theorem nx_1 {r : Nat → Int64} {pa my : Nat → Int32} {f t : Nat} {NN : Nat → Nat} (q : nxP r pa my f t NN none) (h : rM r f t = 0) : nxP r pa my f (t + 1) NN (some t) := by
  refine ⟨by omega, h, fun x hx h0 => ?_⟩
  by_cases e : x = t
  · subst e; omega
  · have := q x (by omega); omega
theorem nx_2 {r : Nat → Int64} {pa my : Nat → Int32} {f t b : Nat} {NN : Nat → Nat} (q : nxP r pa my f t NN (some b)) (h : rM r f t = 0) (hv : NN b < NN t) : nxP r pa my f (t + 1) NN (some t) := by
  refine ⟨by omega, h, fun x hx h0 => ?_⟩
  by_cases e : x = t
  · subst e; omega
  · have := q.2.2 x (by omega) h0; omega
theorem nx_3 {r : Nat → Int64} {pa my : Nat → Int32} {f t b : Nat} {NN : Nat → Nat} (q : nxP r pa my f t NN (some b)) (hv : NN t ≤ NN b) : nxP r pa my f (t + 1) NN (some b) := by
  have hb := q.1
  refine ⟨by omega, q.2.1, fun x hx h0 => ?_⟩
  by_cases e : x = t
  · subst e; omega
  · exact q.2.2 x (by omega) h0
theorem nx_no0 {r : Nat → Int64} {F : Nat} {pa my : Nat → Int32} {x : Int32} (h : ix x F = none) : ∀ v, spNext r F pa my x v → v = -1 := by
  intro v hv
  unfold spNext at hv
  rw [h] at hv; exact hv
theorem nx_v {r : Nat → Int64} {F : Nat} {pa my : Nat → Int32} {f : Nat} {NN : Nat → Nat} {bo : Option Nat} (hd : sOK r F pa my) (hf : f < F) (hN : ∀ p, p < rP r → rM r f p = 0 → ∃ OL V FK, opC r pa my p f (NN p) OL V FK) (q : nxP r pa my f (rP r) NN bo) : ∀ v, spNext r F pa my (nI f) v → v = sgB bo := by
  have hF4 := hd.f4
  intro v hv
  unfold spNext at hv
  rw [ix_nI hf (by omega)] at hv
  obtain ⟨NN', res, h1, h2, h3⟩ := hv
  have e : ∀ p, p < rP r → rM r f p = 0 → NN p = NN' p := fun p hp h0 => by
    obtain ⟨OL, V, FK, a⟩ := hN p hp h0
    obtain ⟨OL', V', FK', b⟩ := h1 p hp h0
    exact op_N hd a b
  rw [h3]
  cases bo with
  | none =>
    cases res with
    | none => rfl
    | some b' => have := q b' h2.1; have := h2.2.1; omega
  | some b =>
    cases res with
    | none => have := h2 b q.1; have := q.2.1; omega
    | some b' =>
      have c1 := q.2.2 b' h2.1 h2.2.1
      have c2 := h2.2.2 b q.1 q.2.1
      have e1 := e b q.1 q.2.1
      have e2 := e b' h2.1 h2.2.1
      exact congrArg nI (show b' = b by omega)
set_option maxRecDepth 20000 in
theorem nextC_loop {h : mH} {Q : Option Value → mH → Prop} {ow : Nat → Nat} {F fa o1 d1 u1 : Nat} {pa my : Nat → Int32} {r : Nat → Int64} {pl : Nat → Int64} {gb ge : Int32} {gs gn : Int64} {gf gt : Int32} {n w f : Nat} (e9 : eS ow h F pa my r fa o1 d1 u1) (hd : sOK r F pa my) (zg : zG ow h pl gb ge gs gn gf gt) (tw : tbW ow h r pa my F (7 * (20480 - n)) w) (hw : w ≤ 8000000) (ti : tyI ow h r pa my F n) (hf : f < F) (hq : ∀ h' ow' u n' v, cFr [1, 10, 11, 12, 13, 14] u ow h ow' h' → tbW ow' h' r pa my F (7 * (20480 - n')) w → (∃ pl gb ge gs gn gf gt, zG ow' h' pl gb ge gs gn gf gt) → tyI ow' h' r pa my F n' → (∀ v', spNext r F pa my (nI f) v' → v' = v) → Q (some (.int v)) h') : Wp mX11_next 8 210 29 [some (.ref 0), some (.int (nI f)), some (.ref (nowA o1 d1)), some (.int (sgB none)), some (.int (mxI (fun _ => 0) none)), some (.int (nI 0))] [] h Q := by
  have hP6 := hd.w.1.2
  have hF4 := hd.f4
  have hlp : ∀  (t9 : Nat) (t : Nat) (NN : Nat → Nat) (bo : Option Nat) (pl1 : Nat → Int64) (gb1 : Int32) (ge1 : Int32) (gs1 : Int64) (gn1 : Int64) (gf1 : Int32) (gt1 : Int32) (n1 : Nat) (uq : Nat) (ow1 : Nat → Nat) (h1 : mH), (t ≤ rP r) → (cFr [1, 10, 11, 12, 13, 14] uq ow h ow1 h1) → (eS ow1 h1 F pa my r fa o1 d1 u1) → (tbW ow1 h1 r pa my F (7 * (20480 - n1)) w) → (zG ow1 h1 pl1 gb1 ge1 gs1 gn1 gf1 gt1) → (tyI ow1 h1 r pa my F n1) → (∀ x, x < t → rM r f x = 0 → ∃ OL V FK, opC r pa my x f (NN x) OL V FK) → (∀ x, NN x ≤ 20480) → (nxP r pa my f t NN bo) → (rP r < t + t9) → Wp mX11_next 8 210 29 [some (.ref 0), some (.int (nI f)), some (.ref (nowA o1 d1)), some (.int (sgB bo)), some (.int (mxI NN bo)), some (.int (nI t))] [] h1 Q := by
    intro t9
    induction t9 with
    | zero => intros; omega
    | succ t9 ih =>
      intro t NN bo pl1 gb1 ge1 gs1 gn1 gf1 gt1 n1 uq ow1 h1 ht hf1 e1 tw1 zg1 ti1 hNN hNB q9 hmz
      cases bo with
      | none =>
        refine wp_iload dX11_next_29 rfl ?_
        refine wp_aload_n dX11_next_31 rfl rfl ?_
        refine wp_getIV dX11_next_32 lX11_123 rfl e1.st.oo e1.st.f4 ?_
        refine wp_icmp_geN dX11_next_35 rfl rfl ⟨by omega, by omega⟩ (fun c2 => ?_) (fun c2 => ?_)
        · refine wp_iload_n dX11_next_85 rfl rfl ?_
          refine wp_ireturn dX11_next_86 rfl ?_
          have et9 : t = rP r := by omega
          subst et9
          exact hq _ _ _ _ (sgB none) hf1 tw1 ⟨_, _, _, _, _, _, _, zg1⟩ ti1 (nx_v hd hf hNN q9)
        · refine wp_aload_n dX11_next_38 rfl rfl ?_
          refine wp_iload dX11_next_39 rfl ?_
          refine wp_iload_n dX11_next_41 rfl rfl ?_
          refine wp_cV2 1 21 [some _, some _, some _] dX11_next_42 tX8_isExample rfl (by decide) nX8_isExample vX8_isExample lX11_230 ⟨by decide, by decide⟩ (Nat.le_of_ble_eq_true rfl) e1.st.oo (Nat.le_of_ble_eq_true rfl) rfl ?_
          refine pX8_isExample e1.st hd (by omega) (fun p1 hp1 ep1 hm1 => ?_) (fun hn1 => ?_)
          · have ep1 := (nI_eq (by omega) (by omega)).mp ep1
            subst ep1
            intro _ _
            refine wp_if_ne dX11_next_45 (fun _ => ?_) (fun q => absurd q (by decide +kernel))
            refine wp_iinc1 (ls1 := [_, _, _, _, _, some _]) dX11_next_79 rfl (by decide) rfl ?_
            refine wp_goto dX11_next_82 ?_
            exact ih (t + 1) NN none _ _ _ _ _ _ _ _ _ _ _ (by omega) hf1 e1 tw1 zg1 ti1 (fun x hx h0 => by
             by_cases e9 : x = t
             · subst e9; omega
             · exact hNN x (by omega) h0) hNB (nx_no q9 (by omega)) (by omega)
          · have hn1 := ex_no (by omega) (by omega) hn1
            intro _ _
            refine wp_if_ne dX11_next_45 (fun q => absurd q (by decide +kernel)) (fun _ => ?_)
            refine wp_aload_n dX11_next_48 rfl rfl ?_
            refine wp_iload dX11_next_49 rfl ?_
            refine wp_iload_n dX11_next_51 rfl rfl ?_
            refine wp_cV2 7 185 [some _, some _, some _, none, none, none] dX11_next_52 tX11_countVotes rfl (by decide) nX11_countVotes vX11_countVotes lX11_380 ⟨by decide, by decide⟩ (Nat.le_of_ble_eq_true rfl) e1.oo (Nat.le_of_ble_eq_true rfl) rfl ?_
            refine pX11_countVotes e1 hd zg1 tw1 hw ti1 (by omega) (by omega) (fun hh2 ow2 uu2 n2 f2r e9_2 tw_2 gg2 hn2 ty2 => ?_)
            intro _ _
            obtain ⟨_, _, _, _, _, _, _, zg_2⟩ := gg2
            obtain ⟨_, _, _, _, _, _, N2, OL2, V2, FK2, T2, zy2, hNn2, hTT2, tyv2, oc2⟩ := id ty2
            have q9 := nx_cg (v := N2) q9
            have hNt : upN NN t N2 t = N2 := upN_at _ _ _
            refine wp_aload_n dX11_next_55 rfl rfl ?_
            refine wp_getR dX11_next_56 lX11_67 rfl e9_2.oo e9_2.r11 ?_
            refine wp_getIV dX11_next_59 lX11_384 rfl zy2.o zy2.f2 ?_
            refine wp_iload dX11_next_62 rfl ?_
            refine wp_icmp_le dX11_next_64 (fun q => absurd q (nle_m1 (by omega))) (fun _ => ?_)
            refine wp_aload_n dX11_next_67 rfl rfl ?_
            refine wp_getR dX11_next_68 lX11_67 rfl e9_2.oo e9_2.r11 ?_
            refine wp_getIV dX11_next_71 lX11_384 rfl zy2.o zy2.f2 ?_
            refine wp_istore (ls1 := [_, _, _, _, some _, _]) dX11_next_74 (by decide) rfl ?_
            refine wp_iload dX11_next_76 rfl ?_
            refine wp_istore_n (ls1 := [_, _, _, some _, _, _]) dX11_next_78 rfl (by decide) rfl ?_
            refine wp_iinc1 (ls1 := [_, _, _, _, _, some _]) dX11_next_79 rfl (by decide) rfl ?_
            refine wp_goto dX11_next_82 ?_
            rw [show nI N2 = mxI (upN NN t N2) (some t) from congrArg nI hNt.symm]
            exact ih (t + 1) (upN NN t N2) (some t) _ _ _ _ _ _ _ _ _ _ _ (by omega) (hf1.tr f2r) e9_2 tw_2 zg_2 ⟨hn2, Or.inr ⟨t, f, by omega, by omega, ty2⟩⟩ (fun x hx h0 => by
             by_cases e9 : x = t
             · subst e9; rw [upN_at]; exact ⟨OL2, V2, FK2, oc2⟩
             · rw [upN_ne e9]; exact hNN x (by omega) h0) (fun x => by
             by_cases e9 : x = t
             · subst e9; rw [upN_at]; omega
             · rw [upN_ne e9]; exact hNB x) (nx_1 q9 (by omega)) (by omega)
      | some b =>
        have hb9 := q9.1
        have hB9 := hNB b
        refine wp_iload dX11_next_29 rfl ?_
        refine wp_aload_n dX11_next_31 rfl rfl ?_
        refine wp_getIV dX11_next_32 lX11_123 rfl e1.st.oo e1.st.f4 ?_
        refine wp_icmp_geN dX11_next_35 rfl rfl ⟨by omega, by omega⟩ (fun c2 => ?_) (fun c2 => ?_)
        · refine wp_iload_n dX11_next_85 rfl rfl ?_
          refine wp_ireturn dX11_next_86 rfl ?_
          have et9 : t = rP r := by omega
          subst et9
          exact hq _ _ _ _ (sgB (some b)) hf1 tw1 ⟨_, _, _, _, _, _, _, zg1⟩ ti1 (nx_v hd hf hNN q9)
        · refine wp_aload_n dX11_next_38 rfl rfl ?_
          refine wp_iload dX11_next_39 rfl ?_
          refine wp_iload_n dX11_next_41 rfl rfl ?_
          refine wp_cV2 1 21 [some _, some _, some _] dX11_next_42 tX8_isExample rfl (by decide) nX8_isExample vX8_isExample lX11_230 ⟨by decide, by decide⟩ (Nat.le_of_ble_eq_true rfl) e1.st.oo (Nat.le_of_ble_eq_true rfl) rfl ?_
          refine pX8_isExample e1.st hd (by omega) (fun p1 hp1 ep1 hm1 => ?_) (fun hn1 => ?_)
          · have ep1 := (nI_eq (by omega) (by omega)).mp ep1
            subst ep1
            intro _ _
            refine wp_if_ne dX11_next_45 (fun _ => ?_) (fun q => absurd q (by decide +kernel))
            refine wp_iinc1 (ls1 := [_, _, _, _, _, some _]) dX11_next_79 rfl (by decide) rfl ?_
            refine wp_goto dX11_next_82 ?_
            exact ih (t + 1) NN (some b) _ _ _ _ _ _ _ _ _ _ _ (by omega) hf1 e1 tw1 zg1 ti1 (fun x hx h0 => by
             by_cases e9 : x = t
             · subst e9; omega
             · exact hNN x (by omega) h0) hNB (nx_no q9 (by omega)) (by omega)
          · have hn1 := ex_no (by omega) (by omega) hn1
            intro _ _
            refine wp_if_ne dX11_next_45 (fun q => absurd q (by decide +kernel)) (fun _ => ?_)
            refine wp_aload_n dX11_next_48 rfl rfl ?_
            refine wp_iload dX11_next_49 rfl ?_
            refine wp_iload_n dX11_next_51 rfl rfl ?_
            refine wp_cV2 7 185 [some _, some _, some _, none, none, none] dX11_next_52 tX11_countVotes rfl (by decide) nX11_countVotes vX11_countVotes lX11_380 ⟨by decide, by decide⟩ (Nat.le_of_ble_eq_true rfl) e1.oo (Nat.le_of_ble_eq_true rfl) rfl ?_
            refine pX11_countVotes e1 hd zg1 tw1 hw ti1 (by omega) (by omega) (fun hh2 ow2 uu2 n2 f2r e9_2 tw_2 gg2 hn2 ty2 => ?_)
            intro _ _
            obtain ⟨_, _, _, _, _, _, _, zg_2⟩ := gg2
            obtain ⟨_, _, _, _, _, _, N2, OL2, V2, FK2, T2, zy2, hNn2, hTT2, tyv2, oc2⟩ := id ty2
            have q9 := nx_cg (v := N2) q9
            have hNt : upN NN t N2 t = N2 := upN_at _ _ _
            have hNb : upN NN t N2 b = NN b := upN_ne (by omega)
            refine wp_aload_n dX11_next_55 rfl rfl ?_
            refine wp_getR dX11_next_56 lX11_67 rfl e9_2.oo e9_2.r11 ?_
            refine wp_getIV dX11_next_59 lX11_384 rfl zy2.o zy2.f2 ?_
            refine wp_iload dX11_next_62 rfl ?_
            refine wp_icmp_leN dX11_next_64 rfl rfl ⟨by omega, by omega⟩ (fun cle => ?_) (fun cle => ?_)
            · refine wp_iinc1 (ls1 := [_, _, _, _, _, some _]) dX11_next_79 rfl (by decide) rfl ?_
              refine wp_goto dX11_next_82 ?_
              rw [show mxI NN (some b) = mxI (upN NN t N2) (some b) from congrArg nI hNb.symm]
              exact ih (t + 1) (upN NN t N2) (some b) _ _ _ _ _ _ _ _ _ _ _ (by omega) (hf1.tr f2r) e9_2 tw_2 zg_2 ⟨hn2, Or.inr ⟨t, f, by omega, by omega, ty2⟩⟩ (fun x hx h0 => by
               by_cases e9 : x = t
               · subst e9; rw [upN_at]; exact ⟨OL2, V2, FK2, oc2⟩
               · rw [upN_ne e9]; exact hNN x (by omega) h0) (fun x => by
               by_cases e9 : x = t
               · subst e9; rw [upN_at]; omega
               · rw [upN_ne e9]; exact hNB x) (nx_3 q9 (by omega)) (by omega)
            · refine wp_aload_n dX11_next_67 rfl rfl ?_
              refine wp_getR dX11_next_68 lX11_67 rfl e9_2.oo e9_2.r11 ?_
              refine wp_getIV dX11_next_71 lX11_384 rfl zy2.o zy2.f2 ?_
              refine wp_istore (ls1 := [_, _, _, _, some _, _]) dX11_next_74 (by decide) rfl ?_
              refine wp_iload dX11_next_76 rfl ?_
              refine wp_istore_n (ls1 := [_, _, _, some _, _, _]) dX11_next_78 rfl (by decide) rfl ?_
              refine wp_iinc1 (ls1 := [_, _, _, _, _, some _]) dX11_next_79 rfl (by decide) rfl ?_
              refine wp_goto dX11_next_82 ?_
              rw [show nI N2 = mxI (upN NN t N2) (some t) from congrArg nI hNt.symm]
              exact ih (t + 1) (upN NN t N2) (some t) _ _ _ _ _ _ _ _ _ _ _ (by omega) (hf1.tr f2r) e9_2 tw_2 zg_2 ⟨hn2, Or.inr ⟨t, f, by omega, by omega, ty2⟩⟩ (fun x hx h0 => by
               by_cases e9 : x = t
               · subst e9; rw [upN_at]; exact ⟨OL2, V2, FK2, oc2⟩
               · rw [upN_ne e9]; exact hNN x (by omega) h0) (fun x => by
               by_cases e9 : x = t
               · subst e9; rw [upN_at]; omega
               · rw [upN_ne e9]; exact hNB x) (nx_2 q9 (by omega) (by omega)) (by omega)
  exact hlp (rP r + 1) 0 (fun _ => 0) none _ _ _ _ _ _ _ n 0 ow h (Nat.zero_le _) cFr.rf e9 tw zg ti (fun x hx => absurd hx (Nat.not_lt_zero x)) (fun _ => Nat.zero_le _) (fun x hx => absurd hx (Nat.not_lt_zero x)) (by omega)
set_option maxRecDepth 20000 in
theorem pX11_next {h : mH} {Q : Option Value → mH → Prop} {ow : Nat → Nat} {F fa o1 d1 u1 : Nat} {pa my : Nat → Int32} {r : Nat → Int64} {pl : Nat → Int64} {gb ge : Int32} {gs gn : Int64} {gf gt : Int32} {n w : Nat} {x : Int32} (e9 : eS ow h F pa my r fa o1 d1 u1) (hd : sOK r F pa my) (zg : zG ow h pl gb ge gs gn gf gt) (tw : tbW ow h r pa my F (7 * (20480 - n)) w) (hw : w ≤ 8000000) (ti : tyI ow h r pa my F n) (hq : ∀ h' ow' u n' v, cFr [1, 10, 11, 12, 13, 14] u ow h ow' h' → tbW ow' h' r pa my F (7 * (20480 - n')) w → (∃ pl gb ge gs gn gf gt, zG ow' h' pl gb ge gs gn gf gt) → tyI ow' h' r pa my F n' → (∀ v', spNext r F pa my x v' → v' = v) → Q (some (.int v)) h') : Wp mX11_next 8 210 0 [some (.ref 0), some (.int x), none, none, none, none] [] h Q := by
  have hP6 := hd.w.1.2
  have hF4 := hd.f4
  refine wp_aload_n dX11_next_0 rfl rfl ?_
  refine wp_getR dX11_next_1 lX11_20 rfl e9.oo e9.f4 ?_
  refine wp_iload_n dX11_next_4 rfl rfl ?_
  refine wp_cV1 0 0 [some _, some _] dX11_next_5 tX1_has rfl (by decide) nX1_has vX1_has lX11_139 ⟨by decide, by decide⟩ (Nat.le_of_ble_eq_true rfl) e9.fl.oo (Nat.le_of_ble_eq_true rfl) rfl ?_
  refine pX1_has e9.fl hF4 (fun f1 hf1 ef1 => ?_) (fun xn1 => ?_)
  · subst ef1
    intro _ _
    refine wp_if_ne dX11_next_8 (fun _ => ?_) (fun q => absurd q (by decide +kernel))
    refine wp_aload_n dX11_next_13 rfl rfl ?_
    refine wp_getR dX11_next_14 lX11_34 rfl e9.oo e9.r6 ?_
    refine wp_cV0 2 43 [some _] dX11_next_17 tX3_now rfl (by decide) nX3_now vX3_now lX11_101 ⟨by decide, by decide⟩ (Nat.le_of_ble_eq_true rfl) e9.hh.o (Nat.le_of_ble_eq_true rfl) rfl ?_
    refine pX3_now e9.hh e9.kb e9.od.1 e9.od.2 ?_
    intro _ _
    refine wp_astore_n (ls1 := [_, _, some _, _, _, _]) dX11_next_20 rfl (by decide) rfl ?_
    refine wp_iconst (v := (-1)) dX11_next_21 (by decide +kernel) ?_
    refine wp_istore_n (ls1 := [_, _, _, some _, _, _]) dX11_next_22 rfl (by decide) rfl ?_
    refine wp_iconst (v := (-1)) dX11_next_23 (by decide +kernel) ?_
    refine wp_istore (ls1 := [_, _, _, _, some _, _]) dX11_next_24 (by decide) rfl ?_
    refine wp_iconst (v := (nI 0)) dX11_next_26 (by decide +kernel) ?_
    refine wp_istore (ls1 := [_, _, _, _, _, some _]) dX11_next_27 (by decide) rfl ?_
    exact nextC_loop e9 hd zg tw hw ti (by omega) hq
  · intro _ _
    refine wp_if_ne dX11_next_8 (fun q => absurd q (by decide +kernel)) (fun _ => ?_)
    refine wp_iconst (v := (-1)) dX11_next_11 (by decide +kernel) ?_
    refine wp_ireturn dX11_next_12 rfl ?_
    exact hq _ _ 0 n _ cFr.rf tw ⟨_, _, _, _, _, _, _, zg⟩ ti (nx_no0 xn1)
