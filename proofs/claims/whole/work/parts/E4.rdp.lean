/-! ===== the reader: a page's line ===== -/
def rwS (ow : Nat → Nat) (h : mH) (P : Nat) (ct : Nat → Nat) (rws : Nat → Nat → Int64) : Prop := (∀ p, p < 6 → hA h (8 + p) 15 40 ∧ ow (8 + p) = 19) ∧ ∀ p, p < P → p < 6 → ∀ j, j < ct p → hL h (8 + p) j = rws p j
def rwK (ow : Nat → Nat) (h : mH) (P : Nat) (ct : Nat → Nat) (rws : Nat → Nat → Int64) (k : Nat) (W : Nat → Int64) : Prop := rwS ow h P ct rws ∧ ∀ j, j < k → hL h (8 + P) j = W j
section RWS
variable {S : List Nat} {u9 : Nat} {ow ow' : Nat → Nat} {h h' : mH} {P : Nat} {ct : Nat → Nat} {rws : Nat → Nat → Int64} {k : Nat} {W : Nat → Int64}
theorem rwS.fr (g : rwS ow h P ct rws) (f : cFr S u9 ow h ow' h') (hs : 19 ∉ S) : rwS ow' h' P ct rws := by
  refine ⟨fun p hp => ⟨f.a (g.1 p hp).1, (f.w (g.1 p hp).1.1).trans (g.1 p hp).2⟩, fun p hp h6 j hj => ?_⟩
  exact (congrFun (f.s (g.1 p h6).1.1 (g.1 p h6).2 hs).2.1 j).trans (g.2 p hp h6 j hj)
theorem rwK.frP (g : rwK ow h P ct rws k W) (hP : P < 6) (f : cFr S u9 ow h ow' h') (hs : 19 ∉ S) : rwK ow' h' P ct rws k W := by
  refine ⟨g.1.fr f hs, fun j hj => ?_⟩
  exact (congrFun (f.s (g.1.1 P hP).1.1 (g.1.1 P hP).2 hs).2.1 j).trans (g.2 j hj)
theorem rwK_w {M : mM} {fr9 lo9 pc9 : Nat} {ls9 : List (Option Value)} {sk9 : List Value} {Q : Option Value → mH → Prop} {v : Int64} (g : rwK ow h P ct rws k W) (hP : P < 6) (hv : v = W k) (K : ∀ h', cFr [19] 0 ow h ow h' → rwK ow h' P ct rws (k + 1) W → Wp M fr9 lo9 pc9 ls9 sk9 h' Q) : Wp M fr9 lo9 pc9 ls9 sk9 (sL h (8 + P) k v) Q := by
  have f : cFr [19] 0 ow h ow (sL h (8 + P) k v) := cFr_sL (g.1.1 P hP).2
  refine K _ f ⟨⟨fun p hp => ⟨f.a (g.1.1 p hp).1, (g.1.1 p hp).2⟩, fun p hp h6 j hj => ?_⟩, fun j hj => ?_⟩
  · rw [hL_sL, if_neg (by omega)]; exact g.1.2 p hp h6 j hj
  · rw [hL_sL]
    by_cases c : j = k
    · rw [if_pos ⟨rfl, c⟩, hv, c]
    · rw [if_neg (by omega)]; exact g.2 j (by omega)
theorem rwK.nx (g : rwK ow h P ct rws k W) : rwS ow h (P + 1) (fun p => if p = P then k else ct p) (fun p => if p = P then W else rws p) := by
  refine ⟨g.1.1, fun p hp h6 j hj => ?_⟩
  by_cases c : p = P
  · subst c
    have hj : j < (if p = p then k else ct p) := hj
    rw [if_pos rfl] at hj
    show _ = (if p = p then W else rws p) j
    rw [if_pos rfl]; exact g.2 j hj
  · have hj : j < (if p = P then k else ct p) := hj
    rw [if_neg c] at hj
    show _ = (if p = P then W else rws p) j
    rw [if_neg c]; exact g.1.2 p (by omega) h6 j hj
end RWS
section LP
variable {tb : Nat → Int32} {N a k : Nat}
theorem isPT_3 (h : isPT tb N a = true) : 1 ≤ tS tb N a ∧ tS tb N a ≤ 3 := by
  have := of_decide_eq_true h
  omega
theorem pcT_of (hk : k ≤ 40) (h1 : ∀ j, j < k → isPT tb N (psT tb N a j) = true) (h2 : k = 40 ∨ isPT tb N (psT tb N a k) = false) : pcT tb N a = k := rnF_eq _ _ _ (Nat.zero_le _) (by omega) (fun j _ hj => h1 j hj) (h2.elim (fun z => Or.inl (by omega)) Or.inr)
theorem lP_0 (h : pcT tb N a = k) (hk : k = 0) : lP tb N a = .error (bd tb N 2 (psT tb N a k), tP tb N (psT tb N a k)) := by
  unfold lP; rw [h, if_pos hk]
theorem lP_n (h : pcT tb N a = k) (hk : ¬ k = 0) (e : isWd tb N (psT tb N a k) tWe = false) : lP tb N a = .error (bd tb N 2 (psT tb N a k), tP tb N (psT tb N a k)) := by
  unfold lP; rw [h, if_neg hk, if_neg (by rw [e]; exact fun z => by cases z)]
theorem lP_s (h : pcT tb N a = k) (hk : ¬ k = 0) (e : isWd tb N (psT tb N a k) tWe = true) (e2 : isSm tb N (tE tb N (psT tb N a k)) = false) : lP tb N a = .error (bd tb N 2 (tE tb N (psT tb N a k)), tP tb N (tE tb N (psT tb N a k))) := by
  unfold lP; rw [h, if_neg hk, if_pos e, if_neg (by rw [e2]; exact fun z => by cases z)]
theorem lP_y (h : pcT tb N a = k) (hk : ¬ k = 0) (e : isWd tb N (psT tb N a k) tWe = true) (e2 : isSm tb N (tE tb N (psT tb N a k)) = true) : lP tb N a = .ok (tE tb N (tE tb N (psT tb N a k)), k) := by
  unfold lP; rw [h, if_neg hk, if_pos e, if_pos e2]
end LP
set_option maxRecDepth 20000 in
theorem pX7_readPage {h : mH} {Q : Option Value → mH → Prop} {ow : Nat → Nat} {rc : Nat → Int32} {rl : Int32} {rq : Option Nat} {P : Nat} {ct : Nat → Nat} {rws : Nat → Nat → Int64} {tp : Nat → Int32} {N a : Nat} (g : rS ow h rc (nI P) rq (nI 0) rl tp N a) (tx : txR ow h tp N) (kb : kB ow h) (rw0 : rwS ow h P ct rws) (hP : P < 6) (ha : a ≤ N) (he : ∀ fa pl, lP tp N a = .error (fa, pl) → 0 < fa ∧ fa ≤ 3 → ∀ h' a', cFr [5, 19] 0 ow h ow h' → rS ow h' rc (nI P) rq (nI fa) (nI pl) tp N a' → Q none h') (hq : ∀ a' n, lP tp N a = .ok (a', n) → 0 < n ∧ n ≤ 40 → ∀ h', cFr [5, 19] 0 ow h ow h' → rS ow h' (upI rc P (nI n)) (nI (P + 1)) rq (nI 0) rl tp N a' → rwS ow h' (P + 1) (fun p => if p = P then n else ct p) (fun p => if p = P then (fun j => tW tp N (psT tp N a j)) else rws p) → a' ≤ N → Q none h') : Wp mX7_readPage 3 62 0 [some (.ref 6), none] [] h Q := by
  have hN9 := tx.2.2.1
  have hlp : ∀  (t9 : Nat) (h1 : mH) (k : Nat), (k ≤ 40) → (cFr [5, 19] 0 ow h ow h1) → (rS ow h1 rc (nI P) rq (nI 0) rl tp N (psT tp N a k)) → (rwK ow h1 P ct rws k (fun j => tW tp N (psT tp N a j))) → (∀ j, j < k → isPT tp N (psT tp N a j) = true) → (40 < k + t9) → Wp mX7_readPage 3 62 6 [some (.ref 6), some (.int (nI k))] [] h1 Q := by
    intro t9
    induction t9 with
    | zero => intros; omega
    | succ t9 ih =>
      intro h1 k hk hf1 g1 rk1 hp hmz
      have tx1 := tx.fr hf1 (by decide)
      have kb1 := kb.fr hf1 (by decide) (by decide)
      have hN9 := tx.2.2.1
      have ha1 := psT_le (tb := tp) ha k
      refine wp_iload_n dX7_readPage_6 rfl rfl ?_
      refine wp_bipush (v := (nI 40)) dX7_readPage_7 (by decide +kernel) ?_
      refine wp_icmp_geN dX7_readPage_9 rfl rfl ⟨by omega, by omega⟩ (fun c2 => ?_) (fun c2 => ?_)
      · have pc9 : pcT tp N a = k := pcT_of hk hp (Or.inl (by omega))
        refine wp_iload_n dX7_readPage_44 rfl rfl ?_
        refine wp_if_eqN dX7_readPage_45 rfl (by omega) (fun ck9 => ?_) (fun ck9 => ?_)
        · refine wp_aload_n dX7_readPage_58 rfl rfl ?_
          refine wp_iconst (v := (nI 2)) dX7_readPage_59 (by decide +kernel) ?_
          refine wp_cV1 0 0 [some _, some _] dX7_readPage_60 tX7_refuse rfl (by decide) nX7_refuse vX7_refuse lX7_62 ⟨by decide, by decide⟩ (Nat.le_of_ble_eq_true rfl) g1.oo (Nat.le_of_ble_eq_true rfl) rfl ?_
          refine pX7_refuse (k := 2) g1 (fun hh11 f11 g_11 => ?_)
          intro _ _
          have tx1_11 := tx1.fr f11 (rnS (by omega) rn0)
          have kb1_11 := kb1.fr f11 (rnS (by omega) rn0) (rnS (by omega) rn0)
          have rk1_11 := rk1.frP hP f11 (rnS (by omega) rn0)
          have bq11 := bd_le (tb := tp) (N := N) (k := 2) (a := (psT tp N a k)) (by omega)
          refine wp_vreturn dX7_readPage_63 rfl ?_
          exact he _ _ (lP_0 pc9 ck9) (bd_le (by omega)) _ _ ((hf1.up (by decide) (Nat.le_refl _)).tr (f11.up (by decide) (Nat.le_refl _))) g_11
        · refine wp_aload_n dX7_readPage_48 rfl rfl ?_
          refine wp_ldc2 dX7_readPage_49 lX7_125 ?_
          refine wp_cV1 0 0 [some _, some _, none] dX7_readPage_52 tX7_isWord rfl (by decide) nX7_isWord vX7_isWord lX7_44 ⟨by decide, by decide⟩ (Nat.le_of_ble_eq_true rfl) g1.oo (Nat.le_of_ble_eq_true rfl) rfl ?_
          refine pX7_isWord (x := tWe) g1 (fun e12 => ?_) (fun e12 => ?_)
          · intro _ _
            refine wp_if_ne dX7_readPage_55 (fun _ => ?_) (fun q => absurd q (by decide +kernel))
            refine wp_aload_n dX7_readPage_64 rfl rfl ?_
            refine wp_cV0 2 42 [some _] dX7_readPage_65 tX7_step rfl (by decide) nX7_step vX7_step lX7_81 ⟨by decide, by decide⟩ (Nat.le_of_ble_eq_true rfl) g1.oo (Nat.le_of_ble_eq_true rfl) rfl ?_
            refine pX7_stepS g1 tx1 ha1 (fun hh13 f13 g_13 => ?_)
            intro _ _
            have ha13 := (tE_le (tb := tp) ha1).2.1
            have tx1_13 := tx1.fr f13 (rnS (by omega) rn0)
            have kb1_13 := kb1.fr f13 (rnS (by omega) rn0) (rnS (by omega) rn0)
            have rk1_13 := rk1.frP hP f13 (rnS (by omega) rn0)
            refine wp_aload_n dX7_readPage_68 rfl rfl ?_
            refine wp_cV0 0 0 [some _] dX7_readPage_69 tX7_isSemicolon rfl (by decide) nX7_isSemicolon vX7_isSemicolon lX7_115 ⟨by decide, by decide⟩ (Nat.le_of_ble_eq_true rfl) g_13.oo (Nat.le_of_ble_eq_true rfl) rfl ?_
            refine pX7_isSemicolon g_13 (fun e14 => ?_) (fun e14 => ?_)
            · intro _ _
              refine wp_if_ne dX7_readPage_72 (fun _ => ?_) (fun q => absurd q (by decide +kernel))
              obtain ⟨w9, zr9, _⟩ := id g_13
              refine wp_aload_n dX7_readPage_81 rfl rfl ?_
              refine wp_getR dX7_readPage_82 lX7_16 rfl zr9.o zr9.r1 ?_
              refine wp_aload_n dX7_readPage_85 rfl rfl ?_
              refine wp_getIV dX7_readPage_86 lX7_56 rfl zr9.o zr9.f2 ?_
              refine wp_iload_n dX7_readPage_89 rfl rfl ?_
              refine wp_iastN dX7_readPage_90 zr9.a1 rfl ⟨by omega, by omega⟩ ?_
              refine zr9.w1 (fun hh15 f15 zr9_15 => ?_)
              have tx1_15 := tx1_13.fr f15 (rnS (by omega) rn0)
              have kb1_15 := kb1_13.fr f15 (rnS (by omega) rn0) (rnS (by omega) rn0)
              have rk1_15 := rk1_13.frP hP f15 (rnS (by omega) rn0)
              refine wp_aload_n dX7_readPage_91 rfl rfl ?_
              refine wp_dup dX7_readPage_92 rfl ?_
              refine wp_getIV dX7_readPage_93 lX7_56 rfl zr9_15.o zr9_15.f2 ?_
              refine wp_iconst (v := (nI 1)) dX7_readPage_96 (by decide +kernel) ?_
              refine wp_iadd dX7_readPage_97 ?_
              refine wp_putIN dX7_readPage_98 lX7_56 rfl rfl (Or.inl rfl) zr9_15.o (isN_add rfl rfl) ?_
              refine zr9_15.p2 (fun hh16 f16 zr9_16 => ?_)
              have tx1_16 := tx1_15.fr f16 (rnS (by omega) rn0)
              have kb1_16 := kb1_15.fr f16 (rnS (by omega) rn0) (rnS (by omega) rn0)
              have rk1_16 := rk1_15.frP hP f16 (rnS (by omega) rn0)
              refine wp_aload_n dX7_readPage_101 rfl rfl ?_
              refine wp_cV0 2 42 [some _] dX7_readPage_102 tX7_step rfl (by decide) nX7_step vX7_step lX7_81 ⟨by decide, by decide⟩ (Nat.le_of_ble_eq_true rfl) zr9_16.o (Nat.le_of_ble_eq_true rfl) rfl ?_
              have hb9 := (tE_le (tb := tp) ha13).2.1
              refine pX7_step (a := tE tp N (tE tp N (psT tp N a k))) zr9_16 tx1_16 hb9 (fun hh17 f17 g_17 => ?_)
              intro _ _
              have tx1_17 := tx1_16.fr f17 (rnS (by omega) rn0)
              have kb1_17 := kb1_16.fr f17 (rnS (by omega) rn0) (rnS (by omega) rn0)
              have rk1_17 := rk1_16.frP hP f17 (rnS (by omega) rn0)
              refine wp_vreturn dX7_readPage_105 rfl ?_
              exact hq _ _ (lP_y pc9 (by omega) e12 e14) ⟨by omega, hk⟩ _ (((((hf1.up (by decide) (Nat.le_refl _)).tr (f13.up (by decide) (Nat.le_refl _))).tr (f15.up (by decide) (Nat.le_refl _))).tr (f16.up (by decide) (Nat.le_refl _))).tr (f17.up (by decide) (Nat.le_refl _))) g_17 rk1_17.nx hb9
            · intro _ _
              refine wp_if_ne dX7_readPage_72 (fun q => absurd q (by decide +kernel)) (fun _ => ?_)
              refine wp_aload_n dX7_readPage_75 rfl rfl ?_
              refine wp_iconst (v := (nI 2)) dX7_readPage_76 (by decide +kernel) ?_
              refine wp_cV1 0 0 [some _, some _] dX7_readPage_77 tX7_refuse rfl (by decide) nX7_refuse vX7_refuse lX7_62 ⟨by decide, by decide⟩ (Nat.le_of_ble_eq_true rfl) g_13.oo (Nat.le_of_ble_eq_true rfl) rfl ?_
              refine pX7_refuse (k := 2) g_13 (fun hh18 f18 g_18 => ?_)
              intro _ _
              have tx1_18 := tx1_13.fr f18 (rnS (by omega) rn0)
              have kb1_18 := kb1_13.fr f18 (rnS (by omega) rn0) (rnS (by omega) rn0)
              have rk1_18 := rk1_13.frP hP f18 (rnS (by omega) rn0)
              have bq18 := bd_le (tb := tp) (N := N) (k := 2) (a := (tE tp N (psT tp N a k))) (by omega)
              refine wp_vreturn dX7_readPage_80 rfl ?_
              exact he _ _ (lP_s pc9 (by omega) e12 e14) (bd_le (by omega)) _ _ (((hf1.up (by decide) (Nat.le_refl _)).tr (f13.up (by decide) (Nat.le_refl _))).tr (f18.up (by decide) (Nat.le_refl _))) g_18
          · intro _ _
            refine wp_if_ne dX7_readPage_55 (fun q => absurd q (by decide +kernel)) (fun _ => ?_)
            refine wp_aload_n dX7_readPage_58 rfl rfl ?_
            refine wp_iconst (v := (nI 2)) dX7_readPage_59 (by decide +kernel) ?_
            refine wp_cV1 0 0 [some _, some _] dX7_readPage_60 tX7_refuse rfl (by decide) nX7_refuse vX7_refuse lX7_62 ⟨by decide, by decide⟩ (Nat.le_of_ble_eq_true rfl) g1.oo (Nat.le_of_ble_eq_true rfl) rfl ?_
            refine pX7_refuse (k := 2) g1 (fun hh19 f19 g_19 => ?_)
            intro _ _
            have tx1_19 := tx1.fr f19 (rnS (by omega) rn0)
            have kb1_19 := kb1.fr f19 (rnS (by omega) rn0) (rnS (by omega) rn0)
            have rk1_19 := rk1.frP hP f19 (rnS (by omega) rn0)
            have bq19 := bd_le (tb := tp) (N := N) (k := 2) (a := (psT tp N a k)) (by omega)
            refine wp_vreturn dX7_readPage_63 rfl ?_
            exact he _ _ (lP_n pc9 (by omega) e12) (bd_le (by omega)) _ _ ((hf1.up (by decide) (Nat.le_refl _)).tr (f19.up (by decide) (Nat.le_refl _))) g_19
      · refine wp_aload_n dX7_readPage_12 rfl rfl ?_
        refine wp_cV0 1 22 [some _] dX7_readPage_13 tX7_isOfPage rfl (by decide) nX7_isOfPage vX7_isOfPage lX7_122 ⟨by decide, by decide⟩ (Nat.le_of_ble_eq_true rfl) g1.oo (Nat.le_of_ble_eq_true rfl) rfl ?_
        refine pX7_isOfPage g1 (fun e20 => ?_) (fun e20 => ?_)
        · intro _ _
          refine wp_if_eq dX7_readPage_16 (fun q => absurd q (by decide +kernel)) (fun _ => ?_)
          refine wp_aload_n dX7_readPage_19 rfl rfl ?_
          refine wp_getR dX7_readPage_20 lX7_11 rfl g1.oo g1.r0 ?_
          refine wp_aload_n dX7_readPage_23 rfl rfl ?_
          refine wp_getIV dX7_readPage_24 lX7_56 rfl g1.oo g1.f2 ?_
          refine wp_aaldJ dX7_readPage_27 kb1.2.2.1.1 (by decide) (by decide) rfl ⟨by omega, by omega⟩ (kb1.2.2.1.2.2 P hP) ?_
          refine wp_iload_n dX7_readPage_28 rfl rfl ?_
          refine wp_aload_n dX7_readPage_29 rfl rfl ?_
          refine wp_getLV dX7_readPage_30 lX7_91 rfl g1.oo (g1.f11 (isPT_3 e20).1 (isPT_3 e20).2) ?_
          refine wp_lastN dX7_readPage_33 (rk1.1.1 P hP).1 rfl ⟨by omega, by omega⟩ ?_
          refine rwK_w rk1 hP rfl (fun hh21 f21 rk_21 => ?_)
          have g1_21 := g1.fr f21 (rnS (by omega) rn0)
          have tx1_21 := tx1.fr f21 (rnS (by omega) rn0)
          have kb1_21 := kb1.fr f21 (rnS (by omega) rn0) (rnS (by omega) rn0)
          refine wp_iinc1 (ls1 := [_, some _]) dX7_readPage_34 rfl (by decide) rfl ?_
          refine wp_aload_n dX7_readPage_37 rfl rfl ?_
          refine wp_cV0 2 42 [some _] dX7_readPage_38 tX7_step rfl (by decide) nX7_step vX7_step lX7_81 ⟨by decide, by decide⟩ (Nat.le_of_ble_eq_true rfl) g1_21.oo (Nat.le_of_ble_eq_true rfl) rfl ?_
          refine pX7_stepS g1_21 tx1_21 ha1 (fun hh22 f22 g_22 => ?_)
          intro _ _
          have ha22 := (tE_le (tb := tp) ha1).2.1
          have tx1_22 := tx1_21.fr f22 (rnS (by omega) rn0)
          have kb1_22 := kb1_21.fr f22 (rnS (by omega) rn0) (rnS (by omega) rn0)
          have rk_22 := rk_21.frP hP f22 (rnS (by omega) rn0)
          refine wp_goto dX7_readPage_41 ?_
          refine ih _ (k + 1) (by omega) (((hf1.up (by decide) (Nat.le_refl _)).tr (f21.up (by decide) (Nat.le_refl _))).tr (f22.up (by decide) (Nat.le_refl _))) g_22 rk_22 (fun j hj => ?_) (by omega)
          by_cases c9 : j = k
          · rw [c9]; exact e20
          · exact hp j (by omega)
        · intro _ _
          refine wp_if_eq dX7_readPage_16 (fun _ => ?_) (fun q => absurd q (by decide +kernel))
          have pc9 : pcT tp N a = k := pcT_of hk hp (Or.inr e20)
          refine wp_iload_n dX7_readPage_44 rfl rfl ?_
          refine wp_if_eqN dX7_readPage_45 rfl (by omega) (fun ck9 => ?_) (fun ck9 => ?_)
          · refine wp_aload_n dX7_readPage_58 rfl rfl ?_
            refine wp_iconst (v := (nI 2)) dX7_readPage_59 (by decide +kernel) ?_
            refine wp_cV1 0 0 [some _, some _] dX7_readPage_60 tX7_refuse rfl (by decide) nX7_refuse vX7_refuse lX7_62 ⟨by decide, by decide⟩ (Nat.le_of_ble_eq_true rfl) g1.oo (Nat.le_of_ble_eq_true rfl) rfl ?_
            refine pX7_refuse (k := 2) g1 (fun hh23 f23 g_23 => ?_)
            intro _ _
            have tx1_23 := tx1.fr f23 (rnS (by omega) rn0)
            have kb1_23 := kb1.fr f23 (rnS (by omega) rn0) (rnS (by omega) rn0)
            have rk1_23 := rk1.frP hP f23 (rnS (by omega) rn0)
            have bq23 := bd_le (tb := tp) (N := N) (k := 2) (a := (psT tp N a k)) (by omega)
            refine wp_vreturn dX7_readPage_63 rfl ?_
            exact he _ _ (lP_0 pc9 ck9) (bd_le (by omega)) _ _ ((hf1.up (by decide) (Nat.le_refl _)).tr (f23.up (by decide) (Nat.le_refl _))) g_23
          · refine wp_aload_n dX7_readPage_48 rfl rfl ?_
            refine wp_ldc2 dX7_readPage_49 lX7_125 ?_
            refine wp_cV1 0 0 [some _, some _, none] dX7_readPage_52 tX7_isWord rfl (by decide) nX7_isWord vX7_isWord lX7_44 ⟨by decide, by decide⟩ (Nat.le_of_ble_eq_true rfl) g1.oo (Nat.le_of_ble_eq_true rfl) rfl ?_
            refine pX7_isWord (x := tWe) g1 (fun e24 => ?_) (fun e24 => ?_)
            · intro _ _
              refine wp_if_ne dX7_readPage_55 (fun _ => ?_) (fun q => absurd q (by decide +kernel))
              refine wp_aload_n dX7_readPage_64 rfl rfl ?_
              refine wp_cV0 2 42 [some _] dX7_readPage_65 tX7_step rfl (by decide) nX7_step vX7_step lX7_81 ⟨by decide, by decide⟩ (Nat.le_of_ble_eq_true rfl) g1.oo (Nat.le_of_ble_eq_true rfl) rfl ?_
              refine pX7_stepS g1 tx1 ha1 (fun hh25 f25 g_25 => ?_)
              intro _ _
              have ha25 := (tE_le (tb := tp) ha1).2.1
              have tx1_25 := tx1.fr f25 (rnS (by omega) rn0)
              have kb1_25 := kb1.fr f25 (rnS (by omega) rn0) (rnS (by omega) rn0)
              have rk1_25 := rk1.frP hP f25 (rnS (by omega) rn0)
              refine wp_aload_n dX7_readPage_68 rfl rfl ?_
              refine wp_cV0 0 0 [some _] dX7_readPage_69 tX7_isSemicolon rfl (by decide) nX7_isSemicolon vX7_isSemicolon lX7_115 ⟨by decide, by decide⟩ (Nat.le_of_ble_eq_true rfl) g_25.oo (Nat.le_of_ble_eq_true rfl) rfl ?_
              refine pX7_isSemicolon g_25 (fun e26 => ?_) (fun e26 => ?_)
              · intro _ _
                refine wp_if_ne dX7_readPage_72 (fun _ => ?_) (fun q => absurd q (by decide +kernel))
                obtain ⟨w9, zr9, _⟩ := id g_25
                refine wp_aload_n dX7_readPage_81 rfl rfl ?_
                refine wp_getR dX7_readPage_82 lX7_16 rfl zr9.o zr9.r1 ?_
                refine wp_aload_n dX7_readPage_85 rfl rfl ?_
                refine wp_getIV dX7_readPage_86 lX7_56 rfl zr9.o zr9.f2 ?_
                refine wp_iload_n dX7_readPage_89 rfl rfl ?_
                refine wp_iastN dX7_readPage_90 zr9.a1 rfl ⟨by omega, by omega⟩ ?_
                refine zr9.w1 (fun hh27 f27 zr9_27 => ?_)
                have tx1_27 := tx1_25.fr f27 (rnS (by omega) rn0)
                have kb1_27 := kb1_25.fr f27 (rnS (by omega) rn0) (rnS (by omega) rn0)
                have rk1_27 := rk1_25.frP hP f27 (rnS (by omega) rn0)
                refine wp_aload_n dX7_readPage_91 rfl rfl ?_
                refine wp_dup dX7_readPage_92 rfl ?_
                refine wp_getIV dX7_readPage_93 lX7_56 rfl zr9_27.o zr9_27.f2 ?_
                refine wp_iconst (v := (nI 1)) dX7_readPage_96 (by decide +kernel) ?_
                refine wp_iadd dX7_readPage_97 ?_
                refine wp_putIN dX7_readPage_98 lX7_56 rfl rfl (Or.inl rfl) zr9_27.o (isN_add rfl rfl) ?_
                refine zr9_27.p2 (fun hh28 f28 zr9_28 => ?_)
                have tx1_28 := tx1_27.fr f28 (rnS (by omega) rn0)
                have kb1_28 := kb1_27.fr f28 (rnS (by omega) rn0) (rnS (by omega) rn0)
                have rk1_28 := rk1_27.frP hP f28 (rnS (by omega) rn0)
                refine wp_aload_n dX7_readPage_101 rfl rfl ?_
                refine wp_cV0 2 42 [some _] dX7_readPage_102 tX7_step rfl (by decide) nX7_step vX7_step lX7_81 ⟨by decide, by decide⟩ (Nat.le_of_ble_eq_true rfl) zr9_28.o (Nat.le_of_ble_eq_true rfl) rfl ?_
                have hb9 := (tE_le (tb := tp) ha25).2.1
                refine pX7_step (a := tE tp N (tE tp N (psT tp N a k))) zr9_28 tx1_28 hb9 (fun hh29 f29 g_29 => ?_)
                intro _ _
                have tx1_29 := tx1_28.fr f29 (rnS (by omega) rn0)
                have kb1_29 := kb1_28.fr f29 (rnS (by omega) rn0) (rnS (by omega) rn0)
                have rk1_29 := rk1_28.frP hP f29 (rnS (by omega) rn0)
                refine wp_vreturn dX7_readPage_105 rfl ?_
                exact hq _ _ (lP_y pc9 (by omega) e24 e26) ⟨by omega, hk⟩ _ (((((hf1.up (by decide) (Nat.le_refl _)).tr (f25.up (by decide) (Nat.le_refl _))).tr (f27.up (by decide) (Nat.le_refl _))).tr (f28.up (by decide) (Nat.le_refl _))).tr (f29.up (by decide) (Nat.le_refl _))) g_29 rk1_29.nx hb9
              · intro _ _
                refine wp_if_ne dX7_readPage_72 (fun q => absurd q (by decide +kernel)) (fun _ => ?_)
                refine wp_aload_n dX7_readPage_75 rfl rfl ?_
                refine wp_iconst (v := (nI 2)) dX7_readPage_76 (by decide +kernel) ?_
                refine wp_cV1 0 0 [some _, some _] dX7_readPage_77 tX7_refuse rfl (by decide) nX7_refuse vX7_refuse lX7_62 ⟨by decide, by decide⟩ (Nat.le_of_ble_eq_true rfl) g_25.oo (Nat.le_of_ble_eq_true rfl) rfl ?_
                refine pX7_refuse (k := 2) g_25 (fun hh30 f30 g_30 => ?_)
                intro _ _
                have tx1_30 := tx1_25.fr f30 (rnS (by omega) rn0)
                have kb1_30 := kb1_25.fr f30 (rnS (by omega) rn0) (rnS (by omega) rn0)
                have rk1_30 := rk1_25.frP hP f30 (rnS (by omega) rn0)
                have bq30 := bd_le (tb := tp) (N := N) (k := 2) (a := (tE tp N (psT tp N a k))) (by omega)
                refine wp_vreturn dX7_readPage_80 rfl ?_
                exact he _ _ (lP_s pc9 (by omega) e24 e26) (bd_le (by omega)) _ _ (((hf1.up (by decide) (Nat.le_refl _)).tr (f25.up (by decide) (Nat.le_refl _))).tr (f30.up (by decide) (Nat.le_refl _))) g_30
            · intro _ _
              refine wp_if_ne dX7_readPage_55 (fun q => absurd q (by decide +kernel)) (fun _ => ?_)
              refine wp_aload_n dX7_readPage_58 rfl rfl ?_
              refine wp_iconst (v := (nI 2)) dX7_readPage_59 (by decide +kernel) ?_
              refine wp_cV1 0 0 [some _, some _] dX7_readPage_60 tX7_refuse rfl (by decide) nX7_refuse vX7_refuse lX7_62 ⟨by decide, by decide⟩ (Nat.le_of_ble_eq_true rfl) g1.oo (Nat.le_of_ble_eq_true rfl) rfl ?_
              refine pX7_refuse (k := 2) g1 (fun hh31 f31 g_31 => ?_)
              intro _ _
              have tx1_31 := tx1.fr f31 (rnS (by omega) rn0)
              have kb1_31 := kb1.fr f31 (rnS (by omega) rn0) (rnS (by omega) rn0)
              have rk1_31 := rk1.frP hP f31 (rnS (by omega) rn0)
              have bq31 := bd_le (tb := tp) (N := N) (k := 2) (a := (psT tp N a k)) (by omega)
              refine wp_vreturn dX7_readPage_63 rfl ?_
              exact he _ _ (lP_n pc9 (by omega) e24) (bd_le (by omega)) _ _ ((hf1.up (by decide) (Nat.le_refl _)).tr (f31.up (by decide) (Nat.le_refl _))) g_31
  refine wp_iconst (v := (nI 0)) dX7_readPage_0 (by decide +kernel) ?_
  refine wp_istore_n (ls1 := [_, some _]) dX7_readPage_1 rfl (by decide) rfl ?_
  refine wp_aload_n dX7_readPage_2 rfl rfl ?_
  refine wp_cV0 2 42 [some _] dX7_readPage_3 tX7_step rfl (by decide) nX7_step vX7_step lX7_81 ⟨by decide, by decide⟩ (Nat.le_of_ble_eq_true rfl) g.oo (Nat.le_of_ble_eq_true rfl) rfl ?_
  refine pX7_stepS g tx ha (fun hh51 f51 g_51 => ?_)
  intro _ _
  have ha51 := (tE_le (tb := tp) ha).2.1
  have tx_51 := tx.fr f51 (rnS (by omega) rn0)
  exact hlp 41 _ 0 (by omega) (f51.up (by decide) (Nat.le_refl _)) g_51 ⟨rw0.fr f51 (by decide), fun j hj => absurd hj (Nat.not_lt_zero j)⟩ (fun j hj => absurd hj (Nat.not_lt_zero j)) (by omega)
