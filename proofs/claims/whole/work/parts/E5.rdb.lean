/-! ===== the reader: a book, one page ===== -/
section BKL
variable {tb : Nat → Int32} {N n a f : Nat} {nm : Nat → Int64} {rp mn : Nat → Int32} {P : Nat} {ct : Nat → Nat} {rw : Nat → Nat → Int64}
theorem wd_s0 {w : Int64} (h : isWd tb N a w = true) : ¬ tS tb N a = 0 := by rw [isWd_S h]; omega
theorem wd_fp (h1 : isWd tb N a tWf = true) (h2 : isWd tb N a tWp = true) : False := absurd ((of_decide_eq_true h1).2.symm.trans (of_decide_eq_true h2).2) (by decide +kernel)
theorem bkL_0 (h : tS tb N a = 0) : bkL tb N (n + 1) a f nm rp mn P ct rw = .ok (f, rp, mn, P, ct, rw) := by
  show (if tS tb N a = 0 then _ else _) = _
  rw [if_pos h]
theorem bkL_f4 (h : isWd tb N a tWf = true) (hf : f = 4) : bkL tb N (n + 1) a f nm rp mn P ct rw = .error (bd tb N 2 a, tP tb N a) := by
  show (if tS tb N a = 0 then _ else _) = _
  rw [if_neg (wd_s0 h), if_pos h, if_pos hf, bd_w (isWd_S h)]
theorem bkL_fe {e : Nat × Nat} (h : isWd tb N a tWf = true) (hf : ¬ f = 4) (e9 : lF tb N a nm mn f = .error e) : bkL tb N (n + 1) a f nm rp mn P ct rw = .error e := by
  show (if tS tb N a = 0 then _ else _) = _
  rw [if_neg (wd_s0 h), if_pos h, if_neg hf, e9]
theorem bkL_fo {a' : Nat} {p m : Int32} (h : isWd tb N a tWf = true) (hf : ¬ f = 4) (e9 : lF tb N a nm mn f = .ok (a', p, m)) : bkL tb N (n + 1) a f nm rp mn P ct rw = bkL tb N n a' (f + 1) (up1 nm f (tW tb N (tE tb N a))) (upI rp f p) (upI mn f m) P ct rw := by
  show (if tS tb N a = 0 then _ else _) = _
  rw [if_neg (wd_s0 h), if_pos h, if_neg hf, e9]
theorem bkL_p6 (h0 : isWd tb N a tWf = false) (h : isWd tb N a tWp = true) (hP : P = 6) : bkL tb N (n + 1) a f nm rp mn P ct rw = .error (bd tb N 2 a, tP tb N a) := by
  show (if tS tb N a = 0 then _ else _) = _
  rw [if_neg (wd_s0 h), if_neg (by rw [h0]; exact fun z => by cases z), if_pos h, if_pos hP, bd_w (isWd_S h)]
theorem bkL_pe {e : Nat × Nat} (h0 : isWd tb N a tWf = false) (h : isWd tb N a tWp = true) (hP : ¬ P = 6) (e9 : lP tb N a = .error e) : bkL tb N (n + 1) a f nm rp mn P ct rw = .error e := by
  show (if tS tb N a = 0 then _ else _) = _
  rw [if_neg (wd_s0 h), if_neg (by rw [h0]; exact fun z => by cases z), if_pos h, if_neg hP, e9]
theorem bkL_po {a' k : Nat} (h0 : isWd tb N a tWf = false) (h : isWd tb N a tWp = true) (hP : ¬ P = 6) (e9 : lP tb N a = .ok (a', k)) : bkL tb N (n + 1) a f nm rp mn P ct rw = bkL tb N n a' f nm rp mn (P + 1) (fun p => if p = P then k else ct p) (fun p => if p = P then (fun j => tW tb N (psT tb N a j)) else rw p) := by
  show (if tS tb N a = 0 then _ else _) = _
  rw [if_neg (wd_s0 h), if_neg (by rw [h0]; exact fun z => by cases z), if_pos h, if_neg hP, e9]
theorem bkL_no (hS : ¬ tS tb N a = 0) (h0 : isWd tb N a tWf = false) (h : isWd tb N a tWp = false) : bkL tb N (n + 1) a f nm rp mn P ct rw = .error (bd tb N 2 a, tP tb N a) := by
  show (if tS tb N a = 0 then _ else _) = _
  rw [if_neg hS, if_neg (by rw [h0]; exact fun z => by cases z), if_neg (by rw [h]; exact fun z => by cases z)]
theorem pgS_n (h : isWd tb N 0 tWp = false) : pgS tb N = .error (bd tb N 2 0, tP tb N 0) := by
  unfold pgS; rw [if_neg (by rw [h]; exact fun z => by cases z)]
theorem pgS_e {e : Nat × Nat} (h : isWd tb N 0 tWp = true) (e9 : lP tb N 0 = .error e) : pgS tb N = .error e := by
  unfold pgS; rw [if_pos h, e9]
theorem pgS_o {a' k : Nat} (h : isWd tb N 0 tWp = true) (e9 : lP tb N 0 = .ok (a', k)) (h0 : tS tb N a' = 0) : pgS tb N = .ok k := by
  unfold pgS; rw [if_pos h, e9]; exact if_pos h0
theorem pgS_x {a' k : Nat} (h : isWd tb N 0 tWp = true) (e9 : lP tb N 0 = .ok (a', k)) (h0 : ¬ tS tb N a' = 0) : pgS tb N = .error (bd tb N 2 a', tP tb N a') := by
  unfold pgS; rw [if_pos h, e9]; exact if_neg h0
end BKL
theorem rc_up {rc : Nat → Int32} {ct : Nat → Nat} {P n : Nat} (h : ∀ p, p < P → rc p = nI (ct p)) : ∀ p, p < P + 1 → upI rc P (nI n) p = nI (if p = P then n else ct p) := fun p hp => by
  unfold upI
  by_cases c : p = P
  · rw [if_pos c, if_pos c]
  · rw [if_neg c, if_neg c]; exact h p (by omega)
set_option maxRecDepth 20000 in
theorem pX7_readBook {h : mH} {Q : Option Value → mH → Prop} {ow : Nat → Nat} {rc : Nat → Int32} {rp rf rl rn ra rb rk : Int32} {rw : Int64} {rq rx : Option Nat} {tp : Nat → Int32} {N : Nat} (zr : zR ow h rc rp rq rf rl rx rn ra rb rk rw) (tx : txR ow h tp N) (kb : kB ow h) (rwz : rwS ow h 0 (fun _ => 0) (fun _ _ => 0)) (hz : hN h + 4 < scrA) (he : ∀ fa pl, bkL tp N 11 0 0 (fun _ => 0) (fun _ => 0) (fun _ => 0) 0 (fun _ => 0) (fun _ _ => 0) = .error (fa, pl) → 0 < fa ∧ fa ≤ 3 → ∀ h' ow' a' rc' rp' rq', cFr [5, 16, 19] 48 ow h ow' h' → rS ow' h' rc' rp' rq' (nI fa) (nI pl) tp N a' → Q (some (.int (nI 0))) h') (hq : ∀ f' fp' mn' P' ct' rw' nm', bkL tp N 11 0 0 (fun _ => 0) (fun _ => 0) (fun _ => 0) 0 (fun _ => 0) (fun _ _ => 0) = .ok (f', fp', mn', P', ct', rw') → ∀ h' ow' a' rc', cFr [5, 16, 19] 48 ow h ow' h' → rS ow' h' rc' (nI P') (some (hN h)) (nI 0) (-1) tp N a' → zF ow' h' (hN h) 16 nm' fp' mn' (nI f') → rwS ow' h' P' ct' rw' → (∀ p, p < P' → rc' p = nI (ct' p)) → bkI f' nm' fp' mn' P' ct' → Q (some (.int (nI 1))) h') : Wp mX7_readBook 5 109 0 [some (.ref 6), some (.ref 1), some (.int (nI N)), none] [] h Q := by
  have hlp : ∀ (ow1 : Nat → Nat) (h0 : mH) (q : Nat) (tx0 : txR ow1 h0 tp N) (kb0 : kB ow1 h0) (t9 : Nat) (h1 : mH) (a : Nat) (f : Nat) (nm : Nat → Int64) (fp : Nat → Int32) (mn : Nat → Int32) (P : Nat) (ct : Nat → Nat) (rws : Nat → Nat → Int64) (rc : Nat → Int32), (bkI f nm fp mn P ct) → (10 < f + P + t9) → (cFr [5, 16, 19] 0 ow1 h0 ow1 h1) → (rS ow1 h1 rc (nI P) (some q) (nI 0) (-1) tp N a) → (zF ow1 h1 q 16 nm fp mn (nI f)) → (rwS ow1 h1 P ct rws) → (∀ p, p < P → rc p = nI (ct p)) → (a ≤ N) → (∀ fa pl, bkL tp N t9 a f nm fp mn P ct rws = .error (fa, pl) → 0 < fa ∧ fa ≤ 3 → ∀ h' a' rc' rp' rq', cFr [5, 16, 19] 0 ow1 h0 ow1 h' → rS ow1 h' rc' rp' rq' (nI fa) (nI pl) tp N a' → Q (some (.int (nI 0))) h') → (∀ f' fp' mn' P' ct' rw' nm', bkL tp N t9 a f nm fp mn P ct rws = .ok (f', fp', mn', P', ct', rw') → ∀ h' a' rc', cFr [5, 16, 19] 0 ow1 h0 ow1 h' → rS ow1 h' rc' (nI P') (some q) (nI 0) (-1) tp N a' → zF ow1 h' q 16 nm' fp' mn' (nI f') → rwS ow1 h' P' ct' rw' → (∀ p, p < P' → rc' p = nI (ct' p)) → bkI f' nm' fp' mn' P' ct' → Q (some (.int (nI 1))) h') → Wp mX7_readBook 5 109 8 [some (.ref 6), some (.ref 1), some (.int (nI N)), some (.int (nI (f + P)))] [] h1 Q := by
    intro ow1 h0 q tx0 kb0 t9
    induction t9 with
    | zero => intros; exact absurd (by assumption : bkI _ _ _ _ _ _) (fun z9 => by have := z9.1; have := z9.2.1; omega)
    | succ t9 ih =>
      intro h1 a f nm fp mn P ct rws rc hbk hms hf1 g1 zf1 rw1 hrc ha he hmz
      have hq := hmz
      have tx1 := tx0.fr hf1 (by decide)
      have kb1 := kb0.fr hf1 (by decide) (by decide)
      have hN9 := tx1.2.2.1
      have hf4 := hbk.1
      have hP6 := hbk.2.1
      have hk9 := rkN_c (tS_le (tb := tp) (N := N) (a := a))
      refine wp_iload_n dX7_readBook_8 rfl rfl ?_
      refine wp_sipush (v := (nI 900)) dX7_readBook_9 (by decide +kernel) ?_
      refine wp_icmp_geN dX7_readBook_12 rfl rfl ⟨by omega, by omega⟩ (fun q => absurd q (by omega)) (fun _ => ?_)
      refine wp_aload_n dX7_readBook_15 rfl rfl ?_
      refine wp_getIV dX7_readBook_16 lX7_35 rfl g1.oo g1.f4 ?_
      refine wp_if_ne dX7_readBook_19 (fun q => absurd q (by decide +kernel)) (fun _ => ?_)
      refine wp_aload_n dX7_readBook_22 rfl rfl ?_
      refine wp_getIV dX7_readBook_23 lX7_39 rfl g1.oo g1.f10 ?_
      refine wp_iconst (v := (nI 3)) dX7_readBook_26 (by decide +kernel) ?_
      refine wp_icmp_eqN dX7_readBook_27 rfl rfl ⟨by omega, by omega⟩ (fun cq9 => ?_) (fun cq9 => ?_)
      · have s09 : tS tp N a = 0 := by omega
        refine wp_aload_n dX7_readBook_95 rfl rfl ?_
        refine wp_getIV dX7_readBook_96 lX7_35 rfl g1.oo g1.f4 ?_
        refine wp_if_ne dX7_readBook_99 (fun q => absurd q (by decide +kernel)) (fun _ => ?_)
        refine wp_iconst (v := (nI 1)) dX7_readBook_102 (by decide +kernel) ?_
        refine wp_goto dX7_readBook_103 ?_
        refine wp_zreturn dX7_readBook_107 rfl (by first | exact Or.inl rfl | exact Or.inr rfl) ?_
        exact hq _ _ _ _ _ _ _ (bkL_0 s09) _ _ _ (hf1.up (by decide) (Nat.le_refl _)) g1 zf1 rw1 hrc hbk
      · have s09 : ¬ tS tp N a = 0 := by omega
        refine wp_aload_n dX7_readBook_30 rfl rfl ?_
        refine wp_ldc2 dX7_readBook_31 lX7_42 ?_
        refine wp_cV1 0 0 [some _, some _, none] dX7_readBook_34 tX7_isWord rfl (by decide) nX7_isWord vX7_isWord lX7_44 ⟨by decide, by decide⟩ (Nat.le_of_ble_eq_true rfl) g1.oo (Nat.le_of_ble_eq_true rfl) rfl ?_
        refine pX7_isWord (x := tWf) g1 (fun e11 => ?_) (fun e11 => ?_)
        · intro _ _
          refine wp_if_eq dX7_readBook_37 (fun q => absurd q (by decide +kernel)) (fun _ => ?_)
          refine wp_aload_n dX7_readBook_40 rfl rfl ?_
          refine wp_getR dX7_readBook_41 lX7_23 rfl g1.oo g1.f3 ?_
          refine wp_getIV dX7_readBook_44 lX7_48 rfl zf1.o zf1.f3 ?_
          refine wp_iconst (v := (nI 4)) dX7_readBook_47 (by decide +kernel) ?_
          refine wp_icmp_geN dX7_readBook_48 rfl rfl ⟨by omega, by omega⟩ (fun c7 => ?_) (fun c7 => ?_)
          · refine wp_aload_n dX7_readBook_58 rfl rfl ?_
            refine wp_ldc2 dX7_readBook_59 lX7_54 ?_
            refine wp_cV1 0 0 [some _, some _, none] dX7_readBook_62 tX7_isWord rfl (by decide) nX7_isWord vX7_isWord lX7_44 ⟨by decide, by decide⟩ (Nat.le_of_ble_eq_true rfl) g1.oo (Nat.le_of_ble_eq_true rfl) rfl ?_
            refine pX7_isWord (x := tWp) g1 (fun e12 => ?_) (fun e12 => ?_)
            · intro _ _
              refine wp_if_eq dX7_readBook_65 (fun q => absurd q (by decide +kernel)) (fun _ => ?_)
              exact (wd_fp e11 e12).elim
            · intro _ _
              refine wp_if_eq dX7_readBook_65 (fun _ => ?_) (fun q => absurd q (by decide +kernel))
              refine wp_aload_n dX7_readBook_84 rfl rfl ?_
              refine wp_iconst (v := (nI 2)) dX7_readBook_85 (by decide +kernel) ?_
              refine wp_cV1 0 0 [some _, some _] dX7_readBook_86 tX7_refuse rfl (by decide) nX7_refuse vX7_refuse lX7_62 ⟨by decide, by decide⟩ (Nat.le_of_ble_eq_true rfl) g1.oo (Nat.le_of_ble_eq_true rfl) rfl ?_
              refine pX7_refuse (k := 2) g1 (fun hh13 f13 g_13 => ?_)
              intro _ _
              have zf1_13 := zf1.fr f13 (rnS (by omega) rn0)
              have tx1_13 := tx1.fr f13 (rnS (by omega) rn0)
              have kb1_13 := kb1.fr f13 (rnS (by omega) rn0) (rnS (by omega) rn0)
              have rw1_13 := rw1.fr f13 (rnS (by omega) rn0)
              have bq13 := bd_le (tb := tp) (N := N) (k := 2) (a := a) (by omega)
              refine wp_iinc1 (ls1 := [_, _, _, some _]) dX7_readBook_89 rfl (by decide) rfl ?_
              refine wp_goto dX7_readBook_92 ?_
              refine wp_iload_n dX7_readBook_8 rfl rfl ?_
              refine wp_sipush (v := (nI 900)) dX7_readBook_9 (by decide +kernel) ?_
              refine wp_icmp_geN dX7_readBook_12 rfl rfl ⟨by omega, by omega⟩ (fun q => absurd q (by omega)) (fun _ => ?_)
              refine wp_aload_n dX7_readBook_15 rfl rfl ?_
              refine wp_getIV dX7_readBook_16 lX7_35 rfl g_13.oo g_13.f4 ?_
              refine wp_if_neN dX7_readBook_19 rfl (by omega) (fun _ => ?_) (fun q => absurd q (by omega))
              refine wp_aload_n dX7_readBook_95 rfl rfl ?_
              refine wp_getIV dX7_readBook_96 lX7_35 rfl g_13.oo g_13.f4 ?_
              refine wp_if_neN dX7_readBook_99 rfl (by omega) (fun _ => ?_) (fun q => absurd q (by omega))
              refine wp_iconst (v := (nI 0)) dX7_readBook_106 (by decide +kernel) ?_
              refine wp_zreturn dX7_readBook_107 rfl (by first | exact Or.inl rfl | exact Or.inr rfl) ?_
              exact he _ _ (bkL_f4 e11 (by omega)) (bd_le (by omega)) _ _ _ _ _ ((hf1.up (by decide) (Nat.le_refl _)).tr (f13.up (by decide) (Nat.le_refl _))) g_13
          · refine wp_aload_n dX7_readBook_51 rfl rfl ?_
            refine wp_cV0 4 86 [some _, none, none, none] dX7_readBook_52 tX7_readField rfl (by decide) nX7_readField vX7_readField lX7_51 ⟨by decide, by decide⟩ (Nat.le_of_ble_eq_true rfl) g1.oo (Nat.le_of_ble_eq_true rfl) rfl ?_
            refine pX7_readField g1 zf1 tx1 ha (by omega) (fun fa14 pl14 e14 hb14 hh14 aa14 f14 g_14 => ?_) (fun a14 p14 m14 e14 hh14 f14 g_14 zf_14 ha14 => ?_)
            · intro _ _
              have tx1_14 := tx1.fr f14 (rnS (by omega) (rnS (by omega) rn0))
              have kb1_14 := kb1.fr f14 (rnS (by omega) (rnS (by omega) rn0)) (rnS (by omega) (rnS (by omega) rn0))
              have rw1_14 := rw1.fr f14 (rnS (by omega) (rnS (by omega) rn0))
              refine wp_goto dX7_readBook_55 ?_
              refine wp_iinc1 (ls1 := [_, _, _, some _]) dX7_readBook_89 rfl (by decide) rfl ?_
              refine wp_goto dX7_readBook_92 ?_
              refine wp_iload_n dX7_readBook_8 rfl rfl ?_
              refine wp_sipush (v := (nI 900)) dX7_readBook_9 (by decide +kernel) ?_
              refine wp_icmp_geN dX7_readBook_12 rfl rfl ⟨by omega, by omega⟩ (fun q => absurd q (by omega)) (fun _ => ?_)
              refine wp_aload_n dX7_readBook_15 rfl rfl ?_
              refine wp_getIV dX7_readBook_16 lX7_35 rfl g_14.oo g_14.f4 ?_
              refine wp_if_neN dX7_readBook_19 rfl (by omega) (fun _ => ?_) (fun q => absurd q (by omega))
              refine wp_aload_n dX7_readBook_95 rfl rfl ?_
              refine wp_getIV dX7_readBook_96 lX7_35 rfl g_14.oo g_14.f4 ?_
              refine wp_if_neN dX7_readBook_99 rfl (by omega) (fun _ => ?_) (fun q => absurd q (by omega))
              refine wp_iconst (v := (nI 0)) dX7_readBook_106 (by decide +kernel) ?_
              refine wp_zreturn dX7_readBook_107 rfl (by first | exact Or.inl rfl | exact Or.inr rfl) ?_
              exact he _ _ (bkL_fe e11 (by omega) e14) hb14 _ _ _ _ _ ((hf1.up (by decide) (Nat.le_refl _)).tr (f14.up (by decide) (Nat.le_refl _))) g_14
            · intro _ _
              have tx1_14 := tx1.fr f14 (rnS (by omega) (rnS (by omega) rn0))
              have kb1_14 := kb1.fr f14 (rnS (by omega) (rnS (by omega) rn0)) (rnS (by omega) (rnS (by omega) rn0))
              have rw1_14 := rw1.fr f14 (rnS (by omega) (rnS (by omega) rn0))
              refine wp_goto dX7_readBook_55 ?_
              refine wp_iinc1 (ls1 := [_, _, _, some _]) dX7_readBook_89 rfl (by decide) rfl ?_
              refine wp_goto dX7_readBook_92 ?_
              rw [show f + P + 1 = f + 1 + P by omega]
              exact ih _ _ (f + 1) _ _ _ P _ _ _ (bkI_f hbk (by omega) e14) (by omega) ((hf1.up (by decide) (Nat.le_refl _)).tr (f14.up (by decide) (Nat.le_refl _))) g_14 zf_14 rw1_14 hrc ha14 (fun fa pl e9 => he fa pl ((bkL_fo e11 (by omega) e14).trans e9)) (fun f2 fp2 mn2 P2 ct2 rw2 nm2 e9 => hq f2 fp2 mn2 P2 ct2 rw2 nm2 ((bkL_fo e11 (by omega) e14).trans e9))
        · intro _ _
          refine wp_if_eq dX7_readBook_37 (fun _ => ?_) (fun q => absurd q (by decide +kernel))
          refine wp_aload_n dX7_readBook_58 rfl rfl ?_
          refine wp_ldc2 dX7_readBook_59 lX7_54 ?_
          refine wp_cV1 0 0 [some _, some _, none] dX7_readBook_62 tX7_isWord rfl (by decide) nX7_isWord vX7_isWord lX7_44 ⟨by decide, by decide⟩ (Nat.le_of_ble_eq_true rfl) g1.oo (Nat.le_of_ble_eq_true rfl) rfl ?_
          refine pX7_isWord (x := tWp) g1 (fun e15 => ?_) (fun e15 => ?_)
          · intro _ _
            refine wp_if_eq dX7_readBook_65 (fun q => absurd q (by decide +kernel)) (fun _ => ?_)
            refine wp_aload_n dX7_readBook_68 rfl rfl ?_
            refine wp_getIV dX7_readBook_69 lX7_56 rfl g1.oo g1.f2 ?_
            refine wp_bipush (v := (nI 6)) dX7_readBook_72 (by decide +kernel) ?_
            refine wp_icmp_geN dX7_readBook_74 rfl rfl ⟨by omega, by omega⟩ (fun c19 => ?_) (fun c19 => ?_)
            · refine wp_aload_n dX7_readBook_84 rfl rfl ?_
              refine wp_iconst (v := (nI 2)) dX7_readBook_85 (by decide +kernel) ?_
              refine wp_cV1 0 0 [some _, some _] dX7_readBook_86 tX7_refuse rfl (by decide) nX7_refuse vX7_refuse lX7_62 ⟨by decide, by decide⟩ (Nat.le_of_ble_eq_true rfl) g1.oo (Nat.le_of_ble_eq_true rfl) rfl ?_
              refine pX7_refuse (k := 2) g1 (fun hh16 f16 g_16 => ?_)
              intro _ _
              have zf1_16 := zf1.fr f16 (rnS (by omega) rn0)
              have tx1_16 := tx1.fr f16 (rnS (by omega) rn0)
              have kb1_16 := kb1.fr f16 (rnS (by omega) rn0) (rnS (by omega) rn0)
              have rw1_16 := rw1.fr f16 (rnS (by omega) rn0)
              have bq16 := bd_le (tb := tp) (N := N) (k := 2) (a := a) (by omega)
              refine wp_iinc1 (ls1 := [_, _, _, some _]) dX7_readBook_89 rfl (by decide) rfl ?_
              refine wp_goto dX7_readBook_92 ?_
              refine wp_iload_n dX7_readBook_8 rfl rfl ?_
              refine wp_sipush (v := (nI 900)) dX7_readBook_9 (by decide +kernel) ?_
              refine wp_icmp_geN dX7_readBook_12 rfl rfl ⟨by omega, by omega⟩ (fun q => absurd q (by omega)) (fun _ => ?_)
              refine wp_aload_n dX7_readBook_15 rfl rfl ?_
              refine wp_getIV dX7_readBook_16 lX7_35 rfl g_16.oo g_16.f4 ?_
              refine wp_if_neN dX7_readBook_19 rfl (by omega) (fun _ => ?_) (fun q => absurd q (by omega))
              refine wp_aload_n dX7_readBook_95 rfl rfl ?_
              refine wp_getIV dX7_readBook_96 lX7_35 rfl g_16.oo g_16.f4 ?_
              refine wp_if_neN dX7_readBook_99 rfl (by omega) (fun _ => ?_) (fun q => absurd q (by omega))
              refine wp_iconst (v := (nI 0)) dX7_readBook_106 (by decide +kernel) ?_
              refine wp_zreturn dX7_readBook_107 rfl (by first | exact Or.inl rfl | exact Or.inr rfl) ?_
              exact he _ _ (bkL_p6 e11 e15 (by omega)) (bd_le (by omega)) _ _ _ _ _ ((hf1.up (by decide) (Nat.le_refl _)).tr (f16.up (by decide) (Nat.le_refl _))) g_16
            · refine wp_aload_n dX7_readBook_77 rfl rfl ?_
              refine wp_cV0 3 62 [some _, none] dX7_readBook_78 tX7_readPage rfl (by decide) nX7_readPage vX7_readPage lX7_59 ⟨by decide, by decide⟩ (Nat.le_of_ble_eq_true rfl) g1.oo (Nat.le_of_ble_eq_true rfl) rfl ?_
              refine pX7_readPage g1 tx1 kb1 rw1 (by omega) ha (fun fa17 pl17 e17 hb17 hh17 aa17 f17 g_17 => ?_) (fun a17 n17 e17 hn17 hh17 f17 g_17 rw_17 ha17 => ?_)
              · intro _ _
                have zf1_17 := zf1.fr f17 (rnS (by omega) (rnS (by omega) rn0))
                have tx1_17 := tx1.fr f17 (rnS (by omega) (rnS (by omega) rn0))
                have kb1_17 := kb1.fr f17 (rnS (by omega) (rnS (by omega) rn0)) (rnS (by omega) (rnS (by omega) rn0))
                refine wp_goto dX7_readBook_81 ?_
                refine wp_iinc1 (ls1 := [_, _, _, some _]) dX7_readBook_89 rfl (by decide) rfl ?_
                refine wp_goto dX7_readBook_92 ?_
                refine wp_iload_n dX7_readBook_8 rfl rfl ?_
                refine wp_sipush (v := (nI 900)) dX7_readBook_9 (by decide +kernel) ?_
                refine wp_icmp_geN dX7_readBook_12 rfl rfl ⟨by omega, by omega⟩ (fun q => absurd q (by omega)) (fun _ => ?_)
                refine wp_aload_n dX7_readBook_15 rfl rfl ?_
                refine wp_getIV dX7_readBook_16 lX7_35 rfl g_17.oo g_17.f4 ?_
                refine wp_if_neN dX7_readBook_19 rfl (by omega) (fun _ => ?_) (fun q => absurd q (by omega))
                refine wp_aload_n dX7_readBook_95 rfl rfl ?_
                refine wp_getIV dX7_readBook_96 lX7_35 rfl g_17.oo g_17.f4 ?_
                refine wp_if_neN dX7_readBook_99 rfl (by omega) (fun _ => ?_) (fun q => absurd q (by omega))
                refine wp_iconst (v := (nI 0)) dX7_readBook_106 (by decide +kernel) ?_
                refine wp_zreturn dX7_readBook_107 rfl (by first | exact Or.inl rfl | exact Or.inr rfl) ?_
                exact he _ _ (bkL_pe e11 e15 (by omega) e17) hb17 _ _ _ _ _ ((hf1.up (by decide) (Nat.le_refl _)).tr (f17.up (by decide) (Nat.le_refl _))) g_17
              · intro _ _
                have zf1_17 := zf1.fr f17 (rnS (by omega) (rnS (by omega) rn0))
                have tx1_17 := tx1.fr f17 (rnS (by omega) (rnS (by omega) rn0))
                have kb1_17 := kb1.fr f17 (rnS (by omega) (rnS (by omega) rn0)) (rnS (by omega) (rnS (by omega) rn0))
                refine wp_goto dX7_readBook_81 ?_
                refine wp_iinc1 (ls1 := [_, _, _, some _]) dX7_readBook_89 rfl (by decide) rfl ?_
                refine wp_goto dX7_readBook_92 ?_
                exact ih _ _ f _ _ _ (P + 1) _ _ _ (bkI_p hbk (by omega) hn17) (by omega) ((hf1.up (by decide) (Nat.le_refl _)).tr (f17.up (by decide) (Nat.le_refl _))) g_17 zf1_17 rw_17 (rc_up hrc) ha17 (fun fa pl e9 => he fa pl ((bkL_po e11 e15 (by omega) e17).trans e9)) (fun f2 fp2 mn2 P2 ct2 rw2 nm2 e9 => hq f2 fp2 mn2 P2 ct2 rw2 nm2 ((bkL_po e11 e15 (by omega) e17).trans e9))
          · intro _ _
            refine wp_if_eq dX7_readBook_65 (fun _ => ?_) (fun q => absurd q (by decide +kernel))
            refine wp_aload_n dX7_readBook_84 rfl rfl ?_
            refine wp_iconst (v := (nI 2)) dX7_readBook_85 (by decide +kernel) ?_
            refine wp_cV1 0 0 [some _, some _] dX7_readBook_86 tX7_refuse rfl (by decide) nX7_refuse vX7_refuse lX7_62 ⟨by decide, by decide⟩ (Nat.le_of_ble_eq_true rfl) g1.oo (Nat.le_of_ble_eq_true rfl) rfl ?_
            refine pX7_refuse (k := 2) g1 (fun hh18 f18 g_18 => ?_)
            intro _ _
            have zf1_18 := zf1.fr f18 (rnS (by omega) rn0)
            have tx1_18 := tx1.fr f18 (rnS (by omega) rn0)
            have kb1_18 := kb1.fr f18 (rnS (by omega) rn0) (rnS (by omega) rn0)
            have rw1_18 := rw1.fr f18 (rnS (by omega) rn0)
            have bq18 := bd_le (tb := tp) (N := N) (k := 2) (a := a) (by omega)
            refine wp_iinc1 (ls1 := [_, _, _, some _]) dX7_readBook_89 rfl (by decide) rfl ?_
            refine wp_goto dX7_readBook_92 ?_
            refine wp_iload_n dX7_readBook_8 rfl rfl ?_
            refine wp_sipush (v := (nI 900)) dX7_readBook_9 (by decide +kernel) ?_
            refine wp_icmp_geN dX7_readBook_12 rfl rfl ⟨by omega, by omega⟩ (fun q => absurd q (by omega)) (fun _ => ?_)
            refine wp_aload_n dX7_readBook_15 rfl rfl ?_
            refine wp_getIV dX7_readBook_16 lX7_35 rfl g_18.oo g_18.f4 ?_
            refine wp_if_neN dX7_readBook_19 rfl (by omega) (fun _ => ?_) (fun q => absurd q (by omega))
            refine wp_aload_n dX7_readBook_95 rfl rfl ?_
            refine wp_getIV dX7_readBook_96 lX7_35 rfl g_18.oo g_18.f4 ?_
            refine wp_if_neN dX7_readBook_99 rfl (by omega) (fun _ => ?_) (fun q => absurd q (by omega))
            refine wp_iconst (v := (nI 0)) dX7_readBook_106 (by decide +kernel) ?_
            refine wp_zreturn dX7_readBook_107 rfl (by first | exact Or.inl rfl | exact Or.inr rfl) ?_
            exact he _ _ (bkL_no s09 e11 e15) (bd_le (by omega)) _ _ _ _ _ ((hf1.up (by decide) (Nat.le_refl _)).tr (f18.up (by decide) (Nat.le_refl _))) g_18
  refine wp_aload_n dX7_readBook_0 rfl rfl ?_
  refine wp_aload_n dX7_readBook_1 rfl rfl ?_
  refine wp_iload_n dX7_readBook_2 rfl rfl ?_
  refine wp_cV2 3 62 [some _, some _, some _] dX7_readBook_3 tX7_open rfl (by decide) nX7_open vX7_open lX7_31 ⟨by decide, by decide⟩ (Nat.le_of_ble_eq_true rfl) zr.o (Nat.le_of_ble_eq_true rfl) rfl ?_
  refine pX7_open zr tx hz (fun h0 ow0 f0 g0 zf0 => ?_)
  intro _ _
  have tx0 := tx.fr f0 (by decide)
  have kb0 := kb.fr f0 (by decide) (by decide)
  have rw0 := rwz.fr f0 (by decide)
  refine wp_iconst (v := (nI 0)) dX7_readBook_6 (by decide +kernel) ?_
  refine wp_istore_n (ls1 := [_, _, _, some _]) dX7_readBook_7 rfl (by decide) rfl ?_
  exact hlp ow0 h0 (hN h) tx0 kb0 11 h0 0 0 (fun _ => 0) (fun _ => 0) (fun _ => 0) 0 (fun _ => 0) (fun _ _ => 0) _ ⟨by omega, by omega, fun i _ hi _ => by omega, fun k hk => by omega, fun k hk => by omega, fun k hk => by omega⟩ (by omega) cFr.rf g0 zf0 rw0 (fun p hp => by omega) (Nat.zero_le _) (fun fa pl e9 hb h9 a9 rc9 rp9 rq9 f9 g9 => he fa pl e9 hb _ _ _ _ _ _ ((f0.up (by decide) (Nat.le_refl _)).tr f9) g9) (fun f9 fp9 mn9 P9 ct9 rw9 nm9 e9 h9 a9 rc9 ff9 g9 z9 w9 c9 b9 => hq _ _ _ _ _ _ _ e9 _ _ _ _ ((f0.up (by decide) (Nat.le_refl _)).tr ff9) g9 z9 w9 c9 b9)
set_option maxRecDepth 20000 in
theorem pX7_readOnePage {h : mH} {Q : Option Value → mH → Prop} {ow : Nat → Nat} {rc : Nat → Int32} {rp rf rl rn ra rb rk : Int32} {rw : Int64} {rq rx : Option Nat} {tp : Nat → Int32} {N : Nat} (zr : zR ow h rc rp rq rf rl rx rn ra rb rk rw) (tx : txR ow h tp N) (kb : kB ow h) (rwz : rwS ow h 0 (fun _ => 0) (fun _ _ => 0)) (hz : hN h + 4 < scrA) (he : ∀ fa pl, pgS tp N = .error (fa, pl) → 0 < fa ∧ fa ≤ 3 → ∀ h' ow' a' rc' rp' rq', cFr [5, 19] 48 ow h ow' h' → rS ow' h' rc' rp' rq' (nI fa) (nI pl) tp N a' → Q (some (.int (nI 0))) h') (hq : ∀ n, pgS tp N = .ok n → 0 < n ∧ n ≤ 40 → ∀ h' ow' a' rc' q', cFr [5, 19] 48 ow h ow' h' → rS ow' h' rc' (nI 1) (some q') (nI 0) (-1) tp N a' → rc' 0 = nI n → rwS ow' h' 1 (fun p => if p = 0 then n else 0) (fun p => if p = 0 then (fun j => tW tp N (psT tp N 0 j)) else fun _ => 0) → Q (some (.int (nI 1))) h') : Wp mX7_readOnePage 4 84 0 [some (.ref 6), some (.ref 1), some (.int (nI N))] [] h Q := by
  refine wp_aload_n dX7_readOnePage_0 rfl rfl ?_
  refine wp_aload_n dX7_readOnePage_1 rfl rfl ?_
  refine wp_iload_n dX7_readOnePage_2 rfl rfl ?_
  refine wp_cV2 3 62 [some _, some _, some _] dX7_readOnePage_3 tX7_open rfl (by decide) nX7_open vX7_open lX7_31 ⟨by decide, by decide⟩ (Nat.le_of_ble_eq_true rfl) zr.o (Nat.le_of_ble_eq_true rfl) rfl ?_
  refine pX7_open zr tx hz (fun h0 ow0 f0 g0 zf0 => ?_)
  intro _ _
  have tx0 := tx.fr f0 (by decide)
  have kb0 := kb.fr f0 (by decide) (by decide)
  have rw0 := rwz.fr f0 (by decide)
  refine wp_aload_n dX7_readOnePage_6 rfl rfl ?_
  refine wp_ldc2 dX7_readOnePage_7 lX7_54 ?_
  refine wp_cV1 0 0 [some _, some _, none] dX7_readOnePage_10 tX7_isWord rfl (by decide) nX7_isWord vX7_isWord lX7_44 ⟨by decide, by decide⟩ (Nat.le_of_ble_eq_true rfl) g0.oo (Nat.le_of_ble_eq_true rfl) rfl ?_
  refine pX7_isWord (x := tWp) g0 (fun e61 => ?_) (fun e61 => ?_)
  · intro _ _
    refine wp_if_ne dX7_readOnePage_13 (fun _ => ?_) (fun q => absurd q (by decide +kernel))
    refine wp_aload_n dX7_readOnePage_23 rfl rfl ?_
    refine wp_cV0 3 62 [some _, none] dX7_readOnePage_24 tX7_readPage rfl (by decide) nX7_readPage vX7_readPage lX7_59 ⟨by decide, by decide⟩ (Nat.le_of_ble_eq_true rfl) g0.oo (Nat.le_of_ble_eq_true rfl) rfl ?_
    refine pX7_readPage g0 tx0 kb0 rw0 (by omega) (Nat.zero_le _) (fun fa62 pl62 e62 hb62 hh62 aa62 f62 g_62 => ?_) (fun a62 n62 e62 hn62 hh62 f62 g_62 rw_62 ha62 => ?_)
    · intro _ _
      have zf0_62 := zf0.fr f62 (rnS (by omega) (rnS (by omega) rn0))
      have tx0_62 := tx0.fr f62 (rnS (by omega) (rnS (by omega) rn0))
      have kb0_62 := kb0.fr f62 (rnS (by omega) (rnS (by omega) rn0)) (rnS (by omega) (rnS (by omega) rn0))
      refine wp_aload_n dX7_readOnePage_27 rfl rfl ?_
      refine wp_getIV dX7_readOnePage_28 lX7_35 rfl g_62.oo g_62.f4 ?_
      refine wp_if_neN dX7_readOnePage_31 rfl (by omega) (fun _ => ?_) (fun q => absurd q (by omega))
      refine wp_aload_n dX7_readOnePage_47 rfl rfl ?_
      refine wp_getIV dX7_readOnePage_48 lX7_35 rfl g_62.oo g_62.f4 ?_
      refine wp_if_neN dX7_readOnePage_51 rfl (by omega) (fun _ => ?_) (fun q => absurd q (by omega))
      refine wp_iconst (v := (nI 0)) dX7_readOnePage_58 (by decide +kernel) ?_
      refine wp_zreturn dX7_readOnePage_59 rfl (by first | exact Or.inl rfl | exact Or.inr rfl) ?_
      exact he _ _ (pgS_e e61 e62) hb62 _ _ _ _ _ _ ((f0.up (by decide) (Nat.le_refl _)).tr (f62.up (by decide) (Nat.le_refl _))) g_62
    · intro _ _
      have zf0_62 := zf0.fr f62 (rnS (by omega) (rnS (by omega) rn0))
      have tx0_62 := tx0.fr f62 (rnS (by omega) (rnS (by omega) rn0))
      have kb0_62 := kb0.fr f62 (rnS (by omega) (rnS (by omega) rn0)) (rnS (by omega) (rnS (by omega) rn0))
      refine wp_aload_n dX7_readOnePage_27 rfl rfl ?_
      refine wp_getIV dX7_readOnePage_28 lX7_35 rfl g_62.oo g_62.f4 ?_
      refine wp_if_ne dX7_readOnePage_31 (fun q => absurd q (by decide +kernel)) (fun _ => ?_)
      refine wp_aload_n dX7_readOnePage_34 rfl rfl ?_
      refine wp_getIV dX7_readOnePage_35 lX7_39 rfl g_62.oo g_62.f10 ?_
      refine wp_iconst (v := (nI 3)) dX7_readOnePage_38 (by decide +kernel) ?_
      have hk9 := rkN_c (tS_le (tb := tp) (N := N) (a := a62))
      refine wp_icmp_eqN dX7_readOnePage_39 rfl rfl ⟨by omega, by omega⟩ (fun cq9 => ?_) (fun cq9 => ?_)
      · have s09 : tS tp N a62 = 0 := by omega
        refine wp_aload_n dX7_readOnePage_47 rfl rfl ?_
        refine wp_getIV dX7_readOnePage_48 lX7_35 rfl g_62.oo g_62.f4 ?_
        refine wp_if_ne dX7_readOnePage_51 (fun q => absurd q (by decide +kernel)) (fun _ => ?_)
        refine wp_iconst (v := (nI 1)) dX7_readOnePage_54 (by decide +kernel) ?_
        refine wp_goto dX7_readOnePage_55 ?_
        refine wp_zreturn dX7_readOnePage_59 rfl (by first | exact Or.inl rfl | exact Or.inr rfl) ?_
        exact hq _ (pgS_o e61 e62 s09) hn62 _ _ _ _ _ ((f0.up (by decide) (Nat.le_refl _)).tr (f62.up (by decide) (Nat.le_refl _))) g_62 (upI_at _ _ _) rw_62
      · have s09 : ¬ tS tp N a62 = 0 := by omega
        refine wp_aload_n dX7_readOnePage_42 rfl rfl ?_
        refine wp_iconst (v := (nI 2)) dX7_readOnePage_43 (by decide +kernel) ?_
        refine wp_cV1 0 0 [some _, some _] dX7_readOnePage_44 tX7_refuse rfl (by decide) nX7_refuse vX7_refuse lX7_62 ⟨by decide, by decide⟩ (Nat.le_of_ble_eq_true rfl) g_62.oo (Nat.le_of_ble_eq_true rfl) rfl ?_
        refine pX7_refuse (k := 2) g_62 (fun hh63 f63 g_63 => ?_)
        intro _ _
        have zf0_63 := zf0_62.fr f63 (rnS (by omega) rn0)
        have tx0_63 := tx0_62.fr f63 (rnS (by omega) rn0)
        have kb0_63 := kb0_62.fr f63 (rnS (by omega) rn0) (rnS (by omega) rn0)
        have rw_63 := rw_62.fr f63 (rnS (by omega) rn0)
        have bq63 := bd_le (tb := tp) (N := N) (k := 2) (a := a62) (by omega)
        refine wp_aload_n dX7_readOnePage_47 rfl rfl ?_
        refine wp_getIV dX7_readOnePage_48 lX7_35 rfl g_63.oo g_63.f4 ?_
        refine wp_if_neN dX7_readOnePage_51 rfl (by omega) (fun _ => ?_) (fun q => absurd q (by omega))
        refine wp_iconst (v := (nI 0)) dX7_readOnePage_58 (by decide +kernel) ?_
        refine wp_zreturn dX7_readOnePage_59 rfl (by first | exact Or.inl rfl | exact Or.inr rfl) ?_
        exact he _ _ (pgS_x e61 e62 s09) (bd_le (by omega)) _ _ _ _ _ _ ((f0.up (by decide) (Nat.le_refl _)).tr ((f62.up (by decide) (Nat.le_refl _)).tr (f63.up (by decide) (Nat.le_refl _)))) g_63
  · intro _ _
    refine wp_if_ne dX7_readOnePage_13 (fun q => absurd q (by decide +kernel)) (fun _ => ?_)
    refine wp_aload_n dX7_readOnePage_16 rfl rfl ?_
    refine wp_iconst (v := (nI 2)) dX7_readOnePage_17 (by decide +kernel) ?_
    refine wp_cV1 0 0 [some _, some _] dX7_readOnePage_18 tX7_refuse rfl (by decide) nX7_refuse vX7_refuse lX7_62 ⟨by decide, by decide⟩ (Nat.le_of_ble_eq_true rfl) g0.oo (Nat.le_of_ble_eq_true rfl) rfl ?_
    refine pX7_refuse (k := 2) g0 (fun hh64 f64 g_64 => ?_)
    intro _ _
    have zf0_64 := zf0.fr f64 (rnS (by omega) rn0)
    have tx0_64 := tx0.fr f64 (rnS (by omega) rn0)
    have kb0_64 := kb0.fr f64 (rnS (by omega) rn0) (rnS (by omega) rn0)
    have rw0_64 := rw0.fr f64 (rnS (by omega) rn0)
    have bq64 := bd_le (tb := tp) (N := N) (k := 2) (a := 0) (by omega)
    refine wp_iconst (v := (nI 0)) dX7_readOnePage_21 (by decide +kernel) ?_
    refine wp_zreturn dX7_readOnePage_22 rfl (by first | exact Or.inl rfl | exact Or.inr rfl) ?_
    exact he _ _ (pgS_n e61) (bd_le (by omega)) _ _ _ _ _ _ ((f0.up (by decide) (Nat.le_refl _)).tr (f64.up (by decide) (Nat.le_refl _))) g_64
