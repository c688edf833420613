/-! ===== what is asked of opinions ===== -/
/-- the opinions of a page in a field -/
def opP (r : Nat → Int64) (pa my : Nat → Int32) (p f N : Nat) (OL : Nat → List (Nat × Nat)) (V FK : Nat → Nat) : Prop := ∃ n K, enP r pa f (exE r f) n K ∧ voP (fun i => gdB r pa my f (exE r f) (K i)) (fun i => vtL r pa my p f (K i)) K n N OL V FK ∧ ∀ o o', o < N → o' < N → OL o = OL o' → o = o'
def spOpinion (r : Nat → Int64) (F : Nat) (pa my : Nat → Int32) (x y w v : Int32) : Prop := match ix x (rP r), ix y F, ix w 5 with
  | some p, some f, some j => ∃ N OL V FK, opP r pa my p f N OL V FK ∧ (if j = 0 then v = nI N else if N = 0 then v = -1 else ∃ b, bstO N V FK (fun _ => True) b ∧ v = (if j = 1 then nI (V b) else if j = 2 then nI (OL b).length else if (OL b).length = 0 then -1 else if j = 3 then nI ((OL b).getD 0 (0, 0)).1 else nI ((OL b).getD 0 (0, 0)).2))
  | _, _, _ => v = -1
theorem vtL_srt {r : Nat → Int64} {F : Nat} {pa my : Nat → Int32} {p f k : Nat} (hd : sOK r F pa my) (hf : f < F) (hp : p < 6) : srt (vtL r pa my p f k) (rowL (-1) (rT r p)).length := by
  unfold vtL
  cases e : rgX r pa my p f with
  | none => exact srt_nil _
  | some ab =>
    have := vtL_ok hd hf hp e
    exact srt_mono (srt_cut _ _ this.1).1 this.2
theorem srt_40 {l : List (Nat × Nat)} {len : Nat} (h : srt l len) (h4 : len ≤ 40) : ∀ i, (l.getD i (0, 0)).1 ≤ 40 ∧ (l.getD i (0, 0)).2 ≤ 40 := fun i => by
  rcases Nat.lt_or_ge i l.length with z | z
  · have := h i z
    omega
  · rw [List.getD_eq_getElem?_getD, List.getElem?_eq_none z]
    exact ⟨by decide, by decide⟩
theorem opP_srt {r : Nat → Int64} {F : Nat} {pa my : Nat → Int32} {p f N S n : Nat} {K : Nat → Nat} {OL : Nat → List (Nat × Nat)} {V FK : Nat → Nat} (hd : sOK r F pa my) (hf : f < F) (hp : p < 6) (q : voP (fun i => gdB r pa my f S (K i)) (fun i => vtL r pa my p f (K i)) K n N OL V FK) {o : Nat} (ho : o < N) : srt (OL o) (rowL (-1) (rT r p)).length ∧ ∀ i, ((OL o).getD i (0, 0)).1 ≤ 40 ∧ ((OL o).getD i (0, 0)).2 ≤ 40 := by
  obtain ⟨_, ⟨i, hi, h1, h2, h3⟩, _⟩ := q.2.2 o ho
  have h4 : srt (OL o) (rowL (-1) (rT r p)).length := by
    rw [← h2]
    exact vtL_srt hd hf hp
  have h5 : (rowL (-1) (rT r p)).length ≤ rT r p := rowL_le
  have h6 := (hd.w.2.1 p hp).2
  exact ⟨h4, srt_40 h4 (by omega)⟩
set_option maxRecDepth 20000 in
theorem op_loop {h : mH} {Q : Option Value → mH → Prop} {N b p f j : Nat} {OL : Nat → List (Nat × Nat)} {V FK T : Nat → Nat} (hs : mS h) (vo : voH h N OL V FK T) (hN : N ≤ 9594) (hb : b < N) (K9 : Wp mX12_opinion 9 222 161 [some (.ref 153), some (.int (nI p)), some (.int (nI f)), some (.int (nI j)), some (.int (nI b)), some (.int (nI (OL b).length)), some (.int (nI 8))] [] h Q) : Wp mX12_opinion 9 222 86 [some (.ref 153), some (.int (nI p)), some (.int (nI f)), some (.int (nI j)), some (.int (nI b)), some (.int (nI 0)), some (.int (nI 0))] [] h Q := by
  have ok := (vo.2.1 b hb).2.2.2
  have hloop : ∀  (t9 : Nat) (k : Nat), (k ≤ 8) → (8 < k + t9) → Wp mX12_opinion 9 222 86 [some (.ref 153), some (.int (nI p)), some (.int (nI f)), some (.int (nI j)), some (.int (nI b)), some (.int (nI (cntB (fun k => decide (cd (OL b) k ≠ 0)) k))), some (.int (nI k))] [] h Q := by
    intro t9
    induction t9 with
    | zero => intros; omega
    | succ t9 ih =>
      intro k hk hmz
      refine wp_iload dX12_opinion_86 rfl ?_
      refine wp_bipush (v := (nI 8)) dX12_opinion_88 (by decide +kernel) ?_
      refine wp_icmp_geN dX12_opinion_90 rfl rfl ⟨by omega, by omega⟩ (fun c1 => ?_) (fun c1 => ?_)
      · have e9 : k = 8 := by omega
        subst e9
        rw [cd_cnt ok]
        exact K9
      · refine wp_iload dX12_opinion_93 rfl ?_
        refine wp_iload dX12_opinion_95 rfl ?_
        refine wp_iconst (v := (nI 4)) dX12_opinion_97 (by decide +kernel) ?_
        refine wp_icmp_geN dX12_opinion_98 rfl rfl ⟨by omega, by omega⟩ (fun c2 => ?_) (fun c2 => ?_)
        · refine wp_aload_n dX12_opinion_119 rfl rfl ?_
          refine wp_getR dX12_opinion_120 lX12_116 rfl (mO hs) (mR_lastParts hs) ?_
          refine wp_iload dX12_opinion_123 rfl ?_
          refine wp_laldV dX12_opinion_125 (mA_lastParts hs) rfl ⟨by omega, by decide⟩ (vo.2.1 b hb).1.2 ?_
          refine wp_bipush (v := (nI 12)) dX12_opinion_126 (by decide +kernel) ?_
          refine wp_bipush (v := (nI 7)) dX12_opinion_128 (by decide +kernel) ?_
          refine wp_iload dX12_opinion_130 rfl ?_
          refine wp_isub dX12_opinion_132 ?_
          refine wp_imul dX12_opinion_133 ?_
          refine wp_lshr dX12_opinion_134 ?_
          refine wp_ldc2 dX12_opinion_135 lX12_532 ?_
          refine wp_lrem dX12_opinion_138 (by decide) ?_
          rw [pk_sh (pkk_lt ok).2 (m := 7) (w := k) (by decide) (by omega) (by omega), dg_rem (pkd_lt (pkk_lt ok).2), show _ % 4096 = cd (OL b) k from (by have h9 := pk_cd ok k (by omega); rw [if_neg (by omega)] at h9; exact h9)]
          refine wp_lconst (v := 0) dX12_opinion_139 (by decide +kernel) ?_
          refine wp_lc_eq dX12_opinion_140 dX12_opinion_141 (fun c3 => ?_) (fun c3 => ?_)
          · refine wp_iconst (v := (nI 0)) dX12_opinion_148 (by decide +kernel) ?_
            refine wp_cS1 0 0 [some _] dX12_opinion_149 tX12_truth sX12_truth lX12_320 ⟨by decide, by decide⟩ (Nat.le_of_ble_eq_true rfl) (Nat.le_of_ble_eq_true rfl) rfl ?_
            refine pX12_truth0 ?_
            intro _ _
            refine wp_iadd dX12_opinion_152 ?_
            refine wp_istore (ls1 := [_, _, _, _, _, some _, _]) dX12_opinion_153 (by decide) rfl ?_
            refine wp_iinc1 (ls1 := [_, _, _, _, _, _, some _]) dX12_opinion_155 rfl (by decide) rfl ?_
            refine wp_goto dX12_opinion_158 ?_
            rw [nI_add, ← cntB_s0 (P := (fun k => decide (cd (OL b) k ≠ 0))) (k := k) (decide_eq_false (fun z9 => z9 ((pk_lEQ (b := 0) (by have := cd_lt ok k; omega) (by decide)).mp (by assumption : lN (cd (OL b) k) = 0))))]
            exact ih (k + 1) (by omega) (by omega)
          · refine wp_iconst (v := (nI 1)) dX12_opinion_144 (by decide +kernel) ?_
            refine wp_goto dX12_opinion_145 ?_
            refine wp_cS1 0 0 [some _] dX12_opinion_149 tX12_truth sX12_truth lX12_320 ⟨by decide, by decide⟩ (Nat.le_of_ble_eq_true rfl) (Nat.le_of_ble_eq_true rfl) rfl ?_
            refine pX12_truth1 ?_
            intro _ _
            refine wp_iadd dX12_opinion_152 ?_
            refine wp_istore (ls1 := [_, _, _, _, _, some _, _]) dX12_opinion_153 (by decide) rfl ?_
            refine wp_iinc1 (ls1 := [_, _, _, _, _, _, some _]) dX12_opinion_155 rfl (by decide) rfl ?_
            refine wp_goto dX12_opinion_158 ?_
            rw [nI_add, ← cntB_s1 (P := (fun k => decide (cd (OL b) k ≠ 0))) (k := k) (decide_eq_true (fun z9 => (by assumption : ¬ lN (cd (OL b) k) = 0) (congrArg lN z9)))]
            exact ih (k + 1) (by omega) (by omega)
        · refine wp_aload_n dX12_opinion_101 rfl rfl ?_
          refine wp_getR dX12_opinion_102 lX12_113 rfl (mO hs) (mR_firstParts hs) ?_
          refine wp_iload dX12_opinion_105 rfl ?_
          refine wp_laldV dX12_opinion_107 (mA_firstParts hs) rfl ⟨by omega, by decide⟩ (vo.2.1 b hb).1.1 ?_
          refine wp_bipush (v := (nI 12)) dX12_opinion_108 (by decide +kernel) ?_
          refine wp_iconst (v := (nI 3)) dX12_opinion_110 (by decide +kernel) ?_
          refine wp_iload dX12_opinion_111 rfl ?_
          refine wp_isub dX12_opinion_113 ?_
          refine wp_imul dX12_opinion_114 ?_
          refine wp_lshr dX12_opinion_115 ?_
          refine wp_goto dX12_opinion_116 ?_
          refine wp_ldc2 dX12_opinion_135 lX12_532 ?_
          refine wp_lrem dX12_opinion_138 (by decide) ?_
          rw [pk_sh (pkk_lt ok).1 (m := 3) (w := k) (by decide) (by omega) (by omega), dg_rem (pkd_lt (pkk_lt ok).1), show _ % 4096 = cd (OL b) k from (by have h9 := pk_cd ok k (by omega); rw [if_pos (by omega)] at h9; exact h9)]
          refine wp_lconst (v := 0) dX12_opinion_139 (by decide +kernel) ?_
          refine wp_lc_eq dX12_opinion_140 dX12_opinion_141 (fun c4 => ?_) (fun c4 => ?_)
          · refine wp_iconst (v := (nI 0)) dX12_opinion_148 (by decide +kernel) ?_
            refine wp_cS1 0 0 [some _] dX12_opinion_149 tX12_truth sX12_truth lX12_320 ⟨by decide, by decide⟩ (Nat.le_of_ble_eq_true rfl) (Nat.le_of_ble_eq_true rfl) rfl ?_
            refine pX12_truth0 ?_
            intro _ _
            refine wp_iadd dX12_opinion_152 ?_
            refine wp_istore (ls1 := [_, _, _, _, _, some _, _]) dX12_opinion_153 (by decide) rfl ?_
            refine wp_iinc1 (ls1 := [_, _, _, _, _, _, some _]) dX12_opinion_155 rfl (by decide) rfl ?_
            refine wp_goto dX12_opinion_158 ?_
            rw [nI_add, ← cntB_s0 (P := (fun k => decide (cd (OL b) k ≠ 0))) (k := k) (decide_eq_false (fun z9 => z9 ((pk_lEQ (b := 0) (by have := cd_lt ok k; omega) (by decide)).mp (by assumption : lN (cd (OL b) k) = 0))))]
            exact ih (k + 1) (by omega) (by omega)
          · refine wp_iconst (v := (nI 1)) dX12_opinion_144 (by decide +kernel) ?_
            refine wp_goto dX12_opinion_145 ?_
            refine wp_cS1 0 0 [some _] dX12_opinion_149 tX12_truth sX12_truth lX12_320 ⟨by decide, by decide⟩ (Nat.le_of_ble_eq_true rfl) (Nat.le_of_ble_eq_true rfl) rfl ?_
            refine pX12_truth1 ?_
            intro _ _
            refine wp_iadd dX12_opinion_152 ?_
            refine wp_istore (ls1 := [_, _, _, _, _, some _, _]) dX12_opinion_153 (by decide) rfl ?_
            refine wp_iinc1 (ls1 := [_, _, _, _, _, _, some _]) dX12_opinion_155 rfl (by decide) rfl ?_
            refine wp_goto dX12_opinion_158 ?_
            rw [nI_add, ← cntB_s1 (P := (fun k => decide (cd (OL b) k ≠ 0))) (k := k) (decide_eq_true (fun z9 => (by assumption : ¬ lN (cd (OL b) k) = 0) (congrArg lN z9)))]
            exact ih (k + 1) (by omega) (by omega)
  exact hloop 9 0 (by omega) (by omega)
set_option maxRecDepth 20000 in
theorem pX12_opinion {h : mH} {Q : Option Value → mH → Prop} {r : Nat → Int64} {F : Nat} {pa my : Nat → Int32} {x y w : Int32} (hc : mC h r F pa my) (hd : sOK r F pa my) (hq : ∀ v h', mFr pwS h h' → spOpinion r F pa my x y w v → Q (some (.int v)) h') : Wp mX12_opinion 9 222 0 [some (.ref 153), some (.int x), some (.int y), some (.int w), none, none, none] [] h Q := by
  have hF4 := hd.f4
  have hP6 := hd.w.1.2
  refine wp_aload_n dX12_opinion_0 rfl rfl ?_
  refine wp_iload_n dX12_opinion_1 rfl rfl ?_
  refine wp_cV1 1 22 [some _, some _] dX12_opinion_2 tX12_isPage rfl (by decide) nX12_isPage vX12_isPage lX12_286 ⟨by decide, by decide⟩ (Nat.le_of_ble_eq_true rfl) (mO hc.1) (Nat.le_of_ble_eq_true rfl) rfl ?_
  refine pX12_isPage' hc hd (fun j1 hj1 ej1 => ?_) (fun nj1 => ?_)
  · subst ej1
    have xs1 := ix_nI hj1 (by omega)
    intro _ _
    refine wp_if_eq dX12_opinion_5 (fun q => absurd q (by decide +kernel)) (fun _ => ?_)
    refine wp_aload_n dX12_opinion_8 rfl rfl ?_
    refine wp_iload_n dX12_opinion_9 rfl rfl ?_
    refine wp_cV1 1 22 [some _, some _] dX12_opinion_10 tX12_isField rfl (by decide) nX12_isField vX12_isField lX12_299 ⟨by decide, by decide⟩ (Nat.le_of_ble_eq_true rfl) (mO hc.1) (Nat.le_of_ble_eq_true rfl) rfl ?_
    refine pX12_isField' hc hd (fun j2 hj2 ej2 => ?_) (fun nj2 => ?_)
    · subst ej2
      have xs2 := ix_nI hj2 (by omega)
      intro _ _
      refine wp_if_eq dX12_opinion_13 (fun q => absurd q (by decide +kernel)) (fun _ => ?_)
      refine wp_iload_n dX12_opinion_16 rfl rfl ?_
      refine wp_iconst (v := (nI 0)) dX12_opinion_17 (by decide +kernel) ?_
      refine wp_iconst (v := (nI 4)) dX12_opinion_18 (by decide +kernel) ?_
      refine wp_cS3 0 0 [some _, some _, some _] dX12_opinion_19 tX12_isIn sX12_isIn lX12_147 ⟨by decide, by decide⟩ (Nat.le_of_ble_eq_true rfl) (Nat.le_of_ble_eq_true rfl) rfl ?_
      refine pX12_isIn (fun i3 => ?_) (fun i3 => ?_)
      · obtain ⟨j3, hj3, ej3⟩ := (ixM (by decide)).mp i3
        subst ej3
        have xs3 := ix_nI (n := 5) (show j3 < 5 by omega) (by decide)
        intro _ _
        refine wp_if_ne dX12_opinion_22 (fun _ => ?_) (fun q => absurd q (by decide +kernel))
        refine wp_aload_n dX12_opinion_27 rfl rfl ?_
        refine wp_iload_n dX12_opinion_28 rfl rfl ?_
        refine wp_aload_n dX12_opinion_29 rfl rfl ?_
        refine wp_iload_n dX12_opinion_30 rfl rfl ?_
        refine wp_cV1 2 43 [some _, some _, none, none] dX12_opinion_31 tX12_examples rfl (by decide) nX12_examples vX12_examples lX12_407 ⟨by decide, by decide⟩ (Nat.le_of_ble_eq_true rfl) (mO hc.1) (Nat.le_of_ble_eq_true rfl) rfl ?_
        refine pX12_examplesN hc hd (by omega) ?_
        intro _ _
        refine wp_cV2 6 153 [some _, some _, some _, none, none, none] dX12_opinion_34 tX12_laysRules rfl (by decide) nX12_laysRules vX12_laysRules lX12_410 ⟨by decide, by decide⟩ (Nat.le_of_ble_eq_true rfl) (mO hc.1) (Nat.le_of_ble_eq_true rfl) rfl ?_
        refine pX12_laysRules hc hd (by omega) (exE_lt hd) (fun p hp => exE_tb hp) (fun hh4 n4 K4 O4 f4 nx4 rl4 => ?_)
        intro _ _
        have mc4 := hc.fr f4 (by decide) (by decide) (by decide) (by decide) (by decide)
        refine wp_aload_n dX12_opinion_37 rfl rfl ?_
        refine wp_iload_n dX12_opinion_38 rfl rfl ?_
        refine wp_iload_n dX12_opinion_39 rfl rfl ?_
        refine wp_cV2 8 198 [some _, some _, some _, none, none] dX12_opinion_40 tX12_laysVotes rfl (by decide) nX12_laysVotes vX12_laysVotes lX12_526 ⟨by decide, by decide⟩ (Nat.le_of_ble_eq_true rfl) (mO mc4.1) (Nat.le_of_ble_eq_true rfl) rfl ?_
        refine pX12_laysVotes mc4 hd (by omega) (by omega) rl4 (fun hh5 N5 OL5 V5 FK5 T5 f5 rl5 rx5 vo5 vp5 => ?_)
        intro _ _
        have mc5 := mc4.fr f5 (by decide) (by decide) (by decide) (by decide) (by decide)
        have hN5 : N5 ≤ 9594 := Nat.le_trans vp5.1 rl5.2.1
        have hV5 : ∀ o, o < N5 → V5 o ≤ 9594 := fun o ho => Nat.le_trans (voP_V vp5 o ho) rl5.2.1
        refine wp_iload_n dX12_opinion_43 rfl rfl ?_
        refine wp_if_neN dX12_opinion_44 rfl (by omega) (fun c4 => ?_) (fun c4 => ?_)
        · refine wp_aload_n dX12_opinion_52 rfl rfl ?_
          refine wp_getIV dX12_opinion_53 lX12_517 rfl (mO mc5.1) vo5.1 ?_
          refine wp_if_neN dX12_opinion_56 rfl (by omega) (fun c5 => ?_) (fun c5 => ?_)
          · refine wp_aload_n dX12_opinion_61 rfl rfl ?_
            refine wp_cV0 0 0 [some _, none, none] dX12_opinion_62 tX12_mostVoted rfl (by decide) nX12_mostVoted vX12_mostVoted lX12_529 ⟨by decide, by decide⟩ (Nat.le_of_ble_eq_true rfl) (mO mc5.1) (Nat.le_of_ble_eq_true rfl) rfl ?_
            refine pX12_mostVoted mc5.1 vo5 ⟨by omega, by omega⟩ hV5 (fun b9 hb9 bs9 => ?_)
            intro _ _
            have ok9 := (vo5.2.1 b9 hb9).2.2.2
            refine wp_istore (ls1 := [_, _, _, _, some _, _, _]) dX12_opinion_65 (by decide) rfl ?_
            refine wp_iload_n dX12_opinion_67 rfl rfl ?_
            refine wp_iconst (v := (nI 1)) dX12_opinion_68 (by decide +kernel) ?_
            refine wp_icmp_neN dX12_opinion_69 rfl rfl ⟨by omega, by omega⟩ (fun c6 => ?_) (fun c6 => ?_)
            · refine wp_iconst (v := (nI 0)) dX12_opinion_80 (by decide +kernel) ?_
              refine wp_istore (ls1 := [_, _, _, _, _, some _, _]) dX12_opinion_81 (by decide) rfl ?_
              refine wp_iconst (v := (nI 0)) dX12_opinion_83 (by decide +kernel) ?_
              refine wp_istore (ls1 := [_, _, _, _, _, _, some _]) dX12_opinion_84 (by decide) rfl ?_
              refine op_loop mc5.1 vo5 hN5 hb9 ?_
              refine wp_aload_n dX12_opinion_161 rfl rfl ?_
              refine wp_getR dX12_opinion_162 lX12_113 rfl (mO mc5.1) (mR_firstParts mc5.1) ?_
              refine wp_iload dX12_opinion_165 rfl ?_
              refine wp_laldV dX12_opinion_167 (mA_firstParts mc5.1) rfl ⟨by omega, by decide⟩ (vo5.2.1 b9 hb9).1.1 ?_
              refine wp_bipush (v := (nI 36)) dX12_opinion_168 (by decide +kernel) ?_
              refine wp_lshr dX12_opinion_170 ?_
              refine wp_ldc2 dX12_opinion_171 lX12_534 ?_
              refine wp_land dX12_opinion_174 ?_
              refine wp_l2i dX12_opinion_175 ?_
              rw [pf_shr (d := 36) (by decide +kernel) (by have := (pkk_lt ok9).1; omega), dg_and (Nat.lt_of_le_of_lt (Nat.div_le_self _ _) (by have := (pkk_lt ok9).1; omega)), show pk1 (OL5 b9) / 2 ^ 36 % 4096 = cd (OL5 b9) 0 from (by have h9 := pk_cd ok9 0 (by decide); rw [if_pos (by decide)] at h9; exact h9)]
              refine wp_istore (ls1 := [_, _, _, _, _, _, some _]) dX12_opinion_176 (by decide) rfl ?_
              refine wp_iload_n dX12_opinion_178 rfl rfl ?_
              refine wp_iconst (v := (nI 2)) dX12_opinion_179 (by decide +kernel) ?_
              refine wp_icmp_neN dX12_opinion_180 rfl rfl ⟨by omega, by omega⟩ (fun c7 => ?_) (fun c7 => ?_)
              · refine wp_iload dX12_opinion_188 rfl ?_
                refine wp_if_neN dX12_opinion_190 rfl (by have := ok9.1; omega) (fun c8 => ?_) (fun c8 => ?_)
                · refine wp_iload_n dX12_opinion_197 rfl rfl ?_
                  refine wp_iconst (v := (nI 3)) dX12_opinion_198 (by decide +kernel) ?_
                  refine wp_icmp_neN dX12_opinion_199 rfl rfl ⟨by omega, by omega⟩ (fun c9 => ?_) (fun c9 => ?_)
                  · refine wp_iload dX12_opinion_210 rfl ?_
                    refine wp_bipush (v := (nI 63)) dX12_opinion_212 (by decide +kernel) ?_
                    refine wp_iand dX12_opinion_214 ?_
                    try rw [dg_lo (cd_lt ok9 0), (cd_ab ok9 (by omega)).2]
                    refine wp_ireturn dX12_opinion_215 rfl ?_
                    refine hq _ _ ((f4.up (by decide) (by decide)).tr (f5.up (by decide) (by decide))) ?_
                    unfold spOpinion
                    rw [xs1, xs2, xs3]
                    refine ⟨N5, OL5, V5, FK5, ⟨n4, K4, rl5.en, vp5, vo5.2.2.2.2⟩, ?_⟩
                    first | (rw [if_pos (by omega)]; done) | (rw [if_neg (by omega), if_pos (by omega)]; done) | (rw [if_neg (by omega), if_neg (by omega)]; refine ⟨b9, ⟨hb9, trivial, fun o ho _ => bs9 o ho⟩, ?_⟩; first | rw [if_pos (by omega)] | rw [if_neg (by omega), if_pos (by omega)] | rw [if_neg (by omega), if_neg (by omega), if_pos (by omega)] | rw [if_neg (by omega), if_neg (by omega), if_neg (by omega), if_pos (by omega)] | rw [if_neg (by omega), if_neg (by omega), if_neg (by omega), if_neg (by omega)])
                  · refine wp_iload dX12_opinion_202 rfl ?_
                    refine wp_bipush (v := (nI 6)) dX12_opinion_204 (by decide +kernel) ?_
                    refine wp_ishr dX12_opinion_206 ?_
                    rw [dg_hi (cd_lt ok9 0), (cd_ab ok9 (by omega)).1]
                    refine wp_goto dX12_opinion_207 ?_
                    try rw [dg_lo (cd_lt ok9 0), (cd_ab ok9 (by omega)).2]
                    refine wp_ireturn dX12_opinion_215 rfl ?_
                    refine hq _ _ ((f4.up (by decide) (by decide)).tr (f5.up (by decide) (by decide))) ?_
                    unfold spOpinion
                    rw [xs1, xs2, xs3]
                    refine ⟨N5, OL5, V5, FK5, ⟨n4, K4, rl5.en, vp5, vo5.2.2.2.2⟩, ?_⟩
                    first | (rw [if_pos (by omega)]; done) | (rw [if_neg (by omega), if_pos (by omega)]; done) | (rw [if_neg (by omega), if_neg (by omega)]; refine ⟨b9, ⟨hb9, trivial, fun o ho _ => bs9 o ho⟩, ?_⟩; first | rw [if_pos (by omega)] | rw [if_neg (by omega), if_pos (by omega)] | rw [if_neg (by omega), if_neg (by omega), if_pos (by omega)] | rw [if_neg (by omega), if_neg (by omega), if_neg (by omega), if_pos (by omega)] | rw [if_neg (by omega), if_neg (by omega), if_neg (by omega), if_neg (by omega)])
                · refine wp_iconst (v := (-1)) dX12_opinion_193 (by decide +kernel) ?_
                  refine wp_goto dX12_opinion_194 ?_
                  try rw [dg_lo (cd_lt ok9 0), (cd_ab ok9 (by omega)).2]
                  refine wp_ireturn dX12_opinion_215 rfl ?_
                  refine hq _ _ ((f4.up (by decide) (by decide)).tr (f5.up (by decide) (by decide))) ?_
                  unfold spOpinion
                  rw [xs1, xs2, xs3]
                  refine ⟨N5, OL5, V5, FK5, ⟨n4, K4, rl5.en, vp5, vo5.2.2.2.2⟩, ?_⟩
                  first | (rw [if_pos (by omega)]; done) | (rw [if_neg (by omega), if_pos (by omega)]; done) | (rw [if_neg (by omega), if_neg (by omega)]; refine ⟨b9, ⟨hb9, trivial, fun o ho _ => bs9 o ho⟩, ?_⟩; first | rw [if_pos (by omega)] | rw [if_neg (by omega), if_pos (by omega)] | rw [if_neg (by omega), if_neg (by omega), if_pos (by omega)] | rw [if_neg (by omega), if_neg (by omega), if_neg (by omega), if_pos (by omega)] | rw [if_neg (by omega), if_neg (by omega), if_neg (by omega), if_neg (by omega)])
              · refine wp_iload dX12_opinion_183 rfl ?_
                refine wp_goto dX12_opinion_185 ?_
                try rw [dg_lo (cd_lt ok9 0), (cd_ab ok9 (by omega)).2]
                refine wp_ireturn dX12_opinion_215 rfl ?_
                refine hq _ _ ((f4.up (by decide) (by decide)).tr (f5.up (by decide) (by decide))) ?_
                unfold spOpinion
                rw [xs1, xs2, xs3]
                refine ⟨N5, OL5, V5, FK5, ⟨n4, K4, rl5.en, vp5, vo5.2.2.2.2⟩, ?_⟩
                first | (rw [if_pos (by omega)]; done) | (rw [if_neg (by omega), if_pos (by omega)]; done) | (rw [if_neg (by omega), if_neg (by omega)]; refine ⟨b9, ⟨hb9, trivial, fun o ho _ => bs9 o ho⟩, ?_⟩; first | rw [if_pos (by omega)] | rw [if_neg (by omega), if_pos (by omega)] | rw [if_neg (by omega), if_neg (by omega), if_pos (by omega)] | rw [if_neg (by omega), if_neg (by omega), if_neg (by omega), if_pos (by omega)] | rw [if_neg (by omega), if_neg (by omega), if_neg (by omega), if_neg (by omega)])
            · refine wp_aload_n dX12_opinion_72 rfl rfl ?_
              refine wp_getR dX12_opinion_73 lX12_122 rfl (mO mc5.1) (mR_votes mc5.1) ?_
              refine wp_iload dX12_opinion_76 rfl ?_
              refine wp_ialdV dX12_opinion_78 (mA_votes mc5.1) rfl ⟨by omega, by decide⟩ (vo5.2.1 b9 hb9).2.2.1 ?_
              refine wp_ireturn dX12_opinion_79 rfl ?_
              refine hq _ _ ((f4.up (by decide) (by decide)).tr (f5.up (by decide) (by decide))) ?_
              unfold spOpinion
              rw [xs1, xs2, xs3]
              refine ⟨N5, OL5, V5, FK5, ⟨n4, K4, rl5.en, vp5, vo5.2.2.2.2⟩, ?_⟩
              first | (rw [if_pos (by omega)]; done) | (rw [if_neg (by omega), if_pos (by omega)]; done) | (rw [if_neg (by omega), if_neg (by omega)]; refine ⟨b9, ⟨hb9, trivial, fun o ho _ => bs9 o ho⟩, ?_⟩; first | rw [if_pos (by omega)] | rw [if_neg (by omega), if_pos (by omega)] | rw [if_neg (by omega), if_neg (by omega), if_pos (by omega)] | rw [if_neg (by omega), if_neg (by omega), if_neg (by omega), if_pos (by omega)] | rw [if_neg (by omega), if_neg (by omega), if_neg (by omega), if_neg (by omega)])
          · refine wp_iconst (v := (-1)) dX12_opinion_59 (by decide +kernel) ?_
            refine wp_ireturn dX12_opinion_60 rfl ?_
            refine hq _ _ ((f4.up (by decide) (by decide)).tr (f5.up (by decide) (by decide))) ?_
            unfold spOpinion
            rw [xs1, xs2, xs3]
            refine ⟨N5, OL5, V5, FK5, ⟨n4, K4, rl5.en, vp5, vo5.2.2.2.2⟩, ?_⟩
            first | (rw [if_pos (by omega)]; done) | (rw [if_neg (by omega), if_pos (by omega)]; done) | (rw [if_neg (by omega), if_neg (by omega)]; refine ⟨b9, ⟨hb9, trivial, fun o ho _ => bs9 o ho⟩, ?_⟩; first | rw [if_pos (by omega)] | rw [if_neg (by omega), if_pos (by omega)] | rw [if_neg (by omega), if_neg (by omega), if_pos (by omega)] | rw [if_neg (by omega), if_neg (by omega), if_neg (by omega), if_pos (by omega)] | rw [if_neg (by omega), if_neg (by omega), if_neg (by omega), if_neg (by omega)])
        · refine wp_aload_n dX12_opinion_47 rfl rfl ?_
          refine wp_getIV dX12_opinion_48 lX12_517 rfl (mO mc5.1) vo5.1 ?_
          refine wp_ireturn dX12_opinion_51 rfl ?_
          refine hq _ _ ((f4.up (by decide) (by decide)).tr (f5.up (by decide) (by decide))) ?_
          unfold spOpinion
          rw [xs1, xs2, xs3]
          refine ⟨N5, OL5, V5, FK5, ⟨n4, K4, rl5.en, vp5, vo5.2.2.2.2⟩, ?_⟩
          first | (rw [if_pos (by omega)]; done) | (rw [if_neg (by omega), if_pos (by omega)]; done) | (rw [if_neg (by omega), if_neg (by omega)]; refine ⟨b9, ⟨hb9, trivial, fun o ho _ => bs9 o ho⟩, ?_⟩; first | rw [if_pos (by omega)] | rw [if_neg (by omega), if_pos (by omega)] | rw [if_neg (by omega), if_neg (by omega), if_pos (by omega)] | rw [if_neg (by omega), if_neg (by omega), if_neg (by omega), if_pos (by omega)] | rw [if_neg (by omega), if_neg (by omega), if_neg (by omega), if_neg (by omega)])
      · have xn3 := ix_none (n := 5) (by decide) (fun j hj ej => i3 ((ixM (by decide)).mpr ⟨j, by omega, ej⟩))
        intro _ _
        refine wp_if_ne dX12_opinion_22 (fun q => absurd q (by decide +kernel)) (fun _ => ?_)
        refine wp_iconst (v := (-1)) dX12_opinion_25 (by decide +kernel) ?_
        refine wp_ireturn dX12_opinion_26 rfl ?_
        refine hq _ _ mFr.rf ?_
        simp only [spOpinion, *]
    · have xn2 := ix_none (by omega) nj2
      intro _ _
      refine wp_if_eq dX12_opinion_13 (fun _ => ?_) (fun q => absurd q (by decide +kernel))
      refine wp_iconst (v := (-1)) dX12_opinion_25 (by decide +kernel) ?_
      refine wp_ireturn dX12_opinion_26 rfl ?_
      refine hq _ _ mFr.rf ?_
      simp only [spOpinion, *]
  · have xn1 := ix_none (by omega) nj1
    intro _ _
    refine wp_if_eq dX12_opinion_5 (fun _ => ?_) (fun q => absurd q (by decide +kernel))
    refine wp_iconst (v := (-1)) dX12_opinion_25 (by decide +kernel) ?_
    refine wp_ireturn dX12_opinion_26 rfl ?_
    refine hq _ _ mFr.rf ?_
    simp only [spOpinion, *]
