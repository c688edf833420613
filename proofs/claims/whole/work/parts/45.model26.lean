/-! ===== all rules, and where they are right, wrong ===== -/
def exN (r : Nat → Int64) (f : Nat) : Nat → Nat
  | 0 => 0
  | p + 1 => exN r f p ||| (if 0 < rM r f p then 2 ^ p else 0)
theorem exS_N (r : Nat → Int64) (f : Nat) : ∀ p, p ≤ 6 → exS r f p = nI (exN r f p)
  | 0, _ => rfl
  | p + 1, hp => by
    show exS r f p ||| _ = nI (exN r f p ||| _)
    rw [exS_N r f p (by omega)]
    split
    · rw [nx_shl1 (by omega), nx_or]
    · rw [nx_shl0 (by omega), nx_or]
theorem exN_lt (r : Nat → Int64) (f : Nat) : ∀ p, p ≤ 6 → exN r f p < 64
  | 0, _ => (by decide : 0 < 64)
  | p + 1, hp => by
    show exN r f p ||| _ < 64
    refine lt64_or (exN_lt r f p (by omega)) ?_
    split
    · exact two_lt (by omega)
    · decide
theorem exN_tb (r : Nat → Int64) (f : Nat) : ∀ p q, (exN r f p).testBit q = decide (q < p ∧ 0 < rM r f q)
  | 0, q => by
    show (0 : Nat).testBit q = _
    rw [Nat.zero_testBit]
    exact (decide_eq_false (by omega)).symm
  | p + 1, q => by
    show (exN r f p ||| _).testBit q = _
    rw [Nat.testBit_or, exN_tb r f p q]
    split
    · rename_i h
      rw [tb_two]
      by_cases e : p = q
      · subst e
        simp [h]
      · simp only [e, decide_false, Bool.or_false]
        exact decide_eq_decide.mpr ⟨fun z => ⟨by omega, z.2⟩, fun z => ⟨by omega, z.2⟩⟩
    · rename_i h
      rw [Nat.zero_testBit, Bool.or_false]
      refine decide_eq_decide.mpr ⟨fun z => ⟨by omega, z.2⟩, fun z => ⟨?_, z.2⟩⟩
      by_cases e : q = p
      · subst e
        exact absurd z.2 h
      · omega
abbrev tvK (r : Nat → Int64) (pa my : Nat → Int32) (f p k : Nat) : Nat := tryV r pa my f p (itm (kI k 0)) (itm (kI k 1)) (itm (kI k 2)) (itm (kI k 3))
/-- the pages of a set, below one, on which a rule comes out so -/
def tvm (r : Nat → Int64) (pa my : Nat → Int32) (f S v k : Nat) : Nat → Nat
  | 0 => 0
  | p + 1 => tvm r pa my f S v k p ||| (if S.testBit p = true ∧ tvK r pa my f p k = v then 2 ^ p else 0)
section TV
variable {r : Nat → Int64} {pa my : Nat → Int32} {f S v k : Nat}
theorem tvm_s (p : Nat) : tvm r pa my f S v k (p + 1) = tvm r pa my f S v k p ||| (if S.testBit p = true ∧ tvK r pa my f p k = v then 2 ^ p else 0) := rfl
theorem tvm_no {p : Nat} (h : S.testBit p = false) : tvm r pa my f S v k (p + 1) = tvm r pa my f S v k p := by
  rw [tvm_s, if_neg (fun z => by rw [h] at z; exact absurd z.1 (by decide)), Nat.or_zero]
theorem tvm_0 : ∀ p, (∀ q, q < p → S.testBit q = false) → tvm r pa my f S v k p = 0
  | 0, _ => rfl
  | p + 1, h => by
    rw [tvm_no (h p (by omega))]
    exact tvm_0 p (fun q hq => h q (by omega))
theorem tvm_lt : ∀ p, p ≤ 6 → tvm r pa my f S v k p < 64
  | 0, _ => (by decide : 0 < 64)
  | p + 1, hp => by
    rw [tvm_s]
    refine lt64_or (tvm_lt p (by omega)) ?_
    split
    · exact two_lt (by omega)
    · decide
theorem tvm_tb : ∀ p q, (tvm r pa my f S v k p).testBit q = decide (q < p ∧ S.testBit q = true ∧ tvK r pa my f q k = v)
  | 0, q => by
    show (0 : Nat).testBit q = _
    rw [Nat.zero_testBit]
    exact (decide_eq_false (by omega)).symm
  | p + 1, q => by
    rw [tvm_s, Nat.testBit_or, tvm_tb p q]
    split
    · rename_i h
      rw [tb_two]
      by_cases e : p = q
      · subst e
        rw [decide_eq_true rfl, Bool.or_true]
        exact (decide_eq_true ⟨by omega, h⟩).symm
      · rw [decide_eq_false e, Bool.or_false]
        exact decide_eq_decide.mpr ⟨fun z => ⟨by omega, z.2⟩, fun z => ⟨by omega, z.2⟩⟩
    · rename_i h
      rw [Nat.zero_testBit, Bool.or_false]
      refine decide_eq_decide.mpr ⟨fun z => ⟨by omega, z.2⟩, fun z => ⟨?_, z.2⟩⟩
      by_cases e : q = p
      · subst e
        exact absurd z.2 h
      · omega
end TV
theorem tryV_le {r : Nat → Int64} {pa my : Nat → Int32} {f p : Nat} {far near sec stop : Int32} : tryV r pa my f p far near sec stop ≤ 2 := by
  unfold tryV
  repeat' split
  all_goals omega
set_option maxRecDepth 20000 in
theorem lay_in {h : mH} {Q : Option Value → mH → Prop} {r : Nat → Int64} {F : Nat} {pa my : Nat → Int32} {B : Nat → Nat → Prop} {n f S p : Nat} {K O T : Nat → Nat} {x5 : Option Value} (hc : mC h r F pa my) (hd : sOK r F pa my) (nx : numX r h) (q : rul h B n K O T) (hn : n < 12000) (hf : f < F) (hS64 : S < 64) (hSP : ∀ p, S.testBit p = true → p < rP r ∧ 0 < rM r f p) (hp6 : p < 6) (hSp : S.testBit p = true) (hval : (∃ q, q < p ∧ S.testBit q = true) → ∀ i, i < n → hI h 173 i = nI (tvm r pa my f S 1 (K i) p) ∧ hI h 174 i = nI (tvm r pa my f S 2 (K i) p)) (K9 : ∀ x h', mFr (mP [32, 35] [167, 168, 169, 170, 173, 174]) h h' → mC h' r F pa my → numX r h' → rul h' B n K O T → (∀ i, i < n → hI h' 173 i = nI (tvm r pa my f S 1 (K i) (p + 1)) ∧ hI h' 174 i = nI (tvm r pa my f S 2 (K i) (p + 1))) → Wp mX12_laysRules 6 153 223 [some (.ref 153), some (.int (nI f)), some (.int (nI S)), some (.int (nI p)), some (.int (nI n)), x] [] h' Q) : Wp mX12_laysRules 6 153 80 [some (.ref 153), some (.int (nI f)), some (.int (nI S)), some (.int (nI p)), some (.int (nI 0)), x5] [] h Q := by
  have hF4 := hd.f4
  have hP6 := hd.w.1.2
  have hloop : ∀  (t : Nat) (i : Nat) (x5 : Option Value) (h1 : mH) (U1 : Nat → Int32) (U2 : Nat → Int32), (i ≤ n) → (mC h1 r F pa my) → (numX r h1) → (rul h1 B n K O T) → (mFr (mP [32, 35] [167, 168, 169, 170, 173, 174]) h h1) → (hI h1 173 = U1) → (hI h1 174 = U2) → (∀ j, j < i → U1 j = nI (tvm r pa my f S 1 (K j) (p + 1))) → (∀ j, j < i → U2 j = nI (tvm r pa my f S 2 (K j) (p + 1))) → (∀ j, i ≤ j → j < n → U1 j = hI h 173 j) → (∀ j, i ≤ j → j < n → U2 j = hI h 174 j) → (n < i + t) → Wp mX12_laysRules 6 153 80 [some (.ref 153), some (.int (nI f)), some (.int (nI S)), some (.int (nI p)), some (.int (nI i)), x5] [] h1 Q := by
    intro t
    induction t with
    | zero => intros; omega
    | succ t ih =>
      intro i x5 h1 U1 U2 hi hc1 nx1 q1 hf1 e1 e2 hd1 hd2 hu1 hu2 hmz
      refine wp_iload dX12_laysRules_80 rfl ?_
      refine wp_aload_n dX12_laysRules_82 rfl rfl ?_
      refine wp_getIV dX12_laysRules_83 lX12_378 rfl (mO hc1.1) q1.1 ?_
      refine wp_icmp_geN dX12_laysRules_86 rfl rfl ⟨by first | omega | (have := tryV_le (r := r) (pa := pa) (my := my) (f := f) (p := p) (far := itm (kI (K i) 0)) (near := itm (kI (K i) 1)) (sec := itm (kI (K i) 2)) (stop := itm (kI (K i) 3)); omega), by omega⟩ (fun c1 => ?_) (fun c1 => ?_)
      · have e9 : i = n := by omega
        subst e9
        refine K9 _ _ hf1 hc1 nx1 q1 ?_
        intro j hj
        rw [e1, e2]
        exact ⟨hd1 j hj, hd2 j hj⟩
      · refine wp_iload_n dX12_laysRules_89 rfl rfl ?_
        refine wp_iload_n dX12_laysRules_90 rfl rfl ?_
        refine wp_cS1 1 21 [some _, none] dX12_laysRules_91 tX12_firstOf sX12_firstOf lX12_400 ⟨by decide, by decide⟩ (Nat.le_of_ble_eq_true rfl) (Nat.le_of_ble_eq_true rfl) rfl ?_
        refine pX12_firstOf hS64 ⟨p, hp6, hSp⟩ (fun p9 hp9 op9 mn9 => ?_)
        intro _ _
        refine wp_icmp_neN dX12_laysRules_94 rfl rfl ⟨by first | omega | (have := tryV_le (r := r) (pa := pa) (my := my) (f := f) (p := p) (far := itm (kI (K i) 0)) (near := itm (kI (K i) 1)) (sec := itm (kI (K i) 2)) (stop := itm (kI (K i) 3)); omega), by omega⟩ (fun c2 => ?_) (fun c2 => ?_)
        · have lt9 : p9 < p := by
            rcases Nat.lt_trichotomy p9 p with z | z | z
            · exact z
            · exact absurd z.symm (by assumption)
            · exact absurd (mn9 p z) (by rw [hSp]; decide)
          refine wp_aload_n dX12_laysRules_113 rfl rfl ?_
          refine wp_iload_n dX12_laysRules_114 rfl rfl ?_
          refine wp_iload_n dX12_laysRules_115 rfl rfl ?_
          refine wp_aload_n dX12_laysRules_116 rfl rfl ?_
          refine wp_getR dX12_laysRules_117 lX12_70 rfl (mO hc1.1) (mR_key hc1.1) ?_
          refine wp_iload dX12_laysRules_120 rfl ?_
          refine wp_laldV dX12_laysRules_122 (mA_key hc1.1) rfl ⟨by omega, by decide⟩ (q1.2.1 i (by omega)).1 ?_
          refine wp_iconst (v := (nI 0)) dX12_laysRules_123 (by decide +kernel) ?_
          refine wp_cS2 0 0 [some _, none, some _] dX12_laysRules_124 tX12_itemOf sX12_itemOf lX12_403 ⟨by decide, by decide⟩ (Nat.le_of_ble_eq_true rfl) (Nat.le_of_ble_eq_true rfl) rfl ?_
          refine pX12_itemOf (q1.2.1 i (by omega)).2 (by decide) ?_
          intro _ _
          refine wp_aload_n dX12_laysRules_127 rfl rfl ?_
          refine wp_getR dX12_laysRules_128 lX12_70 rfl (mO hc1.1) (mR_key hc1.1) ?_
          refine wp_iload dX12_laysRules_131 rfl ?_
          refine wp_laldV dX12_laysRules_133 (mA_key hc1.1) rfl ⟨by omega, by decide⟩ (q1.2.1 i (by omega)).1 ?_
          refine wp_iconst (v := (nI 1)) dX12_laysRules_134 (by decide +kernel) ?_
          refine wp_cS2 0 0 [some _, none, some _] dX12_laysRules_135 tX12_itemOf sX12_itemOf lX12_403 ⟨by decide, by decide⟩ (Nat.le_of_ble_eq_true rfl) (Nat.le_of_ble_eq_true rfl) rfl ?_
          refine pX12_itemOf (q1.2.1 i (by omega)).2 (by decide) ?_
          intro _ _
          refine wp_aload_n dX12_laysRules_138 rfl rfl ?_
          refine wp_getR dX12_laysRules_139 lX12_70 rfl (mO hc1.1) (mR_key hc1.1) ?_
          refine wp_iload dX12_laysRules_142 rfl ?_
          refine wp_laldV dX12_laysRules_144 (mA_key hc1.1) rfl ⟨by omega, by decide⟩ (q1.2.1 i (by omega)).1 ?_
          refine wp_iconst (v := (nI 2)) dX12_laysRules_145 (by decide +kernel) ?_
          refine wp_cS2 0 0 [some _, none, some _] dX12_laysRules_146 tX12_itemOf sX12_itemOf lX12_403 ⟨by decide, by decide⟩ (Nat.le_of_ble_eq_true rfl) (Nat.le_of_ble_eq_true rfl) rfl ?_
          refine pX12_itemOf (q1.2.1 i (by omega)).2 (by decide) ?_
          intro _ _
          refine wp_aload_n dX12_laysRules_149 rfl rfl ?_
          refine wp_getR dX12_laysRules_150 lX12_70 rfl (mO hc1.1) (mR_key hc1.1) ?_
          refine wp_iload dX12_laysRules_153 rfl ?_
          refine wp_laldV dX12_laysRules_155 (mA_key hc1.1) rfl ⟨by omega, by decide⟩ (q1.2.1 i (by omega)).1 ?_
          refine wp_iconst (v := (nI 3)) dX12_laysRules_156 (by decide +kernel) ?_
          refine wp_cS2 0 0 [some _, none, some _] dX12_laysRules_157 tX12_itemOf sX12_itemOf lX12_403 ⟨by decide, by decide⟩ (Nat.le_of_ble_eq_true rfl) (Nat.le_of_ble_eq_true rfl) rfl ?_
          refine pX12_itemOf (q1.2.1 i (by omega)).2 (by decide) ?_
          intro _ _
          refine wp_cV6 5 127 [some _, some _, some _, some _, some _, some _, some _] dX12_laysRules_160 tX12_triesOn rfl (by decide) nX12_triesOn vX12_triesOn lX12_363 ⟨by decide, by decide⟩ (Nat.le_of_ble_eq_true rfl) (mO hc1.1) (Nat.le_of_ble_eq_true rfl) rfl ?_
          refine pX12_triesOn hc1 hd nx1 hf (hSP p hSp).1 (fun hh1 f1 k1 => ?_)
          intro _ _
          have mc1 := hc1.fr f1 (by decide) (by decide) (by decide) (by decide) (by decide)
          have nx1 := nx1.fr f1 (by decide) (by decide)
          have rq1 := q1.fr f1 (by decide) (by decide)
          have eI173_1 := (f1.Ir (by decide) (by decide)).trans e1
          have eI174_1 := (f1.Ir (by decide) (by decide)).trans e2
          refine wp_istore (ls1 := [_, _, _, _, _, some _]) dX12_laysRules_163 (by decide) rfl ?_
          refine wp_aload_n dX12_laysRules_165 rfl rfl ?_
          refine wp_getR dX12_laysRules_166 lX12_76 rfl (mO mc1.1) (mR_rights mc1.1) ?_
          refine wp_iload dX12_laysRules_169 rfl ?_
          refine wp_dup2 dX12_laysRules_171 rfl rfl ?_
          refine wp_ialdV dX12_laysRules_172 (mA_rights mc1.1) rfl ⟨by omega, by decide⟩ ((congrFun eI173_1 i).trans ((hu1 i (by omega) (by omega)).trans (hval ⟨_, by omega, op9⟩ i (by omega)).1)) ?_
          refine wp_iload dX12_laysRules_173 rfl ?_
          refine wp_iconst (v := (nI 1)) dX12_laysRules_175 (by decide +kernel) ?_
          refine wp_icmp_neN dX12_laysRules_176 rfl rfl ⟨by first | omega | (have := tryV_le (r := r) (pa := pa) (my := my) (f := f) (p := p) (far := itm (kI (K i) 0)) (near := itm (kI (K i) 1)) (sec := itm (kI (K i) 2)) (stop := itm (kI (K i) 3)); omega), by omega⟩ (fun c3 => ?_) (fun c3 => ?_)
          · refine wp_iconst (v := (nI 0)) dX12_laysRules_183 (by decide +kernel) ?_
            refine wp_cS1 0 0 [some _] dX12_laysRules_184 tX12_truth sX12_truth lX12_320 ⟨by decide, by decide⟩ (Nat.le_of_ble_eq_true rfl) (Nat.le_of_ble_eq_true rfl) rfl ?_
            refine pX12_truth0 ?_
            intro _ _
            refine wp_iload_n dX12_laysRules_187 rfl rfl ?_
            refine wp_ishl dX12_laysRules_188 ?_
            refine wp_ior dX12_laysRules_189 ?_
            refine wp_iastN dX12_laysRules_190 (mA_rights mc1.1) rfl ⟨by omega, by decide⟩ ?_
            refine sealAI eI173_1 (fun hh2 f2 e2 => ?_)
            have mc2 := mc1.fr f2 (by decide) (by decide) (by decide) (by decide) (by decide)
            have nx2 := nx1.fr f2 (by decide) (by decide)
            have rq2 := rq1.fr f2 (by decide) (by decide)
            have eI174_2 := (f2.Ir (by decide) (by decide)).trans eI174_1
            refine wp_aload_n dX12_laysRules_191 rfl rfl ?_
            refine wp_getR dX12_laysRules_192 lX12_79 rfl (mO mc2.1) (mR_wrongs mc2.1) ?_
            refine wp_iload dX12_laysRules_195 rfl ?_
            refine wp_dup2 dX12_laysRules_197 rfl rfl ?_
            refine wp_ialdV dX12_laysRules_198 (mA_wrongs mc2.1) rfl ⟨by omega, by decide⟩ ((congrFun eI174_2 i).trans ((hu2 i (by omega) (by omega)).trans (hval ⟨_, by omega, op9⟩ i (by omega)).2)) ?_
            refine wp_iload dX12_laysRules_199 rfl ?_
            refine wp_iconst (v := (nI 2)) dX12_laysRules_201 (by decide +kernel) ?_
            refine wp_icmp_neN dX12_laysRules_202 rfl rfl ⟨by first | omega | (have := tryV_le (r := r) (pa := pa) (my := my) (f := f) (p := p) (far := itm (kI (K i) 0)) (near := itm (kI (K i) 1)) (sec := itm (kI (K i) 2)) (stop := itm (kI (K i) 3)); omega), by omega⟩ (fun c4 => ?_) (fun c4 => ?_)
            · refine wp_iconst (v := (nI 0)) dX12_laysRules_209 (by decide +kernel) ?_
              refine wp_cS1 0 0 [some _] dX12_laysRules_210 tX12_truth sX12_truth lX12_320 ⟨by decide, by decide⟩ (Nat.le_of_ble_eq_true rfl) (Nat.le_of_ble_eq_true rfl) rfl ?_
              refine pX12_truth0 ?_
              intro _ _
              refine wp_iload_n dX12_laysRules_213 rfl rfl ?_
              refine wp_ishl dX12_laysRules_214 ?_
              refine wp_ior dX12_laysRules_215 ?_
              refine wp_iastN dX12_laysRules_216 (mA_wrongs mc2.1) rfl ⟨by omega, by decide⟩ ?_
              refine sealAI eI174_2 (fun hh3 f3 e3 => ?_)
              have mc3 := mc2.fr f3 (by decide) (by decide) (by decide) (by decide) (by decide)
              have nx3 := nx2.fr f3 (by decide) (by decide)
              have rq3 := rq2.fr f3 (by decide) (by decide)
              have eI173_3 := (f3.Ir (by decide) (by decide)).trans e2
              refine wp_iinc1 (ls1 := [_, _, _, _, some _, _]) dX12_laysRules_217 rfl (by decide) rfl ?_
              refine wp_goto dX12_laysRules_220 ?_
              refine ih (i + 1) _ _ _ _ (by omega) mc3 nx3 rq3 ((((hf1.up (by decide) (by decide)).tr (f1.up (by decide) (by decide))).tr (f2.up (by decide) (by decide))).tr (f3.up (by decide) (by decide))) eI173_3 e3 ?_ ?_ ?_ ?_ (by omega)
              · intro j hj
                by_cases z : j = i
                · subst z
                  exact (upI_at _ _ _).trans (by rw [tvm_s]; first | rw [if_pos ⟨hSp, by assumption⟩, nx_shl1 (by omega), nx_or] | rw [if_neg (fun z9 => absurd z9.2 (by assumption)), nx_shl0 (by omega), nx_or])
                · exact (by rw [upI_ne (by omega)] : _ = U1 j).trans (hd1 j (by omega))
              · intro j hj
                by_cases z : j = i
                · subst z
                  exact (upI_at _ _ _).trans (by rw [tvm_s]; first | rw [if_pos ⟨hSp, by assumption⟩, nx_shl1 (by omega), nx_or] | rw [if_neg (fun z9 => absurd z9.2 (by assumption)), nx_shl0 (by omega), nx_or])
                · exact (by rw [upI_ne (by omega)] : _ = U2 j).trans (hd2 j (by omega))
              · intro j hj1 hj2
                exact (by rw [upI_ne (by omega)] : _ = U1 j).trans (hu1 j (by omega) hj2)
              · intro j hj1 hj2
                exact (by rw [upI_ne (by omega)] : _ = U2 j).trans (hu2 j (by omega) hj2)
            · refine wp_iconst (v := (nI 1)) dX12_laysRules_205 (by decide +kernel) ?_
              refine wp_goto dX12_laysRules_206 ?_
              refine wp_cS1 0 0 [some _] dX12_laysRules_210 tX12_truth sX12_truth lX12_320 ⟨by decide, by decide⟩ (Nat.le_of_ble_eq_true rfl) (Nat.le_of_ble_eq_true rfl) rfl ?_
              refine pX12_truth1 ?_
              intro _ _
              refine wp_iload_n dX12_laysRules_213 rfl rfl ?_
              refine wp_ishl dX12_laysRules_214 ?_
              refine wp_ior dX12_laysRules_215 ?_
              refine wp_iastN dX12_laysRules_216 (mA_wrongs mc2.1) rfl ⟨by omega, by decide⟩ ?_
              refine sealAI eI174_2 (fun hh4 f4 e4 => ?_)
              have mc4 := mc2.fr f4 (by decide) (by decide) (by decide) (by decide) (by decide)
              have nx4 := nx2.fr f4 (by decide) (by decide)
              have rq4 := rq2.fr f4 (by decide) (by decide)
              have eI173_4 := (f4.Ir (by decide) (by decide)).trans e2
              refine wp_iinc1 (ls1 := [_, _, _, _, some _, _]) dX12_laysRules_217 rfl (by decide) rfl ?_
              refine wp_goto dX12_laysRules_220 ?_
              refine ih (i + 1) _ _ _ _ (by omega) mc4 nx4 rq4 ((((hf1.up (by decide) (by decide)).tr (f1.up (by decide) (by decide))).tr (f2.up (by decide) (by decide))).tr (f4.up (by decide) (by decide))) eI173_4 e4 ?_ ?_ ?_ ?_ (by omega)
              · intro j hj
                by_cases z : j = i
                · subst z
                  exact (upI_at _ _ _).trans (by rw [tvm_s]; first | rw [if_pos ⟨hSp, by assumption⟩, nx_shl1 (by omega), nx_or] | rw [if_neg (fun z9 => absurd z9.2 (by assumption)), nx_shl0 (by omega), nx_or])
                · exact (by rw [upI_ne (by omega)] : _ = U1 j).trans (hd1 j (by omega))
              · intro j hj
                by_cases z : j = i
                · subst z
                  exact (upI_at _ _ _).trans (by rw [tvm_s]; first | rw [if_pos ⟨hSp, by assumption⟩, nx_shl1 (by omega), nx_or] | rw [if_neg (fun z9 => absurd z9.2 (by assumption)), nx_shl0 (by omega), nx_or])
                · exact (by rw [upI_ne (by omega)] : _ = U2 j).trans (hd2 j (by omega))
              · intro j hj1 hj2
                exact (by rw [upI_ne (by omega)] : _ = U1 j).trans (hu1 j (by omega) hj2)
              · intro j hj1 hj2
                exact (by rw [upI_ne (by omega)] : _ = U2 j).trans (hu2 j (by omega) hj2)
          · refine wp_iconst (v := (nI 1)) dX12_laysRules_179 (by decide +kernel) ?_
            refine wp_goto dX12_laysRules_180 ?_
            refine wp_cS1 0 0 [some _] dX12_laysRules_184 tX12_truth sX12_truth lX12_320 ⟨by decide, by decide⟩ (Nat.le_of_ble_eq_true rfl) (Nat.le_of_ble_eq_true rfl) rfl ?_
            refine pX12_truth1 ?_
            intro _ _
            refine wp_iload_n dX12_laysRules_187 rfl rfl ?_
            refine wp_ishl dX12_laysRules_188 ?_
            refine wp_ior dX12_laysRules_189 ?_
            refine wp_iastN dX12_laysRules_190 (mA_rights mc1.1) rfl ⟨by omega, by decide⟩ ?_
            refine sealAI eI173_1 (fun hh5 f5 e5 => ?_)
            have mc5 := mc1.fr f5 (by decide) (by decide) (by decide) (by decide) (by decide)
            have nx5 := nx1.fr f5 (by decide) (by decide)
            have rq5 := rq1.fr f5 (by decide) (by decide)
            have eI174_5 := (f5.Ir (by decide) (by decide)).trans eI174_1
            refine wp_aload_n dX12_laysRules_191 rfl rfl ?_
            refine wp_getR dX12_laysRules_192 lX12_79 rfl (mO mc5.1) (mR_wrongs mc5.1) ?_
            refine wp_iload dX12_laysRules_195 rfl ?_
            refine wp_dup2 dX12_laysRules_197 rfl rfl ?_
            refine wp_ialdV dX12_laysRules_198 (mA_wrongs mc5.1) rfl ⟨by omega, by decide⟩ ((congrFun eI174_5 i).trans ((hu2 i (by omega) (by omega)).trans (hval ⟨_, by omega, op9⟩ i (by omega)).2)) ?_
            refine wp_iload dX12_laysRules_199 rfl ?_
            refine wp_iconst (v := (nI 2)) dX12_laysRules_201 (by decide +kernel) ?_
            refine wp_icmp_neN dX12_laysRules_202 rfl rfl ⟨by first | omega | (have := tryV_le (r := r) (pa := pa) (my := my) (f := f) (p := p) (far := itm (kI (K i) 0)) (near := itm (kI (K i) 1)) (sec := itm (kI (K i) 2)) (stop := itm (kI (K i) 3)); omega), by omega⟩ (fun c5 => ?_) (fun c5 => ?_)
            · refine wp_iconst (v := (nI 0)) dX12_laysRules_209 (by decide +kernel) ?_
              refine wp_cS1 0 0 [some _] dX12_laysRules_210 tX12_truth sX12_truth lX12_320 ⟨by decide, by decide⟩ (Nat.le_of_ble_eq_true rfl) (Nat.le_of_ble_eq_true rfl) rfl ?_
              refine pX12_truth0 ?_
              intro _ _
              refine wp_iload_n dX12_laysRules_213 rfl rfl ?_
              refine wp_ishl dX12_laysRules_214 ?_
              refine wp_ior dX12_laysRules_215 ?_
              refine wp_iastN dX12_laysRules_216 (mA_wrongs mc5.1) rfl ⟨by omega, by decide⟩ ?_
              refine sealAI eI174_5 (fun hh6 f6 e6 => ?_)
              have mc6 := mc5.fr f6 (by decide) (by decide) (by decide) (by decide) (by decide)
              have nx6 := nx5.fr f6 (by decide) (by decide)
              have rq6 := rq5.fr f6 (by decide) (by decide)
              have eI173_6 := (f6.Ir (by decide) (by decide)).trans e5
              refine wp_iinc1 (ls1 := [_, _, _, _, some _, _]) dX12_laysRules_217 rfl (by decide) rfl ?_
              refine wp_goto dX12_laysRules_220 ?_
              refine ih (i + 1) _ _ _ _ (by omega) mc6 nx6 rq6 ((((hf1.up (by decide) (by decide)).tr (f1.up (by decide) (by decide))).tr (f5.up (by decide) (by decide))).tr (f6.up (by decide) (by decide))) eI173_6 e6 ?_ ?_ ?_ ?_ (by omega)
              · intro j hj
                by_cases z : j = i
                · subst z
                  exact (upI_at _ _ _).trans (by rw [tvm_s]; first | rw [if_pos ⟨hSp, by assumption⟩, nx_shl1 (by omega), nx_or] | rw [if_neg (fun z9 => absurd z9.2 (by assumption)), nx_shl0 (by omega), nx_or])
                · exact (by rw [upI_ne (by omega)] : _ = U1 j).trans (hd1 j (by omega))
              · intro j hj
                by_cases z : j = i
                · subst z
                  exact (upI_at _ _ _).trans (by rw [tvm_s]; first | rw [if_pos ⟨hSp, by assumption⟩, nx_shl1 (by omega), nx_or] | rw [if_neg (fun z9 => absurd z9.2 (by assumption)), nx_shl0 (by omega), nx_or])
                · exact (by rw [upI_ne (by omega)] : _ = U2 j).trans (hd2 j (by omega))
              · intro j hj1 hj2
                exact (by rw [upI_ne (by omega)] : _ = U1 j).trans (hu1 j (by omega) hj2)
              · intro j hj1 hj2
                exact (by rw [upI_ne (by omega)] : _ = U2 j).trans (hu2 j (by omega) hj2)
            · refine wp_iconst (v := (nI 1)) dX12_laysRules_205 (by decide +kernel) ?_
              refine wp_goto dX12_laysRules_206 ?_
              refine wp_cS1 0 0 [some _] dX12_laysRules_210 tX12_truth sX12_truth lX12_320 ⟨by decide, by decide⟩ (Nat.le_of_ble_eq_true rfl) (Nat.le_of_ble_eq_true rfl) rfl ?_
              refine pX12_truth1 ?_
              intro _ _
              refine wp_iload_n dX12_laysRules_213 rfl rfl ?_
              refine wp_ishl dX12_laysRules_214 ?_
              refine wp_ior dX12_laysRules_215 ?_
              refine wp_iastN dX12_laysRules_216 (mA_wrongs mc5.1) rfl ⟨by omega, by decide⟩ ?_
              refine sealAI eI174_5 (fun hh7 f7 e7 => ?_)
              have mc7 := mc5.fr f7 (by decide) (by decide) (by decide) (by decide) (by decide)
              have nx7 := nx5.fr f7 (by decide) (by decide)
              have rq7 := rq5.fr f7 (by decide) (by decide)
              have eI173_7 := (f7.Ir (by decide) (by decide)).trans e5
              refine wp_iinc1 (ls1 := [_, _, _, _, some _, _]) dX12_laysRules_217 rfl (by decide) rfl ?_
              refine wp_goto dX12_laysRules_220 ?_
              refine ih (i + 1) _ _ _ _ (by omega) mc7 nx7 rq7 ((((hf1.up (by decide) (by decide)).tr (f1.up (by decide) (by decide))).tr (f5.up (by decide) (by decide))).tr (f7.up (by decide) (by decide))) eI173_7 e7 ?_ ?_ ?_ ?_ (by omega)
              · intro j hj
                by_cases z : j = i
                · subst z
                  exact (upI_at _ _ _).trans (by rw [tvm_s]; first | rw [if_pos ⟨hSp, by assumption⟩, nx_shl1 (by omega), nx_or] | rw [if_neg (fun z9 => absurd z9.2 (by assumption)), nx_shl0 (by omega), nx_or])
                · exact (by rw [upI_ne (by omega)] : _ = U1 j).trans (hd1 j (by omega))
              · intro j hj
                by_cases z : j = i
                · subst z
                  exact (upI_at _ _ _).trans (by rw [tvm_s]; first | rw [if_pos ⟨hSp, by assumption⟩, nx_shl1 (by omega), nx_or] | rw [if_neg (fun z9 => absurd z9.2 (by assumption)), nx_shl0 (by omega), nx_or])
                · exact (by rw [upI_ne (by omega)] : _ = U2 j).trans (hd2 j (by omega))
              · intro j hj1 hj2
                exact (by rw [upI_ne (by omega)] : _ = U1 j).trans (hu1 j (by omega) hj2)
              · intro j hj1 hj2
                exact (by rw [upI_ne (by omega)] : _ = U2 j).trans (hu2 j (by omega) hj2)
        · have eq9 : p = p9 := by omega
          refine wp_aload_n dX12_laysRules_97 rfl rfl ?_
          refine wp_getR dX12_laysRules_98 lX12_76 rfl (mO hc1.1) (mR_rights hc1.1) ?_
          refine wp_iload dX12_laysRules_101 rfl ?_
          refine wp_iconst (v := (nI 0)) dX12_laysRules_103 (by decide +kernel) ?_
          refine wp_iastN dX12_laysRules_104 (mA_rights hc1.1) rfl ⟨by omega, by decide⟩ ?_
          refine sealAI e1 (fun hh8 f8 e8 => ?_)
          have mc8 := hc1.fr f8 (by decide) (by decide) (by decide) (by decide) (by decide)
          have nx8 := nx1.fr f8 (by decide) (by decide)
          have rq8 := q1.fr f8 (by decide) (by decide)
          have eI174_8 := (f8.Ir (by decide) (by decide)).trans e2
          refine wp_aload_n dX12_laysRules_105 rfl rfl ?_
          refine wp_getR dX12_laysRules_106 lX12_79 rfl (mO mc8.1) (mR_wrongs mc8.1) ?_
          refine wp_iload dX12_laysRules_109 rfl ?_
          refine wp_iconst (v := (nI 0)) dX12_laysRules_111 (by decide +kernel) ?_
          refine wp_iastN dX12_laysRules_112 (mA_wrongs mc8.1) rfl ⟨by omega, by decide⟩ ?_
          refine sealAI eI174_8 (fun hh9 f9 e9 => ?_)
          have mc9 := mc8.fr f9 (by decide) (by decide) (by decide) (by decide) (by decide)
          have nx9 := nx8.fr f9 (by decide) (by decide)
          have rq9 := rq8.fr f9 (by decide) (by decide)
          have eI173_9 := (f9.Ir (by decide) (by decide)).trans e8
          refine wp_aload_n dX12_laysRules_113 rfl rfl ?_
          refine wp_iload_n dX12_laysRules_114 rfl rfl ?_
          refine wp_iload_n dX12_laysRules_115 rfl rfl ?_
          refine wp_aload_n dX12_laysRules_116 rfl rfl ?_
          refine wp_getR dX12_laysRules_117 lX12_70 rfl (mO mc9.1) (mR_key mc9.1) ?_
          refine wp_iload dX12_laysRules_120 rfl ?_
          refine wp_laldV dX12_laysRules_122 (mA_key mc9.1) rfl ⟨by omega, by decide⟩ (rq9.2.1 i (by omega)).1 ?_
          refine wp_iconst (v := (nI 0)) dX12_laysRules_123 (by decide +kernel) ?_
          refine wp_cS2 0 0 [some _, none, some _] dX12_laysRules_124 tX12_itemOf sX12_itemOf lX12_403 ⟨by decide, by decide⟩ (Nat.le_of_ble_eq_true rfl) (Nat.le_of_ble_eq_true rfl) rfl ?_
          refine pX12_itemOf (rq9.2.1 i (by omega)).2 (by decide) ?_
          intro _ _
          refine wp_aload_n dX12_laysRules_127 rfl rfl ?_
          refine wp_getR dX12_laysRules_128 lX12_70 rfl (mO mc9.1) (mR_key mc9.1) ?_
          refine wp_iload dX12_laysRules_131 rfl ?_
          refine wp_laldV dX12_laysRules_133 (mA_key mc9.1) rfl ⟨by omega, by decide⟩ (rq9.2.1 i (by omega)).1 ?_
          refine wp_iconst (v := (nI 1)) dX12_laysRules_134 (by decide +kernel) ?_
          refine wp_cS2 0 0 [some _, none, some _] dX12_laysRules_135 tX12_itemOf sX12_itemOf lX12_403 ⟨by decide, by decide⟩ (Nat.le_of_ble_eq_true rfl) (Nat.le_of_ble_eq_true rfl) rfl ?_
          refine pX12_itemOf (rq9.2.1 i (by omega)).2 (by decide) ?_
          intro _ _
          refine wp_aload_n dX12_laysRules_138 rfl rfl ?_
          refine wp_getR dX12_laysRules_139 lX12_70 rfl (mO mc9.1) (mR_key mc9.1) ?_
          refine wp_iload dX12_laysRules_142 rfl ?_
          refine wp_laldV dX12_laysRules_144 (mA_key mc9.1) rfl ⟨by omega, by decide⟩ (rq9.2.1 i (by omega)).1 ?_
          refine wp_iconst (v := (nI 2)) dX12_laysRules_145 (by decide +kernel) ?_
          refine wp_cS2 0 0 [some _, none, some _] dX12_laysRules_146 tX12_itemOf sX12_itemOf lX12_403 ⟨by decide, by decide⟩ (Nat.le_of_ble_eq_true rfl) (Nat.le_of_ble_eq_true rfl) rfl ?_
          refine pX12_itemOf (rq9.2.1 i (by omega)).2 (by decide) ?_
          intro _ _
          refine wp_aload_n dX12_laysRules_149 rfl rfl ?_
          refine wp_getR dX12_laysRules_150 lX12_70 rfl (mO mc9.1) (mR_key mc9.1) ?_
          refine wp_iload dX12_laysRules_153 rfl ?_
          refine wp_laldV dX12_laysRules_155 (mA_key mc9.1) rfl ⟨by omega, by decide⟩ (rq9.2.1 i (by omega)).1 ?_
          refine wp_iconst (v := (nI 3)) dX12_laysRules_156 (by decide +kernel) ?_
          refine wp_cS2 0 0 [some _, none, some _] dX12_laysRules_157 tX12_itemOf sX12_itemOf lX12_403 ⟨by decide, by decide⟩ (Nat.le_of_ble_eq_true rfl) (Nat.le_of_ble_eq_true rfl) rfl ?_
          refine pX12_itemOf (rq9.2.1 i (by omega)).2 (by decide) ?_
          intro _ _
          refine wp_cV6 5 127 [some _, some _, some _, some _, some _, some _, some _] dX12_laysRules_160 tX12_triesOn rfl (by decide) nX12_triesOn vX12_triesOn lX12_363 ⟨by decide, by decide⟩ (Nat.le_of_ble_eq_true rfl) (mO mc9.1) (Nat.le_of_ble_eq_true rfl) rfl ?_
          refine pX12_triesOn mc9 hd nx9 hf (hSP p hSp).1 (fun hh10 f10 k10 => ?_)
          intro _ _
          have mc10 := mc9.fr f10 (by decide) (by decide) (by decide) (by decide) (by decide)
          have nx10 := nx9.fr f10 (by decide) (by decide)
          have rq10 := rq9.fr f10 (by decide) (by decide)
          have eI173_10 := (f10.Ir (by decide) (by decide)).trans eI173_9
          have eI174_10 := (f10.Ir (by decide) (by decide)).trans e9
          refine wp_istore (ls1 := [_, _, _, _, _, some _]) dX12_laysRules_163 (by decide) rfl ?_
          refine wp_aload_n dX12_laysRules_165 rfl rfl ?_
          refine wp_getR dX12_laysRules_166 lX12_76 rfl (mO mc10.1) (mR_rights mc10.1) ?_
          refine wp_iload dX12_laysRules_169 rfl ?_
          refine wp_dup2 dX12_laysRules_171 rfl rfl ?_
          refine wp_ialdV dX12_laysRules_172 (mA_rights mc10.1) rfl ⟨by omega, by decide⟩ ((congrFun eI173_10 _).trans (upI_at _ _ _)) ?_
          refine wp_iload dX12_laysRules_173 rfl ?_
          refine wp_iconst (v := (nI 1)) dX12_laysRules_175 (by decide +kernel) ?_
          refine wp_icmp_neN dX12_laysRules_176 rfl rfl ⟨by first | omega | (have := tryV_le (r := r) (pa := pa) (my := my) (f := f) (p := p) (far := itm (kI (K i) 0)) (near := itm (kI (K i) 1)) (sec := itm (kI (K i) 2)) (stop := itm (kI (K i) 3)); omega), by omega⟩ (fun c6 => ?_) (fun c6 => ?_)
          · refine wp_iconst (v := (nI 0)) dX12_laysRules_183 (by decide +kernel) ?_
            refine wp_cS1 0 0 [some _] dX12_laysRules_184 tX12_truth sX12_truth lX12_320 ⟨by decide, by decide⟩ (Nat.le_of_ble_eq_true rfl) (Nat.le_of_ble_eq_true rfl) rfl ?_
            refine pX12_truth0 ?_
            intro _ _
            refine wp_iload_n dX12_laysRules_187 rfl rfl ?_
            refine wp_ishl dX12_laysRules_188 ?_
            refine wp_ior dX12_laysRules_189 ?_
            refine wp_iastN dX12_laysRules_190 (mA_rights mc10.1) rfl ⟨by omega, by decide⟩ ?_
            refine sealAI eI173_10 (fun hh11 f11 e11 => ?_)
            have mc11 := mc10.fr f11 (by decide) (by decide) (by decide) (by decide) (by decide)
            have nx11 := nx10.fr f11 (by decide) (by decide)
            have rq11 := rq10.fr f11 (by decide) (by decide)
            have eI174_11 := (f11.Ir (by decide) (by decide)).trans eI174_10
            refine wp_aload_n dX12_laysRules_191 rfl rfl ?_
            refine wp_getR dX12_laysRules_192 lX12_79 rfl (mO mc11.1) (mR_wrongs mc11.1) ?_
            refine wp_iload dX12_laysRules_195 rfl ?_
            refine wp_dup2 dX12_laysRules_197 rfl rfl ?_
            refine wp_ialdV dX12_laysRules_198 (mA_wrongs mc11.1) rfl ⟨by omega, by decide⟩ ((congrFun eI174_11 _).trans (upI_at _ _ _)) ?_
            refine wp_iload dX12_laysRules_199 rfl ?_
            refine wp_iconst (v := (nI 2)) dX12_laysRules_201 (by decide +kernel) ?_
            refine wp_icmp_neN dX12_laysRules_202 rfl rfl ⟨by first | omega | (have := tryV_le (r := r) (pa := pa) (my := my) (f := f) (p := p) (far := itm (kI (K i) 0)) (near := itm (kI (K i) 1)) (sec := itm (kI (K i) 2)) (stop := itm (kI (K i) 3)); omega), by omega⟩ (fun c7 => ?_) (fun c7 => ?_)
            · refine wp_iconst (v := (nI 0)) dX12_laysRules_209 (by decide +kernel) ?_
              refine wp_cS1 0 0 [some _] dX12_laysRules_210 tX12_truth sX12_truth lX12_320 ⟨by decide, by decide⟩ (Nat.le_of_ble_eq_true rfl) (Nat.le_of_ble_eq_true rfl) rfl ?_
              refine pX12_truth0 ?_
              intro _ _
              refine wp_iload_n dX12_laysRules_213 rfl rfl ?_
              refine wp_ishl dX12_laysRules_214 ?_
              refine wp_ior dX12_laysRules_215 ?_
              refine wp_iastN dX12_laysRules_216 (mA_wrongs mc11.1) rfl ⟨by omega, by decide⟩ ?_
              refine sealAI eI174_11 (fun hh12 f12 e12 => ?_)
              have mc12 := mc11.fr f12 (by decide) (by decide) (by decide) (by decide) (by decide)
              have nx12 := nx11.fr f12 (by decide) (by decide)
              have rq12 := rq11.fr f12 (by decide) (by decide)
              have eI173_12 := (f12.Ir (by decide) (by decide)).trans e11
              refine wp_iinc1 (ls1 := [_, _, _, _, some _, _]) dX12_laysRules_217 rfl (by decide) rfl ?_
              refine wp_goto dX12_laysRules_220 ?_
              refine ih (i + 1) _ _ _ _ (by omega) mc12 nx12 rq12 ((((((hf1.up (by decide) (by decide)).tr (f8.up (by decide) (by decide))).tr (f9.up (by decide) (by decide))).tr (f10.up (by decide) (by decide))).tr (f11.up (by decide) (by decide))).tr (f12.up (by decide) (by decide))) eI173_12 e12 ?_ ?_ ?_ ?_ (by omega)
              · intro j hj
                by_cases z : j = i
                · subst z
                  exact (upI_at _ _ _).trans (by rw [tvm_s]; rw [tvm_0 p (fun q hq => mn9 q (by omega))]; first | rw [if_pos ⟨hSp, by assumption⟩, nx_shl1 (by omega), nx_or] | rw [if_neg (fun z9 => absurd z9.2 (by assumption)), nx_shl0 (by omega), nx_or])
                · exact (by rw [upI_ne (by omega), upI_ne (by omega)] : _ = U1 j).trans (hd1 j (by omega))
              · intro j hj
                by_cases z : j = i
                · subst z
                  exact (upI_at _ _ _).trans (by rw [tvm_s]; rw [tvm_0 p (fun q hq => mn9 q (by omega))]; first | rw [if_pos ⟨hSp, by assumption⟩, nx_shl1 (by omega), nx_or] | rw [if_neg (fun z9 => absurd z9.2 (by assumption)), nx_shl0 (by omega), nx_or])
                · exact (by rw [upI_ne (by omega), upI_ne (by omega)] : _ = U2 j).trans (hd2 j (by omega))
              · intro j hj1 hj2
                exact (by rw [upI_ne (by omega), upI_ne (by omega)] : _ = U1 j).trans (hu1 j (by omega) hj2)
              · intro j hj1 hj2
                exact (by rw [upI_ne (by omega), upI_ne (by omega)] : _ = U2 j).trans (hu2 j (by omega) hj2)
            · refine wp_iconst (v := (nI 1)) dX12_laysRules_205 (by decide +kernel) ?_
              refine wp_goto dX12_laysRules_206 ?_
              refine wp_cS1 0 0 [some _] dX12_laysRules_210 tX12_truth sX12_truth lX12_320 ⟨by decide, by decide⟩ (Nat.le_of_ble_eq_true rfl) (Nat.le_of_ble_eq_true rfl) rfl ?_
              refine pX12_truth1 ?_
              intro _ _
              refine wp_iload_n dX12_laysRules_213 rfl rfl ?_
              refine wp_ishl dX12_laysRules_214 ?_
              refine wp_ior dX12_laysRules_215 ?_
              refine wp_iastN dX12_laysRules_216 (mA_wrongs mc11.1) rfl ⟨by omega, by decide⟩ ?_
              refine sealAI eI174_11 (fun hh13 f13 e13 => ?_)
              have mc13 := mc11.fr f13 (by decide) (by decide) (by decide) (by decide) (by decide)
              have nx13 := nx11.fr f13 (by decide) (by decide)
              have rq13 := rq11.fr f13 (by decide) (by decide)
              have eI173_13 := (f13.Ir (by decide) (by decide)).trans e11
              refine wp_iinc1 (ls1 := [_, _, _, _, some _, _]) dX12_laysRules_217 rfl (by decide) rfl ?_
              refine wp_goto dX12_laysRules_220 ?_
              refine ih (i + 1) _ _ _ _ (by omega) mc13 nx13 rq13 ((((((hf1.up (by decide) (by decide)).tr (f8.up (by decide) (by decide))).tr (f9.up (by decide) (by decide))).tr (f10.up (by decide) (by decide))).tr (f11.up (by decide) (by decide))).tr (f13.up (by decide) (by decide))) eI173_13 e13 ?_ ?_ ?_ ?_ (by omega)
              · intro j hj
                by_cases z : j = i
                · subst z
                  exact (upI_at _ _ _).trans (by rw [tvm_s]; rw [tvm_0 p (fun q hq => mn9 q (by omega))]; first | rw [if_pos ⟨hSp, by assumption⟩, nx_shl1 (by omega), nx_or] | rw [if_neg (fun z9 => absurd z9.2 (by assumption)), nx_shl0 (by omega), nx_or])
                · exact (by rw [upI_ne (by omega), upI_ne (by omega)] : _ = U1 j).trans (hd1 j (by omega))
              · intro j hj
                by_cases z : j = i
                · subst z
                  exact (upI_at _ _ _).trans (by rw [tvm_s]; rw [tvm_0 p (fun q hq => mn9 q (by omega))]; first | rw [if_pos ⟨hSp, by assumption⟩, nx_shl1 (by omega), nx_or] | rw [if_neg (fun z9 => absurd z9.2 (by assumption)), nx_shl0 (by omega), nx_or])
                · exact (by rw [upI_ne (by omega), upI_ne (by omega)] : _ = U2 j).trans (hd2 j (by omega))
              · intro j hj1 hj2
                exact (by rw [upI_ne (by omega), upI_ne (by omega)] : _ = U1 j).trans (hu1 j (by omega) hj2)
              · intro j hj1 hj2
                exact (by rw [upI_ne (by omega), upI_ne (by omega)] : _ = U2 j).trans (hu2 j (by omega) hj2)
          · refine wp_iconst (v := (nI 1)) dX12_laysRules_179 (by decide +kernel) ?_
            refine wp_goto dX12_laysRules_180 ?_
            refine wp_cS1 0 0 [some _] dX12_laysRules_184 tX12_truth sX12_truth lX12_320 ⟨by decide, by decide⟩ (Nat.le_of_ble_eq_true rfl) (Nat.le_of_ble_eq_true rfl) rfl ?_
            refine pX12_truth1 ?_
            intro _ _
            refine wp_iload_n dX12_laysRules_187 rfl rfl ?_
            refine wp_ishl dX12_laysRules_188 ?_
            refine wp_ior dX12_laysRules_189 ?_
            refine wp_iastN dX12_laysRules_190 (mA_rights mc10.1) rfl ⟨by omega, by decide⟩ ?_
            refine sealAI eI173_10 (fun hh14 f14 e14 => ?_)
            have mc14 := mc10.fr f14 (by decide) (by decide) (by decide) (by decide) (by decide)
            have nx14 := nx10.fr f14 (by decide) (by decide)
            have rq14 := rq10.fr f14 (by decide) (by decide)
            have eI174_14 := (f14.Ir (by decide) (by decide)).trans eI174_10
            refine wp_aload_n dX12_laysRules_191 rfl rfl ?_
            refine wp_getR dX12_laysRules_192 lX12_79 rfl (mO mc14.1) (mR_wrongs mc14.1) ?_
            refine wp_iload dX12_laysRules_195 rfl ?_
            refine wp_dup2 dX12_laysRules_197 rfl rfl ?_
            refine wp_ialdV dX12_laysRules_198 (mA_wrongs mc14.1) rfl ⟨by omega, by decide⟩ ((congrFun eI174_14 _).trans (upI_at _ _ _)) ?_
            refine wp_iload dX12_laysRules_199 rfl ?_
            refine wp_iconst (v := (nI 2)) dX12_laysRules_201 (by decide +kernel) ?_
            refine wp_icmp_neN dX12_laysRules_202 rfl rfl ⟨by first | omega | (have := tryV_le (r := r) (pa := pa) (my := my) (f := f) (p := p) (far := itm (kI (K i) 0)) (near := itm (kI (K i) 1)) (sec := itm (kI (K i) 2)) (stop := itm (kI (K i) 3)); omega), by omega⟩ (fun c8 => ?_) (fun c8 => ?_)
            · refine wp_iconst (v := (nI 0)) dX12_laysRules_209 (by decide +kernel) ?_
              refine wp_cS1 0 0 [some _] dX12_laysRules_210 tX12_truth sX12_truth lX12_320 ⟨by decide, by decide⟩ (Nat.le_of_ble_eq_true rfl) (Nat.le_of_ble_eq_true rfl) rfl ?_
              refine pX12_truth0 ?_
              intro _ _
              refine wp_iload_n dX12_laysRules_213 rfl rfl ?_
              refine wp_ishl dX12_laysRules_214 ?_
              refine wp_ior dX12_laysRules_215 ?_
              refine wp_iastN dX12_laysRules_216 (mA_wrongs mc14.1) rfl ⟨by omega, by decide⟩ ?_
              refine sealAI eI174_14 (fun hh15 f15 e15 => ?_)
              have mc15 := mc14.fr f15 (by decide) (by decide) (by decide) (by decide) (by decide)
              have nx15 := nx14.fr f15 (by decide) (by decide)
              have rq15 := rq14.fr f15 (by decide) (by decide)
              have eI173_15 := (f15.Ir (by decide) (by decide)).trans e14
              refine wp_iinc1 (ls1 := [_, _, _, _, some _, _]) dX12_laysRules_217 rfl (by decide) rfl ?_
              refine wp_goto dX12_laysRules_220 ?_
              refine ih (i + 1) _ _ _ _ (by omega) mc15 nx15 rq15 ((((((hf1.up (by decide) (by decide)).tr (f8.up (by decide) (by decide))).tr (f9.up (by decide) (by decide))).tr (f10.up (by decide) (by decide))).tr (f14.up (by decide) (by decide))).tr (f15.up (by decide) (by decide))) eI173_15 e15 ?_ ?_ ?_ ?_ (by omega)
              · intro j hj
                by_cases z : j = i
                · subst z
                  exact (upI_at _ _ _).trans (by rw [tvm_s]; rw [tvm_0 p (fun q hq => mn9 q (by omega))]; first | rw [if_pos ⟨hSp, by assumption⟩, nx_shl1 (by omega), nx_or] | rw [if_neg (fun z9 => absurd z9.2 (by assumption)), nx_shl0 (by omega), nx_or])
                · exact (by rw [upI_ne (by omega), upI_ne (by omega)] : _ = U1 j).trans (hd1 j (by omega))
              · intro j hj
                by_cases z : j = i
                · subst z
                  exact (upI_at _ _ _).trans (by rw [tvm_s]; rw [tvm_0 p (fun q hq => mn9 q (by omega))]; first | rw [if_pos ⟨hSp, by assumption⟩, nx_shl1 (by omega), nx_or] | rw [if_neg (fun z9 => absurd z9.2 (by assumption)), nx_shl0 (by omega), nx_or])
                · exact (by rw [upI_ne (by omega), upI_ne (by omega)] : _ = U2 j).trans (hd2 j (by omega))
              · intro j hj1 hj2
                exact (by rw [upI_ne (by omega), upI_ne (by omega)] : _ = U1 j).trans (hu1 j (by omega) hj2)
              · intro j hj1 hj2
                exact (by rw [upI_ne (by omega), upI_ne (by omega)] : _ = U2 j).trans (hu2 j (by omega) hj2)
            · refine wp_iconst (v := (nI 1)) dX12_laysRules_205 (by decide +kernel) ?_
              refine wp_goto dX12_laysRules_206 ?_
              refine wp_cS1 0 0 [some _] dX12_laysRules_210 tX12_truth sX12_truth lX12_320 ⟨by decide, by decide⟩ (Nat.le_of_ble_eq_true rfl) (Nat.le_of_ble_eq_true rfl) rfl ?_
              refine pX12_truth1 ?_
              intro _ _
              refine wp_iload_n dX12_laysRules_213 rfl rfl ?_
              refine wp_ishl dX12_laysRules_214 ?_
              refine wp_ior dX12_laysRules_215 ?_
              refine wp_iastN dX12_laysRules_216 (mA_wrongs mc14.1) rfl ⟨by omega, by decide⟩ ?_
              refine sealAI eI174_14 (fun hh16 f16 e16 => ?_)
              have mc16 := mc14.fr f16 (by decide) (by decide) (by decide) (by decide) (by decide)
              have nx16 := nx14.fr f16 (by decide) (by decide)
              have rq16 := rq14.fr f16 (by decide) (by decide)
              have eI173_16 := (f16.Ir (by decide) (by decide)).trans e14
              refine wp_iinc1 (ls1 := [_, _, _, _, some _, _]) dX12_laysRules_217 rfl (by decide) rfl ?_
              refine wp_goto dX12_laysRules_220 ?_
              refine ih (i + 1) _ _ _ _ (by omega) mc16 nx16 rq16 ((((((hf1.up (by decide) (by decide)).tr (f8.up (by decide) (by decide))).tr (f9.up (by decide) (by decide))).tr (f10.up (by decide) (by decide))).tr (f14.up (by decide) (by decide))).tr (f16.up (by decide) (by decide))) eI173_16 e16 ?_ ?_ ?_ ?_ (by omega)
              · intro j hj
                by_cases z : j = i
                · subst z
                  exact (upI_at _ _ _).trans (by rw [tvm_s]; rw [tvm_0 p (fun q hq => mn9 q (by omega))]; first | rw [if_pos ⟨hSp, by assumption⟩, nx_shl1 (by omega), nx_or] | rw [if_neg (fun z9 => absurd z9.2 (by assumption)), nx_shl0 (by omega), nx_or])
                · exact (by rw [upI_ne (by omega), upI_ne (by omega)] : _ = U1 j).trans (hd1 j (by omega))
              · intro j hj
                by_cases z : j = i
                · subst z
                  exact (upI_at _ _ _).trans (by rw [tvm_s]; rw [tvm_0 p (fun q hq => mn9 q (by omega))]; first | rw [if_pos ⟨hSp, by assumption⟩, nx_shl1 (by omega), nx_or] | rw [if_neg (fun z9 => absurd z9.2 (by assumption)), nx_shl0 (by omega), nx_or])
                · exact (by rw [upI_ne (by omega), upI_ne (by omega)] : _ = U2 j).trans (hd2 j (by omega))
              · intro j hj1 hj2
                exact (by rw [upI_ne (by omega), upI_ne (by omega)] : _ = U1 j).trans (hu1 j (by omega) hj2)
              · intro j hj1 hj2
                exact (by rw [upI_ne (by omega), upI_ne (by omega)] : _ = U2 j).trans (hu2 j (by omega) hj2)
  exact hloop (n + 1) 0 x5 h _ _ (by omega) hc nx q mFr.rf rfl rfl (fun j hj => by omega) (fun j hj => by omega) (fun j _ _ => rfl) (fun j _ _ => rfl) (by omega)
set_option maxRecDepth 20000 in
theorem lay_out {h : mH} {Q : Option Value → mH → Prop} {r : Nat → Int64} {F : Nat} {pa my : Nat → Int32} {B : Nat → Nat → Prop} {n f S : Nat} {K O T : Nat → Nat} {x4 x5 : Option Value} (hc : mC h r F pa my) (hd : sOK r F pa my) (nx : numX r h) (q : rul h B n K O T) (hn : n < 12000) (hf : f < F) (hS64 : S < 64) (hSP : ∀ p, S.testBit p = true → p < rP r ∧ 0 < rM r f p) (K9 : ∀ h', mFr (mP [32, 35] [167, 168, 169, 170, 173, 174]) h h' → rul h' B n K O T → ((∃ q, q < 6 ∧ S.testBit q = true) → ∀ i, i < n → hI h' 173 i = nI (tvm r pa my f S 1 (K i) 6) ∧ hI h' 174 i = nI (tvm r pa my f S 2 (K i) 6)) → Q none h') : Wp mX12_laysRules 6 153 60 [some (.ref 153), some (.int (nI f)), some (.int (nI S)), some (.int (nI 0)), x4, x5] [] h Q := by
  have hF4 := hd.f4
  have hP6 := hd.w.1.2
  have hloop : ∀  (t : Nat) (p : Nat) (x4 : Option Value) (x5 : Option Value) (h1 : mH), (p ≤ 6) → (mC h1 r F pa my) → (numX r h1) → (rul h1 B n K O T) → (mFr (mP [32, 35] [167, 168, 169, 170, 173, 174]) h h1) → ((∃ q, q < p ∧ S.testBit q = true) → ∀ i, i < n → hI h1 173 i = nI (tvm r pa my f S 1 (K i) p) ∧ hI h1 174 i = nI (tvm r pa my f S 2 (K i) p)) → (6 < p + t) → Wp mX12_laysRules 6 153 60 [some (.ref 153), some (.int (nI f)), some (.int (nI S)), some (.int (nI p)), x4, x5] [] h1 Q := by
    intro t
    induction t with
    | zero => intros; omega
    | succ t ih =>
      intro p x4 x5 h1 hp6 hc1 nx1 q1 hf1 hval hmz
      refine wp_iload_n dX12_laysRules_60 rfl rfl ?_
      refine wp_bipush (v := (nI 6)) dX12_laysRules_61 (by decide +kernel) ?_
      refine wp_icmp_geN dX12_laysRules_63 rfl rfl ⟨by omega, by omega⟩ (fun c1 => ?_) (fun c1 => ?_)
      · refine wp_vreturn dX12_laysRules_229 rfl ?_
        have e9 : p = 6 := by omega
        subst e9
        exact K9 _ hf1 q1 hval
      · refine wp_iload_n dX12_laysRules_66 rfl rfl ?_
        refine wp_iload_n dX12_laysRules_67 rfl rfl ?_
        refine wp_cS2 0 0 [some _, some _] dX12_laysRules_68 tX12_isOf sX12_isOf lX12_394 ⟨by decide, by decide⟩ (Nat.le_of_ble_eq_true rfl) (Nat.le_of_ble_eq_true rfl) rfl ?_
        refine pX12_isOf hS64 (by omega) (fun o1 => ?_) (fun o1 => ?_)
        · intro _ _
          refine wp_if_ne dX12_laysRules_71 (fun _ => ?_) (fun q => absurd q (by decide +kernel))
          refine wp_iconst (v := (nI 0)) dX12_laysRules_77 (by decide +kernel) ?_
          refine wp_istore (ls1 := [_, _, _, _, some _, _]) dX12_laysRules_78 (by decide) rfl ?_
          refine lay_in hc1 hd nx1 q1 hn hf hS64 hSP (by omega) o1 hval (fun x2 hh2 f2 mc2 nx2 rq2 hv2 => ?_)
          refine wp_iinc1 (ls1 := [_, _, _, some _, _, _]) dX12_laysRules_223 rfl (by decide) rfl ?_
          refine wp_goto dX12_laysRules_226 ?_
          exact ih (p + 1) _ _ _ (by omega) mc2 nx2 rq2 ((hf1.up (by decide) (by decide)).tr (f2.up (by decide) (by decide))) (fun _ => hv2) (by omega)
        · intro _ _
          refine wp_if_ne dX12_laysRules_71 (fun q => absurd q (by decide +kernel)) (fun _ => ?_)
          refine wp_goto dX12_laysRules_74 ?_
          refine wp_iinc1 (ls1 := [_, _, _, some _, _, _]) dX12_laysRules_223 rfl (by decide) rfl ?_
          refine wp_goto dX12_laysRules_226 ?_
          refine ih (p + 1) _ _ _ (by omega) hc1 nx1 q1 (hf1.up (by decide) (by decide)) ?_ (by omega)
          rintro ⟨q9, hq9, oq9⟩ i hi
          rw [tvm_no o1, tvm_no o1]
          refine hval ⟨q9, ?_, oq9⟩ i hi
          rcases Nat.lt_or_eq_of_le (show q9 ≤ p by omega) with z | z
          · exact z
          · rw [z, o1] at oq9; exact absurd oq9 (by decide)
  exact hloop 7 0 x4 x5 h (by omega) hc nx q mFr.rf (fun ⟨q9, hq9, _⟩ => by omega) (by omega)
set_option maxRecDepth 20000 in
theorem lay_come {h : mH} {Q : Option Value → mH → Prop} {r : Nat → Int64} {F : Nat} {pa my : Nat → Int32} {f S : Nat} (hc : mC h r F pa my) (hd : sOK r F pa my) (nx : numX r h) (ru : rulX h (fun _ _ => False) 0) (hf : f < F) (hS64 : S < 64) (hSP : ∀ p, S.testBit p = true → p < rP r ∧ 0 < rM r f p) (K9 : ∀ k n h', mFr (mP [41] [171, 172, 175]) h h' → mC h' r F pa my → numX r h' → rulX h' (fun q x => q < 6 ∧ S.testBit q = true ∧ bNr r pa f q x) n → n ≤ 9594 → Wp mX12_laysRules 6 153 58 [some (.ref 153), some (.int (nI f)), some (.int (nI S)), some (.int (nI k)), none, none] [] h' Q) : Wp mX12_laysRules 6 153 32 [some (.ref 153), some (.int (nI f)), some (.int (nI S)), some (.int (nI 0)), none, none] [] h Q := by
  have hF4 := hd.f4
  have hP6 := hd.w.1.2
  have hloop : ∀  (t : Nat) (p : Nat) (m1 : Nat) (h1 : mH), (p ≤ 6) → (mC h1 r F pa my) → (numX r h1) → (mFr (mP [41] [171, 172, 175]) h h1) → (rulX h1 (fun q x => q < p ∧ S.testBit q = true ∧ bNr r pa f q x) m1) → (m1 ≤ 1599 * p) → (6 < p + t) → Wp mX12_laysRules 6 153 32 [some (.ref 153), some (.int (nI f)), some (.int (nI S)), some (.int (nI p)), none, none] [] h1 Q := by
    intro t
    induction t with
    | zero => intros; omega
    | succ t ih =>
      intro p m1 h1 hp6 hc1 nx1 hf1 ru1 hm1 hmz
      refine wp_iload_n dX12_laysRules_32 rfl rfl ?_
      refine wp_bipush (v := (nI 6)) dX12_laysRules_33 (by decide +kernel) ?_
      refine wp_icmp_geN dX12_laysRules_35 rfl rfl ⟨by omega, by omega⟩ (fun c1 => ?_) (fun c1 => ?_)
      · have e9 : p = 6 := by omega
        subst e9
        exact K9 _ _ _ hf1 hc1 nx1 ru1 (by omega)
      · refine wp_iload_n dX12_laysRules_38 rfl rfl ?_
        refine wp_iload_n dX12_laysRules_39 rfl rfl ?_
        refine wp_cS2 0 0 [some _, some _] dX12_laysRules_40 tX12_isOf sX12_isOf lX12_394 ⟨by decide, by decide⟩ (Nat.le_of_ble_eq_true rfl) (Nat.le_of_ble_eq_true rfl) rfl ?_
        refine pX12_isOf hS64 (by omega) (fun o1 => ?_) (fun o1 => ?_)
        · intro _ _
          refine wp_if_eq dX12_laysRules_43 (fun q => absurd q (by decide +kernel)) (fun _ => ?_)
          refine wp_aload_n dX12_laysRules_46 rfl rfl ?_
          refine wp_iload_n dX12_laysRules_47 rfl rfl ?_
          refine wp_iload_n dX12_laysRules_48 rfl rfl ?_
          refine wp_cV2 5 127 [some _, some _, some _, none, none, none] dX12_laysRules_49 tX12_comesNears rfl (by decide) nX12_comesNears vX12_comesNears lX12_397 ⟨by decide, by decide⟩ (Nat.le_of_ble_eq_true rfl) (mO hc1.1) (Nat.le_of_ble_eq_true rfl) rfl ?_
          refine pX12_comesNears hc1 hd nx1 ru1 hf (hSP p o1).1 (hSP p o1).2 (by omega) (fun hh2 m2 f2 l2 u2 ru2 => ?_)
          intro _ _
          have mc2 := hc1.fr f2 (by decide) (by decide) (by decide) (by decide) (by decide)
          have nx2 := nx1.fr f2 (by decide) (by decide)
          refine wp_iinc1 (ls1 := [_, _, _, some _, _, _]) dX12_laysRules_52 rfl (by decide) rfl ?_
          refine wp_goto dX12_laysRules_55 ?_
          refine ih (p + 1) m2 _ (by omega) mc2 nx2 ((hf1.up (by decide) (by decide)).tr (f2.up (by decide) (by decide))) (ru2.cg ?_) (by omega) (by omega)
          intro q x
          refine ⟨fun z => z.elim (fun w => ⟨by omega, w.2⟩) (fun w => by obtain ⟨w1, w2⟩ := w; subst w1; exact ⟨by omega, o1, w2⟩), fun z => ?_⟩
          by_cases e9 : q = p
          · exact Or.inr ⟨e9, by rw [← e9]; exact z.2.2⟩
          · exact Or.inl ⟨by omega, z.2⟩
        · intro _ _
          refine wp_if_eq dX12_laysRules_43 (fun _ => ?_) (fun q => absurd q (by decide +kernel))
          refine wp_iinc1 (ls1 := [_, _, _, some _, _, _]) dX12_laysRules_52 rfl (by decide) rfl ?_
          refine wp_goto dX12_laysRules_55 ?_
          refine ih (p + 1) m1 _ (by omega) hc1 nx1 (hf1.up (by decide) (by decide)) (ru1.cg ?_) (by omega) (by omega)
          intro q x
          refine ⟨fun z => ⟨by omega, z.2⟩, fun z => ⟨?_, z.2⟩⟩
          by_cases e9 : q = p
          · rw [e9, o1] at z; exact absurd z.2.1 (by decide)
          · omega
  exact hloop 7 0 0 h (by omega) hc nx mFr.rf (ru.cg (fun q x => ⟨False.elim, fun z => absurd z.1 (by omega)⟩)) (by omega) (by omega)
set_option maxRecDepth 20000 in
theorem lay_zero {h : mH} {Q : Option Value → mH → Prop} {f S : Nat} (hs : mS h) (K9 : ∀ k h', mFr (mP [] [175]) h h' → (∀ s, s < 32768 → hI h' 175 s = nI 0) → Wp mX12_laysRules 6 153 30 [some (.ref 153), some (.int (nI f)), some (.int (nI S)), some (.int (nI k)), none, none] [] h' Q) : Wp mX12_laysRules 6 153 11 [some (.ref 153), some (.int (nI f)), some (.int (nI S)), some (.int (nI 0)), none, none] [] h Q := by
  have hloop : ∀  (n : Nat) (k : Nat) (h1 : mH) (U : Nat → Int32), (k ≤ 32768) → (mS h1) → (mFr (mP [] [175]) h h1) → (hI h1 175 = U) → (∀ j, j < k → U j = nI 0) → (32768 < k + n) → Wp mX12_laysRules 6 153 11 [some (.ref 153), some (.int (nI f)), some (.int (nI S)), some (.int (nI k)), none, none] [] h1 Q := by
    intro n
    induction n with
    | zero => intros; omega
    | succ n ih =>
      intro k h1 U hk hs1 hf1 e1 hU hmz
      refine wp_iload_n dX12_laysRules_11 rfl rfl ?_
      refine wp_ldc dX12_laysRules_12 lX12_82 ?_
      rw [show (32768 : Int32) = nI 32768 by decide +kernel]
      refine wp_icmp_geN dX12_laysRules_14 rfl rfl ⟨by omega, by omega⟩ (fun c1 => ?_) (fun c1 => ?_)
      · exact K9 _ _ hf1 (fun s hs => (congrFun e1 s).trans (hU s (by omega)))
      · refine wp_aload_n dX12_laysRules_17 rfl rfl ?_
        refine wp_getR dX12_laysRules_18 lX12_83 rfl (mO hs1) (mR_found hs1) ?_
        refine wp_iload_n dX12_laysRules_21 rfl rfl ?_
        refine wp_iconst (v := (nI 0)) dX12_laysRules_22 (by decide +kernel) ?_
        refine wp_iastN dX12_laysRules_23 (mA_found hs1) rfl ⟨by omega, by decide⟩ ?_
        refine sealAI e1 (fun hh1 f1 e1 => ?_)
        have S1 := f1.s hs1
        refine wp_iinc1 (ls1 := [_, _, _, some _, _, _]) dX12_laysRules_24 rfl (by decide) rfl ?_
        refine wp_goto dX12_laysRules_27 ?_
        refine ih (k + 1) _ _ (by omega) S1 ((hf1.up (by decide) (by decide)).tr (f1.up (by decide) (by decide))) e1 ?_ (by omega)
        intro j hj
        by_cases e9 : j = k
        · subst e9; exact upI_at _ _ _
        · rw [upI_ne e9]; exact hU j (by omega)
  exact hloop 32769 0 h _ (by omega) hs mFr.rf rfl (fun j hj => by omega) (by omega)
/-- rules of a field by the pages of a set are laid -/
def ruL (h : mH) (r : Nat → Int64) (pa my : Nat → Int32) (f S n : Nat) (K O : Nat → Nat) : Prop := hI h 153 41 = nI n ∧ n ≤ 9594 ∧ (∀ i, i < n → (hL h 171 i = lN (K i) ∧ K i < 1099511627776) ∧ (hI h 172 i = nI (O i) ∧ O i < 64) ∧ hI h 173 i = nI (tvm r pa my f S 1 (K i) 6) ∧ hI h 174 i = nI (tvm r pa my f S 2 (K i) 6)) ∧ (∀ i j, i < n → j < n → K i = K j → i = j) ∧ (∀ i, i < n → ∀ p, p < 6 → ((O i).testBit p = true ↔ S.testBit p = true ∧ bNr r pa f p (K i))) ∧ (∀ p, p < 6 → S.testBit p = true → ∀ k, bNr r pa f p k → ∃ i, i < n ∧ K i = k) ∧ ∀ i, i < n → ∃ p, p < 6 ∧ S.testBit p = true ∧ bNr r pa f p (K i)
theorem ruL.fr {h h1 : mH} {r : Nat → Int64} {pa my : Nat → Int32} {f S n : Nat} {K O : Nat → Nat} {F A : List Nat} (q : ruL h r pa my f S n K O) (g : mFr (mP F A) h h1) (q1 : 41 ∉ F) (q2 : 153 ∉ A ∧ 171 ∉ A ∧ 172 ∉ A ∧ 173 ∉ A ∧ 174 ∉ A) : ruL h1 r pa my f S n K O := by
  refine ⟨(g.fI 41 q1 q2.1).trans q.1, q.2.1, ?_, q.2.2.2⟩
  rw [g.Lr (by decide) q2.2.1, g.Ir (by decide) q2.2.2.1, g.Ir (by decide) q2.2.2.2.1, g.Ir (by decide) q2.2.2.2.2]
  exact q.2.2.1
theorem ruL_of {h : mH} {r : Nat → Int64} {pa my : Nat → Int32} {f S n : Nat} {K O T : Nat → Nat} (hn : n ≤ 9594) (q : rul h (fun q x => q < 6 ∧ S.testBit q = true ∧ bNr r pa f q x) n K O T) (hv : (∃ q, q < 6 ∧ S.testBit q = true) → ∀ i, i < n → hI h 173 i = nI (tvm r pa my f S 1 (K i) 6) ∧ hI h 174 i = nI (tvm r pa my f S 2 (K i) 6)) : ruL h r pa my f S n K O := by
  refine ⟨q.1, hn, fun i hi => ⟨q.2.1 i hi, q.2.2.1 i hi, ?_⟩, q.2.2.2.2.2.1, fun i hi p hp => (q.2.2.2.2.2.2.1 i hi p hp).trans ⟨fun z => z.2, fun z => ⟨hp, z⟩⟩, fun p hp hs k hk => q.2.2.2.2.2.2.2.1 p hp k ⟨hp, hs, hk⟩, fun i hi => ?_⟩
  · obtain ⟨p, hp, _, z⟩ := q.2.2.2.2.2.2.2.2 i hi
    exact hv ⟨p, hp, z.1⟩ i hi
  · obtain ⟨p, hp, _, z⟩ := q.2.2.2.2.2.2.2.2 i hi
    exact ⟨p, hp, z⟩
set_option maxRecDepth 20000 in
theorem pX12_laysRules {h : mH} {Q : Option Value → mH → Prop} {r : Nat → Int64} {F : Nat} {pa my : Nat → Int32} {f S : Nat} (hc : mC h r F pa my) (hd : sOK r F pa my) (hf : f < F) (hS64 : S < 64) (hSP : ∀ p, S.testBit p = true → p < rP r ∧ 0 < rM r f p) (hq : ∀ h' n K O, mFr (mP [24, 32, 35, 41] [163, 164, 165, 167, 168, 169, 170, 171, 172, 173, 174, 175]) h h' → numX r h' → ruL h' r pa my f S n K O → Q none h') : Wp mX12_laysRules 6 153 0 [some (.ref 153), some (.int (nI f)), some (.int (nI S)), none, none, none] [] h Q := by
  have hF4 := hd.f4
  have hP6 := hd.w.1.2
  refine wp_aload_n dX12_laysRules_0 rfl rfl ?_
  refine wp_cV0 3 64 [some _, none, none, none, none] dX12_laysRules_1 tX12_laysNumbers rfl (by decide) nX12_laysNumbers vX12_laysNumbers lX12_289 ⟨by decide, by decide⟩ (Nat.le_of_ble_eq_true rfl) (mO hc.1) (Nat.le_of_ble_eq_true rfl) rfl ?_
  refine pX12_laysNumbers' hc hd (fun hh1 f1 nx1 => ?_)
  intro _ _
  have mc1 := hc.fr f1 (by decide) (by decide) (by decide) (by decide) (by decide)
  refine wp_aload_n dX12_laysRules_4 rfl rfl ?_
  refine wp_iconst (v := (nI 0)) dX12_laysRules_5 (by decide +kernel) ?_
  refine wp_putI dX12_laysRules_6 lX12_378 rfl (Or.inl rfl) (mO mc1.1) rfl rfl ?_
  refine sealI (fun hh2 f2 e2 => ?_)
  have mc2 := mc1.fr f2 (by decide) (by decide) (by decide) (by decide) (by decide)
  have nx2 := nx1.fr f2 (by decide) (by decide)
  refine wp_iconst (v := (nI 0)) dX12_laysRules_9 (by decide +kernel) ?_
  refine wp_istore_n (ls1 := [_, _, _, some _, _, _]) dX12_laysRules_10 rfl (by decide) rfl ?_
  refine lay_zero mc2.1 (fun k3 hh3 f3 z3 => ?_)
  have mc3 := mc2.fr f3 (by decide) (by decide) (by decide) (by decide) (by decide)
  have nx3 := nx2.fr f3 (by decide) (by decide)
  have efI41_3 := (f3.fI 41 (by decide) (by decide)).trans e2
  refine wp_iconst (v := (nI 0)) dX12_laysRules_30 (by decide +kernel) ?_
  refine wp_istore_n (ls1 := [_, _, _, some _, _, _]) dX12_laysRules_31 rfl (by decide) rfl ?_
  have ru0 : rulX hh3 (fun _ _ => False) 0 := ⟨fun _ => 0, fun _ => 0, fun _ => 0, efI41_3, fun i hi => by omega, fun i hi => by omega, fun s hs => z3 s hs, hsh_0, fun i j hi => by omega, fun i hi => by omega, fun p hp k hk => hk.elim, fun i hi => by omega⟩
  refine lay_come mc3 hd nx3 ru0 hf hS64 hSP (fun k4 n9 hh4 f4 mc4 nx4 ru4 hn9 => ?_)
  refine wp_iconst (v := (nI 0)) dX12_laysRules_58 (by decide +kernel) ?_
  refine wp_istore_n (ls1 := [_, _, _, some _, _, _]) dX12_laysRules_59 rfl (by decide) rfl ?_
  obtain ⟨K, O, T, q9⟩ := ru4
  refine lay_out mc4 hd nx4 q9 (by omega) hf hS64 hSP (fun hh5 f5 q8 hv9 => ?_)
  exact hq _ n9 K O (((((f1.up (by decide) (by decide)).tr (f2.up (by decide) (by decide))).tr (f3.up (by decide) (by decide))).tr (f4.up (by decide) (by decide))).tr (f5.up (by decide) (by decide))) (nx4.fr f5 (by decide) (by decide)) (ruL_of hn9 q8 hv9)
