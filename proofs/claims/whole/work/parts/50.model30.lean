/-! ===== the least cover ===== -/
theorem itm_s (d : Nat) : itm (d + 1) = nI d := by
  unfold itm
  rw [if_neg (by omega)]
  rfl
theorem itm_m (d : Nat) : nI d + (-1) = itm d := by
  cases d with
  | zero => decide +kernel
  | succ d => rw [pk_m1, itm_s]
/-- rows of what is done already -/
def dpR (T1 T2 T3 : Nat → Int32) (B : Nat → Option Nat) (D : Nat → Nat × Nat × Nat) (g d0 : Nat) : Prop := ∀ d, d0 ≤ d → d < 64 → d &&& (63 - g) = 0 → T1 d = nI (D d).1 ∧ T2 d = nI (D d).2.1 ∧ (d ≠ g → T3 d = nI (D d).2.2) ∧ (D d).1 ≤ 64 - d ∧ (D d).2.1 ≤ 256 * (64 - d) ∧ (d = g → D d = (0, 0, 0)) ∧ (d ≠ g → cvG B (fun k => D (d ||| k)) (lb (g &&& (63 - d))) 64 = some (D d))
theorem ls_facts {g d : Nat} (hg : g < 64) (hd : d < 64) (hs : d &&& (63 - g) = 0) (hne : d ≠ g) : g &&& (63 - d) ≠ 0 := by
  intro e
  apply hne
  apply Nat.eq_of_testBit_eq
  intro p
  cases c : d.testBit p with
  | true => exact (sub_tb hg hs hd c).symm
  | false =>
    cases c2 : g.testBit p with
    | false => rfl
    | true =>
      refine absurd e (and_ne.mpr ⟨p, c2, ?_⟩)
      rw [tb_not hd, decide_eq_true (tb6 hg c2), c]
      rfl
theorem ls_tb {g d p : Nat} (hd : d < 64) (h : (g &&& (63 - d)).testBit p = true) : g.testBit p = true ∧ d.testBit p = false := by
  rw [Nat.testBit_and, Bool.and_eq_true, tb_not hd, Bool.and_eq_true] at h
  exact ⟨h.1, by simpa using h.2.2⟩
theorem and63 {g d : Nat} (hg : g < 64) : g &&& (63 - d) < 64 := Nat.lt_of_le_of_lt Nat.and_le_left hg
/-- what holds of a set of a best rule -/
theorem bk_facts {B : Nat → Option Nat} {d k key l : Nat} (hk : k < 64) (hd : d < 64) (hB : B k = some key) (hs : d &&& (63 - goN B 64) = 0) (hdl : d.testBit l = false) (hl : k.testBit l = true) : d < d ||| k ∧ d ||| k < 64 ∧ (d ||| k) &&& (63 - goN B 64) = 0 := by
  refine ⟨or_gt hdl hl, lt64_or hd hk, sub_of (goN_lt 64 (by omega)) (fun p hp => ?_)⟩
  rw [Nat.testBit_or, Bool.or_eq_true] at hp
  rcases hp with hp | hp
  · exact sub_tb (goN_lt 64 (by omega)) hs hd hp
  · exact (goN_tb 64 p).mpr ⟨k, hk, by rw [hB]; exact Option.some_ne_none _, hp⟩
/-- a row of a cover -/
def cvR (h : mH) (n : Nat) (K : Nat → Nat) (L : List Nat) : Prop := hI h 153 47 = nI L.length ∧ L.length ≤ 6 ∧ ∀ j, j < L.length → ∃ x, x < n ∧ hI h 180 j = nI x ∧ K x = L.getD j 0
theorem cvR.fr {h h1 : mH} {n : Nat} {K : Nat → Nat} {L : List Nat} {F A : List Nat} (q : cvR h n K L) (g : mFr (mP F A) h h1) (q1 : 47 ∉ F) (q2 : 153 ∉ A ∧ 180 ∉ A) : cvR h1 n K L := by
  refine ⟨(g.fI 47 q1 q2.1).trans q.1, q.2.1, ?_⟩
  rw [g.Ir (by decide) q2.2]
  exact q.2.2
set_option maxRecDepth 20000 in
theorem cover_goal {h : mH} {Q : Option Value → mH → Prop} {n s : Nat} {K : Nat → Nat} {B : Nat → Option Nat} (hs : mS h) (bs : bsR h n K B) (hn9 : n ≤ 9594) (K9 : Wp mX12_laysCover 2 47 35 [some (.ref 153), some (.int (nI s)), some (.int (nI (goN B 64))), some (.int (nI 64)), none, none] [] h Q) : Wp mX12_laysCover 2 47 9 [some (.ref 153), some (.int (nI s)), some (.int (nI 0)), some (.int (nI 0)), none, none] [] h Q := by
  have hloop : ∀  (t : Nat) (k : Nat), (k ≤ 64) → (64 < k + t) → Wp mX12_laysCover 2 47 9 [some (.ref 153), some (.int (nI s)), some (.int (nI (goN B k))), some (.int (nI k)), none, none] [] h Q := by
    intro t
    induction t with
    | zero => intros; omega
    | succ t ih =>
      intro k hk hmz
      refine wp_iload_n dX12_laysCover_9 rfl rfl ?_
      refine wp_bipush (v := (nI 64)) dX12_laysCover_10 (by decide +kernel) ?_
      refine wp_icmp_geN dX12_laysCover_12 rfl rfl ⟨by omega, by omega⟩ (fun c1 => ?_) (fun c1 => ?_)
      · have e9 : k = 64 := by omega
        subst e9
        exact K9
      · refine wp_aload_n dX12_laysCover_15 rfl rfl ?_
        refine wp_getR dX12_laysCover_16 lX12_86 rfl (mO hs) (mR_bestRule hs) ?_
        refine wp_iload_n dX12_laysCover_19 rfl rfl ?_
        refine wp_ialdV dX12_laysCover_20 (mA_bestRule hs) rfl ⟨by omega, by decide⟩ (rfl : hI h 176 k = hI h 176 k) ?_
        rcases bs k (by omega) with ⟨e1, e2⟩ | ⟨i, hi, e1, e2⟩
        · rw [e2]
          refine wp_iconst (v := (-1)) dX12_laysCover_21 (by decide +kernel) ?_
          refine wp_icmp_eq dX12_laysCover_22 (fun _ => ?_) (fun q => absurd (by decide +kernel) q)
          refine wp_iinc1 (ls1 := [_, _, _, some _, _, _]) dX12_laysCover_29 rfl (by decide) rfl ?_
          refine wp_goto dX12_laysCover_32 ?_
          rw [show goN B k = goN B (k + 1) from (by show _ = goN B k ||| _; rw [if_pos e1, Nat.or_zero])]
          exact ih (k + 1) (by omega) (by omega)
        · rw [e2]
          refine wp_iconst (v := (-1)) dX12_laysCover_21 (by decide +kernel) ?_
          refine wp_icmp_eq dX12_laysCover_22 (fun q => absurd q (nI_ne_m1 (by omega))) (fun _ => ?_)
          refine wp_iload_n dX12_laysCover_25 rfl rfl ?_
          refine wp_iload_n dX12_laysCover_26 rfl rfl ?_
          refine wp_ior dX12_laysCover_27 ?_
          rw [nx_or]
          refine wp_istore_n (ls1 := [_, _, some _, _, _, _]) dX12_laysCover_28 rfl (by decide) rfl ?_
          refine wp_iinc1 (ls1 := [_, _, _, some _, _, _]) dX12_laysCover_29 rfl (by decide) rfl ?_
          refine wp_goto dX12_laysCover_32 ?_
          rw [show goN B k ||| k = goN B (k + 1) from (by show _ = goN B k ||| _; rw [if_neg (by rw [e1]; exact fun z => by cases z)])]
          exact ih (k + 1) (by omega) (by omega)
  exact hloop 65 0 (by omega) (by omega)
set_option maxRecDepth 20000 in
theorem cover_in {h : mH} {Q : Option Value → mH → Prop} {r : Nat → Int64} {pa my : Nat → Int32} {f S n s : Nat} {K O : Nat → Nat} {B : Nat → Option Nat} {d l : Nat} {D : Nat → Nat × Nat × Nat} {T1 T2 T3 : Nat → Int32} (hs : mS h) (rl : ruL h r pa my f S n K O) (bs : bsR h n K B) (hd : d < 64) (hl6 : l < 6) (hds : d &&& (63 - (goN B 64)) = 0) (hdl : d.testBit l = false) (e1 : hI h 177 = T1) (e2 : hI h 178 = T2) (e3 : hI h 179 = T3) (dp : dpR T1 T2 T3 B D (goN B 64) (d + 1)) (h0 : T1 d = -1) (K9 : ∀ h1 T1 T2 T3 cur, mFr (mP [] [177, 178, 179]) h h1 → mS h1 → ruL h1 r pa my f S n K O → bsR h1 n K B → hI h1 177 = T1 → hI h1 178 = T2 → hI h1 179 = T3 → dpR T1 T2 T3 B D (goN B 64) (d + 1) → cvG B (fun k => D (d ||| k)) l 64 = cur → curR T1 T2 T3 B d cur → Wp mX12_laysCover 2 47 207 [some (.ref 153), some (.int (nI s)), some (.int (nI (goN B 64))), some (.int (nI d)), some (.int (nI l)), some (.int (nI 64))] [] h1 Q) : Wp mX12_laysCover 2 47 103 [some (.ref 153), some (.int (nI s)), some (.int (nI (goN B 64))), some (.int (nI d)), some (.int (nI l)), some (.int (nI 0))] [] h Q := by
  have hloop : ∀  (t : Nat) (k : Nat) (h1 : mH) (T1 : Nat → Int32) (T2 : Nat → Int32) (T3 : Nat → Int32) (cur : Option (Nat × Nat × Nat)), (k ≤ 64) → (mS h1) → (ruL h1 r pa my f S n K O) → (bsR h1 n K B) → (mFr (mP [] [177, 178, 179]) h h1) → (hI h1 177 = T1) → (hI h1 178 = T2) → (hI h1 179 = T3) → (dpR T1 T2 T3 B D (goN B 64) (d + 1)) → (cvG B (fun k => D (d ||| k)) l k = cur) → (curR T1 T2 T3 B d cur) → (64 < k + t) → Wp mX12_laysCover 2 47 103 [some (.ref 153), some (.int (nI s)), some (.int (nI (goN B 64))), some (.int (nI d)), some (.int (nI l)), some (.int (nI k))] [] h1 Q := by
    intro t
    induction t with
    | zero => intros; omega
    | succ t ih =>
      intro k h1 T1 T2 T3 cur hk hs1 rl1 bs1 hf1 eT1 eT2 eT3 dp hcv hcur hmz
      have hn9 := rl1.2.1
      refine wp_iload dX12_laysCover_103 rfl ?_
      refine wp_bipush (v := (nI 64)) dX12_laysCover_105 (by decide +kernel) ?_
      refine wp_icmp_geN dX12_laysCover_107 rfl rfl ⟨by omega, by omega⟩ (fun c1 => ?_) (fun c1 => ?_)
      · have e9 : k = 64 := by omega
        subst e9
        exact K9 _ _ _ _ _ hf1 hs1 rl1 bs1 eT1 eT2 eT3 dp hcv hcur
      · refine wp_iload dX12_laysCover_110 rfl ?_
        refine wp_iload dX12_laysCover_112 rfl ?_
        refine wp_cS2 0 0 [some _, some _] dX12_laysCover_114 tX12_isOf sX12_isOf lX12_394 ⟨by decide, by decide⟩ (Nat.le_of_ble_eq_true rfl) (Nat.le_of_ble_eq_true rfl) rfl ?_
        refine pX12_isOf (by omega) (by omega) (fun o1 => ?_) (fun o1 => ?_)
        · intro _ _
          refine wp_if_eq dX12_laysCover_117 (fun q => absurd q (by decide +kernel)) (fun _ => ?_)
          refine wp_aload_n dX12_laysCover_120 rfl rfl ?_
          refine wp_getR dX12_laysCover_121 lX12_86 rfl (mO hs1) (mR_bestRule hs1) ?_
          refine wp_iload dX12_laysCover_124 rfl ?_
          refine wp_ialdV dX12_laysCover_126 (mA_bestRule hs1) rfl ⟨by omega, by decide⟩ (rfl : hI h1 176 k = _) ?_
          rcases bs1 k (by omega) with ⟨nb, eb⟩ | ⟨i9, hi9, nb, eb⟩
          · rw [eb]
            refine wp_iconst (v := (-1)) dX12_laysCover_127 (by decide +kernel) ?_
            refine wp_icmp_eq dX12_laysCover_128 (fun _ => ?_) (fun q => absurd (by decide +kernel) q)
            refine wp_iinc1 (ls1 := [_, _, _, _, _, some _]) dX12_laysCover_201 rfl (by decide) rfl ?_
            refine wp_goto dX12_laysCover_204 ?_
            refine ih (k + 1) _ T1 T2 T3 cur (by omega) hs1 rl1 bs1 (hf1.up (by decide) (by decide)) eT1 eT2 eT3 ?_ ?_ ?_ (by omega)
            · exact dp
            · rw [cvG_no (Or.inl nb)]; exact hcv
            · exact hcur
          · rw [eb]
            refine wp_iconst (v := (-1)) dX12_laysCover_127 (by decide +kernel) ?_
            refine wp_icmp_eq dX12_laysCover_128 (fun q => absurd q (nI_ne_m1 (by omega))) (fun _ => ?_)
            have hk2 := bk_facts (by omega) (by omega) nb hds hdl o1
            refine wp_aload_n dX12_laysCover_131 rfl rfl ?_
            refine wp_iload_n dX12_laysCover_132 rfl rfl ?_
            refine wp_iload dX12_laysCover_133 rfl ?_
            refine wp_iload_n dX12_laysCover_135 rfl rfl ?_
            refine wp_cV3 1 21 [some _, some _, some _, some _, none, none, none] dX12_laysCover_136 tX12_isLess rfl (by decide) nX12_isLess vX12_isLess lX12_422 ⟨by decide, by decide⟩ (Nat.le_of_ble_eq_true rfl) (mO hs1) (Nat.le_of_ble_eq_true rfl) rfl ?_
            refine pX12_isLess (B := B) (cur := cur) hs1 rl1 (by omega) (by omega) hi9 eb ((congrFun eT1 _).trans (dp _ (by omega) hk2.2.1 hk2.2.2).1) ((congrFun eT2 _).trans (dp _ (by omega) hk2.2.1 hk2.2.2).2.1) (by have := (dp _ (by omega) hk2.2.1 hk2.2.2).2.2.2.1; omega) (by have := (dp _ (by omega) hk2.2.1 hk2.2.2).2.2.2.2.1; omega) bs1 (by rw [eT1, eT2, eT3]; exact hcur) (fun b2 => ?_) (fun b2 => ?_)
            · intro _ _
              refine wp_if_ne dX12_laysCover_139 (fun _ => ?_) (fun q => absurd q (by decide +kernel))
              refine wp_aload_n dX12_laysCover_145 rfl rfl ?_
              refine wp_getR dX12_laysCover_146 lX12_89 rfl (mO hs1) (mR_bestMany hs1) ?_
              refine wp_iload_n dX12_laysCover_149 rfl rfl ?_
              refine wp_iconst (v := (nI 1)) dX12_laysCover_150 (by decide +kernel) ?_
              refine wp_aload_n dX12_laysCover_151 rfl rfl ?_
              refine wp_getR dX12_laysCover_152 lX12_89 rfl (mO hs1) (mR_bestMany hs1) ?_
              refine wp_iload_n dX12_laysCover_155 rfl rfl ?_
              refine wp_iload dX12_laysCover_156 rfl ?_
              refine wp_ior dX12_laysCover_158 ?_
              rw [nx_or]
              refine wp_ialdV dX12_laysCover_159 (mA_bestMany hs1) rfl ⟨by omega, by decide⟩ ((congrFun eT1 _).trans (dp _ (by omega) hk2.2.1 hk2.2.2).1) ?_
              refine wp_iadd dX12_laysCover_160 ?_
              refine wp_iastN dX12_laysCover_161 (mA_bestMany hs1) rfl ⟨by omega, by decide⟩ ?_
              refine sealAI eT1 (fun hh3 f3 e3 => ?_)
              have S3 := f3.s hs1
              have rl3 := rl1.fr f3 (by decide) (by decide)
              have bs3 := bs1.fr f3 (by decide) (by decide)
              have eI178_3 := (f3.Ir (by decide) (by decide)).trans eT2
              have eI179_3 := (f3.Ir (by decide) (by decide)).trans eT3
              have eI176_3 := (f3.Ir (by decide) (by decide)).trans (rfl : hI h1 176 = hI h1 176)
              refine wp_aload_n dX12_laysCover_162 rfl rfl ?_
              refine wp_getR dX12_laysCover_163 lX12_92 rfl (mO S3) (mR_bestCost S3) ?_
              refine wp_iload_n dX12_laysCover_166 rfl rfl ?_
              refine wp_aload_n dX12_laysCover_167 rfl rfl ?_
              refine wp_getR dX12_laysCover_168 lX12_70 rfl (mO S3) (mR_key S3) ?_
              refine wp_aload_n dX12_laysCover_171 rfl rfl ?_
              refine wp_getR dX12_laysCover_172 lX12_86 rfl (mO S3) (mR_bestRule S3) ?_
              refine wp_iload dX12_laysCover_175 rfl ?_
              refine wp_ialdV dX12_laysCover_177 (mA_bestRule S3) rfl ⟨by omega, by decide⟩ ((congrFun (eI176_3) k).trans eb) ?_
              refine wp_laldV dX12_laysCover_178 (mA_key S3) rfl ⟨by have := rl3.2.1; omega, by decide⟩ (rl3.2.2.1 i9 (by omega)).1.1 ?_
              refine wp_cS1 0 0 [some _, none] dX12_laysCover_179 tX12_costOfKey sX12_costOfKey lX12_413 ⟨by decide, by decide⟩ (Nat.le_of_ble_eq_true rfl) (Nat.le_of_ble_eq_true rfl) rfl ?_
              refine pX12_costOfKey (rl3.2.2.1 i9 hi9).1.2 ?_
              intro _ _
              refine wp_aload_n dX12_laysCover_182 rfl rfl ?_
              refine wp_getR dX12_laysCover_183 lX12_92 rfl (mO S3) (mR_bestCost S3) ?_
              refine wp_iload_n dX12_laysCover_186 rfl rfl ?_
              refine wp_iload dX12_laysCover_187 rfl ?_
              refine wp_ior dX12_laysCover_189 ?_
              rw [nx_or]
              refine wp_ialdV dX12_laysCover_190 (mA_bestCost S3) rfl ⟨by omega, by decide⟩ ((congrFun eI178_3 _).trans (dp _ (by omega) hk2.2.1 hk2.2.2).2.1) ?_
              refine wp_iadd dX12_laysCover_191 ?_
              refine wp_iastN dX12_laysCover_192 (mA_bestCost S3) rfl ⟨by omega, by decide⟩ ?_
              refine sealAI eI178_3 (fun hh4 f4 e4 => ?_)
              have S4 := f4.s S3
              have rl4 := rl3.fr f4 (by decide) (by decide)
              have bs4 := bs3.fr f4 (by decide) (by decide)
              have eI179_4 := (f4.Ir (by decide) (by decide)).trans eI179_3
              have eI176_4 := (f4.Ir (by decide) (by decide)).trans eI176_3
              have eI177_4 := (f4.Ir (by decide) (by decide)).trans e3
              refine wp_aload_n dX12_laysCover_193 rfl rfl ?_
              refine wp_getR dX12_laysCover_194 lX12_95 rfl (mO S4) (mR_next S4) ?_
              refine wp_iload_n dX12_laysCover_197 rfl rfl ?_
              refine wp_iload dX12_laysCover_198 rfl ?_
              refine wp_iastN dX12_laysCover_200 (mA_next S4) rfl ⟨by omega, by decide⟩ ?_
              refine sealAI eI179_4 (fun hh5 f5 e5 => ?_)
              have S5 := f5.s S4
              have rl5 := rl4.fr f5 (by decide) (by decide)
              have bs5 := bs4.fr f5 (by decide) (by decide)
              have eI176_5 := (f5.Ir (by decide) (by decide)).trans eI176_4
              have eI177_5 := (f5.Ir (by decide) (by decide)).trans eI177_4
              have eI178_5 := (f5.Ir (by decide) (by decide)).trans e4
              refine wp_iinc1 (ls1 := [_, _, _, _, _, some _]) dX12_laysCover_201 rfl (by decide) rfl ?_
              refine wp_goto dX12_laysCover_204 ?_
              refine ih (k + 1) _ _ _ _ (some (cvC (D (d ||| k)) k (K i9))) (by omega) S5 rl5 bs5 ((((hf1.up (by decide) (by decide)).tr (f3.up (by decide) (by decide))).tr (f4.up (by decide) (by decide))).tr (f5.up (by decide) (by decide))) eI177_5 eI178_5 e5 ?_ ?_ ?_ (by omega)
              · intro d9 h1 h2 h3
                rw [upI_ne (by omega), upI_ne (by omega), upI_ne (by omega)]
                exact dp d9 h1 h2 h3
              · rw [cvG_s nb o1, if_pos (by rw [hcv]; exact b2)]
              · have h9 := (rl5.2.2.1 i9 hi9).1.2
                have h8 := dp _ (by omega) hk2.2.1 hk2.2.2
                refine ⟨(upI_at _ _ _).trans (nI_add _ _), (upI_at _ _ _).trans (nI_add _ _), upI_at _ _ _, ?_, ?_, by show k < 64; omega, K i9, nb⟩
                · show 1 + (D (d ||| k)).1 ≤ 65; omega
                · show K i9 / 4294967296 + (D (d ||| k)).2.1 ≤ 20000; omega
            · intro _ _
              refine wp_if_ne dX12_laysCover_139 (fun q => absurd q (by decide +kernel)) (fun _ => ?_)
              refine wp_goto dX12_laysCover_142 ?_
              refine wp_iinc1 (ls1 := [_, _, _, _, _, some _]) dX12_laysCover_201 rfl (by decide) rfl ?_
              refine wp_goto dX12_laysCover_204 ?_
              refine ih (k + 1) _ T1 T2 T3 cur (by omega) hs1 rl1 bs1 (hf1.up (by decide) (by decide)) eT1 eT2 eT3 ?_ ?_ ?_ (by omega)
              · exact dp
              · rw [cvG_s nb o1, if_neg (by rw [hcv]; intro z9; exact Bool.noConfusion (b2.symm.trans z9))]; exact hcv
              · exact hcur
        · intro _ _
          refine wp_if_eq dX12_laysCover_117 (fun _ => ?_) (fun q => absurd q (by decide +kernel))
          refine wp_iinc1 (ls1 := [_, _, _, _, _, some _]) dX12_laysCover_201 rfl (by decide) rfl ?_
          refine wp_goto dX12_laysCover_204 ?_
          refine ih (k + 1) _ T1 T2 T3 cur (by omega) hs1 rl1 bs1 (hf1.up (by decide) (by decide)) eT1 eT2 eT3 ?_ ?_ ?_ (by omega)
          · exact dp
          · rw [cvG_no (Or.inr o1)]; exact hcv
          · exact hcur
  exact hloop 65 0 h _ _ _ none (by omega) hs rl bs mFr.rf e1 e2 e3 dp rfl h0 (by omega)
theorem dp_bd {T1 T2 T3 : Nat → Int32} {B : Nat → Option Nat} {D : Nat → Nat × Nat × Nat} {d l : Nat} {x : Nat × Nat × Nat} (hBk : ∀ k, k < 64 → ∀ key, B k = some key → key < 1099511627776) (hd : d < 64) (hs : d &&& (63 - goN B 64) = 0) (ht : (goN B 64).testBit l = true ∧ d.testBit l = false) (hx : cvG B (fun k => D (d ||| k)) l 64 = some x) (dp : dpR T1 T2 T3 B D (goN B 64) (d + 1)) : x.1 ≤ 64 - d ∧ x.2.1 ≤ 256 * (64 - d) := by
  have hbd := cvG_bd (a := 63 - d) (b := 256 * (63 - d)) hBk 64 (by omega) (fun k hk t hB => by
    cases c : B k with
    | none => exact absurd c hB
    | some key =>
      have h7 := bk_facts hk hd c hs ht.2 t
      have h8 := dp _ (show d + 1 ≤ d ||| k by omega) h7.2.1 h7.2.2
      exact ⟨by show (D (d ||| k)).1 ≤ _; omega, by show (D (d ||| k)).2.1 ≤ _; omega⟩) x hx
  exact ⟨by omega, by omega⟩
theorem dpR_out {T1 T2 T3 : Nat → Int32} {B : Nat → Option Nat} {D : Nat → Nat × Nat × Nat} {g d : Nat} {v w : Int32} (h : d &&& (63 - g) ≠ 0) (dp : dpR T1 T2 T3 B D g (d + 1)) : dpR (upI T1 d v) (upI T2 d w) T3 B D g d := by
  intro d9 h1 h2 h3
  have e9 : d9 ≠ d := fun e => by subst e; exact h h3
  rw [upI_ne e9, upI_ne e9]
  exact dp d9 (by omega) h2 h3
theorem dpR_g {T1 T2 T3 : Nat → Int32} {B : Nat → Option Nat} {D : Nat → Nat × Nat × Nat} {g d : Nat} (eg : d = g) (hD : D g = (0, 0, 0)) (dp : dpR T1 T2 T3 B D g (d + 1)) : dpR (upI T1 d (nI 0)) (upI T2 d (nI 0)) T3 B D g d := by
  intro d9 h1 h2 h3
  by_cases e9 : d9 = d
  · subst e9
    subst eg
    rw [upI_at, upI_at, hD]
    exact ⟨rfl, rfl, fun z => absurd rfl z, Nat.zero_le _, Nat.zero_le _, fun _ => rfl, fun z => absurd rfl z⟩
  · rw [upI_ne e9, upI_ne e9]
    exact dp d9 (by omega) h2 h3
theorem dpR_add {T1 T2 T3 : Nat → Int32} {B : Nat → Option Nat} {D : Nat → Nat × Nat × Nat} {g d l : Nat} {x : Nat × Nat × Nat} (hd : d < 64) (hs : d &&& (63 - g) = 0) (hne : d ≠ g) (hl : lb (g &&& (63 - d)) = l) (ht : g.testBit l = true ∧ d.testBit l = false) (hx : cvG B (fun k => D (d ||| k)) l 64 = some x) (hc : curR T1 T2 T3 B d (some x)) (hb : x.1 ≤ 64 - d ∧ x.2.1 ≤ 256 * (64 - d)) (dp : dpR T1 T2 T3 B D g (d + 1)) : dpR T1 T2 T3 B (fun y => if y = d then x else D y) g d := by
  have hor : ∀ d' k, d < d' → ¬ d' ||| k = d := fun d' k h1 h2 => by
    have : d' ≤ d' ||| k := Nat.left_le_or
    omega
  intro d9 h1 h2 h3
  by_cases e : d9 = d
  · subst e
    simp only [if_true]
    refine ⟨hc.1, hc.2.1, fun _ => hc.2.2.1, hb.1, hb.2, fun z => absurd z hne, fun _ => ?_⟩
    rw [hl, ← hx]
    refine cvG_cg 64 (fun k hk t _ => ?_)
    show (if d9 ||| k = d9 then x else D (d9 ||| k)) = _
    rw [if_neg (fun z => by have := or_gt ht.2 t; omega)]
  · have h9 := dp d9 (by omega) h2 h3
    simp only [if_neg e]
    refine ⟨h9.1, h9.2.1, h9.2.2.1, h9.2.2.2.1, h9.2.2.2.2.1, h9.2.2.2.2.2.1, fun z => ?_⟩
    rw [← h9.2.2.2.2.2.2 z]
    refine cvG_cg 64 (fun k hk t _ => ?_)
    show (if d9 ||| k = d then x else D (d9 ||| k)) = _
    rw [if_neg (hor d9 k (by omega))]
set_option maxRecDepth 20000 in
theorem cover_out {h : mH} {Q : Option Value → mH → Prop} {r : Nat → Int64} {pa my : Nat → Int32} {f S n s : Nat} {K O : Nat → Nat} {B : Nat → Option Nat} (hBk : ∀ k, k < 64 → ∀ key, B k = some key → key < 1099511627776) (K9 : ∀ x4 x5 h1 T1 T2 T3 D, mS h1 → ruL h1 r pa my f S n K O → bsR h1 n K B → mFr (mP [] [177, 178, 179]) h h1 → hI h1 177 = T1 → hI h1 178 = T2 → hI h1 179 = T3 → dpR T1 T2 T3 B D (goN B 64) 0 → Wp mX12_laysCover 2 47 213 [some (.ref 153), some (.int (nI s)), some (.int (nI (goN B 64))), some (.int (-1)), x4, x5] [] h1 Q) : ∀ (e : Nat) (x4 x5 : Option Value) (h1 : mH) (T1 T2 T3 : Nat → Int32) (D : Nat → Nat × Nat × Nat), e ≤ 64 → D (goN B 64) = (0, 0, 0) → mS h1 → ruL h1 r pa my f S n K O → bsR h1 n K B → mFr (mP [] [177, 178, 179]) h h1 → hI h1 177 = T1 → hI h1 178 = T2 → hI h1 179 = T3 → dpR T1 T2 T3 B D (goN B 64) e → Wp mX12_laysCover 2 47 47 [some (.ref 153), some (.int (nI s)), some (.int (nI (goN B 64))), some (.int (itm e)), x4, x5] [] h1 Q := by
  have hg64 := goN_lt (B := B) 64 (by omega)
  intro e
  induction e with
  | zero =>
    intro x4 x5 h1 T1 T2 T3 D _ _ hs1 rl1 bs1 hf1 eT1 eT2 eT3 dp
    show Wp mX12_laysCover 2 47 47 [some (.ref 153), some (.int (nI s)), some (.int (nI (goN B 64))), some (.int (-1)), x4, x5] [] h1 Q
    refine wp_iload_n dX12_laysCover_47 rfl rfl ?_
    refine wp_if_lt dX12_laysCover_48 (fun _ => ?_) (fun q => absurd q (by decide +kernel))
    exact K9 _ _ _ _ _ _ D hs1 rl1 bs1 hf1 eT1 eT2 eT3 dp
  | succ d ih =>
    intro x4 x5 h1 T1 T2 T3 D he hD0 hs1 rl1 bs1 hf1 eT1 eT2 eT3 dp
    rw [itm_s]
    refine wp_iload_n dX12_laysCover_47 rfl rfl ?_
    refine wp_if_lt dX12_laysCover_48 (fun q9 => absurd q9 (nI_pos (by omega))) (fun _ => ?_)
    refine wp_aload_n dX12_laysCover_51 rfl rfl ?_
    refine wp_getR dX12_laysCover_52 lX12_89 rfl (mO hs1) (mR_bestMany hs1) ?_
    refine wp_iload_n dX12_laysCover_55 rfl rfl ?_
    refine wp_iload_n dX12_laysCover_56 rfl rfl ?_
    refine wp_iload_n dX12_laysCover_57 rfl rfl ?_
    refine wp_icmp_neN dX12_laysCover_58 rfl rfl ⟨by omega, by omega⟩ (fun c2 => ?_) (fun c2 => ?_)
    · refine wp_iconst (v := (-1)) dX12_laysCover_65 (by decide +kernel) ?_
      refine wp_iastN dX12_laysCover_66 (mA_bestMany hs1) rfl ⟨by omega, by decide⟩ ?_
      refine sealAI eT1 (fun hh1 f1 e1 => ?_)
      have S1 := f1.s hs1
      have rl1 := rl1.fr f1 (by decide) (by decide)
      have bs1 := bs1.fr f1 (by decide) (by decide)
      have eI178_1 := (f1.Ir (by decide) (by decide)).trans eT2
      have eI179_1 := (f1.Ir (by decide) (by decide)).trans eT3
      refine wp_aload_n dX12_laysCover_67 rfl rfl ?_
      refine wp_getR dX12_laysCover_68 lX12_92 rfl (mO S1) (mR_bestCost S1) ?_
      refine wp_iload_n dX12_laysCover_71 rfl rfl ?_
      refine wp_iconst (v := (nI 0)) dX12_laysCover_72 (by decide +kernel) ?_
      refine wp_iastN dX12_laysCover_73 (mA_bestCost S1) rfl ⟨by omega, by decide⟩ ?_
      refine sealAI eI178_1 (fun hh2 f2 e2 => ?_)
      have S2 := f2.s S1
      have rl2 := rl1.fr f2 (by decide) (by decide)
      have bs2 := bs1.fr f2 (by decide) (by decide)
      have eI179_2 := (f2.Ir (by decide) (by decide)).trans eI179_1
      have eI177_2 := (f2.Ir (by decide) (by decide)).trans e1
      refine wp_iload_n dX12_laysCover_74 rfl rfl ?_
      refine wp_iload_n dX12_laysCover_75 rfl rfl ?_
      refine wp_iconst (v := (-1)) dX12_laysCover_76 (by decide +kernel) ?_
      refine wp_ixor dX12_laysCover_77 ?_
      refine wp_iand dX12_laysCover_78 ?_
      rw [nx_not hg64 (by omega)]
      refine wp_if_neN dX12_laysCover_79 rfl (Nat.lt_of_le_of_lt Nat.and_le_left (by omega)) (fun c3 => ?_) (fun c3 => ?_)
      · refine wp_iinc (ls1 := [_, _, _, some _, _, _]) dX12_laysCover_207 rfl rfl (by decide) rfl ?_
        refine wp_goto dX12_laysCover_210 ?_
        rw [show Int32.ofInt (-1) = (-1 : Int32) by decide +kernel, itm_m]
        refine ih _ _ _ _ _ _ D (by omega) hD0 S2 rl2 bs2 (((hf1.up (by decide) (by decide)).tr (f1.up (by decide) (by decide))).tr (f2.up (by decide) (by decide))) eI177_2 e2 eI179_2 ?_
        first | exact dpR_out (by omega) dp | exact dpR_g (by omega) hD0 dp
      · refine wp_iload_n dX12_laysCover_82 rfl rfl ?_
        refine wp_iload_n dX12_laysCover_83 rfl rfl ?_
        refine wp_icmp_neN dX12_laysCover_84 rfl rfl ⟨by omega, by omega⟩ (fun c4 => ?_) (fun c4 => ?_)
        · refine wp_iload_n dX12_laysCover_90 rfl rfl ?_
          refine wp_iload_n dX12_laysCover_91 rfl rfl ?_
          refine wp_iconst (v := (-1)) dX12_laysCover_92 (by decide +kernel) ?_
          refine wp_ixor dX12_laysCover_93 ?_
          refine wp_iand dX12_laysCover_94 ?_
          rw [nx_not (by omega) hg64]
          refine wp_cS1 1 21 [some _, none] dX12_laysCover_95 tX12_firstOf sX12_firstOf lX12_400 ⟨by decide, by decide⟩ (Nat.le_of_ble_eq_true rfl) (Nat.le_of_ble_eq_true rfl) rfl ?_
          refine pX12_firstOf (and63 hg64) (by have h9 := lb_ex (and63 (d := d) hg64) (ls_facts hg64 (by omega) (by assumption) (by assumption)); exact ⟨_, h9.2.1, h9.1⟩) (fun l hl6 hlb hlm => ?_)
          intro _ _
          have hle := lb_eq hl6 hlb hlm
          have htb := ls_tb (show d < 64 by omega) hlb
          refine wp_istore (ls1 := [_, _, _, _, some _, _]) dX12_laysCover_98 (by decide) rfl ?_
          refine wp_iconst (v := (nI 0)) dX12_laysCover_100 (by decide +kernel) ?_
          refine wp_istore (ls1 := [_, _, _, _, _, some _]) dX12_laysCover_101 (by decide) rfl ?_
          refine cover_in (D := D) S2 rl2 bs2 (by omega) hl6 (by assumption) htb.2 eI177_2 e2 eI179_2 ?_ (upI_at _ _ _) (fun hh3 U1 U2 U3 cur f3 S3 rl3 bs3 eA3 eB3 eC3 dp3 hcv hcur => ?_)
          · intro d9 h1 h2 h3
            rw [upI_ne (by omega), upI_ne (by omega)]
            exact dp d9 (by omega) h2 h3
          refine wp_iinc (ls1 := [_, _, _, some _, _, _]) dX12_laysCover_207 rfl rfl (by decide) rfl ?_
          refine wp_goto dX12_laysCover_210 ?_
          rw [show Int32.ofInt (-1) = (-1 : Int32) by decide +kernel, itm_m]
          obtain ⟨x9, hx9⟩ := cvG_some (rest := (fun k => D (d ||| k))) (B := B) (l := l) 64 (by obtain ⟨k9, z1, z2, z3⟩ := (goN_tb 64 l).mp htb.1; exact ⟨k9, z1, z3, z2⟩)
          have hcx : cur = some x9 := hcv.symm.trans hx9
          subst hcx
          have hbd := dp_bd hBk (show d < 64 by omega) (by assumption) htb hx9 dp
          refine ih _ _ _ _ _ _ (fun y => if y = d then x9 else D y) (by omega) (by show (if (goN B 64) = d then x9 else D (goN B 64)) = _; rw [if_neg (fun z9 => (by assumption : d ≠ (goN B 64)) z9.symm)]; exact hD0) S3 rl3 bs3 ((((hf1.up (by decide) (by decide)).tr (f1.up (by decide) (by decide))).tr (f2.up (by decide) (by decide))).tr (f3.up (by decide) (by decide))) eA3 eB3 eC3 ?_
          exact dpR_add (by omega) (by assumption) (by assumption) hle htb hx9 hcur hbd dp3
        · refine wp_goto dX12_laysCover_87 ?_
          refine wp_iinc (ls1 := [_, _, _, some _, _, _]) dX12_laysCover_207 rfl rfl (by decide) rfl ?_
          refine wp_goto dX12_laysCover_210 ?_
          rw [show Int32.ofInt (-1) = (-1 : Int32) by decide +kernel, itm_m]
          refine ih _ _ _ _ _ _ D (by omega) hD0 S2 rl2 bs2 (((hf1.up (by decide) (by decide)).tr (f1.up (by decide) (by decide))).tr (f2.up (by decide) (by decide))) eI177_2 e2 eI179_2 ?_
          first | exact dpR_out (by omega) dp | exact dpR_g (by omega) hD0 dp
    · refine wp_iconst (v := (nI 0)) dX12_laysCover_61 (by decide +kernel) ?_
      refine wp_goto dX12_laysCover_62 ?_
      refine wp_iastN dX12_laysCover_66 (mA_bestMany hs1) rfl ⟨by omega, by decide⟩ ?_
      refine sealAI eT1 (fun hh4 f4 e4 => ?_)
      have S4 := f4.s hs1
      have rl4 := rl1.fr f4 (by decide) (by decide)
      have bs4 := bs1.fr f4 (by decide) (by decide)
      have eI178_4 := (f4.Ir (by decide) (by decide)).trans eT2
      have eI179_4 := (f4.Ir (by decide) (by decide)).trans eT3
      refine wp_aload_n dX12_laysCover_67 rfl rfl ?_
      refine wp_getR dX12_laysCover_68 lX12_92 rfl (mO S4) (mR_bestCost S4) ?_
      refine wp_iload_n dX12_laysCover_71 rfl rfl ?_
      refine wp_iconst (v := (nI 0)) dX12_laysCover_72 (by decide +kernel) ?_
      refine wp_iastN dX12_laysCover_73 (mA_bestCost S4) rfl ⟨by omega, by decide⟩ ?_
      refine sealAI eI178_4 (fun hh5 f5 e5 => ?_)
      have S5 := f5.s S4
      have rl5 := rl4.fr f5 (by decide) (by decide)
      have bs5 := bs4.fr f5 (by decide) (by decide)
      have eI179_5 := (f5.Ir (by decide) (by decide)).trans eI179_4
      have eI177_5 := (f5.Ir (by decide) (by decide)).trans e4
      refine wp_iload_n dX12_laysCover_74 rfl rfl ?_
      refine wp_iload_n dX12_laysCover_75 rfl rfl ?_
      refine wp_iconst (v := (-1)) dX12_laysCover_76 (by decide +kernel) ?_
      refine wp_ixor dX12_laysCover_77 ?_
      refine wp_iand dX12_laysCover_78 ?_
      rw [nx_not hg64 (by omega)]
      refine wp_if_neN dX12_laysCover_79 rfl (Nat.lt_of_le_of_lt Nat.and_le_left (by omega)) (fun c5 => ?_) (fun c5 => ?_)
      · refine wp_iinc (ls1 := [_, _, _, some _, _, _]) dX12_laysCover_207 rfl rfl (by decide) rfl ?_
        refine wp_goto dX12_laysCover_210 ?_
        rw [show Int32.ofInt (-1) = (-1 : Int32) by decide +kernel, itm_m]
        refine ih _ _ _ _ _ _ D (by omega) hD0 S5 rl5 bs5 (((hf1.up (by decide) (by decide)).tr (f4.up (by decide) (by decide))).tr (f5.up (by decide) (by decide))) eI177_5 e5 eI179_5 ?_
        first | exact dpR_out (by omega) dp | exact dpR_g (by omega) hD0 dp
      · refine wp_iload_n dX12_laysCover_82 rfl rfl ?_
        refine wp_iload_n dX12_laysCover_83 rfl rfl ?_
        refine wp_icmp_neN dX12_laysCover_84 rfl rfl ⟨by omega, by omega⟩ (fun c6 => ?_) (fun c6 => ?_)
        · omega
        · refine wp_goto dX12_laysCover_87 ?_
          refine wp_iinc (ls1 := [_, _, _, some _, _, _]) dX12_laysCover_207 rfl rfl (by decide) rfl ?_
          refine wp_goto dX12_laysCover_210 ?_
          rw [show Int32.ofInt (-1) = (-1 : Int32) by decide +kernel, itm_m]
          refine ih _ _ _ _ _ _ D (by omega) hD0 S5 rl5 bs5 (((hf1.up (by decide) (by decide)).tr (f4.up (by decide) (by decide))).tr (f5.up (by decide) (by decide))) eI177_5 e5 eI179_5 ?_
          first | exact dpR_out (by omega) dp | exact dpR_g (by omega) hD0 dp
