/-! ===== the row of the cover ===== -/
def coP (r : Nat → Int64) (pa my : Nat → Int32) (f s : Nat) (L : List Nat) (hop : Nat) : Prop := ∃ B D, isBst r pa my f s B ∧ cdP B D (goN B 64) ∧ L = cvLs B D (goN B 64) 7 0 ∧ hop = s &&& (63 - goN B 64)
theorem dpR_cd {T1 T2 T3 : Nat → Int32} {B : Nat → Option Nat} {D : Nat → Nat × Nat × Nat} (dp : dpR T1 T2 T3 B D (goN B 64) 0) : cdP B D (goN B 64) := by
  refine ⟨(dp _ (by omega) (goN_lt 64 (by omega)) (sub_of (goN_lt 64 (by omega)) (fun p h => h))).2.2.2.2.2.1 rfl, fun d h1 h2 h3 => (dp d (by omega) h1 h2).2.2.2.2.2.2 h3⟩
def pcb (s : Nat) : Nat := cntB (fun p => s.testBit p) 6
theorem cvG_mem {B : Nat → Option Nat} {rest : Nat → Nat × Nat × Nat} {l : Nat} : ∀ n d, cvG B rest l n = some d → d.2.2 < n ∧ d.2.2.testBit l = true ∧ ∃ key, B d.2.2 = some key
  | 0, d, e => by cases e
  | n + 1, d, e => by
    have up := fun (e : cvG B rest l n = some d) => cvG_mem n d e
    cases c : B n with
    | none =>
      rw [cvG_no (Or.inl c)] at e
      have := up e
      exact ⟨by omega, this.2⟩
    | some key =>
      cases t : n.testBit l with
      | false =>
        rw [cvG_no (Or.inr t)] at e
        have := up e
        exact ⟨by omega, this.2⟩
      | true =>
        rw [cvG_s c t] at e
        split at e
        · cases e
          exact ⟨Nat.lt_succ_self n, t, key, c⟩
        · have := up e
          exact ⟨by omega, this.2⟩
/-- one step of the row -/
theorem cd_step {B : Nat → Option Nat} {D : Nat → Nat × Nat × Nat} {d : Nat} (q : cdP B D (goN B 64)) (hd : d < 64) (hs : d &&& (63 - goN B 64) = 0) (hne : d ≠ goN B 64) : (D d).2.2 < 64 ∧ (∃ key, B (D d).2.2 = some key) ∧ d ||| (D d).2.2 < 64 ∧ (d ||| (D d).2.2) &&& (63 - goN B 64) = 0 ∧ pcb (goN B 64 &&& (63 - (d ||| (D d).2.2))) < pcb (goN B 64 &&& (63 - d)) := by
  have hg := goN_lt (B := B) 64 (by omega)
  have h1 := cvG_mem 64 _ (q.2 d hd hs hne)
  have h2 := lb_ex (and63 (d := d) hg) (ls_facts hg hd hs hne)
  have h3 := ls_tb hd h2.1
  obtain ⟨key, hk⟩ := h1.2.2
  have h4 := bk_facts h1.1 hd hk hs h3.2 h1.2.1
  refine ⟨h1.1, ⟨key, hk⟩, h4.2.1, h4.2.2, ?_⟩
  refine cntB_lt (q := lb (goN B 64 &&& (63 - d))) 6 (fun p hp z => ?_) h2.2.1 h2.1 ?_
  · have z := ls_tb h4.2.1 z
    rw [Nat.testBit_or, Bool.or_eq_false_iff] at z
    show (goN B 64 &&& (63 - d)).testBit p = true
    rw [Nat.testBit_and, z.1, tb_not hd, decide_eq_true hp, z.2.1]
    rfl
  · cases c : (goN B 64 &&& (63 - (d ||| (D d).2.2))).testBit (lb (goN B 64 &&& (63 - d))) with
    | false => rfl
    | true =>
      have z := ls_tb h4.2.1 c
      rw [Nat.testBit_or, h1.2.1, Bool.or_true] at z
      exact absurd z.2 (by decide)
theorem isBst_lt {r : Nat → Int64} {pa my : Nat → Int32} {f s : Nat} {B : Nat → Option Nat} (hB : isBst r pa my f s B) : ∀ k, k < 64 → ∀ key, B k = some key → key < 1099511627776 := by
  intro k hk key e
  rcases hB.2 k hk with ⟨z, _⟩ | ⟨m, z, h1, _⟩
  · rw [z] at e
    cases e
  · rw [z] at e
    cases e
    exact h1
theorem getD_app {L : List Nat} {x j : Nat} : (L ++ [x]).getD j 0 = if j < L.length then L.getD j 0 else if j = L.length then x else 0 := by
  simp only [List.getD_eq_getElem?_getD, List.getElem?_append]
  split
  · rfl
  · split
    · rename_i h1 h2
      subst h2
      simp
    · rename_i h1 h2
      rw [List.getElem?_eq_none (by simp; omega)]
      rfl
set_option maxRecDepth 20000 in
theorem cover_fin {h : mH} {Q : Option Value → mH → Prop} {n s : Nat} {K : Nat → Nat} {B : Nat → Option Nat} {D : Nat → Nat × Nat × Nat} {T1 T2 T3 : Nat → Int32} {x4 x5 : Option Value} (hs : mS h) (bs : bsR h n K B) (e47 : hI h 153 47 = nI 0) (e79 : hI h 179 = T3) (dp : dpR T1 T2 T3 B D (goN B 64) 0) (K9 : ∀ h' L, mFr (mP [47] [180]) h h' → cvR h' n K L → L = cvLs B D (goN B 64) 7 0 → Q none h') : Wp mX12_laysCover 2 47 220 [some (.ref 153), some (.int (nI s)), some (.int (nI (goN B 64))), some (.int (nI 0)), x4, x5] [] h Q := by
  have hg64 := goN_lt (B := B) 64 (by omega)
  have cd := dpR_cd dp
  have hloop : ∀  (t : Nat) (Lp : List Nat) (d : Nat) (h1 : mH) (T5 : Nat → Int32), (mS h1) → (bsR h1 n K B) → (mFr (mP [47] [180]) h h1) → (hI h1 153 47 = nI Lp.length) → (hI h1 179 = T3) → (hI h1 180 = T5) → (∀ j, j < Lp.length → ∃ x, x < n ∧ T5 j = nI x ∧ K x = Lp.getD j 0) → (Lp ++ cvLs B D (goN B 64) (7 - Lp.length) d = cvLs B D (goN B 64) 7 0) → (Lp.length + pcb ((goN B 64) &&& (63 - d)) ≤ 6) → (d < 64) → (d &&& (63 - (goN B 64)) = 0) → (6 < Lp.length + t) → Wp mX12_laysCover 2 47 220 [some (.ref 153), some (.int (nI s)), some (.int (nI (goN B 64))), some (.int (nI d)), x4, x5] [] h1 Q := by
    intro t
    induction t with
    | zero => intros; omega
    | succ t ih =>
      intro Lp d h1 T5 hs1 bs1 hf1 e47 e79 e80 hrow hL hpc hd hds hmz
      refine wp_iload_n dX12_laysCover_220 rfl rfl ?_
      refine wp_iload_n dX12_laysCover_221 rfl rfl ?_
      refine wp_icmp_eqN dX12_laysCover_222 rfl rfl ⟨by omega, by omega⟩ (fun c1 => ?_) (fun c1 => ?_)
      · refine wp_vreturn dX12_laysCover_267 rfl ?_
        have eg : d = (goN B 64) := by assumption
        have e9 : Lp = cvLs B D (goN B 64) 7 0 := by
          rw [← hL, show 7 - Lp.length = (6 - Lp.length) + 1 by omega]
          show _ = Lp ++ (if d = (goN B 64) then [] else _)
          rw [if_pos eg, List.append_nil]
        exact K9 _ Lp hf1 ⟨e47, by omega, fun j hj => by rw [e80]; exact hrow j hj⟩ e9
      · have hne : d ≠ (goN B 64) := by assumption
        have hst := cd_step cd hd hds hne
        obtain ⟨key9, hk9⟩ := hst.2.1
        obtain ⟨x8, hx8, kx8, e8⟩ := bsR_some bs1 hst.1 hk9
        refine wp_aload_n dX12_laysCover_225 rfl rfl ?_
        refine wp_getR dX12_laysCover_226 lX12_98 rfl (mO hs1) (mR_coverRule hs1) ?_
        refine wp_aload_n dX12_laysCover_229 rfl rfl ?_
        refine wp_getIV dX12_laysCover_230 lX12_425 rfl (mO hs1) e47 ?_
        refine wp_aload_n dX12_laysCover_233 rfl rfl ?_
        refine wp_getR dX12_laysCover_234 lX12_86 rfl (mO hs1) (mR_bestRule hs1) ?_
        refine wp_aload_n dX12_laysCover_237 rfl rfl ?_
        refine wp_getR dX12_laysCover_238 lX12_95 rfl (mO hs1) (mR_next hs1) ?_
        refine wp_iload_n dX12_laysCover_241 rfl rfl ?_
        refine wp_ialdV dX12_laysCover_242 (mA_next hs1) rfl ⟨by omega, by decide⟩ ((congrFun e79 _).trans ((dp d (by omega) hd hds).2.2.1 hne)) ?_
        refine wp_ialdV dX12_laysCover_243 (mA_bestRule hs1) rfl ⟨hst.1, by decide⟩ e8 ?_
        refine wp_iastN dX12_laysCover_244 (mA_coverRule hs1) rfl ⟨by omega, by decide⟩ ?_
        refine sealAI e80 (fun hh1 f1 e1 => ?_)
        have S1 := f1.s hs1
        have bs1 := bs1.fr f1 (by decide) (by decide)
        have efI47_1 := (f1.fI 47 (by decide) (by decide)).trans e47
        have eI179_1 := (f1.Ir (by decide) (by decide)).trans e79
        refine wp_aload_n dX12_laysCover_245 rfl rfl ?_
        refine wp_dup dX12_laysCover_246 rfl ?_
        refine wp_getIV dX12_laysCover_247 lX12_425 rfl (mO S1) efI47_1 ?_
        refine wp_iconst (v := (nI 1)) dX12_laysCover_250 (by decide +kernel) ?_
        refine wp_iadd dX12_laysCover_251 ?_
        refine wp_putIN dX12_laysCover_252 lX12_425 rfl rfl (Or.inl rfl) (mO S1) (isN_add rfl rfl) ?_
        refine sealI (fun hh2 f2 e2 => ?_)
        have S2 := f2.s S1
        have bs2 := bs1.fr f2 (by decide) (by decide)
        have eI179_2 := (f2.Ir (by decide) (by decide)).trans eI179_1
        have eI180_2 := (f2.Ir (by decide) (by decide)).trans e1
        refine wp_iload_n dX12_laysCover_255 rfl rfl ?_
        refine wp_aload_n dX12_laysCover_256 rfl rfl ?_
        refine wp_getR dX12_laysCover_257 lX12_95 rfl (mO S2) (mR_next S2) ?_
        refine wp_iload_n dX12_laysCover_260 rfl rfl ?_
        refine wp_ialdV dX12_laysCover_261 (mA_next S2) rfl ⟨by omega, by decide⟩ ((congrFun eI179_2 _).trans ((dp d (by omega) hd hds).2.2.1 hne)) ?_
        refine wp_ior dX12_laysCover_262 ?_
        rw [nx_or]
        refine wp_istore_n (ls1 := [_, _, _, some _, _, _]) dX12_laysCover_263 rfl (by decide) rfl ?_
        refine wp_goto dX12_laysCover_264 ?_
        refine ih (Lp ++ [key9]) _ _ _ S2 bs2 (((hf1.up (by decide) (by decide)).tr (f1.up (by decide) (by decide))).tr (f2.up (by decide) (by decide))) (e2.trans (by rw [List.length_append]; rfl)) eI179_2 eI180_2 ?_ ?_ (by rw [List.length_append]; show Lp.length + 1 + _ ≤ 6; omega) hst.2.2.1 hst.2.2.2.1 (by rw [List.length_append]; show 6 < Lp.length + 1 + t; omega)
        · intro j hj
          rw [List.length_append] at hj
          rw [getD_app]
          by_cases z : j < Lp.length
          · rw [if_pos z, upI_ne (by omega)]
            exact hrow j z
          · have z2 : j = Lp.length := by have : j < Lp.length + 1 := hj; omega
            rw [if_neg z, if_pos z2, z2]
            exact ⟨x8, hx8, upI_at _ _ _, kx8⟩
        · rw [← hL, List.append_assoc]
          congr 1
          rw [List.length_append]
          show _ = cvLs B D (goN B 64) (7 - Lp.length) d
          rw [show 7 - Lp.length = (7 - (Lp.length + 1)) + 1 by omega]
          show _ = if d = (goN B 64) then [] else _
          rw [if_neg hne, hk9]
          rfl
  exact hloop 7 [] 0 h _ hs bs mFr.rf e47 e79 rfl (fun j hj => absurd hj (by show ¬ j < 0; omega)) rfl (by show 0 + _ ≤ 6; rw [Nat.zero_add]; exact cntB_le 6) (by omega) (Nat.zero_and _) (by show 6 < 0 + 7; omega)
set_option maxRecDepth 20000 in
theorem pX12_laysCover {h : mH} {Q : Option Value → mH → Prop} {r : Nat → Int64} {pa my : Nat → Int32} {f S n s : Nat} {K O : Nat → Nat} (hs : mS h) (rl : ruL h r pa my f S n K O) (hs64 : s < 64) (hsub : ∀ p, s.testBit p = true → S.testBit p = true) (hq : ∀ h' L hop, mFr (mP [47, 48] [176, 177, 178, 179, 180]) h h' → cvR h' n K L → hI h' 153 48 = nI hop → coP r pa my f s L hop → hop < 64 → Q none h') : Wp mX12_laysCover 2 47 0 [some (.ref 153), some (.int (nI s)), none, none, none, none] [] h Q := by
  refine wp_aload_n dX12_laysCover_0 rfl rfl ?_
  refine wp_iload_n dX12_laysCover_1 rfl rfl ?_
  refine wp_cV1 0 0 [some _, some _, none, none] dX12_laysCover_2 tX12_laysBestRules rfl (by decide) nX12_laysBestRules vX12_laysBestRules lX12_416 ⟨by decide, by decide⟩ (Nat.le_of_ble_eq_true rfl) (mO hs) (Nat.le_of_ble_eq_true rfl) rfl ?_
  refine pX12_laysBestRules hs rl hs64 hsub (fun hh1 B f1 hB bs1 => ?_)
  intro _ _
  have S1 := f1.s hs
  have rl1 := rl.fr f1 (by decide) (by decide)
  refine wp_iconst (v := (nI 0)) dX12_laysCover_5 (by decide +kernel) ?_
  refine wp_istore_n (ls1 := [_, _, some _, _, _, _]) dX12_laysCover_6 rfl (by decide) rfl ?_
  refine wp_iconst (v := (nI 0)) dX12_laysCover_7 (by decide +kernel) ?_
  refine wp_istore_n (ls1 := [_, _, _, some _, _, _]) dX12_laysCover_8 rfl (by decide) rfl ?_
  refine cover_goal S1 bs1 rl.2.1 ?_
  refine wp_aload_n dX12_laysCover_35 rfl rfl ?_
  refine wp_iload_n dX12_laysCover_36 rfl rfl ?_
  refine wp_iload_n dX12_laysCover_37 rfl rfl ?_
  refine wp_iconst (v := (-1)) dX12_laysCover_38 (by decide +kernel) ?_
  refine wp_ixor dX12_laysCover_39 ?_
  refine wp_iand dX12_laysCover_40 ?_
  rw [nx_not (goN_lt 64 (by omega)) hs64]
  refine wp_putI dX12_laysCover_41 lX12_419 rfl (Or.inl rfl) (mO S1) rfl rfl ?_
  refine sealI (fun hh2 f2 e2 => ?_)
  have S2 := f2.s S1
  have rl2 := rl1.fr f2 (by decide) (by decide)
  have bs2 := bs1.fr f2 (by decide) (by decide)
  refine wp_bipush (v := (nI 63)) dX12_laysCover_44 (by decide +kernel) ?_
  refine wp_istore_n (ls1 := [_, _, _, some _, _, _]) dX12_laysCover_46 rfl (by decide) rfl ?_
  rw [show nI 63 = itm 64 from rfl]
  refine cover_out (isBst_lt hB) (fun x4 x5 hh3 T1 T2 T3 D S3 rl3 bs3 f3 eA3 eB3 eC3 dp3 => ?_) 64 _ _ _ _ _ _ (fun _ => (0, 0, 0)) (by omega) rfl S2 rl2 bs2 mFr.rf rfl rfl rfl (fun d h1 h2 => by omega)
  have S3 := f3.s S2
  have efI48_3 := (f3.fI 48 (by decide) (by decide)).trans e2
  refine wp_aload_n dX12_laysCover_213 rfl rfl ?_
  refine wp_iconst (v := (nI 0)) dX12_laysCover_214 (by decide +kernel) ?_
  refine wp_putI dX12_laysCover_215 lX12_425 rfl (Or.inl rfl) (mO S3) rfl rfl ?_
  refine sealI (fun hh4 f4 e4 => ?_)
  have S4 := f4.s S3
  have rl4 := rl3.fr f4 (by decide) (by decide)
  have bs4 := bs3.fr f4 (by decide) (by decide)
  have efI48_4 := (f4.fI 48 (by decide) (by decide)).trans efI48_3
  have eI179_4 := (f4.Ir (by decide) (by decide)).trans eC3
  refine wp_iconst (v := (nI 0)) dX12_laysCover_218 (by decide +kernel) ?_
  refine wp_istore_n (ls1 := [_, _, _, some _, _, _]) dX12_laysCover_219 rfl (by decide) rfl ?_
  refine cover_fin S4 bs4 e4 eI179_4 dp3 (fun hh5 L f5 cv5 eL => ?_)
  exact hq _ L _ (((((f1.up (by decide) (by decide)).tr (f2.up (by decide) (by decide))).tr (f3.up (by decide) (by decide))).tr (f4.up (by decide) (by decide))).tr (f5.up (by decide) (by decide))) cv5 ((f5.fI 48 (by decide) (by decide)).trans efI48_4) ⟨B, D, hB, dpR_cd dp3, eL, rfl⟩ (Nat.lt_of_le_of_lt Nat.and_le_left hs64)
