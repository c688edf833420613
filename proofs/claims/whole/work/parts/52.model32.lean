/-! ===== what is asked of covers ===== -/
theorem cdP_un {B : Nat → Option Nat} {D D' : Nat → Nat × Nat × Nat} (q : cdP B D (goN B 64)) (q' : cdP B D' (goN B 64)) : ∀ n d, 64 - d ≤ n → d < 64 → d &&& (63 - goN B 64) = 0 → D d = D' d := by
  have hg := goN_lt (B := B) 64 (by omega)
  intro n
  induction n with
  | zero => intros; omega
  | succ n ih =>
    intro d h1 h2 h3
    by_cases e : d = goN B 64
    · rw [e, q.1, q'.1]
    · have h4 := q.2 d h2 h3 e
      have h5 := q'.2 d h2 h3 e
      have h6 := lb_ex (and63 (d := d) hg) (ls_facts hg h2 h3 e)
      have h7 := ls_tb h2 h6.1
      have : cvG B (fun k => D (d ||| k)) (lb (goN B 64 &&& (63 - d))) 64 = cvG B (fun k => D' (d ||| k)) (lb (goN B 64 &&& (63 - d))) 64 := by
        refine cvG_cg 64 (fun k hk t hB => ?_)
        cases c : B k with
        | none => exact absurd c hB
        | some key =>
          have h8 := bk_facts hk h2 c h3 h7.2 t
          exact ih _ (by omega) h8.2.1 h8.2.2
      rw [h4, h5] at this
      injection this
theorem cvLs_un {B : Nat → Option Nat} {D D' : Nat → Nat × Nat × Nat} (q : cdP B D (goN B 64)) (q' : cdP B D' (goN B 64)) : ∀ n d, d < 64 → d &&& (63 - goN B 64) = 0 → cvLs B D (goN B 64) n d = cvLs B D' (goN B 64) n d
  | 0, _, _, _ => rfl
  | n + 1, d, h1, h2 => by
    show (if d = _ then [] else _) = if d = _ then [] else _
    by_cases e : d = goN B 64
    · rw [if_pos e, if_pos e]
    · rw [if_neg e, if_neg e, ← cdP_un q q' 64 d (by omega) h1 h2]
      have h3 := cd_step q h1 h2 e
      rw [cvLs_un q q' n _ h3.2.2.1 h3.2.2.2.1]
theorem coP_un {r : Nat → Int64} {pa my : Nat → Int32} {f s : Nat} {L L' : List Nat} {hop hop' : Nat} (q : coP r pa my f s L hop) (q' : coP r pa my f s L' hop') : L = L' ∧ hop = hop' := by
  obtain ⟨B, D, h1, h2, h3, h4⟩ := q
  obtain ⟨B', D', h1', h2', h3', h4'⟩ := q'
  have e := isBst_un h1 h1'
  subst e
  refine ⟨?_, by rw [h4, h4']⟩
  rw [h3, h3']
  exact cvLs_un h2 h2' 7 0 (by omega) (Nat.zero_and _)
def csum (L : List Nat) : Nat → Nat
  | 0 => 0
  | k + 1 => csum L k + L.getD k 0 / 4294967296
theorem drop_s {L : List Nat} {k : Nat} (h : k < L.length) : L.drop k = L.getD k 0 :: L.drop (k + 1) := by
  rw [List.drop_eq_getElem_cons h]
  congr 1
  rw [List.getD_eq_getElem?_getD, List.getElem?_eq_getElem h]
  rfl
/-- whether the first rule that is not silent is right on a page -/
def roF (r : Nat → Int64) (pa my : Nat → Int32) (f p : Nat) : List Nat → Bool
  | [] => false
  | x :: t => if tvK r pa my f p x = 2 then false else if tvK r pa my f p x = 1 then true else roF r pa my f p t
def enB (ok : Nat → Bool) (all : Nat) : Nat → Nat
  | 0 => 0
  | s + 1 => if s ≠ 0 ∧ s &&& (63 - all) = 0 ∧ (enB ok all s = 0 ∨ pc6 s 16 < pc6 (enB ok all s) 16) ∧ ok s = true then s else enB ok all s
theorem enB_lt {ok : Nat → Bool} {all : Nat} : ∀ s, s ≤ 64 → enB ok all s < 64
  | 0, _ => (by decide : 0 < 64)
  | s + 1, h => by
    show (if _ then _ else _) < 64
    split
    · omega
    · exact enB_lt s (by omega)
def okE (r : Nat → Int64) (pa my : Nat → Int32) (f all s : Nat) : Prop := ∃ L hop, coP r pa my f s L hop ∧ ∀ p, p < 6 → all.testBit p = true → roF r pa my f p L = true
def spCover (r : Nat → Int64) (F : Nat) (pa my : Nat → Int32) (x w v : Int32) : Prop := match ix x F, ix w 3 with
  | some f, some j => ∃ L hop, coP r pa my f (exE r f) L hop ∧ v = (if j = 0 then nI L.length else if j = 1 then nI (csum L L.length) else nI hop)
  | _, _ => v = -1
def spCovers (r : Nat → Int64) (F : Nat) (pa my : Nat → Int32) (x y w v : Int32) : Prop := match ix x F, ix w 6 with
  | some f, some j => ∃ L hop, coP r pa my f (exE r f) L hop ∧ match ix y L.length with
    | some i => v = (if j < 4 then itm (kI (L.getD i 0) j) else if j = 4 then nI (L.getD i 0 / 4294967296) else nI (tvm r pa my f (exE r f) 1 (L.getD i 0) 6))
    | none => v = -2
  | _, _ => v = -2
def spEnough (r : Nat → Int64) (F : Nat) (pa my : Nat → Int32) (x v : Int32) : Prop := match ix x F with
  | some f => if exE r f = 0 then v = -1 else ∃ ok : Nat → Bool, (∀ s, ok s = true ↔ okE r pa my f (exE r f) s) ∧ v = nI (enB ok (exE r f) 64)
  | none => v = -1
def spWithout (r : Nat → Int64) (F : Nat) (pa my : Nat → Int32) (x y v : Int32) : Prop := match ix x (rP r), ix y F with
  | some p, some f => if rM r f p = 0 then v = -1 else ∃ L hop, coP r pa my f (exE r f &&& (63 - 2 ^ p)) L hop ∧ v = nI (pc6 hop 16)
  | _, _ => v = -1
set_option maxRecDepth 20000 in
theorem pX12_laysCoverOf {h : mH} {Q : Option Value → mH → Prop} {r : Nat → Int64} {F : Nat} {pa my : Nat → Int32} {f : Nat} (hc : mC h r F pa my) (hd : sOK r F pa my) (hf : f < F) (hq : ∀ h' n K O L hop, mFr (mP [24, 32, 35, 41, 47, 48] [163, 164, 165, 167, 168, 169, 170, 171, 172, 173, 174, 175, 176, 177, 178, 179, 180]) h h' → numX r h' → ruL h' r pa my f (exE r f) n K O → cvR h' n K L → hI h' 153 48 = nI hop → coP r pa my f (exE r f) L hop → hop < 64 → Q none h') : Wp mX12_laysCoverOf 7 178 0 [some (.ref 153), some (.int (nI f)), none] [] h Q := by
  have hF4 := hd.f4
  have hP6 := hd.w.1.2
  refine wp_aload_n dX12_laysCoverOf_0 rfl rfl ?_
  refine wp_iload_n dX12_laysCoverOf_1 rfl rfl ?_
  refine wp_cV1 2 43 [some _, some _, none, none] dX12_laysCoverOf_2 tX12_examples rfl (by decide) nX12_examples vX12_examples lX12_407 ⟨by decide, by decide⟩ (Nat.le_of_ble_eq_true rfl) (mO hc.1) (Nat.le_of_ble_eq_true rfl) rfl ?_
  refine pX12_examplesN hc hd (by omega) ?_
  intro _ _
  refine wp_istore_n (ls1 := [_, _, some _]) dX12_laysCoverOf_5 rfl (by decide) rfl ?_
  refine wp_aload_n dX12_laysCoverOf_6 rfl rfl ?_
  refine wp_iload_n dX12_laysCoverOf_7 rfl rfl ?_
  refine wp_iload_n dX12_laysCoverOf_8 rfl rfl ?_
  refine wp_cV2 6 153 [some _, some _, some _, none, none, none] dX12_laysCoverOf_9 tX12_laysRules rfl (by decide) nX12_laysRules vX12_laysRules lX12_410 ⟨by decide, by decide⟩ (Nat.le_of_ble_eq_true rfl) (mO hc.1) (Nat.le_of_ble_eq_true rfl) rfl ?_
  refine pX12_laysRules hc hd (by omega) (exE_lt hd) (fun p hp => exE_tb hp) (fun hh1 n1 K1 O1 f1 nx1 rl1 => ?_)
  intro _ _
  have mc1 := hc.fr f1 (by decide) (by decide) (by decide) (by decide) (by decide)
  refine wp_aload_n dX12_laysCoverOf_12 rfl rfl ?_
  refine wp_iload_n dX12_laysCoverOf_13 rfl rfl ?_
  refine wp_cV1 2 47 [some _, some _, none, none, none, none] dX12_laysCoverOf_14 tX12_laysCover rfl (by decide) nX12_laysCover vX12_laysCover lX12_428 ⟨by decide, by decide⟩ (Nat.le_of_ble_eq_true rfl) (mO mc1.1) (Nat.le_of_ble_eq_true rfl) rfl ?_
  refine pX12_laysCover mc1.1 rl1 (exE_lt hd) (fun p hp => hp) (fun hh2 L2 p2 f2 cv2 eh2 co2 hp2 => ?_)
  intro _ _
  have mc2 := mc1.fr f2 (by decide) (by decide) (by decide) (by decide) (by decide)
  have nx2 := nx1.fr f2 (by decide) (by decide)
  have rl2 := rl1.fr f2 (by decide) (by decide)
  refine wp_vreturn dX12_laysCoverOf_17 rfl ?_
  exact hq _ _ _ _ _ _ ((f1.up (by decide) (by decide)).tr (f2.up (by decide) (by decide))) nx2 rl2 cv2 eh2 co2 hp2
set_option maxRecDepth 20000 in
theorem pX12_coverCost {h : mH} {Q : Option Value → mH → Prop} {r : Nat → Int64} {pa my : Nat → Int32} {f S n : Nat} {K O : Nat → Nat} {L : List Nat} (hs : mS h) (rl : ruL h r pa my f S n K O) (cv : cvR h n K L) (hq : Q (some (.int (nI (csum L L.length)))) h) : Wp mX12_coverCost 1 21 0 [some (.ref 153), none, none] [] h Q := by
  have hloop : ∀  (t : Nat) (k : Nat), (k ≤ L.length) → (L.length < k + t) → Wp mX12_coverCost 1 21 4 [some (.ref 153), some (.int (nI (csum L k))), some (.int (nI k))] [] h Q := by
    intro t
    induction t with
    | zero => intros; omega
    | succ t ih =>
      intro k hk hmz
      have hL := cv.2.1
      have hn := rl.2.1
      refine wp_iload_n dX12_coverCost_4 rfl rfl ?_
      refine wp_aload_n dX12_coverCost_5 rfl rfl ?_
      refine wp_getIV dX12_coverCost_6 lX12_425 rfl (mO hs) cv.1 ?_
      refine wp_icmp_geN dX12_coverCost_9 rfl rfl ⟨by omega, by omega⟩ (fun c1 => ?_) (fun c1 => ?_)
      · refine wp_iload_n dX12_coverCost_35 rfl rfl ?_
        refine wp_ireturn dX12_coverCost_36 rfl ?_
        have e9 : k = L.length := by omega
        subst e9
        exact hq
      · obtain ⟨x9, hx9, ex9, kx9⟩ := cv.2.2 k (by omega)
        refine wp_iload_n dX12_coverCost_12 rfl rfl ?_
        refine wp_aload_n dX12_coverCost_13 rfl rfl ?_
        refine wp_getR dX12_coverCost_14 lX12_70 rfl (mO hs) (mR_key hs) ?_
        refine wp_aload_n dX12_coverCost_17 rfl rfl ?_
        refine wp_getR dX12_coverCost_18 lX12_98 rfl (mO hs) (mR_coverRule hs) ?_
        refine wp_iload_n dX12_coverCost_21 rfl rfl ?_
        refine wp_ialdV dX12_coverCost_22 (mA_coverRule hs) rfl ⟨by omega, by decide⟩ ex9 ?_
        refine wp_laldV dX12_coverCost_23 (mA_key hs) rfl ⟨by omega, by decide⟩ (rl.2.2.1 x9 (by omega)).1.1 ?_
        refine wp_cS1 0 0 [some _, none] dX12_coverCost_24 tX12_costOfKey sX12_costOfKey lX12_413 ⟨by decide, by decide⟩ (Nat.le_of_ble_eq_true rfl) (Nat.le_of_ble_eq_true rfl) rfl ?_
        refine pX12_costOfKey (rl.2.2.1 x9 hx9).1.2 ?_
        intro _ _
        refine wp_iadd dX12_coverCost_27 ?_
        refine wp_istore_n (ls1 := [_, some _, _]) dX12_coverCost_28 rfl (by decide) rfl ?_
        refine wp_iinc1 (ls1 := [_, _, some _]) dX12_coverCost_29 rfl (by decide) rfl ?_
        refine wp_goto dX12_coverCost_32 ?_
        rw [nI_add, kx9]
        exact ih (k + 1) (by omega) (by omega)
  refine wp_iconst (v := (nI 0)) dX12_coverCost_0 (by decide +kernel) ?_
  refine wp_istore_n (ls1 := [_, some _, _]) dX12_coverCost_1 rfl (by decide) rfl ?_
  refine wp_iconst (v := (nI 0)) dX12_coverCost_2 (by decide +kernel) ?_
  refine wp_istore_n (ls1 := [_, _, some _]) dX12_coverCost_3 rfl (by decide) rfl ?_
  exact hloop (L.length + 1) 0 (by omega) (by omega)
set_option maxRecDepth 20000 in
theorem pX12_cover {h : mH} {Q : Option Value → mH → Prop} {r : Nat → Int64} {F : Nat} {pa my : Nat → Int32} {x w : Int32} (hc : mC h r F pa my) (hd : sOK r F pa my) (hq : ∀ v h', mFr pwS h h' → spCover r F pa my x w v → Q (some (.int v)) h') : Wp mX12_cover 8 200 0 [some (.ref 153), some (.int x), some (.int w)] [] h Q := by
  have hF4 := hd.f4
  have hP6 := hd.w.1.2
  refine wp_aload_n dX12_cover_0 rfl rfl ?_
  refine wp_iload_n dX12_cover_1 rfl rfl ?_
  refine wp_cV1 1 22 [some _, some _] dX12_cover_2 tX12_isField rfl (by decide) nX12_isField vX12_isField lX12_299 ⟨by decide, by decide⟩ (Nat.le_of_ble_eq_true rfl) (mO hc.1) (Nat.le_of_ble_eq_true rfl) rfl ?_
  refine pX12_isField' hc hd (fun j1 hj1 ej1 => ?_) (fun nj1 => ?_)
  · subst ej1
    have xs1 := ix_nI hj1 (by omega)
    intro _ _
    refine wp_if_eq dX12_cover_5 (fun q => absurd q (by decide +kernel)) (fun _ => ?_)
    refine wp_iload_n dX12_cover_8 rfl rfl ?_
    refine wp_iconst (v := (nI 0)) dX12_cover_9 (by decide +kernel) ?_
    refine wp_iconst (v := (nI 2)) dX12_cover_10 (by decide +kernel) ?_
    refine wp_cS3 0 0 [some _, some _, some _] dX12_cover_11 tX12_isIn sX12_isIn lX12_147 ⟨by decide, by decide⟩ (Nat.le_of_ble_eq_true rfl) (Nat.le_of_ble_eq_true rfl) rfl ?_
    refine pX12_isIn (fun i2 => ?_) (fun i2 => ?_)
    · obtain ⟨j2, hj2, ej2⟩ := (ixM (by decide)).mp i2
      subst ej2
      have xs2 := ix_nI (n := 3) (show j2 < 3 by omega) (by decide)
      intro _ _
      refine wp_if_ne dX12_cover_14 (fun _ => ?_) (fun q => absurd q (by decide +kernel))
      refine wp_aload_n dX12_cover_19 rfl rfl ?_
      refine wp_iload_n dX12_cover_20 rfl rfl ?_
      refine wp_cV1 7 178 [some _, some _, none] dX12_cover_21 tX12_laysCoverOf rfl (by decide) nX12_laysCoverOf vX12_laysCoverOf lX12_431 ⟨by decide, by decide⟩ (Nat.le_of_ble_eq_true rfl) (mO hc.1) (Nat.le_of_ble_eq_true rfl) rfl ?_
      refine pX12_laysCoverOf hc hd (by omega) (fun hh3 n3 K3 O3 L3 p3 f3 nx3 rl3 cv3 eh3 co3 hp3 => ?_)
      intro _ _
      have mc3 := hc.fr f3 (by decide) (by decide) (by decide) (by decide) (by decide)
      have hL9 := cv3.2.1
      have hn9 := rl3.2.1
      refine wp_iload_n dX12_cover_24 rfl rfl ?_
      refine wp_if_neN dX12_cover_25 rfl (by omega) (fun c3 => ?_) (fun c3 => ?_)
      · refine wp_iload_n dX12_cover_35 rfl rfl ?_
        refine wp_iconst (v := (nI 1)) dX12_cover_36 (by decide +kernel) ?_
        refine wp_icmp_neN dX12_cover_37 rfl rfl ⟨by omega, by omega⟩ (fun c4 => ?_) (fun c4 => ?_)
        · refine wp_aload_n dX12_cover_47 rfl rfl ?_
          refine wp_getIV dX12_cover_48 lX12_419 rfl (mO mc3.1) eh3 ?_
          refine wp_ireturn dX12_cover_51 rfl ?_
          refine hq _ _ (f3.up (by decide) (by decide)) ?_
          unfold spCover
          rw [xs1, xs2]
          refine ⟨L3, p3, co3, ?_⟩
          first | rw [if_pos (by omega)] | rw [if_neg (by omega), if_pos (by omega)] | rw [if_neg (by omega), if_neg (by omega)]
        · refine wp_aload_n dX12_cover_40 rfl rfl ?_
          refine wp_cV0 1 21 [some _, none, none] dX12_cover_41 tX12_coverCost rfl (by decide) nX12_coverCost vX12_coverCost lX12_434 ⟨by decide, by decide⟩ (Nat.le_of_ble_eq_true rfl) (mO mc3.1) (Nat.le_of_ble_eq_true rfl) rfl ?_
          refine pX12_coverCost mc3.1 rl3 cv3 ?_
          intro _ _
          refine wp_goto dX12_cover_44 ?_
          refine wp_ireturn dX12_cover_51 rfl ?_
          refine hq _ _ (f3.up (by decide) (by decide)) ?_
          unfold spCover
          rw [xs1, xs2]
          refine ⟨L3, p3, co3, ?_⟩
          first | rw [if_pos (by omega)] | rw [if_neg (by omega), if_pos (by omega)] | rw [if_neg (by omega), if_neg (by omega)]
      · refine wp_aload_n dX12_cover_28 rfl rfl ?_
        refine wp_getIV dX12_cover_29 lX12_425 rfl (mO mc3.1) cv3.1 ?_
        refine wp_goto dX12_cover_32 ?_
        refine wp_ireturn dX12_cover_51 rfl ?_
        refine hq _ _ (f3.up (by decide) (by decide)) ?_
        unfold spCover
        rw [xs1, xs2]
        refine ⟨L3, p3, co3, ?_⟩
        first | rw [if_pos (by omega)] | rw [if_neg (by omega), if_pos (by omega)] | rw [if_neg (by omega), if_neg (by omega)]
    · have xn2 := ix_none (n := 3) (by decide) (fun j hj ej => i2 ((ixM (by decide)).mpr ⟨j, by omega, ej⟩))
      intro _ _
      refine wp_if_ne dX12_cover_14 (fun q => absurd q (by decide +kernel)) (fun _ => ?_)
      refine wp_iconst (v := (-1)) dX12_cover_17 (by decide +kernel) ?_
      refine wp_ireturn dX12_cover_18 rfl ?_
      refine hq _ _ mFr.rf ?_
      simp only [spCover, *]
  · have xn1 := ix_none (by omega) nj1
    intro _ _
    refine wp_if_eq dX12_cover_5 (fun _ => ?_) (fun q => absurd q (by decide +kernel))
    refine wp_iconst (v := (-1)) dX12_cover_17 (by decide +kernel) ?_
    refine wp_ireturn dX12_cover_18 rfl ?_
    refine hq _ _ mFr.rf ?_
    simp only [spCover, *]
set_option maxRecDepth 20000 in
theorem pX12_covers {h : mH} {Q : Option Value → mH → Prop} {r : Nat → Int64} {F : Nat} {pa my : Nat → Int32} {x y w : Int32} (hc : mC h r F pa my) (hd : sOK r F pa my) (hq : ∀ v h', mFr pwS h h' → spCovers r F pa my x y w v → Q (some (.int v)) h') : Wp mX12_covers 8 200 0 [some (.ref 153), some (.int x), some (.int y), some (.int w), none] [] h Q := by
  have hF4 := hd.f4
  have hP6 := hd.w.1.2
  refine wp_aload_n dX12_covers_0 rfl rfl ?_
  refine wp_iload_n dX12_covers_1 rfl rfl ?_
  refine wp_cV1 1 22 [some _, some _] dX12_covers_2 tX12_isField rfl (by decide) nX12_isField vX12_isField lX12_299 ⟨by decide, by decide⟩ (Nat.le_of_ble_eq_true rfl) (mO hc.1) (Nat.le_of_ble_eq_true rfl) rfl ?_
  refine pX12_isField' hc hd (fun j1 hj1 ej1 => ?_) (fun nj1 => ?_)
  · subst ej1
    have xs1 := ix_nI hj1 (by omega)
    intro _ _
    refine wp_if_eq dX12_covers_5 (fun q => absurd q (by decide +kernel)) (fun _ => ?_)
    refine wp_iload_n dX12_covers_8 rfl rfl ?_
    refine wp_iconst (v := (nI 0)) dX12_covers_9 (by decide +kernel) ?_
    refine wp_iconst (v := (nI 5)) dX12_covers_10 (by decide +kernel) ?_
    refine wp_cS3 0 0 [some _, some _, some _] dX12_covers_11 tX12_isIn sX12_isIn lX12_147 ⟨by decide, by decide⟩ (Nat.le_of_ble_eq_true rfl) (Nat.le_of_ble_eq_true rfl) rfl ?_
    refine pX12_isIn (fun i2 => ?_) (fun i2 => ?_)
    · obtain ⟨j2, hj2, ej2⟩ := (ixM (by decide)).mp i2
      subst ej2
      have xs2 := ix_nI (n := 6) (show j2 < 6 by omega) (by decide)
      intro _ _
      refine wp_if_ne dX12_covers_14 (fun _ => ?_) (fun q => absurd q (by decide +kernel))
      refine wp_aload_n dX12_covers_20 rfl rfl ?_
      refine wp_iload_n dX12_covers_21 rfl rfl ?_
      refine wp_cV1 7 178 [some _, some _, none] dX12_covers_22 tX12_laysCoverOf rfl (by decide) nX12_laysCoverOf vX12_laysCoverOf lX12_431 ⟨by decide, by decide⟩ (Nat.le_of_ble_eq_true rfl) (mO hc.1) (Nat.le_of_ble_eq_true rfl) rfl ?_
      refine pX12_laysCoverOf hc hd (by omega) (fun hh3 n3 K3 O3 L3 p3 f3 nx3 rl3 cv3 eh3 co3 hp3 => ?_)
      intro _ _
      have mc3 := hc.fr f3 (by decide) (by decide) (by decide) (by decide) (by decide)
      have hL9 := cv3.2.1
      have hn9 := rl3.2.1
      refine wp_iload_n dX12_covers_25 rfl rfl ?_
      refine wp_iconst (v := (nI 0)) dX12_covers_26 (by decide +kernel) ?_
      refine wp_aload_n dX12_covers_27 rfl rfl ?_
      refine wp_getIV dX12_covers_28 lX12_425 rfl (mO mc3.1) cv3.1 ?_
      refine wp_iconst (v := (nI 1)) dX12_covers_31 (by decide +kernel) ?_
      refine wp_isub dX12_covers_32 ?_
      refine wp_cS3 0 0 [some _, some _, some _] dX12_covers_33 tX12_isIn sX12_isIn lX12_147 ⟨by decide, by decide⟩ (Nat.le_of_ble_eq_true rfl) (Nat.le_of_ble_eq_true rfl) rfl ?_
      refine pX12_isIn (fun i4 => ?_) (fun i4 => ?_)
      · obtain ⟨j4, hj4, ej4⟩ := (ixN (by omega)).mp i4
        subst ej4
        have xs4 := ix_nI hj4 (by omega)
        intro _ _
        refine wp_if_ne dX12_covers_36 (fun _ => ?_) (fun q => absurd q (by decide +kernel))
        obtain ⟨x9, hx9, ex9, kx9⟩ := cv3.2.2 j4 (by omega)
        refine wp_aload_n dX12_covers_42 rfl rfl ?_
        refine wp_getR dX12_covers_43 lX12_98 rfl (mO mc3.1) (mR_coverRule mc3.1) ?_
        refine wp_iload_n dX12_covers_46 rfl rfl ?_
        refine wp_ialdV dX12_covers_47 (mA_coverRule mc3.1) rfl ⟨by omega, by decide⟩ ex9 ?_
        refine wp_istore (ls1 := [_, _, _, _, some _]) dX12_covers_48 (by decide) rfl ?_
        refine wp_iload_n dX12_covers_50 rfl rfl ?_
        refine wp_iconst (v := (nI 4)) dX12_covers_51 (by decide +kernel) ?_
        refine wp_icmp_geN dX12_covers_52 rfl rfl ⟨by omega, by omega⟩ (fun c4 => ?_) (fun c4 => ?_)
        · refine wp_iload_n dX12_covers_69 rfl rfl ?_
          refine wp_iconst (v := (nI 4)) dX12_covers_70 (by decide +kernel) ?_
          refine wp_icmp_neN dX12_covers_71 rfl rfl ⟨by omega, by omega⟩ (fun c5 => ?_) (fun c5 => ?_)
          · refine wp_aload_n dX12_covers_87 rfl rfl ?_
            refine wp_getR dX12_covers_88 lX12_76 rfl (mO mc3.1) (mR_rights mc3.1) ?_
            refine wp_iload dX12_covers_91 rfl ?_
            refine wp_ialdV dX12_covers_93 (mA_rights mc3.1) rfl ⟨by omega, by decide⟩ (rl3.2.2.1 x9 (by omega)).2.2.1 ?_
            refine wp_ireturn dX12_covers_94 rfl ?_
            refine hq _ _ (f3.up (by decide) (by decide)) ?_
            unfold spCovers
            rw [xs1, xs2]
            refine ⟨L3, p3, co3, ?_⟩
            simp only [xs4]
            rw [← kx9]
            first | rw [if_pos (by omega)] | rw [if_neg (by omega), if_pos (by omega)] | rw [if_neg (by omega), if_neg (by omega)]
          · refine wp_aload_n dX12_covers_74 rfl rfl ?_
            refine wp_getR dX12_covers_75 lX12_70 rfl (mO mc3.1) (mR_key mc3.1) ?_
            refine wp_iload dX12_covers_78 rfl ?_
            refine wp_laldV dX12_covers_80 (mA_key mc3.1) rfl ⟨by omega, by decide⟩ (rl3.2.2.1 x9 (by omega)).1.1 ?_
            refine wp_cS1 0 0 [some _, none] dX12_covers_81 tX12_costOfKey sX12_costOfKey lX12_413 ⟨by decide, by decide⟩ (Nat.le_of_ble_eq_true rfl) (Nat.le_of_ble_eq_true rfl) rfl ?_
            refine pX12_costOfKey (rl3.2.2.1 x9 hx9).1.2 ?_
            intro _ _
            refine wp_goto dX12_covers_84 ?_
            refine wp_ireturn dX12_covers_94 rfl ?_
            refine hq _ _ (f3.up (by decide) (by decide)) ?_
            unfold spCovers
            rw [xs1, xs2]
            refine ⟨L3, p3, co3, ?_⟩
            simp only [xs4]
            rw [← kx9]
            first | rw [if_pos (by omega)] | rw [if_neg (by omega), if_pos (by omega)] | rw [if_neg (by omega), if_neg (by omega)]
        · refine wp_aload_n dX12_covers_55 rfl rfl ?_
          refine wp_getR dX12_covers_56 lX12_70 rfl (mO mc3.1) (mR_key mc3.1) ?_
          refine wp_iload dX12_covers_59 rfl ?_
          refine wp_laldV dX12_covers_61 (mA_key mc3.1) rfl ⟨by omega, by decide⟩ (rl3.2.2.1 x9 (by omega)).1.1 ?_
          refine wp_iload_n dX12_covers_62 rfl rfl ?_
          refine wp_cS2 0 0 [some _, none, some _] dX12_covers_63 tX12_itemOf sX12_itemOf lX12_403 ⟨by decide, by decide⟩ (Nat.le_of_ble_eq_true rfl) (Nat.le_of_ble_eq_true rfl) rfl ?_
          refine pX12_itemOf (rl3.2.2.1 x9 hx9).1.2 (by omega) ?_
          intro _ _
          refine wp_goto dX12_covers_66 ?_
          refine wp_ireturn dX12_covers_94 rfl ?_
          refine hq _ _ (f3.up (by decide) (by decide)) ?_
          unfold spCovers
          rw [xs1, xs2]
          refine ⟨L3, p3, co3, ?_⟩
          simp only [xs4]
          rw [← kx9]
          first | rw [if_pos (by omega)] | rw [if_neg (by omega), if_pos (by omega)] | rw [if_neg (by omega), if_neg (by omega)]
      · have xn4 := ix_none (by omega) (fun j hj ej => i4 ((ixN (by omega)).mpr ⟨j, hj, ej⟩))
        intro _ _
        refine wp_if_ne dX12_covers_36 (fun q => absurd q (by decide +kernel)) (fun _ => ?_)
        refine wp_bipush (v := (-2)) dX12_covers_39 (by decide +kernel) ?_
        refine wp_ireturn dX12_covers_41 rfl ?_
        refine hq _ _ (f3.up (by decide) (by decide)) ?_
        unfold spCovers
        rw [xs1, xs2]
        refine ⟨L3, p3, co3, ?_⟩
        simp only [*]
    · have xn2 := ix_none (n := 6) (by decide) (fun j hj ej => i2 ((ixM (by decide)).mpr ⟨j, by omega, ej⟩))
      intro _ _
      refine wp_if_ne dX12_covers_14 (fun q => absurd q (by decide +kernel)) (fun _ => ?_)
      refine wp_bipush (v := (-2)) dX12_covers_17 (by decide +kernel) ?_
      refine wp_ireturn dX12_covers_19 rfl ?_
      refine hq _ _ mFr.rf ?_
      simp only [spCovers, *]
  · have xn1 := ix_none (by omega) nj1
    intro _ _
    refine wp_if_eq dX12_covers_5 (fun _ => ?_) (fun q => absurd q (by decide +kernel))
    refine wp_bipush (v := (-2)) dX12_covers_17 (by decide +kernel) ?_
    refine wp_ireturn dX12_covers_19 rfl ?_
    refine hq _ _ mFr.rf ?_
    simp only [spCovers, *]
set_option maxRecDepth 20000 in
theorem pX12_isRightOn {h : mH} {Q : Option Value → mH → Prop} {r : Nat → Int64} {pa my : Nat → Int32} {f S n p : Nat} {K O : Nat → Nat} {L : List Nat} (hs : mS h) (rl : ruL h r pa my f S n K O) (cv : cvR h n K L) (hp6 : p < 6) (hSp : S.testBit p = true) (ht : roF r pa my f p L = true → Q (some (.int (nI 1))) h) (hf : roF r pa my f p L = false → Q (some (.int (nI 0))) h) : Wp mX12_isRightOn 1 21 0 [some (.ref 153), some (.int (nI p)), none] [] h Q := by
  have hloop : ∀  (t : Nat) (k : Nat), (k ≤ L.length) → (roF r pa my f p (L.drop k) = true → Q (some (.int (nI 1))) h) → (roF r pa my f p (L.drop k) = false → Q (some (.int (nI 0))) h) → (L.length < k + t) → Wp mX12_isRightOn 1 21 2 [some (.ref 153), some (.int (nI p)), some (.int (nI k))] [] h Q := by
    intro t
    induction t with
    | zero => intros; omega
    | succ t ih =>
      intro k hk ht hf hmz
      have hL := cv.2.1
      have hn := rl.2.1
      refine wp_iload_n dX12_isRightOn_2 rfl rfl ?_
      refine wp_aload_n dX12_isRightOn_3 rfl rfl ?_
      refine wp_getIV dX12_isRightOn_4 lX12_425 rfl (mO hs) cv.1 ?_
      refine wp_icmp_geN dX12_isRightOn_7 rfl rfl ⟨by omega, by omega⟩ (fun c1 => ?_) (fun c1 => ?_)
      · refine wp_iconst (v := (nI 0)) dX12_isRightOn_56 (by decide +kernel) ?_
        refine wp_zreturn dX12_isRightOn_57 rfl (Or.inl rfl) ?_
        first | exact hf (by rw [ed]; show (if _ then _ else _) = _; rw [if_pos o1.2.2]) | exact hf (by rw [List.drop_eq_nil_of_le (by omega)]; rfl)
      · obtain ⟨x9, hx9, ex9, kx9⟩ := cv.2.2 k (by omega)
        have ed := drop_s (show k < L.length by omega)
        refine wp_aload_n dX12_isRightOn_10 rfl rfl ?_
        refine wp_getR dX12_isRightOn_11 lX12_79 rfl (mO hs) (mR_wrongs hs) ?_
        refine wp_aload_n dX12_isRightOn_14 rfl rfl ?_
        refine wp_getR dX12_isRightOn_15 lX12_98 rfl (mO hs) (mR_coverRule hs) ?_
        refine wp_iload_n dX12_isRightOn_18 rfl rfl ?_
        refine wp_ialdV dX12_isRightOn_19 (mA_coverRule hs) rfl ⟨by omega, by decide⟩ ex9 ?_
        refine wp_ialdV dX12_isRightOn_20 (mA_wrongs hs) rfl ⟨by omega, by decide⟩ (rl.2.2.1 x9 (by omega)).2.2.2 ?_
        refine wp_iload_n dX12_isRightOn_21 rfl rfl ?_
        refine wp_cS2 0 0 [some _, some _] dX12_isRightOn_22 tX12_isOf sX12_isOf lX12_394 ⟨by decide, by decide⟩ (Nat.le_of_ble_eq_true rfl) (Nat.le_of_ble_eq_true rfl) rfl ?_
        refine pX12_isOf (tvm_lt 6 (by omega)) (by omega) (fun o1 => ?_) (fun o1 => ?_)
        · intro _ _
          rw [tvm_tb, decide_eq_true_iff, kx9] at o1
          refine wp_if_eq dX12_isRightOn_25 (fun q => absurd q (by decide +kernel)) (fun _ => ?_)
          refine wp_iconst (v := (nI 0)) dX12_isRightOn_28 (by decide +kernel) ?_
          refine wp_zreturn dX12_isRightOn_29 rfl (Or.inl rfl) ?_
          first | exact hf (by rw [ed]; show (if _ then _ else _) = _; rw [if_pos o1.2.2]) | exact hf (by rw [List.drop_eq_nil_of_le (by omega)]; rfl)
        · intro _ _
          rw [tvm_tb, decide_eq_false_iff_not, kx9] at o1
          refine wp_if_eq dX12_isRightOn_25 (fun _ => ?_) (fun q => absurd q (by decide +kernel))
          refine wp_aload_n dX12_isRightOn_30 rfl rfl ?_
          refine wp_getR dX12_isRightOn_31 lX12_76 rfl (mO hs) (mR_rights hs) ?_
          refine wp_aload_n dX12_isRightOn_34 rfl rfl ?_
          refine wp_getR dX12_isRightOn_35 lX12_98 rfl (mO hs) (mR_coverRule hs) ?_
          refine wp_iload_n dX12_isRightOn_38 rfl rfl ?_
          refine wp_ialdV dX12_isRightOn_39 (mA_coverRule hs) rfl ⟨by omega, by decide⟩ ex9 ?_
          refine wp_ialdV dX12_isRightOn_40 (mA_rights hs) rfl ⟨by omega, by decide⟩ (rl.2.2.1 x9 (by omega)).2.2.1 ?_
          refine wp_iload_n dX12_isRightOn_41 rfl rfl ?_
          refine wp_cS2 0 0 [some _, some _] dX12_isRightOn_42 tX12_isOf sX12_isOf lX12_394 ⟨by decide, by decide⟩ (Nat.le_of_ble_eq_true rfl) (Nat.le_of_ble_eq_true rfl) rfl ?_
          refine pX12_isOf (tvm_lt 6 (by omega)) (by omega) (fun o2 => ?_) (fun o2 => ?_)
          · intro _ _
            rw [tvm_tb, decide_eq_true_iff, kx9] at o2
            refine wp_if_eq dX12_isRightOn_45 (fun q => absurd q (by decide +kernel)) (fun _ => ?_)
            refine wp_iconst (v := (nI 1)) dX12_isRightOn_48 (by decide +kernel) ?_
            refine wp_zreturn dX12_isRightOn_49 rfl (Or.inr rfl) ?_
            exact ht (by rw [ed]; show (if _ then _ else _) = _; rw [if_neg (fun z9 => o1 ⟨hp6, hSp, z9⟩), if_pos o2.2.2])
          · intro _ _
            rw [tvm_tb, decide_eq_false_iff_not, kx9] at o2
            refine wp_if_eq dX12_isRightOn_45 (fun _ => ?_) (fun q => absurd q (by decide +kernel))
            refine wp_iinc1 (ls1 := [_, _, some _]) dX12_isRightOn_50 rfl (by decide) rfl ?_
            refine wp_goto dX12_isRightOn_53 ?_
            refine ih (k + 1) (by omega) (fun z => ht (by rw [ed]; show (if _ then _ else _) = _; rw [if_neg (fun z9 => o1 ⟨hp6, hSp, z9⟩), if_neg (fun z9 => o2 ⟨hp6, hSp, z9⟩)]; exact z)) (fun z => hf (by rw [ed]; show (if _ then _ else _) = _; rw [if_neg (fun z9 => o1 ⟨hp6, hSp, z9⟩), if_neg (fun z9 => o2 ⟨hp6, hSp, z9⟩)]; exact z)) (by omega)
  refine wp_iconst (v := (nI 0)) dX12_isRightOn_0 (by decide +kernel) ?_
  refine wp_istore_n (ls1 := [_, _, some _]) dX12_isRightOn_1 rfl (by decide) rfl ?_
  exact hloop (L.length + 1) 0 (by omega) ht hf (by omega)
set_option maxRecDepth 20000 in
theorem enough_in {h : mH} {Q : Option Value → mH → Prop} {r : Nat → Int64} {pa my : Nat → Int32} {f S n b s : Nat} {K O : Nat → Nat} {L : List Nat} (hs : mS h) (hS64 : S < 64) (rl : ruL h r pa my f S n K O) (cv : cvR h n K L) (K1 : (∀ q, q < 6 → S.testBit q = true → roF r pa my f q L = true) → Wp mX12_enough 7 178 125 [some (.ref 153), some (.int (nI f)), some (.int (nI S)), some (.int (nI b)), some (.int (nI s)), some (.int (nI 1)), some (.int (nI 6))] [] h Q) (K0 : ¬ (∀ q, q < 6 → S.testBit q = true → roF r pa my f q L = true) → Wp mX12_enough 7 178 125 [some (.ref 153), some (.int (nI f)), some (.int (nI S)), some (.int (nI b)), some (.int (nI s)), some (.int (nI 0)), some (.int (nI 6))] [] h Q) : Wp mX12_enough 7 178 82 [some (.ref 153), some (.int (nI f)), some (.int (nI S)), some (.int (nI b)), some (.int (nI s)), some (.int (nI 1)), some (.int (nI 0))] [] h Q := by
  have hloop : ∀  (t : Nat) (p : Nat) (w : Int32), (p ≤ 6) → ((w = nI 1 ∧ (∀ q, q < p → S.testBit q = true → roF r pa my f q L = true)) ∨ (w = nI 0 ∧ ¬ (∀ q, q < p → S.testBit q = true → roF r pa my f q L = true))) → (6 < p + t) → Wp mX12_enough 7 178 82 [some (.ref 153), some (.int (nI f)), some (.int (nI S)), some (.int (nI b)), some (.int (nI s)), some (.int w), some (.int (nI p))] [] h Q := by
    intro t
    induction t with
    | zero => intros; omega
    | succ t ih =>
      intro p w hp hb hmz
      refine wp_iload dX12_enough_82 rfl ?_
      refine wp_bipush (v := (nI 6)) dX12_enough_84 (by decide +kernel) ?_
      refine wp_icmp_geN dX12_enough_86 rfl rfl ⟨by omega, by omega⟩ (fun c1 => ?_) (fun c1 => ?_)
      · have e9 : p = 6 := by omega
        subst e9
        rcases hb with ⟨eb, hb⟩ | ⟨eb, hb⟩ <;> subst eb
        · exact K1 hb
        · exact K0 hb
      · rcases hb with ⟨eb, hb⟩ | ⟨eb, hb⟩ <;> subst eb
        · refine wp_iload dX12_enough_89 rfl ?_
          refine wp_if_eq dX12_enough_91 (fun q => absurd q (by decide +kernel)) (fun _ => ?_)
          refine wp_iload_n dX12_enough_94 rfl rfl ?_
          refine wp_iload dX12_enough_95 rfl ?_
          refine wp_cS2 0 0 [some _, some _] dX12_enough_97 tX12_isOf sX12_isOf lX12_394 ⟨by decide, by decide⟩ (Nat.le_of_ble_eq_true rfl) (Nat.le_of_ble_eq_true rfl) rfl ?_
          refine pX12_isOf hS64 (by omega) (fun o1 => ?_) (fun o1 => ?_)
          · intro _ _
            refine wp_if_eq dX12_enough_100 (fun q => absurd q (by decide +kernel)) (fun _ => ?_)
            refine wp_aload_n dX12_enough_103 rfl rfl ?_
            refine wp_iload dX12_enough_104 rfl ?_
            refine wp_cV1 1 21 [some _, some _, none] dX12_enough_106 tX12_isRightOn rfl (by decide) nX12_isRightOn vX12_isRightOn lX12_440 ⟨by decide, by decide⟩ (Nat.le_of_ble_eq_true rfl) (mO hs) (Nat.le_of_ble_eq_true rfl) rfl ?_
            refine pX12_isRightOn hs rl cv (by omega) o1 (fun q2 => ?_) (fun q2 => ?_)
            · intro _ _
              refine wp_if_eq dX12_enough_109 (fun q => absurd q (by decide +kernel)) (fun _ => ?_)
              refine wp_iconst (v := (nI 1)) dX12_enough_112 (by decide +kernel) ?_
              refine wp_goto dX12_enough_113 ?_
              refine wp_istore (ls1 := [_, _, _, _, _, some _, _]) dX12_enough_117 (by decide) rfl ?_
              refine wp_iinc1 (ls1 := [_, _, _, _, _, _, some _]) dX12_enough_119 rfl (by decide) rfl ?_
              refine wp_goto dX12_enough_122 ?_
              refine ih (p + 1) _ (by omega) (Or.inl ⟨rfl, fun q hq z => ?_⟩) (by omega)
              by_cases e9 : q = p
              · subst e9
                first | exact q2 | (rw [o1] at z; exact absurd z (by decide))
              · exact hb q (by omega) z
            · intro _ _
              refine wp_if_eq dX12_enough_109 (fun _ => ?_) (fun q => absurd q (by decide +kernel))
              refine wp_iconst (v := (nI 0)) dX12_enough_116 (by decide +kernel) ?_
              refine wp_istore (ls1 := [_, _, _, _, _, some _, _]) dX12_enough_117 (by decide) rfl ?_
              refine wp_iinc1 (ls1 := [_, _, _, _, _, _, some _]) dX12_enough_119 rfl (by decide) rfl ?_
              refine wp_goto dX12_enough_122 ?_
              refine ih (p + 1) _ (by omega) (Or.inr ⟨rfl, fun z => ?_⟩) (by omega)
              have z1 := z p (by omega) o1
              rw [q2] at z1
              exact absurd z1 (by decide)
          · intro _ _
            refine wp_if_eq dX12_enough_100 (fun _ => ?_) (fun q => absurd q (by decide +kernel))
            refine wp_iconst (v := (nI 1)) dX12_enough_112 (by decide +kernel) ?_
            refine wp_goto dX12_enough_113 ?_
            refine wp_istore (ls1 := [_, _, _, _, _, some _, _]) dX12_enough_117 (by decide) rfl ?_
            refine wp_iinc1 (ls1 := [_, _, _, _, _, _, some _]) dX12_enough_119 rfl (by decide) rfl ?_
            refine wp_goto dX12_enough_122 ?_
            refine ih (p + 1) _ (by omega) (Or.inl ⟨rfl, fun q hq z => ?_⟩) (by omega)
            by_cases e9 : q = p
            · subst e9
              first | exact rfl | (rw [o1] at z; exact absurd z (by decide))
            · exact hb q (by omega) z
        · refine wp_iload dX12_enough_89 rfl ?_
          refine wp_if_eq dX12_enough_91 (fun _ => ?_) (fun q => absurd q (by decide +kernel))
          refine wp_iconst (v := (nI 0)) dX12_enough_116 (by decide +kernel) ?_
          refine wp_istore (ls1 := [_, _, _, _, _, some _, _]) dX12_enough_117 (by decide) rfl ?_
          refine wp_iinc1 (ls1 := [_, _, _, _, _, _, some _]) dX12_enough_119 rfl (by decide) rfl ?_
          refine wp_goto dX12_enough_122 ?_
          refine ih (p + 1) _ (by omega) (Or.inr ⟨rfl, fun z => hb (fun q hq => z q (by omega))⟩) (by omega)
  exact hloop 7 0 _ (by omega) (Or.inl ⟨rfl, fun q hq => by omega⟩) (by omega)
set_option maxRecDepth 20000 in
theorem enough_out {h : mH} {Q : Option Value → mH → Prop} {r : Nat → Int64} {pa my : Nat → Int32} {f S n : Nat} {K O : Nat → Nat} {ok : Nat → Bool} {x5 x6 : Option Value} (hs : mS h) (hS64 : S < 64) (rl : ruL h r pa my f S n K O) (hok : ∀ s, ok s = true ↔ okE r pa my f S s) (K9 : ∀ h', mFr (mP [47, 48] [176, 177, 178, 179, 180]) h h' → Q (some (.int (nI (enB ok S 64)))) h') : Wp mX12_enough 7 178 35 [some (.ref 153), some (.int (nI f)), some (.int (nI S)), some (.int (nI 0)), some (.int (nI 1)), x5, x6] [] h Q := by
  have hloop : ∀  (t : Nat) (s : Nat) (bb : Nat) (x5 : Option Value) (x6 : Option Value) (h1 : mH), (1 ≤ s) → (s ≤ 64) → (bb = enB ok S s) → (mS h1) → (ruL h1 r pa my f S n K O) → (mFr (mP [47, 48] [176, 177, 178, 179, 180]) h h1) → (64 < s + t) → Wp mX12_enough 7 178 35 [some (.ref 153), some (.int (nI f)), some (.int (nI S)), some (.int (nI bb)), some (.int (nI s)), x5, x6] [] h1 Q := by
    intro t
    induction t with
    | zero => intros; omega
    | succ t ih =>
      intro s bb x5 x6 h1 hs0 hs64 hbb hs1 rl1 hf1 hmz
      have hb64 : bb < 64 := hbb ▸ enB_lt s (by omega)
      refine wp_iload dX12_enough_35 rfl ?_
      refine wp_bipush (v := (nI 64)) dX12_enough_37 (by decide +kernel) ?_
      refine wp_icmp_geN dX12_enough_39 rfl rfl ⟨by omega, by omega⟩ (fun c1 => ?_) (fun c1 => ?_)
      · refine wp_iload_n dX12_enough_139 rfl rfl ?_
        refine wp_ireturn dX12_enough_140 rfl ?_
        have e9 : s = 64 := by omega
        subst e9
        subst hbb
        exact K9 _ hf1
      · refine wp_iload dX12_enough_42 rfl ?_
        refine wp_iload_n dX12_enough_44 rfl rfl ?_
        refine wp_iconst (v := (-1)) dX12_enough_45 (by decide +kernel) ?_
        refine wp_ixor dX12_enough_46 ?_
        refine wp_iand dX12_enough_47 ?_
        rw [nx_not hS64 (by omega)]
        refine wp_if_neN dX12_enough_48 rfl (Nat.lt_of_le_of_lt Nat.and_le_left (by omega)) (fun c2 => ?_) (fun c2 => ?_)
        · refine wp_iinc1 (ls1 := [_, _, _, _, some _, _, _]) dX12_enough_133 rfl (by decide) rfl ?_
          refine wp_goto dX12_enough_136 ?_
          have e8 : enB ok S (s + 1) = enB ok S s := by show (if _ then _ else _) = enB ok S s; rw [if_neg (by rw [← hbb]; omega)]
          exact ih (s + 1) _ _ _ _ (by omega) (by omega) (hbb.trans e8.symm) hs1 rl1 (hf1.up (by decide) (by decide)) (by omega)
        · refine wp_iload_n dX12_enough_51 rfl rfl ?_
          refine wp_if_eqN dX12_enough_52 rfl (by omega) (fun c3 => ?_) (fun c3 => ?_)
          · refine wp_aload_n dX12_enough_70 rfl rfl ?_
            refine wp_iload dX12_enough_71 rfl ?_
            refine wp_cV1 2 47 [some _, some _, none, none, none, none] dX12_enough_73 tX12_laysCover rfl (by decide) nX12_laysCover vX12_laysCover lX12_428 ⟨by decide, by decide⟩ (Nat.le_of_ble_eq_true rfl) (mO hs1) (Nat.le_of_ble_eq_true rfl) rfl ?_
            refine pX12_laysCover hs1 rl1 (by omega) (fun p hp => sub_tb hS64 (by assumption) (by omega) hp) (fun hh1 L1 p1 f1 cv1 eh1 co1 hp1 => ?_)
            intro _ _
            have S1 := f1.s hs1
            have rl1 := rl1.fr f1 (by decide) (by decide)
            refine wp_iconst (v := (nI 1)) dX12_enough_76 (by decide +kernel) ?_
            refine wp_istore (ls1 := [_, _, _, _, _, some _, _]) dX12_enough_77 (by decide) rfl ?_
            refine wp_iconst (v := (nI 0)) dX12_enough_79 (by decide +kernel) ?_
            refine wp_istore (ls1 := [_, _, _, _, _, _, some _]) dX12_enough_80 (by decide) rfl ?_
            refine enough_in S1 hS64 rl1 cv1 (fun al => ?_) (fun al => ?_)
            · refine wp_iload dX12_enough_125 rfl ?_
              refine wp_if_eq dX12_enough_127 (fun q => absurd q (by decide +kernel)) (fun _ => ?_)
              refine wp_iload dX12_enough_130 rfl ?_
              refine wp_istore_n (ls1 := [_, _, _, some _, _, _, _]) dX12_enough_132 rfl (by decide) rfl ?_
              refine wp_iinc1 (ls1 := [_, _, _, _, some _, _, _]) dX12_enough_133 rfl (by decide) rfl ?_
              refine wp_goto dX12_enough_136 ?_
              have e8 : enB ok S (s + 1) = s := by show (if _ then _ else _) = s; rw [if_pos ⟨by omega, by assumption, by rw [← hbb]; omega, (hok s).mpr ⟨_, _, co1, al⟩⟩]
              exact ih (s + 1) _ _ _ _ (by omega) (by omega) e8.symm S1 rl1 ((hf1.up (by decide) (by decide)).tr (f1.up (by decide) (by decide))) (by omega)
            · refine wp_iload dX12_enough_125 rfl ?_
              refine wp_if_eq dX12_enough_127 (fun _ => ?_) (fun q => absurd q (by decide +kernel))
              refine wp_iinc1 (ls1 := [_, _, _, _, some _, _, _]) dX12_enough_133 rfl (by decide) rfl ?_
              refine wp_goto dX12_enough_136 ?_
              have e8 : enB ok S (s + 1) = enB ok S s := by show (if _ then _ else _) = enB ok S s; rw [if_neg (fun z9 => al (by obtain ⟨L9, p9, c9, a9⟩ := (hok s).mp z9.2.2.2; rw [(coP_un co1 c9).1]; exact a9))]
              exact ih (s + 1) _ _ _ _ (by omega) (by omega) (hbb.trans e8.symm) S1 rl1 ((hf1.up (by decide) (by decide)).tr (f1.up (by decide) (by decide))) (by omega)
          · refine wp_iload dX12_enough_55 rfl ?_
            refine wp_cS1 0 0 [some _, none, none] dX12_enough_57 tX12_many sX12_many lX12_437 ⟨by decide, by decide⟩ (Nat.le_of_ble_eq_true rfl) (Nat.le_of_ble_eq_true rfl) rfl ?_
            refine pX12_many (by first | omega | exact hb64) ?_
            intro _ _
            refine wp_iload_n dX12_enough_60 rfl rfl ?_
            refine wp_cS1 0 0 [some _, none, none] dX12_enough_61 tX12_many sX12_many lX12_437 ⟨by decide, by decide⟩ (Nat.le_of_ble_eq_true rfl) (Nat.le_of_ble_eq_true rfl) rfl ?_
            refine pX12_many (by first | omega | exact hb64) ?_
            intro _ _
            refine wp_icmp_ltN dX12_enough_64 rfl rfl ⟨by have := pc6_le s 16; omega, by have := pc6_le bb 16; omega⟩ (fun c6 => ?_) (fun c6 => ?_)
            · refine wp_aload_n dX12_enough_70 rfl rfl ?_
              refine wp_iload dX12_enough_71 rfl ?_
              refine wp_cV1 2 47 [some _, some _, none, none, none, none] dX12_enough_73 tX12_laysCover rfl (by decide) nX12_laysCover vX12_laysCover lX12_428 ⟨by decide, by decide⟩ (Nat.le_of_ble_eq_true rfl) (mO hs1) (Nat.le_of_ble_eq_true rfl) rfl ?_
              refine pX12_laysCover hs1 rl1 (by omega) (fun p hp => sub_tb hS64 (by assumption) (by omega) hp) (fun hh2 L2 p2 f2 cv2 eh2 co2 hp2 => ?_)
              intro _ _
              have S2 := f2.s hs1
              have rl2 := rl1.fr f2 (by decide) (by decide)
              refine wp_iconst (v := (nI 1)) dX12_enough_76 (by decide +kernel) ?_
              refine wp_istore (ls1 := [_, _, _, _, _, some _, _]) dX12_enough_77 (by decide) rfl ?_
              refine wp_iconst (v := (nI 0)) dX12_enough_79 (by decide +kernel) ?_
              refine wp_istore (ls1 := [_, _, _, _, _, _, some _]) dX12_enough_80 (by decide) rfl ?_
              refine enough_in S2 hS64 rl2 cv2 (fun al => ?_) (fun al => ?_)
              · refine wp_iload dX12_enough_125 rfl ?_
                refine wp_if_eq dX12_enough_127 (fun q => absurd q (by decide +kernel)) (fun _ => ?_)
                refine wp_iload dX12_enough_130 rfl ?_
                refine wp_istore_n (ls1 := [_, _, _, some _, _, _, _]) dX12_enough_132 rfl (by decide) rfl ?_
                refine wp_iinc1 (ls1 := [_, _, _, _, some _, _, _]) dX12_enough_133 rfl (by decide) rfl ?_
                refine wp_goto dX12_enough_136 ?_
                have e8 : enB ok S (s + 1) = s := by show (if _ then _ else _) = s; rw [if_pos ⟨by omega, by assumption, by rw [← hbb]; omega, (hok s).mpr ⟨_, _, co2, al⟩⟩]
                exact ih (s + 1) _ _ _ _ (by omega) (by omega) e8.symm S2 rl2 ((hf1.up (by decide) (by decide)).tr (f2.up (by decide) (by decide))) (by omega)
              · refine wp_iload dX12_enough_125 rfl ?_
                refine wp_if_eq dX12_enough_127 (fun _ => ?_) (fun q => absurd q (by decide +kernel))
                refine wp_iinc1 (ls1 := [_, _, _, _, some _, _, _]) dX12_enough_133 rfl (by decide) rfl ?_
                refine wp_goto dX12_enough_136 ?_
                have e8 : enB ok S (s + 1) = enB ok S s := by show (if _ then _ else _) = enB ok S s; rw [if_neg (fun z9 => al (by obtain ⟨L9, p9, c9, a9⟩ := (hok s).mp z9.2.2.2; rw [(coP_un co2 c9).1]; exact a9))]
                exact ih (s + 1) _ _ _ _ (by omega) (by omega) (hbb.trans e8.symm) S2 rl2 ((hf1.up (by decide) (by decide)).tr (f2.up (by decide) (by decide))) (by omega)
            · refine wp_goto dX12_enough_67 ?_
              refine wp_iinc1 (ls1 := [_, _, _, _, some _, _, _]) dX12_enough_133 rfl (by decide) rfl ?_
              refine wp_goto dX12_enough_136 ?_
              have e8 : enB ok S (s + 1) = enB ok S s := by show (if _ then _ else _) = enB ok S s; rw [if_neg (by rw [← hbb]; omega)]
              exact ih (s + 1) _ _ _ _ (by omega) (by omega) (hbb.trans e8.symm) hs1 rl1 (hf1.up (by decide) (by decide)) (by omega)
  exact hloop 65 1 0 x5 x6 h (by omega) (by omega) ((if_neg (fun z => z.1 rfl)).symm : 0 = enB ok S (0 + 1)) hs rl mFr.rf (by omega)
set_option maxRecDepth 20000 in
theorem pX12_enough {h : mH} {Q : Option Value → mH → Prop} {r : Nat → Int64} {F : Nat} {pa my : Nat → Int32} {x : Int32} (hc : mC h r F pa my) (hd : sOK r F pa my) (hq : ∀ v h', mFr pwS h h' → spEnough r F pa my x v → Q (some (.int v)) h') : Wp mX12_enough 7 178 0 [some (.ref 153), some (.int x), none, none, none, none, none] [] h Q := by
  have hF4 := hd.f4
  have hP6 := hd.w.1.2
  refine wp_aload_n dX12_enough_0 rfl rfl ?_
  refine wp_iload_n dX12_enough_1 rfl rfl ?_
  refine wp_cV1 1 22 [some _, some _] dX12_enough_2 tX12_isField rfl (by decide) nX12_isField vX12_isField lX12_299 ⟨by decide, by decide⟩ (Nat.le_of_ble_eq_true rfl) (mO hc.1) (Nat.le_of_ble_eq_true rfl) rfl ?_
  refine pX12_isField' hc hd (fun j1 hj1 ej1 => ?_) (fun nj1 => ?_)
  · subst ej1
    have xs1 := ix_nI hj1 (by omega)
    intro _ _
    refine wp_if_eq dX12_enough_5 (fun q => absurd q (by decide +kernel)) (fun _ => ?_)
    refine wp_aload_n dX12_enough_8 rfl rfl ?_
    refine wp_iload_n dX12_enough_9 rfl rfl ?_
    refine wp_cV1 2 43 [some _, some _, none, none] dX12_enough_10 tX12_examples rfl (by decide) nX12_examples vX12_examples lX12_407 ⟨by decide, by decide⟩ (Nat.le_of_ble_eq_true rfl) (mO hc.1) (Nat.le_of_ble_eq_true rfl) rfl ?_
    refine pX12_examplesN hc hd (by omega) ?_
    intro _ _
    refine wp_if_neN dX12_enough_13 rfl (by have := exE_lt (f := j1) hd; omega) (fun c2 => ?_) (fun c2 => ?_)
    · refine wp_aload_n dX12_enough_18 rfl rfl ?_
      refine wp_iload_n dX12_enough_19 rfl rfl ?_
      refine wp_cV1 2 43 [some _, some _, none, none] dX12_enough_20 tX12_examples rfl (by decide) nX12_examples vX12_examples lX12_407 ⟨by decide, by decide⟩ (Nat.le_of_ble_eq_true rfl) (mO hc.1) (Nat.le_of_ble_eq_true rfl) rfl ?_
      refine pX12_examplesN hc hd (by omega) ?_
      intro _ _
      refine wp_istore_n (ls1 := [_, _, some _, _, _, _, _]) dX12_enough_23 rfl (by decide) rfl ?_
      refine wp_aload_n dX12_enough_24 rfl rfl ?_
      refine wp_iload_n dX12_enough_25 rfl rfl ?_
      refine wp_iload_n dX12_enough_26 rfl rfl ?_
      refine wp_cV2 6 153 [some _, some _, some _, none, none, none] dX12_enough_27 tX12_laysRules rfl (by decide) nX12_laysRules vX12_laysRules lX12_410 ⟨by decide, by decide⟩ (Nat.le_of_ble_eq_true rfl) (mO hc.1) (Nat.le_of_ble_eq_true rfl) rfl ?_
      refine pX12_laysRules hc hd (by omega) (exE_lt hd) (fun p hp => exE_tb hp) (fun hh2 n2 K2 O2 f2 nx2 rl2 => ?_)
      intro _ _
      have mc2 := hc.fr f2 (by decide) (by decide) (by decide) (by decide) (by decide)
      refine wp_iconst (v := (nI 0)) dX12_enough_30 (by decide +kernel) ?_
      refine wp_istore_n (ls1 := [_, _, _, some _, _, _, _]) dX12_enough_31 rfl (by decide) rfl ?_
      refine wp_iconst (v := (nI 1)) dX12_enough_32 (by decide +kernel) ?_
      refine wp_istore (ls1 := [_, _, _, _, some _, _, _]) dX12_enough_33 (by decide) rfl ?_
      have hok : ∃ ok : Nat → Bool, ∀ s, ok s = true ↔ okE r pa my j1 (exE r j1) s := ⟨fun s => @decide (okE r pa my j1 (exE r j1) s) (Classical.propDecidable _), fun s => @decide_eq_true_iff _ (Classical.propDecidable _)⟩
      obtain ⟨ok, hok⟩ := hok
      refine enough_out mc2.1 (exE_lt hd) rl2 hok (fun hh3 f3 => ?_)
      refine hq _ _ ((f2.up (by decide) (by decide)).tr (f3.up (by decide) (by decide))) ?_
      unfold spEnough
      rw [xs1]
      simp only []
      rw [if_neg (by omega)]
      exact ⟨ok, hok, rfl⟩
    · refine wp_iconst (v := (-1)) dX12_enough_16 (by decide +kernel) ?_
      refine wp_ireturn dX12_enough_17 rfl ?_
      refine hq _ _ mFr.rf ?_
      unfold spEnough
      first | (simp only [*]; done) | (rw [xs1]; simp only []; rw [if_pos (by omega)]; trivial) | (rw [xs1]; simp only []; rw [if_pos (by omega)])
  · have xn1 := ix_none (by omega) nj1
    intro _ _
    refine wp_if_eq dX12_enough_5 (fun _ => ?_) (fun q => absurd q (by decide +kernel))
    refine wp_iconst (v := (-1)) dX12_enough_16 (by decide +kernel) ?_
    refine wp_ireturn dX12_enough_17 rfl ?_
    refine hq _ _ mFr.rf ?_
    unfold spEnough
    first | (simp only [*]; done) | (rw [xs1]; simp only []; rw [if_pos (by omega)]; trivial) | (rw [xs1]; simp only []; rw [if_pos (by omega)])
set_option maxRecDepth 20000 in
theorem pX12_without {h : mH} {Q : Option Value → mH → Prop} {r : Nat → Int64} {F : Nat} {pa my : Nat → Int32} {x y : Int32} (hc : mC h r F pa my) (hd : sOK r F pa my) (hq : ∀ v h', mFr pwS h h' → spWithout r F pa my x y v → Q (some (.int v)) h') : Wp mX12_without 7 178 0 [some (.ref 153), some (.int x), some (.int y), none] [] h Q := by
  have hF4 := hd.f4
  have hP6 := hd.w.1.2
  refine wp_aload_n dX12_without_0 rfl rfl ?_
  refine wp_iload_n dX12_without_1 rfl rfl ?_
  refine wp_cV1 1 22 [some _, some _] dX12_without_2 tX12_isPage rfl (by decide) nX12_isPage vX12_isPage lX12_286 ⟨by decide, by decide⟩ (Nat.le_of_ble_eq_true rfl) (mO hc.1) (Nat.le_of_ble_eq_true rfl) rfl ?_
  refine pX12_isPage' hc hd (fun j1 hj1 ej1 => ?_) (fun nj1 => ?_)
  · subst ej1
    have xs1 := ix_nI hj1 (by omega)
    intro _ _
    refine wp_if_eq dX12_without_5 (fun q => absurd q (by decide +kernel)) (fun _ => ?_)
    refine wp_aload_n dX12_without_8 rfl rfl ?_
    refine wp_iload_n dX12_without_9 rfl rfl ?_
    refine wp_cV1 1 22 [some _, some _] dX12_without_10 tX12_isField rfl (by decide) nX12_isField vX12_isField lX12_299 ⟨by decide, by decide⟩ (Nat.le_of_ble_eq_true rfl) (mO hc.1) (Nat.le_of_ble_eq_true rfl) rfl ?_
    refine pX12_isField' hc hd (fun j2 hj2 ej2 => ?_) (fun nj2 => ?_)
    · subst ej2
      have xs2 := ix_nI hj2 (by omega)
      intro _ _
      refine wp_if_eq dX12_without_13 (fun q => absurd q (by decide +kernel)) (fun _ => ?_)
      refine wp_aload_n dX12_without_16 rfl rfl ?_
      refine wp_iload_n dX12_without_17 rfl rfl ?_
      refine wp_iload_n dX12_without_18 rfl rfl ?_
      refine wp_cV2 1 21 [some _, some _, some _] dX12_without_19 tX12_partsOf rfl (by decide) nX12_partsOf vX12_partsOf lX12_302 ⟨by decide, by decide⟩ (Nat.le_of_ble_eq_true rfl) (mO hc.1) (Nat.le_of_ble_eq_true rfl) rfl ?_
      refine pX12_partsOf' hc hd (by omega) (by omega) ?_
      intro _ _
      refine wp_if_neN dX12_without_22 rfl (by have h9 := (hd.w.2.2 j2 j1 (by omega) (by omega)).1.2; omega) (fun c3 => ?_) (fun c3 => ?_)
      · refine wp_aload_n dX12_without_27 rfl rfl ?_
        refine wp_iload_n dX12_without_28 rfl rfl ?_
        refine wp_cV1 2 43 [some _, some _, none, none] dX12_without_29 tX12_examples rfl (by decide) nX12_examples vX12_examples lX12_407 ⟨by decide, by decide⟩ (Nat.le_of_ble_eq_true rfl) (mO hc.1) (Nat.le_of_ble_eq_true rfl) rfl ?_
        refine pX12_examplesN hc hd (by omega) ?_
        intro _ _
        refine wp_iconst (v := (nI 1)) dX12_without_32 (by decide +kernel) ?_
        refine wp_iload_n dX12_without_33 rfl rfl ?_
        refine wp_ishl dX12_without_34 ?_
        refine wp_iconst (v := (-1)) dX12_without_35 (by decide +kernel) ?_
        refine wp_ixor dX12_without_36 ?_
        refine wp_iand dX12_without_37 ?_
        rw [nx_shl1 (by omega), nx_not (two_lt (by omega)) (exE_lt hd)]
        refine wp_istore_n (ls1 := [_, _, _, some _]) dX12_without_38 rfl (by decide) rfl ?_
        refine wp_aload_n dX12_without_39 rfl rfl ?_
        refine wp_iload_n dX12_without_40 rfl rfl ?_
        refine wp_iload_n dX12_without_41 rfl rfl ?_
        refine wp_cV2 6 153 [some _, some _, some _, none, none, none] dX12_without_42 tX12_laysRules rfl (by decide) nX12_laysRules vX12_laysRules lX12_410 ⟨by decide, by decide⟩ (Nat.le_of_ble_eq_true rfl) (mO hc.1) (Nat.le_of_ble_eq_true rfl) rfl ?_
        refine pX12_laysRules hc hd (by omega) (and63 (exE_lt hd)) (fun p hp => exE_tb (by rw [Nat.testBit_and, Bool.and_eq_true] at hp; exact hp.1)) (fun hh3 n3 K3 O3 f3 nx3 rl3 => ?_)
        intro _ _
        have mc3 := hc.fr f3 (by decide) (by decide) (by decide) (by decide) (by decide)
        refine wp_aload_n dX12_without_45 rfl rfl ?_
        refine wp_iload_n dX12_without_46 rfl rfl ?_
        refine wp_cV1 2 47 [some _, some _, none, none, none, none] dX12_without_47 tX12_laysCover rfl (by decide) nX12_laysCover vX12_laysCover lX12_428 ⟨by decide, by decide⟩ (Nat.le_of_ble_eq_true rfl) (mO mc3.1) (Nat.le_of_ble_eq_true rfl) rfl ?_
        refine pX12_laysCover mc3.1 rl3 (and63 (exE_lt hd)) (fun p hp => hp) (fun hh4 L4 p4 f4 cv4 eh4 co4 hp4 => ?_)
        intro _ _
        have mc4 := mc3.fr f4 (by decide) (by decide) (by decide) (by decide) (by decide)
        have nx4 := nx3.fr f4 (by decide) (by decide)
        have rl4 := rl3.fr f4 (by decide) (by decide)
        refine wp_aload_n dX12_without_50 rfl rfl ?_
        refine wp_getIV dX12_without_51 lX12_419 rfl (mO mc4.1) eh4 ?_
        refine wp_cS1 0 0 [some _, none, none] dX12_without_54 tX12_many sX12_many lX12_437 ⟨by decide, by decide⟩ (Nat.le_of_ble_eq_true rfl) (Nat.le_of_ble_eq_true rfl) rfl ?_
        refine pX12_many hp4 ?_
        intro _ _
        refine wp_ireturn dX12_without_57 rfl ?_
        refine hq _ _ ((f3.up (by decide) (by decide)).tr (f4.up (by decide) (by decide))) ?_
        unfold spWithout
        simp only [xs1, xs2]
        rw [if_neg (by omega)]
        exact ⟨L4, p4, co4, rfl⟩
      · refine wp_iconst (v := (-1)) dX12_without_25 (by decide +kernel) ?_
        refine wp_ireturn dX12_without_26 rfl ?_
        refine hq _ _ mFr.rf ?_
        unfold spWithout
        first | (simp only [*]; done) | (simp only [xs1, xs2]; rw [if_pos (by omega)]; trivial) | (simp only [xs1, xs2]; rw [if_pos (by omega)])
    · have xn2 := ix_none (by omega) nj2
      intro _ _
      refine wp_if_eq dX12_without_13 (fun _ => ?_) (fun q => absurd q (by decide +kernel))
      refine wp_iconst (v := (-1)) dX12_without_25 (by decide +kernel) ?_
      refine wp_ireturn dX12_without_26 rfl ?_
      refine hq _ _ mFr.rf ?_
      unfold spWithout
      first | (simp only [*]; done) | (simp only [xs1, xs2]; rw [if_pos (by omega)]; trivial) | (simp only [xs1, xs2]; rw [if_pos (by omega)])
  · have xn1 := ix_none (by omega) nj1
    intro _ _
    refine wp_if_eq dX12_without_5 (fun _ => ?_) (fun q => absurd q (by decide +kernel))
    refine wp_iconst (v := (-1)) dX12_without_25 (by decide +kernel) ?_
    refine wp_ireturn dX12_without_26 rfl ?_
    refine hq _ _ mFr.rf ?_
    unfold spWithout
    first | (simp only [*]; done) | (simp only [xs1, xs2]; rw [if_pos (by omega)]; trivial) | (simp only [xs1, xs2]; rw [if_pos (by omega)])
