/-! ===== what is asked of letters ===== -/
theorem ltI_s {W : Nat → Int64} {l : List (Nat × Nat)} {i : Nat} : ltI W l (i + 1) = ltI W l i ++ (if 0 < i then [nI 47] else []) ++ ptL W (l.getD i (0, 0)).1 ((l.getD i (0, 0)).2 - (l.getD i (0, 0)).1) := rfl
def letV (L : List Int32) (i : Int32) : Int32 := if i = -1 then nI L.length else match ix i L.length with
  | some j => L.getD j 0
  | none => -1
theorem letV_n {L : List Int32} {i : Int32} (h : ¬ i = -1) (h2 : ix i L.length = none) : letV L i = -1 := by
  unfold letV
  rw [if_neg h, h2]
theorem letV_s {L : List Int32} {i : Int32} {j : Nat} (h : ¬ i = -1) (h2 : ix i L.length = some j) : letV L i = L.getD j 0 := by
  unfold letV
  rw [if_neg h, h2]
def spLetter (r : Nat → Int64) (F : Nat) (pa my : Nat → Int32) (x y i : Int32) : Int32 := match cnC r F x y with
  | some z => match cuX r pa my z.1 (-1) z.2 with
    | some c => letV (ltA (rwW r z.1 (-1)) c.2) i
    | none => -1
  | none => -1
def alkB (r : Nat → Int64) (pa my : Nat → Int32) (f : Nat) (L : List Int32) (q : Nat) : Bool := match cuX r pa my q (-1) f with
  | some c => decide (ltA (rwW r q (-1)) c.2 = L)
  | none => false
def spAlike (r : Nat → Int64) (F : Nat) (pa my : Nat → Int32) (x y : Int32) : Int32 := match cnC r F x y with
  | some z => match cuX r pa my z.1 (-1) z.2 with
    | some c => nI ((fst1 (alkB r pa my z.2 (ltA (rwW r z.1 (-1)) c.2)) 0 z.1).getD z.1)
    | none => -1
  | none => -1
def stuB (r : Nat → Int64) (pa my : Nat → Int32) (p f : Nat) (L : List Int32) (b : Nat) : Bool := decide (ltA (rwW r p (nI b)) (cuL (cuX r pa my p (nI b) f)) = L)
def spSturdy (r : Nat → Int64) (F : Nat) (pa my : Nat → Int32) (x y : Int32) : Int32 := match cnC r F x y with
  | some z => match cuX r pa my z.1 (-1) z.2 with
    | some c => nI (cntB (stuB r pa my z.1 z.2 (ltA (rwW r z.1 (-1)) c.2)) (rT r z.1))
    | none => -1
  | none => -1
def wasR (h : mH) (L : List Int32) : Prop := ∀ j, j < L.length → hI h 184 j = L.getD j 0
theorem wasR.fr {h h1 : mH} {L : List Int32} {F A : List Nat} (q : wasR h L) (g : mFr (mP F A) h h1) (_q1 : 999 ∉ F) (q2 : 153 ∉ A ∧ 184 ∉ A) : wasR h1 L := by
  unfold wasR
  rw [g.Ir (by decide) q2.2]
  exact q
theorem list_ext0 {L L' : List Int32} (h : L.length = L'.length) (h2 : ∀ j, j < L.length → L.getD j 0 = L'.getD j 0) : L = L' := by
  apply List.ext_getElem h
  intro j h3 h4
  have := h2 j h3
  rw [List.getD_eq_getElem?_getD, List.getD_eq_getElem?_getD, List.getElem?_eq_getElem h3, List.getElem?_eq_getElem h4] at this
  exact this
theorem cu_some {r : Nat → Int64} {F : Nat} {pa my : Nat → Int32} {p f : Nat} {but : Int32} (hd : sOK r F pa my) (hf : f < F) (h : 0 < (cuL (cuX r pa my p but f)).length) : ∃ c, cuX r pa my p but f = some c := by
  cases e : cuX r pa my p but f with
  | none =>
    rw [e] at h
    exact absurd h (Nat.lt_irrefl 0)
  | some c => exact ⟨c, rfl⟩
theorem cu_none {r : Nat → Int64} {F : Nat} {pa my : Nat → Int32} {p f : Nat} {but : Int32} (hd : sOK r F pa my) (hf : f < F) (h : (cuL (cuX r pa my p but f)).length = 0) : cuX r pa my p but f = none := (cuL_nil _ (fun y hy => (cuX_ok hd hf y hy).2)).mp (List.length_eq_zero_iff.mp h)
set_option maxRecDepth 20000 in
theorem pX12_laysLetters {h : mH} {Q : Option Value → mH → Prop} {r : Nat → Int64} {F : Nat} {pa my : Nat → Int32} {p : Nat} {but : Int32} {l : List (Nat × Nat)} (hd : sOK r F pa my) (hp : p < rP r) (hs : mS h) (rx : rowX r h p but) (nx : numX r h) (hk : cutsOK h l) (sr : srt l (rowL but (rT r p)).length) (hq : ∀ h', mFr (mP [54] [183]) h h' → saidR h' (ltA (rwW r p but) l) → (ltA (rwW r p but) l).length ≤ 360 → Q none h') : Wp mX12_laysLetters 1 22 0 [some (.ref 153), none, none, none, none, none] [] h Q := by
  have hP6 := hd.w.1.2
  have hT40 := (hd.w.2.1 p (by omega)).2
  have hlen : (rowL but (rT r p)).length ≤ rT r p := rowL_le
  have hk8 := hk.2.1
  have hloop : ∀  (t9 : Nat) (i : Nat) (x2 : Option Value) (x3 : Option Value) (x4 : Option Value) (x5 : Option Value) (h1 : mH), (i ≤ l.length) → (mS h1) → (rowX r h1 p but) → (numX r h1) → (cutsOK h1 l) → (mFr (mP [54] [183]) h h1) → (saidR h1 (ltI (rwW r p but) l i)) → (0 < i → (ltI (rwW r p but) l i).length ≤ 9 * (l.getD (i - 1) (0, 0)).2) → (l.length < i + t9) → Wp mX12_laysLetters 1 22 7 [some (.ref 153), some (.int (nI i)), x2, x3, x4, x5] [] h1 Q := by
    intro t9
    induction t9 with
    | zero => intros; omega
    | succ t9 ih =>
      intro i x2 x3 x4 x5 h1 hil hs1 rx1 nx1 k1 hf1 sd1 hbd hmz
      refine wp_iload_n dX12_laysLetters_7 rfl rfl ?_
      refine wp_aload_n dX12_laysLetters_8 rfl rfl ?_
      refine wp_getIV dX12_laysLetters_9 lX12_337 rfl (mO hs1) k1.1 ?_
      refine wp_icmp_geN dX12_laysLetters_12 rfl rfl ⟨by omega, by omega⟩ (fun c1 => ?_) (fun c1 => ?_)
      · refine wp_vreturn dX12_laysLetters_117 rfl ?_
        have e9 : i = l.length := by omega
        subst e9
        refine hq _ hf1 sd1 ?_
        rcases Nat.eq_zero_or_pos l.length with z | z
        · show (ltI _ l l.length).length ≤ 360
          rw [z]; exact Nat.zero_le _
        · have z1 := hbd z
          have z2 := (sr (l.length - 1) (by omega)).2.1
          show (ltI _ l l.length).length ≤ 360
          omega
      · have hi : i < l.length := by omega
        have hsi := sr i hi
        have hb1 : (ltI (rwW r p but) l i).length ≤ 9 * (l.getD i (0, 0)).1 := by
          rcases Nat.eq_zero_or_pos i with z | z
          · subst z; exact Nat.zero_le _
          · have z1 := hbd z
            have z2 := (sr (i - 1) (by omega)).2.2 (by omega)
            rw [show i - 1 + 1 = i by omega] at z2
            omega
        refine wp_iload_n dX12_laysLetters_15 rfl rfl ?_
        refine wp_if_leN dX12_laysLetters_16 rfl (by omega) (fun c2 => ?_) (fun c2 => ?_)
        · refine wp_aload_n dX12_laysLetters_25 rfl rfl ?_
          refine wp_getR dX12_laysLetters_26 lX12_64 rfl (mO hs1) (mR_cutFrom hs1) ?_
          refine wp_iload_n dX12_laysLetters_29 rfl rfl ?_
          refine wp_ialdV dX12_laysLetters_30 (mA_cutFrom hs1) rfl ⟨by omega, by decide⟩ (k1.2.2 i hi).1 ?_
          refine wp_istore_n (ls1 := [_, _, some _, _, _, _]) dX12_laysLetters_31 rfl (by decide) rfl ?_
          refine let_k (i := i) hd hp hs1 rx1 nx1 k1 hi sr sd1 (by omega) (fun y3 y4 y5 k1 hh1 f1 kk1 rx1 nx1 sd1 hl1 => ?_)
          have S1 := f1.s hs1
          refine wp_iinc1 (ls1 := [_, some _, _, _, _, _]) dX12_laysLetters_111 rfl (by decide) rfl ?_
          refine wp_goto dX12_laysLetters_114 ?_
          refine ih (i + 1) _ _ _ _ _ (by omega) S1 rx1 nx1 kk1 ((hf1.up (by decide) (by decide)).tr (f1.up (by decide) (by decide))) (by rw [ltI_s, if_neg (by omega), List.append_nil]; exact sd1) (fun _ => by rw [ltI_s, if_neg (by omega), List.append_nil]; exact hl1) (by omega)
        · refine wp_aload_n dX12_laysLetters_19 rfl rfl ?_
          refine wp_bipush (v := (nI 47)) dX12_laysLetters_20 (by decide +kernel) ?_
          refine wp_cV1 0 0 [some _, some _] dX12_laysLetters_22 tX12_says rfl (by decide) nX12_says vX12_says lX12_494 ⟨by decide, by decide⟩ (Nat.le_of_ble_eq_true rfl) (mO hs1) (Nat.le_of_ble_eq_true rfl) rfl ?_
          refine pX12_says hs1 sd1 (by omega) (fun hh2 f2 sd2 => ?_)
          intro _ _
          have S2 := f2.s hs1
          have nx2 := nx1.fr f2 (by decide) (by decide)
          have rx2 := rx1.fr f2 (by decide) (by decide)
          have k2 := k1.fr f2 (by decide) (by decide)
          refine wp_aload_n dX12_laysLetters_25 rfl rfl ?_
          refine wp_getR dX12_laysLetters_26 lX12_64 rfl (mO S2) (mR_cutFrom S2) ?_
          refine wp_iload_n dX12_laysLetters_29 rfl rfl ?_
          refine wp_ialdV dX12_laysLetters_30 (mA_cutFrom S2) rfl ⟨by omega, by decide⟩ (k2.2.2 i hi).1 ?_
          refine wp_istore_n (ls1 := [_, _, some _, _, _, _]) dX12_laysLetters_31 rfl (by decide) rfl ?_
          refine let_k (i := i) hd hp S2 rx2 nx2 k2 hi sr sd2 (by rw [List.length_append]; show (ltI (rwW r p but) l i).length + 1 ≤ _; omega) (fun y3 y4 y5 k3 hh3 f3 kk3 rx3 nx3 sd3 hl3 => ?_)
          have S3 := f3.s S2
          refine wp_iinc1 (ls1 := [_, some _, _, _, _, _]) dX12_laysLetters_111 rfl (by decide) rfl ?_
          refine wp_goto dX12_laysLetters_114 ?_
          refine ih (i + 1) _ _ _ _ _ (by omega) S3 rx3 nx3 kk3 (((hf1.up (by decide) (by decide)).tr (f2.up (by decide) (by decide))).tr (f3.up (by decide) (by decide))) (by rw [ltI_s, if_pos (by omega)]; exact sd3) (fun _ => by rw [ltI_s, if_pos (by omega)]; exact hl3) (by omega)
  refine wp_aload_n dX12_laysLetters_0 rfl rfl ?_
  refine wp_iconst (v := (nI 0)) dX12_laysLetters_1 (by decide +kernel) ?_
  refine wp_putI dX12_laysLetters_2 lX12_491 rfl (Or.inl rfl) (mO hs) rfl rfl ?_
  refine sealI (fun hh1 f1 e1 => ?_)
  have S1 := f1.s hs
  have nx1 := nx.fr f1 (by decide) (by decide)
  have rx1 := rx.fr f1 (by decide) (by decide)
  have k1 := hk.fr f1 (by decide) (by decide)
  refine wp_iconst (v := (nI 0)) dX12_laysLetters_5 (by decide +kernel) ?_
  refine wp_istore_n (ls1 := [_, some _, _, _, _, _]) dX12_laysLetters_6 rfl (by decide) rfl ?_
  exact hloop (l.length + 1) 0 _ _ _ _ _ (by omega) S1 rx1 nx1 k1 (f1.up (by decide) (by decide)) ⟨e1, Nat.zero_le _, fun j hj => absurd hj (by show ¬ j < 0; omega)⟩ (fun z => by omega) (by omega)
set_option maxRecDepth 20000 in
theorem pX12_letter {h : mH} {Q : Option Value → mH → Prop} {r : Nat → Int64} {F : Nat} {pa my : Nat → Int32} {x y i : Int32} (hc : mC h r F pa my) (hd : sOK r F pa my) (hq : ∀ {v} h', mFr pwS h h' → spLetter r F pa my x y i = v → Q (some (.int v)) h') : Wp mX12_letter 8 198 0 [some (.ref 153), some (.int x), some (.int y), some (.int i)] [] h Q := by
  have hF4 := hd.f4
  have hP6 := hd.w.1.2
  refine wp_aload_n dX12_letter_0 rfl rfl ?_
  refine wp_iload_n dX12_letter_1 rfl rfl ?_
  refine wp_iload_n dX12_letter_2 rfl rfl ?_
  refine wp_cV2 2 43 [some _, some _, some _] dX12_letter_3 tX12_canCut rfl (by decide) nX12_canCut vX12_canCut lX12_485 ⟨by decide, by decide⟩ (Nat.le_of_ble_eq_true rfl) (mO hc.1) (Nat.le_of_ble_eq_true rfl) rfl ?_
  refine pX12_canCut hc hd (fun p1 q1 cn1 ex1 ey1 hp1 hf1 hl1 => ?_) (fun cn1 => ?_)
  · subst ex1
    subst ey1
    intro _ _
    refine wp_if_ne dX12_letter_6 (fun _ => ?_) (fun q => absurd q (by decide +kernel))
    refine wp_aload_n dX12_letter_11 rfl rfl ?_
    refine wp_iload_n dX12_letter_12 rfl rfl ?_
    refine wp_iload_n dX12_letter_13 rfl rfl ?_
    refine wp_cV2 7 176 [some _, some _, some _] dX12_letter_14 tX12_cutsPage rfl (by decide) nX12_cutsPage vX12_cutsPage lX12_488 ⟨by decide, by decide⟩ (Nat.le_of_ble_eq_true rfl) (mO hc.1) (Nat.le_of_ble_eq_true rfl) rfl ?_
    refine pX12_cutsPage hc hd (by omega) (by omega) (fun hh2 f2 nx2 rx2 k2 b2 => ?_)
    intro _ _
    have mc2 := hc.fr f2 (by decide) (by decide) (by decide) (by decide) (by decide)
    have hk8 := k2.2.1
    refine wp_aload_n dX12_letter_17 rfl rfl ?_
    refine wp_getIV dX12_letter_18 lX12_337 rfl (mO mc2.1) k2.1 ?_
    refine wp_if_neN dX12_letter_21 rfl (by omega) (fun c2 => ?_) (fun c2 => ?_)
    · obtain ⟨c9, hc9⟩ := cu_some hd hf1 (by assumption)
      refine wp_aload_n dX12_letter_26 rfl rfl ?_
      refine wp_cV0 1 22 [some _, none, none, none, none, none] dX12_letter_27 tX12_laysLetters rfl (by decide) nX12_laysLetters vX12_laysLetters lX12_497 ⟨by decide, by decide⟩ (Nat.le_of_ble_eq_true rfl) (mO mc2.1) (Nat.le_of_ble_eq_true rfl) rfl ?_
      refine pX12_laysLetters hd (by omega) mc2.1 rx2 nx2 k2 (srt_cu hd (by omega)) (fun hh3 f3 sd3 sl3 => ?_)
      intro _ _
      have mc3 := mc2.fr f3 (by decide) (by decide) (by decide) (by decide) (by decide)
      have nx3 := nx2.fr f3 (by decide) (by decide)
      have rx3 := rx2.fr f3 (by decide) (by decide)
      have k3 := k2.fr f3 (by decide) (by decide)
      have efI50_3 := (f3.fI 50 (by decide) (by decide)).trans b2
      refine wp_iload_n dX12_letter_30 rfl rfl ?_
      refine wp_iconst (v := (-1)) dX12_letter_31 (by decide +kernel) ?_
      refine wp_icmp_ne dX12_letter_32 (fun c3 => ?_) (fun c3 => ?_)
      · refine wp_iload_n dX12_letter_42 rfl rfl ?_
        refine wp_iconst (v := (nI 0)) dX12_letter_43 (by decide +kernel) ?_
        refine wp_aload_n dX12_letter_44 rfl rfl ?_
        refine wp_getIV dX12_letter_45 lX12_491 rfl (mO mc3.1) sd3.1 ?_
        refine wp_iconst (v := (nI 1)) dX12_letter_48 (by decide +kernel) ?_
        refine wp_isub dX12_letter_49 ?_
        refine wp_cS3 0 0 [some _, some _, some _] dX12_letter_50 tX12_isIn sX12_isIn lX12_147 ⟨by decide, by decide⟩ (Nat.le_of_ble_eq_true rfl) (Nat.le_of_ble_eq_true rfl) rfl ?_
        refine pX12_isIn (fun i4 => ?_) (fun i4 => ?_)
        · obtain ⟨j4, hj4, ej4⟩ := (ixN (by omega)).mp i4
          subst ej4
          have xs4 := ix_nI hj4 (by omega)
          intro _ _
          refine wp_if_eq dX12_letter_53 (fun q => absurd q (by decide +kernel)) (fun _ => ?_)
          refine wp_aload_n dX12_letter_56 rfl rfl ?_
          refine wp_getR dX12_letter_57 lX12_107 rfl (mO mc3.1) (mR_said mc3.1) ?_
          refine wp_iload_n dX12_letter_60 rfl rfl ?_
          refine wp_ialdV dX12_letter_61 (mA_said mc3.1) rfl ⟨by omega, by decide⟩ (sd3.2.2 _ (by omega)) ?_
          refine wp_goto dX12_letter_62 ?_
          refine wp_ireturn dX12_letter_66 rfl ?_
          refine hq _ ((f2.up (by decide) (by decide)).tr (f3.up (by decide) (by decide))) ?_
          unfold spLetter
          rw [cn1]
          show (match cuX r pa my p1 (-1) q1 with | some c => letV (ltA (rwW r p1 (-1)) c.2) _ | none => _) = _
          rw [hc9] at *
          show letV (ltA _ c9.2) _ = _
          first | exact if_pos (by assumption) | exact letV_n (by assumption) xn4 | exact letV_s (by assumption) xs4
        · have xn4 := ix_none (by omega) (fun j hj ej => i4 ((ixN (by omega)).mpr ⟨j, hj, ej⟩))
          intro _ _
          refine wp_if_eq dX12_letter_53 (fun _ => ?_) (fun q => absurd q (by decide +kernel))
          refine wp_iconst (v := (-1)) dX12_letter_65 (by decide +kernel) ?_
          refine wp_ireturn dX12_letter_66 rfl ?_
          refine hq _ ((f2.up (by decide) (by decide)).tr (f3.up (by decide) (by decide))) ?_
          unfold spLetter
          rw [cn1]
          show (match cuX r pa my p1 (-1) q1 with | some c => letV (ltA (rwW r p1 (-1)) c.2) _ | none => _) = _
          rw [hc9] at *
          show letV (ltA _ c9.2) _ = _
          first | exact if_pos (by assumption) | exact letV_n (by assumption) xn4 | exact letV_s (by assumption) xs4
      · refine wp_aload_n dX12_letter_35 rfl rfl ?_
        refine wp_getIV dX12_letter_36 lX12_491 rfl (mO mc3.1) sd3.1 ?_
        refine wp_goto dX12_letter_39 ?_
        refine wp_ireturn dX12_letter_66 rfl ?_
        refine hq _ ((f2.up (by decide) (by decide)).tr (f3.up (by decide) (by decide))) ?_
        unfold spLetter
        rw [cn1]
        show (match cuX r pa my p1 (-1) q1 with | some c => letV (ltA (rwW r p1 (-1)) c.2) _ | none => _) = _
        rw [hc9] at *
        show letV (ltA _ c9.2) _ = _
        first | exact if_pos (by assumption) | exact letV_n (by assumption) xn4 | exact letV_s (by assumption) xs4
    · have hn9 := cu_none hd hf1 (by assumption)
      refine wp_iconst (v := (-1)) dX12_letter_24 (by decide +kernel) ?_
      refine wp_ireturn dX12_letter_25 rfl ?_
      exact hq _ (f2.up (by decide) (by decide)) (by unfold spLetter; rw [cn1]; show (match cuX r pa my p1 (-1) q1 with | some c => _ | none => _) = _; rw [hn9])
  · intro _ _
    refine wp_if_ne dX12_letter_6 (fun q => absurd q (by decide +kernel)) (fun _ => ?_)
    refine wp_iconst (v := (-1)) dX12_letter_9 (by decide +kernel) ?_
    refine wp_ireturn dX12_letter_10 rfl ?_
    exact hq _ mFr.rf (by unfold spLetter; rw [cn1])
set_option maxRecDepth 20000 in
theorem copy_X12_alike {h : mH} {Q : Option Value → mH → Prop} {p f : Nat} {L : List Int32} (hs : mS h) (sd : saidR h L) (hL : L.length ≤ 360) (K9 : ∀ k h', mFr (mP [] [184]) h h' → wasR h' L → Wp mX12_alike 8 198 64 [some (.ref 153), some (.int (nI p)), some (.int (nI f)), some (.int (nI L.length)), some (.int (nI k)), none, none] [] h' Q) : Wp mX12_alike 8 198 38 [some (.ref 153), some (.int (nI p)), some (.int (nI f)), some (.int (nI L.length)), some (.int (nI 0)), none, none] [] h Q := by
  have hloop : ∀  (t9 : Nat) (k : Nat) (h1 : mH) (U : Nat → Int32), (k ≤ L.length) → (mS h1) → (saidR h1 L) → (mFr (mP [] [184]) h h1) → (hI h1 184 = U) → (∀ j, j < k → U j = L.getD j 0) → (L.length < k + t9) → Wp mX12_alike 8 198 38 [some (.ref 153), some (.int (nI p)), some (.int (nI f)), some (.int (nI L.length)), some (.int (nI k)), none, none] [] h1 Q := by
    intro t9
    induction t9 with
    | zero => intros; omega
    | succ t9 ih =>
      intro k h1 U hk hs1 sd1 hf1 e1 hU hmz
      refine wp_iload dX12_alike_38 rfl ?_
      refine wp_iload_n dX12_alike_40 rfl rfl ?_
      refine wp_icmp_geN dX12_alike_41 rfl rfl ⟨by omega, by omega⟩ (fun c1 => ?_) (fun c1 => ?_)
      · have e9 : k = L.length := by omega
        subst e9
        exact K9 _ _ hf1 (fun j hj => (congrFun e1 j).trans (hU j hj))
      · refine wp_aload_n dX12_alike_44 rfl rfl ?_
        refine wp_getR dX12_alike_45 lX12_110 rfl (mO hs1) (mR_wasSaid hs1) ?_
        refine wp_iload dX12_alike_48 rfl ?_
        refine wp_aload_n dX12_alike_50 rfl rfl ?_
        refine wp_getR dX12_alike_51 lX12_107 rfl (mO hs1) (mR_said hs1) ?_
        refine wp_iload dX12_alike_54 rfl ?_
        refine wp_ialdV dX12_alike_56 (mA_said hs1) rfl ⟨by omega, by decide⟩ (sd1.2.2 k (by omega)) ?_
        refine wp_iastN dX12_alike_57 (mA_wasSaid hs1) rfl ⟨by omega, by decide⟩ ?_
        refine sealAI e1 (fun hh1 f1 e1 => ?_)
        have S1 := f1.s hs1
        have sd1 := sd1.fr f1 (by decide) (by decide)
        refine wp_iinc1 (ls1 := [_, _, _, _, some _, _, _]) dX12_alike_58 rfl (by decide) rfl ?_
        refine wp_goto dX12_alike_61 ?_
        refine ih (k + 1) _ _ (by omega) S1 sd1 ((hf1.up (by decide) (by decide)).tr (f1.up (by decide) (by decide))) e1 ?_ (by omega)
        intro j hj
        by_cases e9 : j = k
        · subst e9; exact upI_at _ _ _
        · rw [upI_ne e9]; exact hU j (by omega)
  exact hloop (L.length + 1) 0 h _ (by omega) hs sd mFr.rf rfl (fun j hj => by omega) (by omega)
set_option maxRecDepth 20000 in
theorem copy_X12_sturdy {h : mH} {Q : Option Value → mH → Prop} {p f : Nat} {L : List Int32} (hs : mS h) (sd : saidR h L) (hL : L.length ≤ 360) (K9 : ∀ k h', mFr (mP [] [184]) h h' → wasR h' L → Wp mX12_sturdy 8 198 64 [some (.ref 153), some (.int (nI p)), some (.int (nI f)), some (.int (nI L.length)), some (.int (nI k)), none, none, none] [] h' Q) : Wp mX12_sturdy 8 198 38 [some (.ref 153), some (.int (nI p)), some (.int (nI f)), some (.int (nI L.length)), some (.int (nI 0)), none, none, none] [] h Q := by
  have hloop : ∀  (t9 : Nat) (k : Nat) (h1 : mH) (U : Nat → Int32), (k ≤ L.length) → (mS h1) → (saidR h1 L) → (mFr (mP [] [184]) h h1) → (hI h1 184 = U) → (∀ j, j < k → U j = L.getD j 0) → (L.length < k + t9) → Wp mX12_sturdy 8 198 38 [some (.ref 153), some (.int (nI p)), some (.int (nI f)), some (.int (nI L.length)), some (.int (nI k)), none, none, none] [] h1 Q := by
    intro t9
    induction t9 with
    | zero => intros; omega
    | succ t9 ih =>
      intro k h1 U hk hs1 sd1 hf1 e1 hU hmz
      refine wp_iload dX12_sturdy_38 rfl ?_
      refine wp_iload_n dX12_sturdy_40 rfl rfl ?_
      refine wp_icmp_geN dX12_sturdy_41 rfl rfl ⟨by omega, by omega⟩ (fun c1 => ?_) (fun c1 => ?_)
      · have e9 : k = L.length := by omega
        subst e9
        exact K9 _ _ hf1 (fun j hj => (congrFun e1 j).trans (hU j hj))
      · refine wp_aload_n dX12_sturdy_44 rfl rfl ?_
        refine wp_getR dX12_sturdy_45 lX12_110 rfl (mO hs1) (mR_wasSaid hs1) ?_
        refine wp_iload dX12_sturdy_48 rfl ?_
        refine wp_aload_n dX12_sturdy_50 rfl rfl ?_
        refine wp_getR dX12_sturdy_51 lX12_107 rfl (mO hs1) (mR_said hs1) ?_
        refine wp_iload dX12_sturdy_54 rfl ?_
        refine wp_ialdV dX12_sturdy_56 (mA_said hs1) rfl ⟨by omega, by decide⟩ (sd1.2.2 k (by omega)) ?_
        refine wp_iastN dX12_sturdy_57 (mA_wasSaid hs1) rfl ⟨by omega, by decide⟩ ?_
        refine sealAI e1 (fun hh1 f1 e1 => ?_)
        have S1 := f1.s hs1
        have sd1 := sd1.fr f1 (by decide) (by decide)
        refine wp_iinc1 (ls1 := [_, _, _, _, some _, _, _, _]) dX12_sturdy_58 rfl (by decide) rfl ?_
        refine wp_goto dX12_sturdy_61 ?_
        refine ih (k + 1) _ _ (by omega) S1 sd1 ((hf1.up (by decide) (by decide)).tr (f1.up (by decide) (by decide))) e1 ?_ (by omega)
        intro j hj
        by_cases e9 : j = k
        · subst e9; exact upI_at _ _ _
        · rw [upI_ne e9]; exact hU j (by omega)
  exact hloop (L.length + 1) 0 h _ (by omega) hs sd mFr.rf rfl (fun j hj => by omega) (by omega)
set_option maxRecDepth 20000 in
theorem cmp_X12_alike {h : mH} {Q : Option Value → mH → Prop} {p f u c4 : Nat} {L Lc : List Int32} (hs : mS h) (sd : saidR h Lc) (wa : wasR h L) (hL : L.length ≤ 360) (hl : Lc.length = L.length) (K1 : (∀ j, j < L.length → Lc.getD j 0 = L.getD j 0) → Wp mX12_alike 8 198 150 [some (.ref 153), some (.int (nI p)), some (.int (nI f)), some (.int (nI L.length)), some (.int (nI u)), some (.int (nI 1)), some (.int (nI L.length))] [] h Q) (K0 : ∀ k, ¬ (∀ j, j < L.length → Lc.getD j 0 = L.getD j 0) → Wp mX12_alike 8 198 150 [some (.ref 153), some (.int (nI p)), some (.int (nI f)), some (.int (nI L.length)), some (.int (nI u)), some (.int (nI 0)), some (.int (nI k))] [] h Q) : Wp mX12_alike 8 198 109 [some (.ref 153), some (.int (nI p)), some (.int (nI f)), some (.int (nI L.length)), some (.int (nI u)), some (.int (nI 1)), some (.int (nI 0))] [] h Q := by
  have hloop : ∀  (t9 : Nat) (k : Nat), (k ≤ L.length) → ((∀ j, j < k → Lc.getD j 0 = L.getD j 0)) → (L.length < k + t9) → Wp mX12_alike 8 198 109 [some (.ref 153), some (.int (nI p)), some (.int (nI f)), some (.int (nI L.length)), some (.int (nI u)), some (.int (nI 1)), some (.int (nI k))] [] h Q := by
    intro t9
    induction t9 with
    | zero => intros; omega
    | succ t9 ih =>
      intro k hk hall hmz
      refine wp_iload dX12_alike_109 rfl ?_
      refine wp_iload_n dX12_alike_111 rfl rfl ?_
      refine wp_icmp_geN dX12_alike_112 rfl rfl ⟨by omega, by omega⟩ (fun c1 => ?_) (fun c1 => ?_)
      · have e9 : k = L.length := by omega
        subst e9
        exact K1 hall
      · refine wp_iload dX12_alike_115 rfl ?_
        refine wp_if_eq dX12_alike_117 (fun q => absurd q (by decide +kernel)) (fun _ => ?_)
        refine wp_aload_n dX12_alike_120 rfl rfl ?_
        refine wp_getR dX12_alike_121 lX12_107 rfl (mO hs) (mR_said hs) ?_
        refine wp_iload dX12_alike_124 rfl ?_
        refine wp_ialdV dX12_alike_126 (mA_said hs) rfl ⟨by omega, by decide⟩ (sd.2.2 k (by omega)) ?_
        refine wp_aload_n dX12_alike_127 rfl rfl ?_
        refine wp_getR dX12_alike_128 lX12_110 rfl (mO hs) (mR_wasSaid hs) ?_
        refine wp_iload dX12_alike_131 rfl ?_
        refine wp_ialdV dX12_alike_133 (mA_wasSaid hs) rfl ⟨by omega, by decide⟩ (wa k (by omega)) ?_
        refine wp_icmp_ne dX12_alike_134 (fun c3 => ?_) (fun c3 => ?_)
        · refine wp_iconst (v := (nI 0)) dX12_alike_141 (by decide +kernel) ?_
          refine wp_istore (ls1 := [_, _, _, _, _, some _, _]) dX12_alike_142 (by decide) rfl ?_
          refine wp_iinc1 (ls1 := [_, _, _, _, _, _, some _]) dX12_alike_144 rfl (by decide) rfl ?_
          refine wp_goto dX12_alike_147 ?_
          refine wp_iload dX12_alike_109 rfl ?_
          refine wp_iload_n dX12_alike_111 rfl rfl ?_
          refine wp_icmp_geN dX12_alike_112 rfl rfl ⟨by omega, by omega⟩ (fun c4 => ?_) (fun c4 => ?_)
          · exact K0 _ (fun z9 => absurd (z9 k (by omega)) (by assumption))
          · refine wp_iload dX12_alike_115 rfl ?_
            refine wp_if_eq dX12_alike_117 (fun _ => ?_) (fun q => absurd q (by decide +kernel))
            exact K0 _ (fun z9 => absurd (z9 k (by omega)) (by assumption))
        · refine wp_iconst (v := (nI 1)) dX12_alike_137 (by decide +kernel) ?_
          refine wp_goto dX12_alike_138 ?_
          refine wp_istore (ls1 := [_, _, _, _, _, some _, _]) dX12_alike_142 (by decide) rfl ?_
          refine wp_iinc1 (ls1 := [_, _, _, _, _, _, some _]) dX12_alike_144 rfl (by decide) rfl ?_
          refine wp_goto dX12_alike_147 ?_
          refine ih (k + 1) (by omega) ?_ (by omega)
          intro j hj
          by_cases e9 : j = k
          · subst e9; assumption
          · exact hall j (by omega)
  exact hloop (L.length + 1) 0 (by omega) (fun j hj => by omega) (by omega)
set_option maxRecDepth 20000 in
theorem cmp_X12_sturdy {h : mH} {Q : Option Value → mH → Prop} {p f u c4 : Nat} {L Lc : List Int32} (hs : mS h) (sd : saidR h Lc) (wa : wasR h L) (hL : L.length ≤ 360) (hl : Lc.length = L.length) (K1 : (∀ j, j < L.length → Lc.getD j 0 = L.getD j 0) → Wp mX12_sturdy 8 198 155 [some (.ref 153), some (.int (nI p)), some (.int (nI f)), some (.int (nI L.length)), some (.int (nI c4)), some (.int (nI u)), some (.int (nI 1)), some (.int (nI L.length))] [] h Q) (K0 : ∀ k, ¬ (∀ j, j < L.length → Lc.getD j 0 = L.getD j 0) → Wp mX12_sturdy 8 198 155 [some (.ref 153), some (.int (nI p)), some (.int (nI f)), some (.int (nI L.length)), some (.int (nI c4)), some (.int (nI u)), some (.int (nI 0)), some (.int (nI k))] [] h Q) : Wp mX12_sturdy 8 198 114 [some (.ref 153), some (.int (nI p)), some (.int (nI f)), some (.int (nI L.length)), some (.int (nI c4)), some (.int (nI u)), some (.int (nI 1)), some (.int (nI 0))] [] h Q := by
  have hloop : ∀  (t9 : Nat) (k : Nat), (k ≤ L.length) → ((∀ j, j < k → Lc.getD j 0 = L.getD j 0)) → (L.length < k + t9) → Wp mX12_sturdy 8 198 114 [some (.ref 153), some (.int (nI p)), some (.int (nI f)), some (.int (nI L.length)), some (.int (nI c4)), some (.int (nI u)), some (.int (nI 1)), some (.int (nI k))] [] h Q := by
    intro t9
    induction t9 with
    | zero => intros; omega
    | succ t9 ih =>
      intro k hk hall hmz
      refine wp_iload dX12_sturdy_114 rfl ?_
      refine wp_iload_n dX12_sturdy_116 rfl rfl ?_
      refine wp_icmp_geN dX12_sturdy_117 rfl rfl ⟨by omega, by omega⟩ (fun c1 => ?_) (fun c1 => ?_)
      · have e9 : k = L.length := by omega
        subst e9
        exact K1 hall
      · refine wp_iload dX12_sturdy_120 rfl ?_
        refine wp_if_eq dX12_sturdy_122 (fun q => absurd q (by decide +kernel)) (fun _ => ?_)
        refine wp_aload_n dX12_sturdy_125 rfl rfl ?_
        refine wp_getR dX12_sturdy_126 lX12_107 rfl (mO hs) (mR_said hs) ?_
        refine wp_iload dX12_sturdy_129 rfl ?_
        refine wp_ialdV dX12_sturdy_131 (mA_said hs) rfl ⟨by omega, by decide⟩ (sd.2.2 k (by omega)) ?_
        refine wp_aload_n dX12_sturdy_132 rfl rfl ?_
        refine wp_getR dX12_sturdy_133 lX12_110 rfl (mO hs) (mR_wasSaid hs) ?_
        refine wp_iload dX12_sturdy_136 rfl ?_
        refine wp_ialdV dX12_sturdy_138 (mA_wasSaid hs) rfl ⟨by omega, by decide⟩ (wa k (by omega)) ?_
        refine wp_icmp_ne dX12_sturdy_139 (fun c3 => ?_) (fun c3 => ?_)
        · refine wp_iconst (v := (nI 0)) dX12_sturdy_146 (by decide +kernel) ?_
          refine wp_istore (ls1 := [_, _, _, _, _, _, some _, _]) dX12_sturdy_147 (by decide) rfl ?_
          refine wp_iinc1 (ls1 := [_, _, _, _, _, _, _, some _]) dX12_sturdy_149 rfl (by decide) rfl ?_
          refine wp_goto dX12_sturdy_152 ?_
          refine wp_iload dX12_sturdy_114 rfl ?_
          refine wp_iload_n dX12_sturdy_116 rfl rfl ?_
          refine wp_icmp_geN dX12_sturdy_117 rfl rfl ⟨by omega, by omega⟩ (fun c4 => ?_) (fun c4 => ?_)
          · exact K0 _ (fun z9 => absurd (z9 k (by omega)) (by assumption))
          · refine wp_iload dX12_sturdy_120 rfl ?_
            refine wp_if_eq dX12_sturdy_122 (fun _ => ?_) (fun q => absurd q (by decide +kernel))
            exact K0 _ (fun z9 => absurd (z9 k (by omega)) (by assumption))
        · refine wp_iconst (v := (nI 1)) dX12_sturdy_142 (by decide +kernel) ?_
          refine wp_goto dX12_sturdy_143 ?_
          refine wp_istore (ls1 := [_, _, _, _, _, _, some _, _]) dX12_sturdy_147 (by decide) rfl ?_
          refine wp_iinc1 (ls1 := [_, _, _, _, _, _, _, some _]) dX12_sturdy_149 rfl (by decide) rfl ?_
          refine wp_goto dX12_sturdy_152 ?_
          refine ih (k + 1) (by omega) ?_ (by omega)
          intro j hj
          by_cases e9 : j = k
          · subst e9; assumption
          · exact hall j (by omega)
  exact hloop (L.length + 1) 0 (by omega) (fun j hj => by omega) (by omega)
