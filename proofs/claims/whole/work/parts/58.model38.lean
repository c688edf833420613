/-! ===== letters ===== -/
def bytN (w : Int64) (b : Nat) : Int32 := (shB w b &&& 255).toInt32
def wbL (w : Int64) : Nat → List Int32
  | 0 => []
  | n + 1 => bytN w n :: wbL w n
theorem wbL_len (w : Int64) : ∀ n, (wbL w n).length = n
  | 0 => rfl
  | n + 1 => by
    show (wbL w n).length + 1 = _
    rw [wbL_len w n]
def tkL (W : Nat → Int64) (a k : Nat) : List Int32 := (if a < k then [nI 32] else []) ++ wbL (W k) (bN (W k))
def ptL (W : Nat → Int64) (a : Nat) : Nat → List Int32
  | 0 => []
  | n + 1 => ptL W a n ++ tkL W a (a + n)
def ltI (W : Nat → Int64) (l : List (Nat × Nat)) : Nat → List Int32
  | 0 => []
  | i + 1 => ltI W l i ++ (if 0 < i then [nI 47] else []) ++ ptL W (l.getD i (0, 0)).1 ((l.getD i (0, 0)).2 - (l.getD i (0, 0)).1)
/-- the letters of parts -/
def ltA (W : Nat → Int64) (l : List (Nat × Nat)) : List Int32 := ltI W l l.length
/-- parts of a row, one behind another -/
def srt (l : List (Nat × Nat)) (len : Nat) : Prop := ∀ i, i < l.length → (l.getD i (0, 0)).1 < (l.getD i (0, 0)).2 ∧ (l.getD i (0, 0)).2 ≤ len ∧ (i + 1 < l.length → (l.getD i (0, 0)).2 ≤ (l.getD (i + 1) (0, 0)).1)
theorem srt_nil (len : Nat) : srt [] len := fun i hi => absurd hi (by show ¬ i < 0; omega)
theorem srt_cut {P : Int32 → Nat → Bool} {b : Nat} {far near sec stop : Int32} : ∀ (n a : Nat), a ≤ b → srt (cutL P b far near sec stop n a) b ∧ (0 < (cutL P b far near sec stop n a).length → a ≤ ((cutL P b far near sec stop n a).getD 0 (0, 0)).1)
  | 0, a, _ => ⟨srt_nil b, fun z => absurd z (by show ¬ 0 < 0; omega)⟩
  | n + 1, a, hab => by
    cases e : cut1 P a b far near sec stop with
    | none =>
      have : cutL P b far near sec stop (n + 1) a = [] := by
        show (match cut1 P a b far near sec stop with | none => [] | some q => _) = _
        rw [e]
      rw [this]
      exact ⟨srt_nil b, fun z => absurd z (by show ¬ 0 < 0; omega)⟩
    | some q =>
      have h1 : cutL P b far near sec stop (n + 1) a = q :: cutL P b far near sec stop n q.2 := by
        show (match cut1 P a b far near sec stop with | none => [] | some q => _) = _
        rw [e]
      have h2 := cut1_some hab (x := q.1) (y := q.2) e
      have h3 := srt_cut (P := P) (far := far) (near := near) (sec := sec) (stop := stop) n q.2 h2.2.2
      rw [h1]
      refine ⟨fun i hi => ?_, fun _ => h2.1⟩
      cases i with
      | zero =>
        refine ⟨h2.2.1, h2.2.2, fun z => ?_⟩
        exact h3.2 (by have : 0 + 1 < (cutL P b far near sec stop n q.2).length + 1 := z; omega)
      | succ i =>
        have h4 : i < (cutL P b far near sec stop n q.2).length := by
          have : i + 1 < (cutL P b far near sec stop n q.2).length + 1 := hi
          omega
        have h5 := h3.1 i h4
        exact ⟨h5.1, h5.2.1, fun z => h5.2.2 (by have : i + 1 + 1 < (cutL P b far near sec stop n q.2).length + 1 := z; omega)⟩
theorem srt_mono {l : List (Nat × Nat)} {a b : Nat} (h : srt l a) (hab : a ≤ b) : srt l b := fun i hi => ⟨(h i hi).1, Nat.le_trans (h i hi).2.1 hab, (h i hi).2.2⟩
theorem srt_cu {r : Nat → Int64} {F : Nat} {pa my : Nat → Int32} {p f : Nat} {but : Int32} (hd : sOK r F pa my) (hf : f < F) : srt (cuL (cuX r pa my p but f)) (rowL but (rT r p)).length := by
  cases e : cuX r pa my p but f with
  | none => exact srt_nil _
  | some x =>
    show srt x.2 _
    rcases hd.par f hf with e1 | ⟨g, hg, e1, _⟩
    · unfold cuX at e
      rw [crX_top e1] at e
      rw [(cbX_some e).2.1]
      exact (srt_cut _ _ (Nat.zero_le _)).1
    · unfold cuX at e
      rw [crX_par hd hf hg e1] at e
      cases c : crX r pa my (pmR r p but) (rowL but (rT r p)).length g with
      | none =>
        rw [c] at e
        cases e
      | some y =>
        rw [c] at e
        have h3 := crX_ok hd 4 g (by omega) (by have := hd.f4; omega) y c
        have e2 := (cbX_some e).2.1
        rw [e2]
        exact srt_mono (srt_cut _ _ (Nat.le_of_lt h3.2.2.1)).1 h3.2.2.2
def saidR (h : mH) (L : List Int32) : Prop := hI h 153 54 = nI L.length ∧ L.length ≤ 400 ∧ ∀ j, j < L.length → hI h 183 j = L.getD j 0
theorem saidR.fr {h h1 : mH} {L : List Int32} {F A : List Nat} (q : saidR h L) (g : mFr (mP F A) h h1) (q1 : 54 ∉ F) (q2 : 153 ∉ A ∧ 183 ∉ A) : saidR h1 L := by
  refine ⟨(g.fI 54 q1 q2.1).trans q.1, q.2.1, ?_⟩
  rw [g.Ir (by decide) q2.2]
  exact q.2.2
theorem getD_app2 {L : List Int32} {x : Int32} {j : Nat} : (L ++ [x]).getD j 0 = if j < L.length then L.getD j 0 else if j = L.length then x else 0 := by
  simp only [List.getD_eq_getElem?_getD, List.getElem?_append]
  split
  · rfl
  · split
    · rename_i h1 h2
      subst h2
      simp
    · rename_i h1 h2
      rw [List.getElem?_eq_none (by simp; omega)]
      rfl
theorem said_add {h h1 : mH} {L : List Int32} {c : Int32} (q : saidR h L) (hl : L.length < 400) (e1 : hI h1 153 54 = nI (L.length + 1)) (e2 : hI h1 183 = upI (hI h 183) L.length c) : saidR h1 (L ++ [c]) := by
  refine ⟨e1.trans (by rw [List.length_append]; rfl), by rw [List.length_append]; show L.length + 1 ≤ 400; omega, fun j hj => ?_⟩
  rw [List.length_append] at hj
  rw [e2, getD_app2]
  by_cases c1 : j < L.length
  · rw [if_pos c1, upI_ne (by omega)]
    exact q.2.2 j c1
  · have c2 : j = L.length := by
      have : j < L.length + 1 := hj
      omega
    rw [if_neg c1, if_pos c2, c2, upI_at]
set_option maxRecDepth 20000 in
theorem pX12_says {h : mH} {Q : Option Value → mH → Prop} {L : List Int32} {c : Int32} (hs : mS h) (sd : saidR h L) (hl : L.length < 400) (hq : ∀ h', mFr (mP [54] [183]) h h' → saidR h' (L ++ [c]) → Q none h') : Wp mX12_says 0 0 0 [some (.ref 153), some (.int c)] [] h Q := by
  refine wp_aload_n dX12_says_0 rfl rfl ?_
  refine wp_getR dX12_says_1 lX12_107 rfl (mO hs) (mR_said hs) ?_
  refine wp_aload_n dX12_says_4 rfl rfl ?_
  refine wp_getIV dX12_says_5 lX12_491 rfl (mO hs) sd.1 ?_
  refine wp_iload_n dX12_says_8 rfl rfl ?_
  refine wp_iastN dX12_says_9 (mA_said hs) rfl ⟨by omega, by decide⟩ ?_
  refine sealAI (rfl : hI h 183 = hI h 183) (fun hh1 f1 e1 => ?_)
  have S1 := f1.s hs
  have efI54_1 := (f1.fI 54 (by decide) (by decide)).trans sd.1
  refine wp_aload_n dX12_says_10 rfl rfl ?_
  refine wp_dup dX12_says_11 rfl ?_
  refine wp_getIV dX12_says_12 lX12_491 rfl (mO S1) efI54_1 ?_
  refine wp_iconst (v := (nI 1)) dX12_says_15 (by decide +kernel) ?_
  refine wp_iadd dX12_says_16 ?_
  refine wp_putIN dX12_says_17 lX12_491 rfl rfl (Or.inl rfl) (mO S1) (isN_add rfl rfl) ?_
  refine sealI (fun hh2 f2 e2 => ?_)
  have S2 := f2.s S1
  have eI183_2 := (f2.Ir (by decide) (by decide)).trans e1
  refine wp_vreturn dX12_says_20 rfl ?_
  exact hq _ ((f1.up (by decide) (by decide)).tr (f2.up (by decide) (by decide))) (said_add sd hl e2 eI183_2)
set_option maxRecDepth 20000 in
theorem let_b {h : mH} {Q : Option Value → mH → Prop} {i k : Nat} {w : Int64} : ∀ (e : Nat) (L : List Int32) (h1 : mH), mS h1 → mFr (mP [54] [183]) h h1 → saidR h1 L → L.length + e ≤ 400 → e ≤ 8 → (∀ x h', mFr (mP [54] [183]) h h' → saidR h' (L ++ wbL w e) → Wp mX12_laysLetters 1 22 105 [some (.ref 153), some (.int (nI i)), some (.int (nI k)), some (.long w), none, some (.int x)] [] h' Q) → Wp mX12_laysLetters 1 22 78 [some (.ref 153), some (.int (nI i)), some (.int (nI k)), some (.long w), none, some (.int (itm e))] [] h1 Q := by
  intro e
  induction e with
  | zero =>
    intro L h1 hs1 hf1 sd1 hl he K9
    show Wp mX12_laysLetters 1 22 78 [some (.ref 153), some (.int (nI i)), some (.int (nI k)), some (.long w), none, some (.int (-1))] [] h1 Q
    refine wp_iload dX12_laysLetters_78 rfl ?_
    refine wp_if_lt dX12_laysLetters_80 (fun _ => ?_) (fun q => absurd q (by decide +kernel))
    exact K9 _ _ hf1 (by rw [show wbL w 0 = [] from rfl, List.append_nil]; exact sd1)
  | succ e ih =>
    intro L h1 hs1 hf1 sd1 hl he K9
    rw [itm_s]
    refine wp_iload dX12_laysLetters_78 rfl ?_
    refine wp_if_lt dX12_laysLetters_80 (fun q9 => absurd q9 (nI_pos (by omega))) (fun _ => ?_)
    refine wp_aload_n dX12_laysLetters_83 rfl rfl ?_
    refine wp_lload_n dX12_laysLetters_84 rfl rfl ?_
    refine wp_bipush (v := (nI 8)) dX12_laysLetters_85 (by decide +kernel) ?_
    refine wp_iload dX12_laysLetters_87 rfl ?_
    refine wp_imul dX12_laysLetters_89 ?_
    refine wp_lshr dX12_laysLetters_90 ?_
    refine wp_ldc2 dX12_laysLetters_91 lX12_265 ?_
    refine wp_land dX12_laysLetters_94 ?_
    refine wp_l2i dX12_laysLetters_95 ?_
    refine wp_cV1 0 0 [some _, some _] dX12_laysLetters_96 tX12_says rfl (by decide) nX12_says vX12_says lX12_494 ⟨by decide, by decide⟩ (Nat.le_of_ble_eq_true rfl) (mO hs1) (Nat.le_of_ble_eq_true rfl) rfl ?_
    refine pX12_says hs1 sd1 (by omega) (fun hh1 f1 sd1 => ?_)
    intro _ _
    have S1 := f1.s hs1
    refine wp_iinc (ls1 := [_, _, _, _, _, some _]) dX12_laysLetters_99 rfl rfl (by decide) rfl ?_
    refine wp_goto dX12_laysLetters_102 ?_
    rw [show Int32.ofInt (-1) = (-1 : Int32) by decide +kernel, itm_m]
    refine ih _ _ S1 ((hf1.up (by decide) (by decide)).tr (f1.up (by decide) (by decide))) sd1 (by rw [List.length_append]; show L.length + 1 + e ≤ 400; omega) (by omega) (fun x h9 f9 s9 => K9 x h9 f9 (by rw [List.append_assoc] at s9; exact s9))
theorem rowL_mem9 {r : Nat → Int64} {p k : Nat} {but : Int32} (hk : k < (rowL but (rT r p)).length) : (rowL but (rT r p)).getD k 0 < rT r p := by
  rw [List.getD_eq_getElem?_getD, List.getElem?_eq_getElem hk]
  have h := List.getElem_mem hk
  exact List.mem_range.mp (List.mem_filter.mp h).1
theorem idx_lt {r : Nat → Int64} {h : mH} {p k : Nat} {but : Int32} (nx : numX r h) (hp : p < rP r) (hk : k < (rowL but (rT r p)).length) : (uqA r).idxOf (rwW r p but k) < (uqA r).length := List.idxOf_lt_length_of_mem (nx.2.2 p _ hp (rowL_mem9 hk)).1
theorem idx_get {r : Nat → Int64} {h : mH} {p k : Nat} {but : Int32} (nx : numX r h) (hp : p < rP r) (hk : k < (rowL but (rT r p)).length) : (uqA r).getD ((uqA r).idxOf (rwW r p but k)) 0 = rwW r p but k := by
  have hm := (nx.2.2 p _ hp (rowL_mem9 hk)).1
  have hl := List.idxOf_lt_length_of_mem hm
  rw [List.getD_eq_getElem?_getD]
  show ((uqA r)[(uqA r).idxOf (rW r p ((rowL but (rT r p)).getD k 0))]?).getD 0 = _
  rw [List.getElem?_eq_getElem hl]
  exact List.getElem_idxOf hl
theorem bn_itm (w : Int64) : nI (bN w) - nI 1 = itm (bN w) := by
  unfold itm
  split
  · rename_i e
    rw [e]
    decide +kernel
  · rw [pk_sub (by omega)]
set_option maxRecDepth 20000 in
theorem let_k {h : mH} {Q : Option Value → mH → Prop} {r : Nat → Int64} {F : Nat} {pa my : Nat → Int32} {p i : Nat} {but : Int32} {l : List (Nat × Nat)} {sl0 : List Int32} {x3 x4 x5 : Option Value} (hd : sOK r F pa my) (hp : p < rP r) (hs : mS h) (rx : rowX r h p but) (nx : numX r h) (hk : cutsOK h l) (hi : i < l.length) (sr : srt l (rowL but (rT r p)).length) (sd : saidR h sl0) (hb0 : sl0.length ≤ 9 * (l.getD i (0, 0)).1 + 1) (K9 : ∀ x3 x4 x5 k h', mFr (mP [54] [183]) h h' → cutsOK h' l → rowX r h' p but → numX r h' → saidR h' (sl0 ++ ptL (rwW r p but) (l.getD i (0, 0)).1 ((l.getD i (0, 0)).2 - (l.getD i (0, 0)).1)) → (sl0 ++ ptL (rwW r p but) (l.getD i (0, 0)).1 ((l.getD i (0, 0)).2 - (l.getD i (0, 0)).1)).length ≤ 9 * (l.getD i (0, 0)).2 → Wp mX12_laysLetters 1 22 111 [some (.ref 153), some (.int (nI i)), some (.int (nI k)), x3, x4, x5] [] h' Q) : Wp mX12_laysLetters 1 22 32 [some (.ref 153), some (.int (nI i)), some (.int (nI (l.getD i (0, 0)).1)), x3, x4, x5] [] h Q := by
  have hP6 := hd.w.1.2
  have hT40 := (hd.w.2.1 p (by omega)).2
  have hlen : (rowL but (rT r p)).length ≤ rT r p := rowL_le
  have hsi := sr i hi
  have hk8 := hk.2.1
  have hloop : ∀  (t9 : Nat) (u9 : Nat) (x3 : Option Value) (x4 : Option Value) (x5 : Option Value) (h1 : mH), ((l.getD i (0, 0)).1 + u9 ≤ (l.getD i (0, 0)).2) → (mS h1) → (rowX r h1 p but) → (numX r h1) → (cutsOK h1 l) → (mFr (mP [54] [183]) h h1) → (saidR h1 (sl0 ++ ptL (rwW r p but) (l.getD i (0, 0)).1 u9)) → ((sl0 ++ ptL (rwW r p but) (l.getD i (0, 0)).1 u9).length ≤ 9 * ((l.getD i (0, 0)).1 + u9) + (if u9 = 0 then 1 else 0)) → ((l.getD i (0, 0)).2 < (l.getD i (0, 0)).1 + u9 + t9) → Wp mX12_laysLetters 1 22 32 [some (.ref 153), some (.int (nI i)), some (.int (nI ((l.getD i (0, 0)).1 + u9))), x3, x4, x5] [] h1 Q := by
    intro t9
    induction t9 with
    | zero => intros; omega
    | succ t9 ih =>
      intro u9 x3 x4 x5 h1 hn hs1 rx1 nx1 k1 hf1 sd1 hbd hmz
      obtain ⟨sl, hsl⟩ : ∃ sl, sl = sl0 ++ ptL (rwW r p but) (l.getD i (0, 0)).1 u9 := ⟨_, rfl⟩
      rw [← hsl] at sd1 hbd
      have hs4 : sl.length ≤ 9 * ((l.getD i (0, 0)).1 + u9) + 1 := by split at hbd <;> omega
      refine wp_iload_n dX12_laysLetters_32 rfl rfl ?_
      refine wp_aload_n dX12_laysLetters_33 rfl rfl ?_
      refine wp_getR dX12_laysLetters_34 lX12_67 rfl (mO hs1) (mR_cutTo hs1) ?_
      refine wp_iload_n dX12_laysLetters_37 rfl rfl ?_
      refine wp_ialdV dX12_laysLetters_38 (mA_cutTo hs1) rfl ⟨by omega, by decide⟩ (k1.2.2 i hi).2.1 ?_
      refine wp_icmp_geN dX12_laysLetters_39 rfl rfl ⟨by omega, by omega⟩ (fun c1 => ?_) (fun c1 => ?_)
      · have e9 : (l.getD i (0, 0)).1 + u9 = (l.getD i (0, 0)).2 := by omega
        refine K9 _ _ _ _ _ hf1 k1 rx1 nx1 ?_ ?_ <;> rw [show (l.getD i (0, 0)).2 - (l.getD i (0, 0)).1 = u9 by omega, ← hsl]
        · exact sd1
        · rw [if_neg (by omega)] at hbd; omega
      · refine wp_iload_n dX12_laysLetters_42 rfl rfl ?_
        refine wp_aload_n dX12_laysLetters_43 rfl rfl ?_
        refine wp_getR dX12_laysLetters_44 lX12_64 rfl (mO hs1) (mR_cutFrom hs1) ?_
        refine wp_iload_n dX12_laysLetters_47 rfl rfl ?_
        refine wp_ialdV dX12_laysLetters_48 (mA_cutFrom hs1) rfl ⟨by omega, by decide⟩ (k1.2.2 i hi).1 ?_
        refine wp_icmp_leN dX12_laysLetters_49 rfl rfl ⟨by omega, by omega⟩ (fun c2 => ?_) (fun c2 => ?_)
        · refine wp_aload_n dX12_laysLetters_58 rfl rfl ?_
          refine wp_getR dX12_laysLetters_59 lX12_46 rfl (mO hs1) (mR_unlike hs1) ?_
          refine wp_aload_n dX12_laysLetters_62 rfl rfl ?_
          refine wp_getR dX12_laysLetters_63 lX12_58 rfl (mO hs1) (mR_rowNumber hs1) ?_
          refine wp_iload_n dX12_laysLetters_66 rfl rfl ?_
          refine wp_ialdV dX12_laysLetters_67 (mA_rowNumber hs1) rfl ⟨by omega, by decide⟩ (rx1.2 ((l.getD i (0, 0)).1 + u9) (by omega)).1 ?_
          refine wp_laldV dX12_laysLetters_68 (mA_unlike hs1) rfl ⟨by have := idx_lt nx1 hp (show (l.getD i (0, 0)).1 + u9 < (rowL but (rT r p)).length by omega); have := uqA_len hd.w; omega, by decide⟩ ((nx1.2.1 _ (idx_lt nx1 hp (by omega))).trans (idx_get nx1 hp (by omega))) ?_
          refine wp_lstore_n (ls1 := [_, _, _, some _, _, _]) dX12_laysLetters_69 rfl (by decide) rfl ?_
          refine wp_lload_n dX12_laysLetters_70 rfl rfl ?_
          refine wp_cS1 0 0 [some _, none, none] dX12_laysLetters_71 tX12_bytesOf sX12_bytesOf lX12_261 ⟨by decide, by decide⟩ (Nat.le_of_ble_eq_true rfl) (Nat.le_of_ble_eq_true rfl) rfl ?_
          refine pX12_bytesOf ?_
          intro _ _
          refine wp_iconst (v := (nI 1)) dX12_laysLetters_74 (by decide +kernel) ?_
          refine wp_isub dX12_laysLetters_75 ?_
          refine wp_istore (ls1 := [_, _, _, _, _, some _]) dX12_laysLetters_76 (by decide) rfl ?_
          rw [bn_itm (rwW r p but ((l.getD i (0, 0)).1 + u9))]
          refine let_b _ _ _ hs1 mFr.rf sd1 (by have := bN_le (rwW r p but ((l.getD i (0, 0)).1 + u9)); omega) (bN_le _) (fun x1 hh1 f1 sd1 => ?_)
          have S1 := f1.s hs1
          have nx1 := nx1.fr f1 (by decide) (by decide)
          have rx1 := rx1.fr f1 (by decide) (by decide)
          have k1 := k1.fr f1 (by decide) (by decide)
          refine wp_iinc1 (ls1 := [_, _, some _, _, _, _]) dX12_laysLetters_105 rfl (by decide) rfl ?_
          refine wp_goto dX12_laysLetters_108 ?_
          refine ih (u9 + 1) _ _ _ _ (by omega) S1 rx1 nx1 k1 ((hf1.up (by decide) (by decide)).tr (f1.up (by decide) (by decide))) ?_ ?_ (by omega)
          · have e9 := sd1
            show saidR _ (sl0 ++ (ptL (rwW r p but) (l.getD i (0, 0)).1 u9 ++ tkL (rwW r p but) (l.getD i (0, 0)).1 ((l.getD i (0, 0)).1 + u9)))
            unfold tkL
            rw [if_neg (by omega), List.nil_append, ← List.append_assoc, ← hsl]
            exact e9
          · show (sl0 ++ (ptL (rwW r p but) (l.getD i (0, 0)).1 u9 ++ tkL (rwW r p but) (l.getD i (0, 0)).1 ((l.getD i (0, 0)).1 + u9))).length ≤ _
            have := bN_le (rwW r p but ((l.getD i (0, 0)).1 + u9))
            have h9 := congrArg List.length hsl
            simp only [List.length_append] at h9 ⊢
            unfold tkL
            simp only [List.length_append, wbL_len]
            rw [if_neg (by omega)]
            simp only [List.length_cons, List.length_nil]
            rw [if_neg (show ¬ u9 + 1 = 0 by omega)]
            split at hbd <;> omega
        · refine wp_aload_n dX12_laysLetters_52 rfl rfl ?_
          refine wp_bipush (v := (nI 32)) dX12_laysLetters_53 (by decide +kernel) ?_
          refine wp_cV1 0 0 [some _, some _] dX12_laysLetters_55 tX12_says rfl (by decide) nX12_says vX12_says lX12_494 ⟨by decide, by decide⟩ (Nat.le_of_ble_eq_true rfl) (mO hs1) (Nat.le_of_ble_eq_true rfl) rfl ?_
          refine pX12_says hs1 sd1 (by omega) (fun hh2 f2 sd2 => ?_)
          intro _ _
          have S2 := f2.s hs1
          have nx2 := nx1.fr f2 (by decide) (by decide)
          have rx2 := rx1.fr f2 (by decide) (by decide)
          have k2 := k1.fr f2 (by decide) (by decide)
          refine wp_aload_n dX12_laysLetters_58 rfl rfl ?_
          refine wp_getR dX12_laysLetters_59 lX12_46 rfl (mO S2) (mR_unlike S2) ?_
          refine wp_aload_n dX12_laysLetters_62 rfl rfl ?_
          refine wp_getR dX12_laysLetters_63 lX12_58 rfl (mO S2) (mR_rowNumber S2) ?_
          refine wp_iload_n dX12_laysLetters_66 rfl rfl ?_
          refine wp_ialdV dX12_laysLetters_67 (mA_rowNumber S2) rfl ⟨by omega, by decide⟩ (rx2.2 ((l.getD i (0, 0)).1 + u9) (by omega)).1 ?_
          refine wp_laldV dX12_laysLetters_68 (mA_unlike S2) rfl ⟨by have := idx_lt nx2 hp (show (l.getD i (0, 0)).1 + u9 < (rowL but (rT r p)).length by omega); have := uqA_len hd.w; omega, by decide⟩ ((nx2.2.1 _ (idx_lt nx2 hp (by omega))).trans (idx_get nx2 hp (by omega))) ?_
          refine wp_lstore_n (ls1 := [_, _, _, some _, _, _]) dX12_laysLetters_69 rfl (by decide) rfl ?_
          refine wp_lload_n dX12_laysLetters_70 rfl rfl ?_
          refine wp_cS1 0 0 [some _, none, none] dX12_laysLetters_71 tX12_bytesOf sX12_bytesOf lX12_261 ⟨by decide, by decide⟩ (Nat.le_of_ble_eq_true rfl) (Nat.le_of_ble_eq_true rfl) rfl ?_
          refine pX12_bytesOf ?_
          intro _ _
          refine wp_iconst (v := (nI 1)) dX12_laysLetters_74 (by decide +kernel) ?_
          refine wp_isub dX12_laysLetters_75 ?_
          refine wp_istore (ls1 := [_, _, _, _, _, some _]) dX12_laysLetters_76 (by decide) rfl ?_
          rw [bn_itm (rwW r p but ((l.getD i (0, 0)).1 + u9))]
          refine let_b _ _ _ S2 mFr.rf sd2 (by have := bN_le (rwW r p but ((l.getD i (0, 0)).1 + u9)); rw [List.length_append]; show sl.length + 1 + _ ≤ 400; omega) (bN_le _) (fun x3 hh3 f3 sd3 => ?_)
          have S3 := f3.s S2
          have nx3 := nx2.fr f3 (by decide) (by decide)
          have rx3 := rx2.fr f3 (by decide) (by decide)
          have k3 := k2.fr f3 (by decide) (by decide)
          refine wp_iinc1 (ls1 := [_, _, some _, _, _, _]) dX12_laysLetters_105 rfl (by decide) rfl ?_
          refine wp_goto dX12_laysLetters_108 ?_
          refine ih (u9 + 1) _ _ _ _ (by omega) S3 rx3 nx3 k3 (((hf1.up (by decide) (by decide)).tr (f2.up (by decide) (by decide))).tr (f3.up (by decide) (by decide))) ?_ ?_ (by omega)
          · have e9 := sd3
            show saidR _ (sl0 ++ (ptL (rwW r p but) (l.getD i (0, 0)).1 u9 ++ tkL (rwW r p but) (l.getD i (0, 0)).1 ((l.getD i (0, 0)).1 + u9)))
            unfold tkL
            rw [if_pos (by omega), ← List.append_assoc, ← List.append_assoc, ← hsl]
            exact e9
          · show (sl0 ++ (ptL (rwW r p but) (l.getD i (0, 0)).1 u9 ++ tkL (rwW r p but) (l.getD i (0, 0)).1 ((l.getD i (0, 0)).1 + u9))).length ≤ _
            have := bN_le (rwW r p but ((l.getD i (0, 0)).1 + u9))
            have h9 := congrArg List.length hsl
            simp only [List.length_append] at h9 ⊢
            unfold tkL
            simp only [List.length_append, wbL_len]
            rw [if_pos (by omega)]
            simp only [List.length_cons, List.length_nil]
            rw [if_neg (show ¬ u9 + 1 = 0 by omega)]
            split at hbd <;> omega
  exact hloop ((l.getD i (0, 0)).2 + 1) 0 x3 x4 x5 h (by omega) hs rx nx hk mFr.rf (by rw [show ptL (rwW r p but) (l.getD i (0, 0)).1 0 = [] from rfl, List.append_nil]; exact sd) (by rw [show ptL (rwW r p but) (l.getD i (0, 0)).1 0 = [] from rfl, List.append_nil, if_pos rfl]; exact hb0) (by omega)
