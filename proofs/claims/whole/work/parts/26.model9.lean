/-! ===== frames; numbers and rows by the state; tries ===== -/
theorem wp_gen {P : mH → Prop} {M : mM} {fr lo pc : Nat} {ls : List (Option Value)} {st : List Value} {h : mH} {Q : Option Value → mH → Prop} (hp : P h) (k : ∀ h', P h' → Wp M fr lo pc ls st h' Q) : Wp M fr lo pc ls st h Q := k h hp
theorem mFr.up {F A F' A' : List Nat} {h h1 : mH} (a : mFr (mP F A) h h1) (q1 : ∀ k ∈ F, k ∈ F') (q2 : ∀ k ∈ A, k ∈ A') : mFr (mP F' A') h h1 := a.mono (fun x y z => z.elim (fun w => Or.inl ⟨w.1, q1 _ w.2⟩) (fun w => Or.inr (q2 _ w)))
theorem mFr.fI {F A : List Nat} {h h1 : mH} (a : mFr (mP F A) h h1) (k : Nat) (q1 : k ∉ F) (q2 : 153 ∉ A) : hI h1 153 k = hI h 153 k := a.I (fun q => q.elim (fun z => q1 z.2) q2)
theorem mFr.fL {F A : List Nat} {h h1 : mH} (a : mFr (mP F A) h h1) (k : Nat) (q1 : k ∉ F) (q2 : 153 ∉ A) : hL h1 153 k = hL h 153 k := a.L (fun q => q.elim (fun z => q1 z.2) q2)
/-- numbers and kinds of all tokens are laid -/
def numX (r : Nat → Int64) (h : mH) : Prop := hI h 153 24 = nI (uqA r).length ∧ (∀ i, i < (uqA r).length → hL h 163 i = (uqA r).getD i 0) ∧ ∀ p k, p < rP r → k < rT r p → rW r p k ∈ uqA r ∧ hI h 164 (40 * p + k) = nI ((uqA r).idxOf (rW r p k)) ∧ hI h 165 (40 * p + k) = nI (kd (rW r p k))
theorem numX_of {r : Nat → Int64} {h : mH} (q : numI r h (rP r) 0) : numX r h := by
  unfold numI at q
  rw [show pg r (rP r) 0 = [] from rfl, List.append_nil] at q
  exact ⟨q.1, q.2.1, fun p k h1 h2 => q.2.2 p k (Or.inl ⟨h1, h2⟩)⟩
theorem numX.fr {r : Nat → Int64} {F A : List Nat} {h h1 : mH} (q : numX r h) (a : mFr (mP F A) h h1) (q1 : 24 ∉ F) (q2 : 153 ∉ A ∧ 163 ∉ A ∧ 164 ∉ A ∧ 165 ∉ A) : numX r h1 := by
  unfold numX
  rw [a.fI 24 q1 q2.1, a.Lr (by decide) q2.2.1, a.Ir (by decide) q2.2.2.1, a.Ir (by decide) q2.2.2.2]
  exact q
theorem uqA_len {r : Nat → Int64} (hw : WF r) : (uqA r).length ≤ 240 := by
  have h1 := uq_len (tk r (rP r))
  have h2 := tk_len hw (rP r) hw.1.2
  have h3 := hw.1.2
  unfold uqA
  omega
theorem kd_lt (w : Int64) : kd w < 3 := by
  unfold kd
  split
  · decide
  · split <;> decide
/-- the word at a place of a page's row of tokens -/
def rwW (r : Nat → Int64) (p : Nat) (but : Int32) (j : Nat) : Int64 := rW r p ((rowL but (rT r p)).getD j 0)
def pmR (r : Nat → Int64) (p : Nat) (but : Int32) (x : Int32) (j : Nat) : Bool := if x < nI 3 then decide (nI (kd (rwW r p but j)) = x) else decide (nI ((uqA r).idxOf (rwW r p but j)) = x - nI 3)
def rowX (r : Nat → Int64) (h : mH) (p : Nat) (but : Int32) : Prop := hI h 153 32 = nI (rowL but (rT r p)).length ∧ ∀ j, j < (rowL but (rT r p)).length → hI h 167 j = nI ((uqA r).idxOf (rwW r p but j)) ∧ hI h 168 j = nI (kd (rwW r p but j))
theorem rowL_mem {but : Int32} {k j : Nat} (h : j < (rowL but k).length) : (rowL but k).getD j 0 < k := by
  have h1 : (rowL but k).getD j 0 ∈ rowL but k := by
    rw [List.getD_eq_getElem?_getD, List.getElem?_eq_getElem h]
    exact List.getElem_mem h
  unfold rowL at h1
  have h2 := (List.mem_filter.mp h1).1
  exact List.mem_range.mp h2
theorem rowX_of {r : Nat → Int64} {h h1 : mH} {p : Nat} {but : Int32} (hp : p < rP r) (nx : numX r h) (q : rowI h h1 p (rowL but (rT r p))) : rowX r h1 p but := by
  refine ⟨q.1, fun j hj => ?_⟩
  obtain ⟨a1, a2⟩ := q.2 j hj
  obtain ⟨b1, b2, b3⟩ := nx.2.2 p _ hp (rowL_mem hj)
  exact ⟨a1.trans b2, a2.trans b3⟩
theorem rowX.fr {r : Nat → Int64} {p : Nat} {but : Int32} {F A : List Nat} {h h1 : mH} (q : rowX r h p but) (a : mFr (mP F A) h h1) (q1 : 32 ∉ F) (q2 : 153 ∉ A ∧ 167 ∉ A ∧ 168 ∉ A) : rowX r h1 p but := by
  unfold rowX
  rw [a.fI 32 q1 q2.1, a.Ir (by decide) q2.2.1, a.Ir (by decide) q2.2.2]
  exact q
theorem rowX.pmE {r : Nat → Int64} {p j : Nat} {but x : Int32} {h : mH} (q : rowX r h p but) (hj : j < (rowL but (rT r p)).length) : pm h x j = pmR r p but x j := by
  unfold pm pmR
  rw [(q.2 j hj).1, (q.2 j hj).2]
theorem rowL_m1 : ∀ k, k ≤ 2147483648 → rowL (-1) k = List.range k
  | 0, _ => rfl
  | k + 1, hk => by rw [rowL_in (nI_ne_m1 (by omega)), rowL_m1 k (by omega), List.range_succ]
theorem rwW_m1 {r : Nat → Int64} {p j : Nat} (hT : rT r p ≤ 40) (hj : j < rT r p) : rwW r p (-1) j = rW r p j := by
  unfold rwW
  rw [rowL_m1 _ (by omega), List.getD_eq_getElem?_getD, List.getElem?_range hj]
  rfl
theorem fI_congr {P P' : Nat → Bool} : ∀ (n a : Nat), (∀ j, a ≤ j → j < a + n → P j = P' j) → fI P n a = fI P' n a
  | 0, _, _ => rfl
  | n + 1, a, h => by
    unfold fI
    rw [h a (Nat.le_refl _) (by omega), fI_congr n (a + 1) (fun j h1 h2 => h j (by omega) (by omega))]
theorem fst1_congr {P P' : Nat → Bool} {a b : Nat} (h : ∀ j, j < b → P j = P' j) : fst1 P a b = fst1 P' a b := fI_congr _ _ (fun j h1 h2 => h j (by omega))
theorem bhN_congr {P P' : Int32 → Nat → Bool} {a b : Nat} {near sec : Int32} (h : ∀ x j, j < b → P x j = P' x j) : bhN P a b near sec = bhN P' a b near sec := by
  unfold bhN
  rw [fst1_congr (h near), fst1_congr (b := b - 1) (fun j hj => by rw [h near j (by omega), h sec (j + 1) (by omega)])]
theorem cut1_congr {P P' : Int32 → Nat → Bool} {a b : Nat} {far near sec stop : Int32} (h : ∀ x j, j < b → P x j = P' x j) : cut1 P a b far near sec stop = cut1 P' a b far near sec stop := by
  unfold cut1
  rw [fst1_congr (h far)]
  congr 1
  funext k
  rw [bhN_congr h]
  congr 1
  funext k2
  rw [fst1_congr (h stop)]
theorem cutL_congr {P P' : Int32 → Nat → Bool} {b : Nat} {far near sec stop : Int32} (h : ∀ x j, j < b → P x j = P' x j) : ∀ n a, cutL P b far near sec stop n a = cutL P' b far near sec stop n a
  | 0, _ => rfl
  | n + 1, a => by
    unfold cutL
    rw [cut1_congr h]
    cases cut1 P' a b far near sec stop with
    | none => rfl
    | some q => show _ :: _ = _ :: _; rw [cutL_congr h n]
/-- how many parts can be cut -/
def mzN (z : Int32) : Nat := if z = 1 then 8 else 1
theorem pX12_laysNumbers' {h : mH} {Q : Option Value → mH → Prop} {r : Nat → Int64} {F : Nat} {pa my : Nat → Int32}  (hc : mC h r F pa my) (hd : sOK r F pa my) (hq : ∀ h', mFr pwNum h h' → numX r h' → Q none h') : Wp mX12_laysNumbers 3 64 0 [some (.ref 153), none, none, none, none] [] h Q := by
  have hF4 := hd.f4
  have hP6 := hd.w.1.2
  refine pX12_laysNumbers hc.1 (by rw [hc.2.1]; exact hd.w) (fun h1 f1 n1 => hq h1 f1 ?_)
  rw [hc.2.1] at n1
  exact numX_of n1
theorem pX12_laysRow' {h : mH} {Q : Option Value → mH → Prop} {r : Nat → Int64} {F : Nat} {pa my : Nat → Int32} {p : Nat} {but : Int32} (hc : mC h r F pa my) (hd : sOK r F pa my) (nx : numX r h) (hp : p < rP r) (hq : ∀ h', mFr pwRow h h' → rowX r h' p but → Q none h') : Wp mX12_laysRow 1 21 0 [some (.ref 153), some (.int (nI p)), some (.int but), none] [] h Q := by
  have hF4 := hd.f4
  have hP6 := hd.w.1.2
  refine pX12_laysRow hc.1 (by rw [hc.2.1]; exact hd.w) (by omega) (fun h1 f1 n1 => hq h1 f1 ?_)
  rw [hc.2.1] at n1
  exact rowX_of hp nx n1
theorem pX12_cutsRegion' {h : mH} {Q : Option Value → mH → Prop} {r : Nat → Int64} {F : Nat} {pa my : Nat → Int32} {p a b : Nat} {but z far near sec stop : Int32} (hc : mC h r F pa my) (hd : sOK r F pa my) (hz : z = 0 ∨ z = 1) (hp : p < rP r) (rx : rowX r h p but) (hab : a ≤ b ∧ b ≤ (rowL but (rT r p)).length) (hq : ∀ h', mFr pwCut h h' → cutsOK h' (cutL (pmR r p but) b far near sec stop (mzN z) a) → Q none h') : Wp mX12_cutsRegion 4 99 0 [some (.ref 153), some (.int z), some (.int (nI a)), some (.int (nI b)), some (.int far), some (.int near), some (.int sec), some (.int stop), none] [] h Q := by
  have hF4 := hd.f4
  have hP6 := hd.w.1.2
  have hl := rowL_len but (rT r p)
  have hT := (hd.w.2.1 p (by omega)).2
  have e := fun m => cutL_congr (P := pm h) (P' := pmR r p but) (b := b) (far := far) (near := near) (sec := sec) (stop := stop) (fun x j hj => rx.pmE (by omega)) m a
  refine pX12_cutsRegion hc.1 hz ⟨hab.1, by omega⟩ (fun z0 => ?_) (fun z1 => ?_)
  · refine hq _ (mFr.tr (mFr.rf.sI _ (Or.inl ⟨rfl, by decide⟩)) (cutsH_fr _ _ _)) ?_
    rw [← e]
    unfold mzN
    rw [if_neg (by rw [z0]; decide)]
    exact cutsH_ok (by decide) hab.1 (by omega)
  · refine hq _ (mFr.tr (mFr.rf.sI _ (Or.inl ⟨rfl, by decide⟩)) (cutsH_fr _ _ _)) ?_
    rw [← e]
    unfold mzN
    rw [if_pos z1]
    exact cutsH_ok (by decide) hab.1 (by omega)
theorem pX12_regionFrom {h : mH} {Q : Option Value → mH → Prop} {r : Nat → Int64} {F : Nat} {pa my : Nat → Int32} {f p : Nat} (hc : mC h r F pa my) (hd : sOK r F pa my) (hf : f < F) (hp : p < 6) (hq : Q (some (.int (nI (rgA r pa f p)))) h) : Wp mX12_regionFrom 2 44 0 [some (.ref 153), some (.int (nI f)), some (.int (nI p))] [] h Q := by
  have hF4 := hd.f4
  have hP6 := hd.w.1.2
  refine wp_aload_n dX12_regionFrom_0 rfl rfl ?_
  refine wp_getR dX12_regionFrom_1 lX12_33 rfl (mO hc.1) (mR_parent hc.1) ?_
  refine wp_iload_n dX12_regionFrom_4 rfl rfl ?_
  refine wp_ialdV dX12_regionFrom_5 (mA_parent hc.1) rfl ⟨by omega, by decide⟩ (congrFun hc.2.2.2.1 _) ?_
  rcases hd.par _ hf with ep1 | ⟨g1, hg1, ep1, mg1⟩
  · rw [ep1]
    refine wp_iconst (v := (-1)) dX12_regionFrom_6 (by decide +kernel) ?_
    refine wp_icmp_ne dX12_regionFrom_7 (fun q => absurd q (by decide +kernel)) (fun _ => ?_)
    refine wp_iconst (v := (nI 0)) dX12_regionFrom_10 (by decide +kernel) ?_
    refine wp_goto dX12_regionFrom_11 ?_
    refine wp_ireturn dX12_regionFrom_26 rfl ?_
    unfold rgA at hq
    first | (rw [if_pos (by assumption)] at hq; exact hq) | (rw [if_neg (by rw [ep1]; exact nI_ne_m1 (by omega)), ep1, nOfI_nI (by omega)] at hq; exact hq)
  · rw [ep1]
    refine wp_iconst (v := (-1)) dX12_regionFrom_6 (by decide +kernel) ?_
    refine wp_icmp_ne dX12_regionFrom_7 (fun _ => ?_) (fun q => absurd q (nI_ne_m1 (by omega)))
    refine wp_aload_n dX12_regionFrom_14 rfl rfl ?_
    refine wp_aload_n dX12_regionFrom_15 rfl rfl ?_
    refine wp_getR dX12_regionFrom_16 lX12_33 rfl (mO hc.1) (mR_parent hc.1) ?_
    refine wp_iload_n dX12_regionFrom_19 rfl rfl ?_
    refine wp_ialdV dX12_regionFrom_20 (mA_parent hc.1) rfl ⟨by omega, by decide⟩ ((congrFun hc.2.2.2.1 _).trans ep1) ?_
    refine wp_iload_n dX12_regionFrom_21 rfl rfl ?_
    refine wp_iconst (v := (nI 0)) dX12_regionFrom_22 (by decide +kernel) ?_
    refine wp_cV3 1 21 [some _, some _, some _, some _] dX12_regionFrom_23 tX12_fromOf rfl (by decide) nX12_fromOf vX12_fromOf lX12_309 ⟨by decide, by decide⟩ (Nat.le_of_ble_eq_true rfl) (mO hc.1) (Nat.le_of_ble_eq_true rfl) rfl ?_
    refine pX12_fromOf' hc hd (by omega) (by omega) (by omega) ?_
    intro _ _
    refine wp_ireturn dX12_regionFrom_26 rfl ?_
    unfold rgA at hq
    first | (rw [if_pos (by assumption)] at hq; exact hq) | (rw [if_neg (by rw [ep1]; exact nI_ne_m1 (by omega)), ep1, nOfI_nI (by omega)] at hq; exact hq)
theorem pX12_regionTo {h : mH} {Q : Option Value → mH → Prop} {r : Nat → Int64} {F : Nat} {pa my : Nat → Int32} {f p : Nat} (hc : mC h r F pa my) (hd : sOK r F pa my) (hf : f < F) (hp : p < 6) (hq : Q (some (.int (nI (rgB r pa f p)))) h) : Wp mX12_regionTo 2 44 0 [some (.ref 153), some (.int (nI f)), some (.int (nI p))] [] h Q := by
  have hF4 := hd.f4
  have hP6 := hd.w.1.2
  refine wp_aload_n dX12_regionTo_0 rfl rfl ?_
  refine wp_getR dX12_regionTo_1 lX12_33 rfl (mO hc.1) (mR_parent hc.1) ?_
  refine wp_iload_n dX12_regionTo_4 rfl rfl ?_
  refine wp_ialdV dX12_regionTo_5 (mA_parent hc.1) rfl ⟨by omega, by decide⟩ (congrFun hc.2.2.2.1 _) ?_
  rcases hd.par _ hf with ep1 | ⟨g1, hg1, ep1, mg1⟩
  · rw [ep1]
    refine wp_iconst (v := (-1)) dX12_regionTo_6 (by decide +kernel) ?_
    refine wp_icmp_ne dX12_regionTo_7 (fun q => absurd q (by decide +kernel)) (fun _ => ?_)
    refine wp_aload_n dX12_regionTo_10 rfl rfl ?_
    refine wp_iload_n dX12_regionTo_11 rfl rfl ?_
    refine wp_cV1 0 0 [some _, some _] dX12_regionTo_12 tX12_tokensOf rfl (by decide) nX12_tokensOf vX12_tokensOf lX12_273 ⟨by decide, by decide⟩ (Nat.le_of_ble_eq_true rfl) (mO hc.1) (Nat.le_of_ble_eq_true rfl) rfl ?_
    refine pX12_tokensOf' hc hd (by omega) ?_
    intro _ _
    refine wp_goto dX12_regionTo_15 ?_
    refine wp_ireturn dX12_regionTo_30 rfl ?_
    unfold rgB at hq
    first | (rw [if_pos (by assumption)] at hq; exact hq) | (rw [if_neg (by rw [ep1]; exact nI_ne_m1 (by omega)), ep1, nOfI_nI (by omega)] at hq; exact hq)
  · rw [ep1]
    refine wp_iconst (v := (-1)) dX12_regionTo_6 (by decide +kernel) ?_
    refine wp_icmp_ne dX12_regionTo_7 (fun _ => ?_) (fun q => absurd q (nI_ne_m1 (by omega)))
    refine wp_aload_n dX12_regionTo_18 rfl rfl ?_
    refine wp_aload_n dX12_regionTo_19 rfl rfl ?_
    refine wp_getR dX12_regionTo_20 lX12_33 rfl (mO hc.1) (mR_parent hc.1) ?_
    refine wp_iload_n dX12_regionTo_23 rfl rfl ?_
    refine wp_ialdV dX12_regionTo_24 (mA_parent hc.1) rfl ⟨by omega, by decide⟩ ((congrFun hc.2.2.2.1 _).trans ep1) ?_
    refine wp_iload_n dX12_regionTo_25 rfl rfl ?_
    refine wp_iconst (v := (nI 0)) dX12_regionTo_26 (by decide +kernel) ?_
    refine wp_cV3 1 21 [some _, some _, some _, some _] dX12_regionTo_27 tX12_toOf rfl (by decide) nX12_toOf vX12_toOf lX12_305 ⟨by decide, by decide⟩ (Nat.le_of_ble_eq_true rfl) (mO hc.1) (Nat.le_of_ble_eq_true rfl) rfl ?_
    refine pX12_toOf' hc hd (by omega) (by omega) (by omega) ?_
    intro _ _
    refine wp_ireturn dX12_regionTo_30 rfl ?_
    unfold rgB at hq
    first | (rw [if_pos (by assumption)] at hq; exact hq) | (rw [if_neg (by rw [ep1]; exact nI_ne_m1 (by omega)), ep1, nOfI_nI (by omega)] at hq; exact hq)
theorem mkL_len (r : Nat → Int64) (f p : Nat) : (mkL r f p).length = rM r f p := by unfold mkL; simp
theorem mkL_getD {r : Nat → Int64} {f p k : Nat} (hk : k < rM r f p) : (mkL r f p).getD k (0, 0) = (rA r f p k, rB r f p k) := by
  unfold mkL
  rw [List.getD_eq_getElem?_getD, List.getElem?_map, List.getElem?_range hk]
  rfl
theorem mkL_eq {r : Nat → Int64} {f p : Nat} {l : List (Nat × Nat)} (hl : l.length = rM r f p) (h : ∀ j, j < l.length → l.getD j (0, 0) = (rA r f p j, rB r f p j)) : l = mkL r f p := by
  apply List.ext_getElem?
  intro i
  by_cases hi : i < l.length
  · have := h i hi
    rw [← mkL_getD (by omega), List.getD_eq_getElem?_getD, List.getD_eq_getElem?_getD, List.getElem?_eq_getElem hi, List.getElem?_eq_getElem (by rw [mkL_len]; omega)] at this
    rw [List.getElem?_eq_getElem hi, List.getElem?_eq_getElem (by rw [mkL_len]; omega)]
    exact congrArg some this
  · rw [List.getElem?_eq_none (by omega), List.getElem?_eq_none (by rw [mkL_len]; omega)]
theorem pX12_isAsMarked {h : mH} {Q : Option Value → mH → Prop} {r : Nat → Int64} {F : Nat} {pa my : Nat → Int32} {f p : Nat} {l : List (Nat × Nat)} (hc : mC h r F pa my) (hd : sOK r F pa my) (hf : f < F) (hp : p < 6) (hk : cutsOK h l) (ht : l = mkL r f p → Q (some (.int (nI 1))) h) (hft : l ≠ mkL r f p → Q (some (.int (nI 0))) h) : Wp mX12_isAsMarked 2 44 0 [some (.ref 153), some (.int (nI f)), some (.int (nI p)), none] [] h Q := by
  have hF4 := hd.f4
  have hP6 := hd.w.1.2
  have hM := (hd.w.2.2 f p (by omega) hp).1.2
  have hl8 := hk.2.1
  have hloop : l.length = rM r f p → ∀ (n k : Nat), k ≤ l.length → (∀ j, j < k → l.getD j (0, 0) = (rA r f p j, rB r f p j)) → 8 < k + n → Wp mX12_isAsMarked 2 44 17 [some (.ref 153), some (.int (nI f)), some (.int (nI p)), some (.int (nI k))] [] h Q := by
    intro e0 n
    induction n with
    | zero => intros; omega
    | succ n ih =>
      intro k hk9 hbef hmz
      refine wp_iload_n dX12_isAsMarked_17 rfl rfl ?_
      refine wp_aload_n dX12_isAsMarked_18 rfl rfl ?_
      refine wp_getIV dX12_isAsMarked_19 lX12_337 rfl (mO hc.1) hk.1 ?_
      refine wp_icmp_geN dX12_isAsMarked_22 rfl rfl ⟨by omega, by omega⟩ (fun c1 => ?_) (fun c1 => ?_)
      · refine wp_iconst (v := (nI 1)) dX12_isAsMarked_65 (by decide +kernel) ?_
        refine wp_zreturn dX12_isAsMarked_66 rfl (Or.inr rfl) ?_
        exact ht (mkL_eq e0 (fun j hj => hbef j (by omega)))
      · obtain ⟨k1, k2, k3, k4⟩ := hk.2.2 k (by omega)
        obtain ⟨⟨-, m1⟩, -, m2⟩ := (hd.w.2.2 f p (by omega) hp).2 k (by omega)
        refine wp_aload_n dX12_isAsMarked_25 rfl rfl ?_
        refine wp_getR dX12_isAsMarked_26 lX12_64 rfl (mO hc.1) (mR_cutFrom hc.1) ?_
        refine wp_iload_n dX12_isAsMarked_29 rfl rfl ?_
        refine wp_ialdV dX12_isAsMarked_30 (mA_cutFrom hc.1) rfl ⟨by omega, by decide⟩ k1 ?_
        refine wp_aload_n dX12_isAsMarked_31 rfl rfl ?_
        refine wp_iload_n dX12_isAsMarked_32 rfl rfl ?_
        refine wp_iload_n dX12_isAsMarked_33 rfl rfl ?_
        refine wp_iload_n dX12_isAsMarked_34 rfl rfl ?_
        refine wp_cV3 1 21 [some _, some _, some _, some _] dX12_isAsMarked_35 tX12_fromOf rfl (by decide) nX12_fromOf vX12_fromOf lX12_309 ⟨by decide, by decide⟩ (Nat.le_of_ble_eq_true rfl) (mO hc.1) (Nat.le_of_ble_eq_true rfl) rfl ?_
        refine pX12_fromOf' hc hd (by omega) (by omega) (by omega) ?_
        intro _ _
        refine wp_icmp_neN dX12_isAsMarked_38 rfl rfl ⟨by omega, by omega⟩ (fun c2 => ?_) (fun c2 => ?_)
        · refine wp_iconst (v := (nI 0)) dX12_isAsMarked_57 (by decide +kernel) ?_
          refine wp_zreturn dX12_isAsMarked_58 rfl (Or.inl rfl) ?_
          refine hft (fun e9 => ?_)
          have e8 := congrArg (fun l => l.getD k (0, 0)) e9
          rw [mkL_getD (by omega)] at e8
          simp_all
        · refine wp_aload_n dX12_isAsMarked_41 rfl rfl ?_
          refine wp_getR dX12_isAsMarked_42 lX12_67 rfl (mO hc.1) (mR_cutTo hc.1) ?_
          refine wp_iload_n dX12_isAsMarked_45 rfl rfl ?_
          refine wp_ialdV dX12_isAsMarked_46 (mA_cutTo hc.1) rfl ⟨by omega, by decide⟩ k2 ?_
          refine wp_aload_n dX12_isAsMarked_47 rfl rfl ?_
          refine wp_iload_n dX12_isAsMarked_48 rfl rfl ?_
          refine wp_iload_n dX12_isAsMarked_49 rfl rfl ?_
          refine wp_iload_n dX12_isAsMarked_50 rfl rfl ?_
          refine wp_cV3 1 21 [some _, some _, some _, some _] dX12_isAsMarked_51 tX12_toOf rfl (by decide) nX12_toOf vX12_toOf lX12_305 ⟨by decide, by decide⟩ (Nat.le_of_ble_eq_true rfl) (mO hc.1) (Nat.le_of_ble_eq_true rfl) rfl ?_
          refine pX12_toOf' hc hd (by omega) (by omega) (by omega) ?_
          intro _ _
          refine wp_icmp_eqN dX12_isAsMarked_54 rfl rfl ⟨by omega, by omega⟩ (fun c3 => ?_) (fun c3 => ?_)
          · refine wp_iinc1 (ls1 := [_, _, _, some _]) dX12_isAsMarked_59 rfl (by decide) rfl ?_
            refine wp_goto dX12_isAsMarked_62 ?_
            refine ih (k + 1) (by omega) (fun j hj => ?_) (by omega)
            by_cases e9 : j = k
            · subst e9
              rw [← c2, ← c3]
            · exact hbef j (by omega)
          · refine wp_iconst (v := (nI 0)) dX12_isAsMarked_57 (by decide +kernel) ?_
            refine wp_zreturn dX12_isAsMarked_58 rfl (Or.inl rfl) ?_
            refine hft (fun e9 => ?_)
            have e8 := congrArg (fun l => l.getD k (0, 0)) e9
            rw [mkL_getD (by omega)] at e8
            simp_all
  refine wp_aload_n dX12_isAsMarked_0 rfl rfl ?_
  refine wp_getIV dX12_isAsMarked_1 lX12_337 rfl (mO hc.1) hk.1 ?_
  refine wp_aload_n dX12_isAsMarked_4 rfl rfl ?_
  refine wp_iload_n dX12_isAsMarked_5 rfl rfl ?_
  refine wp_iload_n dX12_isAsMarked_6 rfl rfl ?_
  refine wp_cV2 1 21 [some _, some _, some _] dX12_isAsMarked_7 tX12_partsOf rfl (by decide) nX12_partsOf vX12_partsOf lX12_302 ⟨by decide, by decide⟩ (Nat.le_of_ble_eq_true rfl) (mO hc.1) (Nat.le_of_ble_eq_true rfl) rfl ?_
  refine pX12_partsOf' hc hd (by omega) (by omega) ?_
  intro _ _
  refine wp_icmp_eqN dX12_isAsMarked_10 rfl rfl ⟨by omega, by omega⟩ (fun c1 => ?_) (fun c1 => ?_)
  · refine wp_iconst (v := (nI 0)) dX12_isAsMarked_15 (by decide +kernel) ?_
    refine wp_istore_n (ls1 := [_, _, _, some _]) dX12_isAsMarked_16 rfl (by decide) rfl ?_
    exact hloop c1 9 0 (by omega) (fun j hj => absurd hj (Nat.not_lt_zero _)) (by omega)
  · refine wp_iconst (v := (nI 0)) dX12_isAsMarked_13 (by decide +kernel) ?_
    refine wp_zreturn dX12_isAsMarked_14 rfl (Or.inl rfl) ?_
    refine hft (fun e9 => c1 ?_)
    have := congrArg List.length e9
    rwa [mkL_len] at this
def tryL (r : Nat → Int64) (pa my : Nat → Int32) (f p : Nat) (far near sec stop : Int32) : List (Nat × Nat) := cutL (pmR r p (-1)) (rgB r pa f p) far near sec stop (mzN (my f)) (rgA r pa f p)
def tryV (r : Nat → Int64) (pa my : Nat → Int32) (f p : Nat) (far near sec stop : Int32) : Nat := if tryL r pa my f p far near sec stop = [] then 0 else if tryL r pa my f p far near sec stop = mkL r f p then 1 else 2
abbrev pwTry : Nat → Nat → Prop := mP [32, 35] [167, 168, 169, 170]
theorem pX12_triesOn {h : mH} {Q : Option Value → mH → Prop} {r : Nat → Int64} {F : Nat} {pa my : Nat → Int32} {f p : Nat} {far near sec stop : Int32} (hc : mC h r F pa my) (hd : sOK r F pa my) (nx : numX r h) (hf : f < F) (hp : p < rP r) (hq : ∀ h', mFr pwTry h h' → cutsOK h' (tryL r pa my f p far near sec stop) → Q (some (.int (nI (tryV r pa my f p far near sec stop)))) h') : Wp mX12_triesOn 5 127 0 [some (.ref 153), some (.int (nI f)), some (.int (nI p)), some (.int far), some (.int near), some (.int sec), some (.int stop)] [] h Q := by
  have hF4 := hd.f4
  have hP6 := hd.w.1.2
  have hT := (hd.w.2.1 p (by omega)).2
  refine wp_aload_n dX12_triesOn_0 rfl rfl ?_
  refine wp_iload_n dX12_triesOn_1 rfl rfl ?_
  refine wp_iconst (v := (-1)) dX12_triesOn_2 (by decide +kernel) ?_
  refine wp_cV2 1 21 [some _, some _, some _, none] dX12_triesOn_3 tX12_laysRow rfl (by decide) nX12_laysRow vX12_laysRow lX12_344 ⟨by decide, by decide⟩ (Nat.le_of_ble_eq_true rfl) (mO hc.1) (Nat.le_of_ble_eq_true rfl) rfl ?_
  refine pX12_laysRow' hc hd nx (by omega) (fun h1 f1 x1 => ?_)
  intro _ _
  have c1 := hc.fr f1 (by decide) (by decide) (by decide) (by decide) (by decide)
  have n1 := nx.fr f1 (by decide) (by decide)
  refine wp_aload_n dX12_triesOn_6 rfl rfl ?_
  refine wp_aload_n dX12_triesOn_7 rfl rfl ?_
  refine wp_getR dX12_triesOn_8 lX12_40 rfl (mO c1.1) (mR_isMany c1.1) ?_
  refine wp_iload_n dX12_triesOn_11 rfl rfl ?_
  refine wp_zaldV dX12_triesOn_12 (mA_isMany c1.1) rfl ⟨by omega, by decide⟩ (congrFun c1.2.2.2.2 _) ?_
  refine wp_aload_n dX12_triesOn_13 rfl rfl ?_
  refine wp_iload_n dX12_triesOn_14 rfl rfl ?_
  refine wp_iload_n dX12_triesOn_15 rfl rfl ?_
  refine wp_cV2 2 44 [some _, some _, some _] dX12_triesOn_16 tX12_regionFrom rfl (by decide) nX12_regionFrom vX12_regionFrom lX12_347 ⟨by decide, by decide⟩ (Nat.le_of_ble_eq_true rfl) (mO c1.1) (Nat.le_of_ble_eq_true rfl) rfl ?_
  refine pX12_regionFrom c1 hd (by omega) (by omega) ?_
  intro _ _
  refine wp_aload_n dX12_triesOn_19 rfl rfl ?_
  refine wp_iload_n dX12_triesOn_20 rfl rfl ?_
  refine wp_iload_n dX12_triesOn_21 rfl rfl ?_
  refine wp_cV2 2 44 [some _, some _, some _] dX12_triesOn_22 tX12_regionTo rfl (by decide) nX12_regionTo vX12_regionTo lX12_350 ⟨by decide, by decide⟩ (Nat.le_of_ble_eq_true rfl) (mO c1.1) (Nat.le_of_ble_eq_true rfl) rfl ?_
  refine pX12_regionTo c1 hd (by omega) (by omega) ?_
  intro _ _
  refine wp_iload_n dX12_triesOn_25 rfl rfl ?_
  refine wp_iload dX12_triesOn_26 rfl ?_
  refine wp_iload dX12_triesOn_28 rfl ?_
  refine wp_iload dX12_triesOn_30 rfl ?_
  refine wp_cV7 4 99 [some _, some _, some _, some _, some _, some _, some _, some _, none] dX12_triesOn_32 tX12_cutsRegion rfl (by decide) nX12_cutsRegion vX12_cutsRegion lX12_353 ⟨by decide, by decide⟩ (Nat.le_of_ble_eq_true rfl) (mO c1.1) (Nat.le_of_ble_eq_true rfl) rfl ?_
  refine pX12_cutsRegion' c1 hd (hd.my _ (by omega)) (by omega) x1 ⟨(rg_le hd hf (by omega)).1, by rw [rowL_m1 _ (by omega), List.length_range]; exact (rg_le hd hf (by omega)).2.1⟩ (fun h2 f2 k2 => ?_)
  intro _ _
  have c2 := c1.fr f2 (by decide) (by decide) (by decide) (by decide) (by decide)
  have n2 := n1.fr f2 (by decide) (by decide)
  have rx2 := x1.fr f2 (by decide) (by decide)
  refine wp_aload_n dX12_triesOn_35 rfl rfl ?_
  refine wp_getIV dX12_triesOn_36 lX12_337 rfl (mO c2.1) k2.1 ?_
  refine wp_if_neN dX12_triesOn_39 rfl (by have := k2.2.1; omega) (fun c1 => ?_) (fun c1 => ?_)
  · refine wp_aload_n dX12_triesOn_46 rfl rfl ?_
    refine wp_iload_n dX12_triesOn_47 rfl rfl ?_
    refine wp_iload_n dX12_triesOn_48 rfl rfl ?_
    refine wp_cV2 2 44 [some _, some _, some _, none] dX12_triesOn_49 tX12_isAsMarked rfl (by decide) nX12_isAsMarked vX12_isAsMarked lX12_357 ⟨by decide, by decide⟩ (Nat.le_of_ble_eq_true rfl) (mO c2.1) (Nat.le_of_ble_eq_true rfl) rfl ?_
    refine pX12_isAsMarked c2 hd (by omega) (by omega) k2 (fun m3 => ?_) (fun m3 => ?_)
    · intro _ _
      refine wp_if_eq dX12_triesOn_52 (fun q => absurd q (by decide +kernel)) (fun _ => ?_)
      refine wp_iconst (v := (nI 1)) dX12_triesOn_55 (by decide +kernel) ?_
      refine wp_goto dX12_triesOn_56 ?_
      refine wp_ireturn dX12_triesOn_60 rfl ?_
      refine (show tryV r pa my f p far near sec stop = 1 from by unfold tryV; rw [if_neg (fun q9 => by unfold tryL at q9; rw [q9] at c1; exact absurd c1 (by decide)), if_pos (by assumption)]) ▸ hq _ ((f1.up (by decide) (by decide)).tr (f2.up (by decide) (by decide))) k2
    · intro _ _
      refine wp_if_eq dX12_triesOn_52 (fun _ => ?_) (fun q => absurd q (by decide +kernel))
      refine wp_iconst (v := (nI 2)) dX12_triesOn_59 (by decide +kernel) ?_
      refine wp_ireturn dX12_triesOn_60 rfl ?_
      refine (show tryV r pa my f p far near sec stop = 2 from by unfold tryV; rw [if_neg (fun q9 => by unfold tryL at q9; rw [q9] at c1; exact absurd c1 (by decide)), if_neg (by assumption)]) ▸ hq _ ((f1.up (by decide) (by decide)).tr (f2.up (by decide) (by decide))) k2
  · refine wp_iconst (v := (nI 0)) dX12_triesOn_42 (by decide +kernel) ?_
    refine wp_goto dX12_triesOn_43 ?_
    refine wp_ireturn dX12_triesOn_60 rfl ?_
    refine (show tryV r pa my f p far near sec stop = 0 from by unfold tryV; rw [if_pos (List.eq_nil_of_length_eq_zero (by unfold tryL; omega))]) ▸ hq _ ((f1.up (by decide) (by decide)).tr (f2.up (by decide) (by decide))) k2
