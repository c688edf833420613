/-! ===== regions; whether cuts are as marked; what a rule is on an example ===== -/
def nOfI (x : Int32) : Nat := x.toInt.toNat
theorem nOfI_nI {j : Nat} (h : j < 2147483648) : nOfI (nI j) = j := by
  unfold nOfI
  rw [nI_toInt h]
  rfl
/-- a field's parent is none, or a field -/
def parOK (h : mH) (f : Nat) : Prop := hI h 159 f = -1 ∨ ∃ g, g < 4 ∧ hI h 159 f = nI g
def rgA (h : mH) (f p : Nat) : Nat := if hI h 159 f = -1 then 0 else rA (hL h 162) (nOfI (hI h 159 f)) p 0
def rgB (h : mH) (f p : Nat) : Nat := if hI h 159 f = -1 then rT (hL h 162) p else rB (hL h 162) (nOfI (hI h 159 f)) p 0
theorem rgA_le {h : mH} {f p : Nat} (hw : WF (hL h 162)) (hp : p < 6) (hpar : parOK h f) : rgA h f p ≤ 40 := by
  unfold rgA
  rcases hpar with e | ⟨g, hg, e⟩
  · rw [if_pos e]
    omega
  · rw [if_neg (by rw [e]; exact nI_ne_m1 (by omega)), e, nOfI_nI (by omega)]
    exact ((hw.2.2 g p hg hp).2 0 (by decide)).1.2
theorem rgB_le {h : mH} {f p : Nat} (hw : WF (hL h 162)) (hp : p < 6) (hpar : parOK h f) : rgB h f p ≤ 40 := by
  unfold rgB
  rcases hpar with e | ⟨g, hg, e⟩
  · rw [if_pos e]
    exact (hw.2.1 p hp).2
  · rw [if_neg (by rw [e]; exact nI_ne_m1 (by omega)), e, nOfI_nI (by omega)]
    exact ((hw.2.2 g p hg hp).2 0 (by decide)).2.2
/-- cuts as a list -/
def cutsOK (h : mH) (l : List (Nat × Nat)) : Prop := hI h 153 35 = nI l.length ∧ l.length ≤ 8 ∧ ∀ i, i < l.length → hI h 169 i = nI (l.getD i (0, 0)).1 ∧ hI h 170 i = nI (l.getD i (0, 0)).2 ∧ (l.getD i (0, 0)).1 ≤ 40 ∧ (l.getD i (0, 0)).2 ≤ 40
/-- a mark as a list -/
def mkL (r : Nat → Int64) (f p : Nat) : List (Nat × Nat) := (List.range (rM r f p)).map (fun i => (rA r f p i, rB r f p i))
abbrev pwCut : Nat → Nat → Prop := mP [35] [169, 170]
theorem cutsH_fr : ∀ (l : List (Nat × Nat)) (h : mH) (c : Nat), mFr pwCut h (cutsH h c l)
  | [], h, c => mFr.rf
  | q :: r, h, c => by
    refine mFr.tr ?_ (cutsH_fr r (cutH h c q.1 q.2) (c + 1))
    exact ((mFr.rf.sI _ (Or.inr (by decide))).sI _ (Or.inr (by decide))).sI _ (Or.inl ⟨rfl, by decide⟩)
theorem cutsH_I : ∀ (l : List (Nat × Nat)) (h : mH) (c : Nat), hI h 153 35 = nI c → hI (cutsH h c l) 153 35 = nI (c + l.length) ∧ (∀ j, j < c → hI (cutsH h c l) 169 j = hI h 169 j ∧ hI (cutsH h c l) 170 j = hI h 170 j) ∧ ∀ i, i < l.length → hI (cutsH h c l) 169 (c + i) = nI (l.getD i (0, 0)).1 ∧ hI (cutsH h c l) 170 (c + i) = nI (l.getD i (0, 0)).2
  | [], h, c, hc => ⟨hc, fun _ _ => ⟨rfl, rfl⟩, fun i hi => absurd hi (Nat.not_lt_zero _)⟩
  | q :: r, h, c, hc => by
    obtain ⟨h1, h2, h3⟩ := cutsH_I r (cutH h c q.1 q.2) (c + 1) rfl
    have e1 : ∀ j, hI (cutH h c q.1 q.2) 169 j = if j = c then nI q.1 else hI h 169 j := by
      intro j
      show (if 169 = 153 ∧ j = 35 then _ else if 169 = 170 ∧ j = c then _ else if 169 = 169 ∧ j = c then _ else _) = _
      rw [if_neg (by omega), if_neg (by omega)]
      by_cases e : j = c
      · rw [if_pos ⟨rfl, e⟩, if_pos e]
      · rw [if_neg (fun z => e z.2), if_neg e]
        rfl
    have e2 : ∀ j, hI (cutH h c q.1 q.2) 170 j = if j = c then nI q.2 else hI h 170 j := by
      intro j
      show (if 170 = 153 ∧ j = 35 then _ else if 170 = 170 ∧ j = c then _ else if 170 = 169 ∧ j = c then _ else _) = _
      rw [if_neg (by omega)]
      by_cases e : j = c
      · rw [if_pos ⟨rfl, e⟩, if_pos e]
      · rw [if_neg (fun z => e z.2), if_neg e, if_neg (by omega)]
        rfl
    refine ⟨?_, ?_, ?_⟩
    · show hI (cutsH (cutH h c q.1 q.2) (c + 1) r) 153 35 = _
      rw [h1, List.length_cons, show c + 1 + r.length = c + (r.length + 1) by omega]
    · intro j hj
      obtain ⟨g1, g2⟩ := h2 j (by omega)
      refine ⟨g1.trans ?_, g2.trans ?_⟩
      · rw [e1, if_neg (by omega)]
      · rw [e2, if_neg (by omega)]
    · intro i hi
      cases i with
      | zero =>
        obtain ⟨g1, g2⟩ := h2 c (by omega)
        rw [e1, if_pos rfl] at g1
        rw [e2, if_pos rfl] at g2
        exact ⟨g1, g2⟩
      | succ i =>
        have := h3 i (by rw [List.length_cons] at hi; omega)
        rw [show c + 1 + i = c + (i + 1) by omega] at this
        exact this
theorem cut1_some {P : Int32 → Nat → Bool} {a b : Nat} {far near sec stop : Int32} {x y : Nat} (hab : a ≤ b) (h : cut1 P a b far near sec stop = some (x, y)) : a ≤ x ∧ x < y ∧ y ≤ b := by
  unfold cut1 at h
  obtain ⟨k, hk, h⟩ := Option.bind_eq_some_iff.mp h
  obtain ⟨k2, hk2, h⟩ := Option.bind_eq_some_iff.mp h
  have h1 : a ≤ k ∧ k ≤ b := by
    split at hk
    · cases hk
      exact ⟨Nat.le_refl _, hab⟩
    · obtain ⟨j, hj, rfl⟩ := Option.map_eq_some_iff.mp hk
      have := fst1_some hj
      omega
  have h2 : k ≤ k2 := by
    unfold bhN at hk2
    split at hk2
    · cases hk2
      exact Nat.le_refl _
    · split at hk2
      · obtain ⟨j, hj, rfl⟩ := Option.map_eq_some_iff.mp hk2
        have := fst1_some hj
        omega
      · obtain ⟨j, hj, rfl⟩ := Option.map_eq_some_iff.mp hk2
        have := fst1_some hj
        omega
  split at h
  · rename_i hlt
    obtain ⟨e, he, heq⟩ := Option.map_eq_some_iff.mp h
    cases heq
    split at he
    · cases he
      omega
    · have := fst1_some he
      omega
  · cases h
theorem cutL_ok {P : Int32 → Nat → Bool} {b : Nat} {far near sec stop : Int32} : ∀ (n a : Nat), a ≤ b → (cutL P b far near sec stop n a).length ≤ n ∧ ∀ q ∈ cutL P b far near sec stop n a, a ≤ q.1 ∧ q.1 < q.2 ∧ q.2 ≤ b
  | 0, a, _ => ⟨Nat.le_refl _, fun q hq => absurd hq List.not_mem_nil⟩
  | n + 1, a, hab => by
    unfold cutL
    cases hc : cut1 P a b far near sec stop with
    | none => exact ⟨Nat.zero_le _, fun q hq => absurd hq List.not_mem_nil⟩
    | some q =>
      obtain ⟨x, y⟩ := q
      have h1 := cut1_some hab hc
      obtain ⟨g1, g2⟩ := cutL_ok (P := P) (far := far) (near := near) (sec := sec) (stop := stop) n y h1.2.2
      refine ⟨Nat.succ_le_succ g1, fun q hq => ?_⟩
      rcases List.mem_cons.mp hq with rfl | hq
      · exact h1
      · have := g2 q hq
        show a ≤ q.1 ∧ _
        omega
theorem cutsH_ok {h : mH} {P : Int32 → Nat → Bool} {n a b : Nat} {far near sec stop : Int32} (hn : n ≤ 8) (hab : a ≤ b) (hb : b ≤ 40) : cutsOK (cutsH (sI h 153 35 (nI 0)) 0 (cutL P b far near sec stop n a)) (cutL P b far near sec stop n a) := by
  obtain ⟨g1, g2⟩ := cutL_ok (P := P) (b := b) (far := far) (near := near) (sec := sec) (stop := stop) n a hab
  obtain ⟨h1, -, h3⟩ := cutsH_I (cutL P b far near sec stop n a) (sI h 153 35 (nI 0)) 0 rfl
  refine ⟨by rw [h1, Nat.zero_add], by omega, fun i hi => ?_⟩
  have := h3 i hi
  rw [Nat.zero_add] at this
  have hm : (cutL P b far near sec stop n a).getD i (0, 0) ∈ cutL P b far near sec stop n a := by
    rw [List.getD_eq_getElem?_getD, List.getElem?_eq_getElem hi]
    exact List.getElem_mem hi
  have hb2 := g2 _ hm
  exact ⟨this.1, this.2, by omega, by omega⟩
set_option maxRecDepth 20000 in
theorem pX12_regionFrom {h : mH} {Q : Option Value → mH → Prop} {f p : Nat} (hm : mS h) (hw : WF (hL h 162)) (hf : f < 4) (hp : p < 6) (hpar : parOK h f) (hq : Q (some (.int (nI (rgA h f p)))) h) : Wp mX12_regionFrom 2 44 0 [some (.ref 153), some (.int (nI f)), some (.int (nI p))] [] h Q := by
  rcases hpar with e | ⟨g, hg, e⟩
  · refine wp_aload_n dX12_regionFrom_0 rfl rfl ?_
    refine wp_getR dX12_regionFrom_1 lX12_33 rfl (mO hm) (mR_parent hm) ?_
    refine wp_iload_n dX12_regionFrom_4 rfl rfl ?_
    refine wp_ialdN dX12_regionFrom_5 (mA_parent hm) rfl ⟨by omega, by decide⟩ ?_
    refine wp_iconst (v := (-1)) dX12_regionFrom_6 (by decide +kernel) ?_
    refine wp_icmp_ne dX12_regionFrom_7 (fun q => absurd e q) (fun _ => ?_)
    refine wp_iconst (v := (nI 0)) dX12_regionFrom_10 (by decide +kernel) ?_
    refine wp_goto dX12_regionFrom_11 ?_
    refine wp_ireturn dX12_regionFrom_26 rfl ?_
    unfold rgA at hq
    rw [if_pos e] at hq
    exact hq
  · refine wp_aload_n dX12_regionFrom_0 rfl rfl ?_
    refine wp_getR dX12_regionFrom_1 lX12_33 rfl (mO hm) (mR_parent hm) ?_
    refine wp_iload_n dX12_regionFrom_4 rfl rfl ?_
    refine wp_ialdN dX12_regionFrom_5 (mA_parent hm) rfl ⟨by omega, by decide⟩ ?_
    refine wp_iconst (v := (-1)) dX12_regionFrom_6 (by decide +kernel) ?_
    refine wp_icmp_ne dX12_regionFrom_7 (fun _ => ?_) (fun q => absurd q (by rw [e]; exact nI_ne_m1 (by omega)))
    refine wp_aload_n dX12_regionFrom_14 rfl rfl ?_
    refine wp_aload_n dX12_regionFrom_15 rfl rfl ?_
    refine wp_getR dX12_regionFrom_16 lX12_33 rfl (mO hm) (mR_parent hm) ?_
    refine wp_iload_n dX12_regionFrom_19 rfl rfl ?_
    refine wp_ialdN dX12_regionFrom_20 (mA_parent hm) rfl ⟨by omega, by decide⟩ ?_
    rw [e]
    refine wp_iload_n dX12_regionFrom_21 rfl rfl ?_
    refine wp_iconst (v := (nI 0)) dX12_regionFrom_22 (by decide +kernel) ?_
    refine wp_cV3 1 21 [some _, some _, some _, some _] dX12_regionFrom_23 tX12_fromOf rfl (by decide) nX12_fromOf vX12_fromOf lX12_309 ⟨by decide, by decide⟩ (Nat.le_of_ble_eq_true rfl) (mO hm) (Nat.le_of_ble_eq_true rfl) rfl ?_
    refine pX12_fromOf hm hw hg hp (by decide) ?_
    intro _ _
    refine wp_ireturn dX12_regionFrom_26 rfl ?_
    unfold rgA at hq
    rw [if_neg (by rw [e]; exact nI_ne_m1 (by omega)), e, nOfI_nI (by omega)] at hq
    exact hq
set_option maxRecDepth 20000 in
theorem pX12_regionTo {h : mH} {Q : Option Value → mH → Prop} {f p : Nat} (hm : mS h) (hw : WF (hL h 162)) (hf : f < 4) (hp : p < 6) (hpar : parOK h f) (hq : Q (some (.int (nI (rgB h f p)))) h) : Wp mX12_regionTo 2 44 0 [some (.ref 153), some (.int (nI f)), some (.int (nI p))] [] h Q := by
  rcases hpar with e | ⟨g, hg, e⟩
  · refine wp_aload_n dX12_regionTo_0 rfl rfl ?_
    refine wp_getR dX12_regionTo_1 lX12_33 rfl (mO hm) (mR_parent hm) ?_
    refine wp_iload_n dX12_regionTo_4 rfl rfl ?_
    refine wp_ialdN dX12_regionTo_5 (mA_parent hm) rfl ⟨by omega, by decide⟩ ?_
    refine wp_iconst (v := (-1)) dX12_regionTo_6 (by decide +kernel) ?_
    refine wp_icmp_ne dX12_regionTo_7 (fun q => absurd e q) (fun _ => ?_)
    refine wp_aload_n dX12_regionTo_10 rfl rfl ?_
    refine wp_iload_n dX12_regionTo_11 rfl rfl ?_
    refine wp_cV1 0 0 [some _, some _] dX12_regionTo_12 tX12_tokensOf rfl (by decide) nX12_tokensOf vX12_tokensOf lX12_273 ⟨by decide, by decide⟩ (Nat.le_of_ble_eq_true rfl) (mO hm) (Nat.le_of_ble_eq_true rfl) rfl ?_
    refine pX12_tokensOf hm hw hp ?_
    intro _ _
    refine wp_goto dX12_regionTo_15 ?_
    refine wp_ireturn dX12_regionTo_30 rfl ?_
    unfold rgB at hq
    rw [if_pos e] at hq
    exact hq
  · refine wp_aload_n dX12_regionTo_0 rfl rfl ?_
    refine wp_getR dX12_regionTo_1 lX12_33 rfl (mO hm) (mR_parent hm) ?_
    refine wp_iload_n dX12_regionTo_4 rfl rfl ?_
    refine wp_ialdN dX12_regionTo_5 (mA_parent hm) rfl ⟨by omega, by decide⟩ ?_
    refine wp_iconst (v := (-1)) dX12_regionTo_6 (by decide +kernel) ?_
    refine wp_icmp_ne dX12_regionTo_7 (fun _ => ?_) (fun q => absurd q (by rw [e]; exact nI_ne_m1 (by omega)))
    refine wp_aload_n dX12_regionTo_18 rfl rfl ?_
    refine wp_aload_n dX12_regionTo_19 rfl rfl ?_
    refine wp_getR dX12_regionTo_20 lX12_33 rfl (mO hm) (mR_parent hm) ?_
    refine wp_iload_n dX12_regionTo_23 rfl rfl ?_
    refine wp_ialdN dX12_regionTo_24 (mA_parent hm) rfl ⟨by omega, by decide⟩ ?_
    rw [e]
    refine wp_iload_n dX12_regionTo_25 rfl rfl ?_
    refine wp_iconst (v := (nI 0)) dX12_regionTo_26 (by decide +kernel) ?_
    refine wp_cV3 1 21 [some _, some _, some _, some _] dX12_regionTo_27 tX12_toOf rfl (by decide) nX12_toOf vX12_toOf lX12_305 ⟨by decide, by decide⟩ (Nat.le_of_ble_eq_true rfl) (mO hm) (Nat.le_of_ble_eq_true rfl) rfl ?_
    refine pX12_toOf hm hw hg hp (by decide) ?_
    intro _ _
    refine wp_ireturn dX12_regionTo_30 rfl ?_
    unfold rgB at hq
    rw [if_neg (by rw [e]; exact nI_ne_m1 (by omega)), e, nOfI_nI (by omega)] at hq
    exact hq
theorem mkL_len (r : Nat → Int64) (f p : Nat) : (mkL r f p).length = rM r f p := by unfold mkL; simp
theorem mkL_getD {r : Nat → Int64} {f p k : Nat} (hk : k < rM r f p) : (mkL r f p).getD k (0, 0) = (rA r f p k, rB r f p k) := by
  unfold mkL
  rw [List.getD_eq_getElem?_getD, List.getElem?_map, List.getElem?_range hk]
  rfl
theorem mkL_eq {r : Nat → Int64} {f p : Nat} {l : List (Nat × Nat)} (hl : l.length = rM r f p) (h : ∀ j, j < l.length → l.getD j (0, 0) = (rA r f p j, rB r f p j)) : l = mkL r f p := by
  apply List.ext_getElem?
  intro i
  by_cases hi : i < l.length
  · have := h i hi
    rw [← mkL_getD (by omega), List.getD_eq_getElem?_getD, List.getD_eq_getElem?_getD, List.getElem?_eq_getElem hi, List.getElem?_eq_getElem (by rw [mkL_len]; omega)] at this
    rw [List.getElem?_eq_getElem hi, List.getElem?_eq_getElem (by rw [mkL_len]; omega)]
    exact congrArg some this
  · rw [List.getElem?_eq_none (by omega), List.getElem?_eq_none (by rw [mkL_len]; omega)]
set_option maxRecDepth 20000 in
theorem pX12_isAsMarked {h : mH} {Q : Option Value → mH → Prop} {f p : Nat} {l : List (Nat × Nat)} (hm : mS h) (hw : WF (hL h 162)) (hf : f < 4) (hp : p < 6) (hc : cutsOK h l) (ht : l = mkL (hL h 162) f p → Q (some (.int (nI 1))) h) (hft : l ≠ mkL (hL h 162) f p → Q (some (.int (nI 0))) h) : Wp mX12_isAsMarked 2 44 0 [some (.ref 153), some (.int (nI f)), some (.int (nI p)), none] [] h Q := by
  have hM := (hw.2.2 f p hf hp).1.2
  have hl8 := hc.2.1
  have hloop : l.length = rM (hL h 162) f p → ∀ (n k : Nat), k ≤ l.length → (∀ j, j < k → l.getD j (0, 0) = (rA (hL h 162) f p j, rB (hL h 162) f p j)) → 8 < k + n → Wp mX12_isAsMarked 2 44 17 [some (.ref 153), some (.int (nI f)), some (.int (nI p)), some (.int (nI k))] [] h Q := by
    intro e0 n
    induction n with
    | zero => intros; omega
    | succ n ih =>
      intro k hk hbef hmz
      refine wp_iload_n dX12_isAsMarked_17 rfl rfl ?_
      refine wp_aload_n dX12_isAsMarked_18 rfl rfl ?_
      refine wp_getI dX12_isAsMarked_19 lX12_337 rfl (mO hm) ?_
      refine wp_icmp_geN dX12_isAsMarked_22 rfl hc.1 ⟨by omega, by omega⟩ (fun c1 => ?_) (fun c1 => ?_)
      · refine wp_iconst (v := (nI 1)) dX12_isAsMarked_65 (by decide +kernel) ?_
        refine wp_zreturn dX12_isAsMarked_66 rfl (Or.inr rfl) ?_
        exact ht (mkL_eq e0 (fun j hj => hbef j (by omega)))
      · obtain ⟨k1, k2, k3, k4⟩ := hc.2.2 k (by omega)
        obtain ⟨⟨-, m1⟩, -, m2⟩ := (hw.2.2 f p hf hp).2 k (by omega)
        refine wp_aload_n dX12_isAsMarked_25 rfl rfl ?_
        refine wp_getR dX12_isAsMarked_26 lX12_64 rfl (mO hm) (mR_cutFrom hm) ?_
        refine wp_iload_n dX12_isAsMarked_29 rfl rfl ?_
        refine wp_ialdN dX12_isAsMarked_30 (mA_cutFrom hm) rfl ⟨by omega, by decide⟩ ?_
        refine wp_aload_n dX12_isAsMarked_31 rfl rfl ?_
        refine wp_iload_n dX12_isAsMarked_32 rfl rfl ?_
        refine wp_iload_n dX12_isAsMarked_33 rfl rfl ?_
        refine wp_iload_n dX12_isAsMarked_34 rfl rfl ?_
        refine wp_cV3 1 21 [some _, some _, some _, some _] dX12_isAsMarked_35 tX12_fromOf rfl (by decide) nX12_fromOf vX12_fromOf lX12_309 ⟨by decide, by decide⟩ (Nat.le_of_ble_eq_true rfl) (mO hm) (Nat.le_of_ble_eq_true rfl) rfl ?_
        refine pX12_fromOf hm hw hf hp (by omega) ?_
        intro _ _
        refine wp_icmp_neN dX12_isAsMarked_38 k1 rfl ⟨by omega, by omega⟩ (fun c2 => ?_) (fun c2 => ?_)
        · refine wp_iconst (v := (nI 0)) dX12_isAsMarked_57 (by decide +kernel) ?_
          refine wp_zreturn dX12_isAsMarked_58 rfl (Or.inl rfl) ?_
          refine hft (fun e9 => ?_)
          have e8 := congrArg (fun l => l.getD k (0, 0)) e9
          rw [mkL_getD (by omega)] at e8
          simp_all
        · refine wp_aload_n dX12_isAsMarked_41 rfl rfl ?_
          refine wp_getR dX12_isAsMarked_42 lX12_67 rfl (mO hm) (mR_cutTo hm) ?_
          refine wp_iload_n dX12_isAsMarked_45 rfl rfl ?_
          refine wp_ialdN dX12_isAsMarked_46 (mA_cutTo hm) rfl ⟨by omega, by decide⟩ ?_
          refine wp_aload_n dX12_isAsMarked_47 rfl rfl ?_
          refine wp_iload_n dX12_isAsMarked_48 rfl rfl ?_
          refine wp_iload_n dX12_isAsMarked_49 rfl rfl ?_
          refine wp_iload_n dX12_isAsMarked_50 rfl rfl ?_
          refine wp_cV3 1 21 [some _, some _, some _, some _] dX12_isAsMarked_51 tX12_toOf rfl (by decide) nX12_toOf vX12_toOf lX12_305 ⟨by decide, by decide⟩ (Nat.le_of_ble_eq_true rfl) (mO hm) (Nat.le_of_ble_eq_true rfl) rfl ?_
          refine pX12_toOf hm hw hf hp (by omega) ?_
          intro _ _
          refine wp_icmp_eqN dX12_isAsMarked_54 k2 rfl ⟨by omega, by omega⟩ (fun c3 => ?_) (fun c3 => ?_)
          · refine wp_iinc1 (ls1 := [_, _, _, some _]) dX12_isAsMarked_59 rfl (by decide) rfl ?_
            refine wp_goto dX12_isAsMarked_62 ?_
            refine ih (k + 1) (by omega) (fun j hj => ?_) (by omega)
            by_cases e9 : j = k
            · subst e9
              rw [← c2, ← c3]
            · exact hbef j (by omega)
          · refine wp_iconst (v := (nI 0)) dX12_isAsMarked_57 (by decide +kernel) ?_
            refine wp_zreturn dX12_isAsMarked_58 rfl (Or.inl rfl) ?_
            refine hft (fun e9 => ?_)
            have e8 := congrArg (fun l => l.getD k (0, 0)) e9
            rw [mkL_getD (by omega)] at e8
            simp_all
  refine wp_aload_n dX12_isAsMarked_0 rfl rfl ?_
  refine wp_getI dX12_isAsMarked_1 lX12_337 rfl (mO hm) ?_
  refine wp_aload_n dX12_isAsMarked_4 rfl rfl ?_
  refine wp_iload_n dX12_isAsMarked_5 rfl rfl ?_
  refine wp_iload_n dX12_isAsMarked_6 rfl rfl ?_
  refine wp_cV2 1 21 [some _, some _, some _] dX12_isAsMarked_7 tX12_partsOf rfl (by decide) nX12_partsOf vX12_partsOf lX12_302 ⟨by decide, by decide⟩ (Nat.le_of_ble_eq_true rfl) (mO hm) (Nat.le_of_ble_eq_true rfl) rfl ?_
  refine pX12_partsOf hm hw hf hp ?_
  intro _ _
  refine wp_icmp_eqN dX12_isAsMarked_10 hc.1 rfl ⟨by omega, by omega⟩ (fun c1 => ?_) (fun c1 => ?_)
  · refine wp_iconst (v := (nI 0)) dX12_isAsMarked_15 (by decide +kernel) ?_
    refine wp_istore_n (ls1 := [_, _, _, some _]) dX12_isAsMarked_16 rfl (by decide) rfl ?_
    exact hloop c1 9 0 (by omega) (fun j hj => absurd hj (Nat.not_lt_zero _)) (by omega)
  · refine wp_iconst (v := (nI 0)) dX12_isAsMarked_13 (by decide +kernel) ?_
    refine wp_zreturn dX12_isAsMarked_14 rfl (Or.inl rfl) ?_
    refine hft (fun e9 => c1 ?_)
    have := congrArg List.length e9
    rwa [mkL_len] at this
