/-! ===== kinds and numbers of words ===== -/
theorem ixN {x : Int32} {n : Nat} (hn : n < 1073741824) : (nI 0 ≤ x ∧ x ≤ nI n - nI 1) ↔ ∃ j, j < n ∧ x = nI j := by
  have e0 : (nI 0).toInt = 0 := by decide +kernel
  have e1 : (nI n - nI 1).toInt = (n : Int) - 1 := pk_sub_toInt (by omega) (by decide)
  constructor
  · intro ⟨h1, h2⟩
    rw [Int32.le_iff_toInt_le, e0] at h1
    rw [Int32.le_iff_toInt_le, e1] at h2
    refine ⟨x.toInt.toNat, by omega, ?_⟩
    rw [← Int32.toInt_inj, nI_toInt (by omega)]
    omega
  · intro ⟨j, h1, h2⟩
    subst h2
    rw [Int32.le_iff_toInt_le, Int32.le_iff_toInt_le, e0, e1, nI_toInt (by omega)]
    omega
def nF (h : mH) : Nat := (hI h 153 21).toInt.toNat
/-- the model as it stands between calls: its row, its fields -/
def mG (h : mH) : Prop := mS h ∧ WF (hL h 162) ∧ (hI h 153 21 = nI (nF h) ∧ nF h ≤ 4)
def shB (w : Int64) (k : Nat) : Int64 := w >>> ((nI 8 * nI k).toInt64 &&& 63)
def bNf (w : Int64) : Nat → Nat → Nat
  | 0, k => k
  | n + 1, k => if shB w k = 0 then k else bNf w n (k + 1)
/-- how many bytes a word has -/
def bN (w : Int64) : Nat := bNf w 8 0
theorem bNf_le (w : Int64) : ∀ (n k : Nat), bNf w n k ≤ k + n
  | 0, k => Nat.le_refl _
  | n + 1, k => by
    unfold bNf
    split
    · omega
    · have := bNf_le w n (k + 1)
      omega
theorem bN_le (w : Int64) : bN w ≤ 8 := by
  have := bNf_le w 8 0
  unfold bN
  omega
def fB (w : Int64) : Int32 := ((w >>> ((nI 8 * (nI (bN w) - nI 1)).toInt64 &&& 63)) &&& 255).toInt32
/-- a word's kind -/
def kd (w : Int64) : Nat := if nI 97 ≤ fB w ∧ fB w ≤ nI 122 then 0 else if nI 48 ≤ fB w ∧ fB w ≤ nI 57 then 1 else 2
def uq (l : List Int64) : List Int64 := l.foldl (fun a w => if w ∈ a then a else a ++ [w]) []
theorem uq_snoc (l : List Int64) (w : Int64) : uq (l ++ [w]) = if w ∈ uq l then uq l else uq l ++ [w] := by
  unfold uq
  rw [List.foldl_append]
  rfl
theorem uq_len : ∀ l : List Int64, (uq l).length ≤ l.length := by
  intro l
  have : ∀ l' : List Int64, (uq l'.reverse).length ≤ l'.length := by
    intro l'
    induction l' with
    | nil => exact Nat.le_refl 0
    | cons w r ih =>
      rw [List.reverse_cons, uq_snoc]
      split
      · exact Nat.le_succ_of_le ih
      · rw [List.length_append]
        exact Nat.add_le_add_right ih 1
  have h := this l.reverse
  rwa [List.reverse_reverse, List.length_reverse] at h
def pg (r : Nat → Int64) (p k : Nat) : List Int64 := (List.range k).map (rW r p)
def tk (r : Nat → Int64) : Nat → List Int64
  | 0 => []
  | p + 1 => tk r p ++ pg r p (rT r p)
theorem pg_succ (r : Nat → Int64) (p k : Nat) : pg r p (k + 1) = pg r p k ++ [rW r p k] := by
  unfold pg
  rw [List.range_succ, List.map_append]
  rfl
theorem tk_len {r : Nat → Int64} (hw : WF r) : ∀ p, p ≤ 6 → (tk r p).length ≤ 40 * p
  | 0, _ => Nat.le_refl _
  | p + 1, hp => by
    have h1 := tk_len hw p (by omega)
    have h2 := (hw.2.1 p (by omega)).2
    show (tk r p ++ pg r p (rT r p)).length ≤ _
    rw [List.length_append]
    unfold pg
    rw [List.length_map, List.length_range]
    omega
/-- all words in their order, unlike ones once -/
def uqA (r : Nat → Int64) : List Int64 := uq (tk r (rP r))
set_option maxRecDepth 20000 in
theorem pX12_isPage {h : mH} {Q : Option Value → mH → Prop} {x : Int32} (hg : mG h) (ht : ∀ j, j < rP (hL h 162) → x = nI j → Q (some (.int (nI 1))) h) (hf : (∀ j, j < rP (hL h 162) → x = nI j → False) → Q (some (.int (nI 0))) h) : Wp mX12_isPage 1 22 0 [some (.ref 153), some (.int x)] [] h Q := by
  refine wp_iload_n dX12_isPage_0 rfl rfl ?_
  refine wp_iconst (v := (nI 0)) dX12_isPage_1 (by decide +kernel) ?_
  refine wp_aload_n dX12_isPage_2 rfl rfl ?_
  refine wp_cV0 0 0 [some _] dX12_isPage_3 tX12_pages rfl (by decide) nX12_pages vX12_pages lX12_255 ⟨by decide, by decide⟩ (Nat.le_of_ble_eq_true rfl) (mO hg.1) (Nat.le_of_ble_eq_true rfl) rfl ?_
  refine pX12_pages hg.1 hg.2.1 ?_
  intro _ _
  refine wp_iconst (v := (nI 1)) dX12_isPage_6 (by decide +kernel) ?_
  refine wp_isub dX12_isPage_7 ?_
  refine wp_cS3 0 0 [some _, some _, some _] dX12_isPage_8 tX12_isIn sX12_isIn lX12_147 ⟨by decide, by decide⟩ (Nat.le_of_ble_eq_true rfl) (Nat.le_of_ble_eq_true rfl) rfl ?_
  refine pX12_isIn (fun ci => ?_) (fun ci => ?_)
  · intro _ _
    refine wp_zreturn dX12_isPage_11 rfl (Or.inr rfl) ?_
    obtain ⟨j, hj, ej⟩ := (ixN (by have := hg.2.1.1.2; omega)).mp ci
    exact ht j hj ej
  · intro _ _
    refine wp_zreturn dX12_isPage_11 rfl (Or.inl rfl) ?_
    exact hf (fun j hj ej => ci ((ixN (by have := hg.2.1.1.2; omega)).mpr ⟨j, hj, ej⟩))
set_option maxRecDepth 20000 in
theorem pX12_isField {h : mH} {Q : Option Value → mH → Prop} {x : Int32} (hg : mG h) (ht : ∀ j, j < nF h → x = nI j → Q (some (.int (nI 1))) h) (hf : (∀ j, j < nF h → x = nI j → False) → Q (some (.int (nI 0))) h) : Wp mX12_isField 1 22 0 [some (.ref 153), some (.int x)] [] h Q := by
  refine wp_iload_n dX12_isField_0 rfl rfl ?_
  refine wp_iconst (v := (nI 0)) dX12_isField_1 (by decide +kernel) ?_
  refine wp_aload_n dX12_isField_2 rfl rfl ?_
  refine wp_getI dX12_isField_3 lX12_137 rfl (mO hg.1) ?_
  refine wp_iconst (v := (nI 1)) dX12_isField_6 (by decide +kernel) ?_
  refine wp_isub dX12_isField_7 ?_
  refine wp_cS3 0 0 [some _, some _, some _] dX12_isField_8 tX12_isIn sX12_isIn lX12_147 ⟨by decide, by decide⟩ (Nat.le_of_ble_eq_true rfl) (Nat.le_of_ble_eq_true rfl) rfl ?_
  refine pX12_isIn (fun ci => ?_) (fun ci => ?_)
  · intro _ _
    refine wp_zreturn dX12_isField_11 rfl (Or.inr rfl) ?_
    rw [hg.2.2.1] at ci
    obtain ⟨j, hj, ej⟩ := (ixN (by have := hg.2.2.2; omega)).mp ci
    exact ht j hj ej
  · intro _ _
    refine wp_zreturn dX12_isField_11 rfl (Or.inl rfl) ?_
    rw [hg.2.2.1] at ci
    exact hf (fun j hj ej => ci ((ixN (by have := hg.2.2.2; omega)).mpr ⟨j, hj, ej⟩))
set_option maxRecDepth 20000 in
theorem pX12_bytesOf {h : mH} {Q : Option Value → mH → Prop} {w : Int64} (hq : Q (some (.int (nI (bN w)))) h) : Wp mX12_bytesOf 0 0 0 [some (.long w), none, none] [] h Q := by
  have hloop : ∀ (n : Nat) (k : Nat), k ≤ 8 → bNf w (8 - k) k = bN w → 8 < k + n → Wp mX12_bytesOf 0 0 2 [some (.long w), none, some (.int (nI k))] [] h Q := by
    intro n
    induction n with
    | zero => intros; omega
    | succ n ih =>
      intro k hk he hmz
      refine wp_iload_n dX12_bytesOf_2 rfl rfl ?_
      refine wp_bipush (v := (nI 8)) dX12_bytesOf_3 (by decide +kernel) ?_
      refine wp_icmp_geN dX12_bytesOf_5 rfl rfl ⟨by omega, by decide⟩ (fun c1 => ?_) (fun c1 => ?_)
      · refine wp_iload_n dX12_bytesOf_25 rfl rfl ?_
        refine wp_ireturn dX12_bytesOf_26 rfl ?_
        first | (rw [show k = 8 by omega] at he ⊢; rw [show bN w = 8 from he.symm] at hq; exact hq) | (rw [show 8 - k = (8 - (k + 1)) + 1 by omega] at he; unfold bNf at he; rw [if_pos (show shB w k = 0 from c2)] at he; rw [← he] at hq; exact hq)
      · refine wp_lload_n dX12_bytesOf_8 rfl rfl ?_
        refine wp_bipush (v := (nI 8)) dX12_bytesOf_9 (by decide +kernel) ?_
        refine wp_iload_n dX12_bytesOf_11 rfl rfl ?_
        refine wp_imul dX12_bytesOf_12 ?_
        refine wp_lshr dX12_bytesOf_13 ?_
        refine wp_lconst (v := 0) dX12_bytesOf_14 (by decide +kernel) ?_
        refine wp_lc_eq dX12_bytesOf_15 dX12_bytesOf_16 (fun c2 => ?_) (fun c2 => ?_)
        · refine wp_iload_n dX12_bytesOf_25 rfl rfl ?_
          refine wp_ireturn dX12_bytesOf_26 rfl ?_
          first | (rw [show k = 8 by omega] at he ⊢; rw [show bN w = 8 from he.symm] at hq; exact hq) | (rw [show 8 - k = (8 - (k + 1)) + 1 by omega] at he; unfold bNf at he; rw [if_pos (show shB w k = 0 from c2)] at he; rw [← he] at hq; exact hq)
        · refine wp_iinc1 (ls1 := [_, _, some _]) dX12_bytesOf_19 rfl (by decide) rfl ?_
          refine wp_goto dX12_bytesOf_22 ?_
          refine ih (k + 1) (by omega) ?_ (by omega)
          rw [show 8 - k = (8 - (k + 1)) + 1 by omega] at he
          unfold bNf at he
          rw [if_neg (show ¬ shB w k = 0 from c2)] at he
          exact he
  refine wp_iconst (v := (nI 0)) dX12_bytesOf_0 (by decide +kernel) ?_
  refine wp_istore_n (ls1 := [_, _, some _]) dX12_bytesOf_1 rfl (by decide) rfl ?_
  exact hloop 9 0 (by omega) rfl (by omega)
set_option maxRecDepth 20000 in
theorem pX12_firstByte {h : mH} {Q : Option Value → mH → Prop} {w : Int64} (hq : Q (some (.int (fB w))) h) : Wp mX12_firstByte 1 22 0 [some (.long w), none] [] h Q := by
  refine wp_lload_n dX12_firstByte_0 rfl rfl ?_
  refine wp_bipush (v := (nI 8)) dX12_firstByte_1 (by decide +kernel) ?_
  refine wp_lload_n dX12_firstByte_3 rfl rfl ?_
  refine wp_cS1 0 0 [some _, none, none] dX12_firstByte_4 tX12_bytesOf sX12_bytesOf lX12_261 ⟨by decide, by decide⟩ (Nat.le_of_ble_eq_true rfl) (Nat.le_of_ble_eq_true rfl) rfl ?_
  refine pX12_bytesOf ?_
  intro _ _
  refine wp_iconst (v := (nI 1)) dX12_firstByte_7 (by decide +kernel) ?_
  refine wp_isub dX12_firstByte_8 ?_
  refine wp_imul dX12_firstByte_9 ?_
  refine wp_lshr dX12_firstByte_10 ?_
  refine wp_ldc2 dX12_firstByte_11 lX12_265 ?_
  refine wp_land dX12_firstByte_14 ?_
  refine wp_l2i dX12_firstByte_15 ?_
  refine wp_ireturn dX12_firstByte_16 rfl ?_
  exact hq
set_option maxRecDepth 20000 in
theorem pX12_kindOf {h : mH} {Q : Option Value → mH → Prop} {w : Int64} (hq : Q (some (.int (nI (kd w)))) h) : Wp mX12_kindOf 2 43 0 [some (.long w), none] [] h Q := by
  refine wp_lload_n dX12_kindOf_0 rfl rfl ?_
  refine wp_cS1 1 22 [some _, none] dX12_kindOf_1 tX12_firstByte sX12_firstByte lX12_267 ⟨by decide, by decide⟩ (Nat.le_of_ble_eq_true rfl) (Nat.le_of_ble_eq_true rfl) rfl ?_
  refine pX12_firstByte ?_
  intro _ _
  refine wp_cS1 0 0 [some _] dX12_kindOf_4 tX12_isLetter sX12_isLetter lX12_171 ⟨by decide, by decide⟩ (Nat.le_of_ble_eq_true rfl) (Nat.le_of_ble_eq_true rfl) rfl ?_
  refine pX12_isLetter (fun ci0 => ?_) (fun ci0 => ?_)
  · intro _ _
    refine wp_if_eq dX12_kindOf_7 (fun q => absurd q (by decide +kernel)) (fun _ => ?_)
    refine wp_iconst (v := (nI 0)) dX12_kindOf_10 (by decide +kernel) ?_
    refine wp_goto dX12_kindOf_11 ?_
    refine wp_ireturn dX12_kindOf_29 rfl ?_
    unfold kd at hq
    simp only [*, if_true, if_false] at hq
    exact hq
  · intro _ _
    refine wp_if_eq dX12_kindOf_7 (fun _ => ?_) (fun q => absurd q (by decide +kernel))
    refine wp_lload_n dX12_kindOf_14 rfl rfl ?_
    refine wp_cS1 1 22 [some _, none] dX12_kindOf_15 tX12_firstByte sX12_firstByte lX12_267 ⟨by decide, by decide⟩ (Nat.le_of_ble_eq_true rfl) (Nat.le_of_ble_eq_true rfl) rfl ?_
    refine pX12_firstByte ?_
    intro _ _
    refine wp_cS1 0 0 [some _] dX12_kindOf_18 tX12_isDigit sX12_isDigit lX12_175 ⟨by decide, by decide⟩ (Nat.le_of_ble_eq_true rfl) (Nat.le_of_ble_eq_true rfl) rfl ?_
    refine pX12_isDigit (fun ci2 => ?_) (fun ci2 => ?_)
    · intro _ _
      refine wp_if_eq dX12_kindOf_21 (fun q => absurd q (by decide +kernel)) (fun _ => ?_)
      refine wp_iconst (v := (nI 1)) dX12_kindOf_24 (by decide +kernel) ?_
      refine wp_goto dX12_kindOf_25 ?_
      refine wp_ireturn dX12_kindOf_29 rfl ?_
      unfold kd at hq
      simp only [*, if_true, if_false] at hq
      exact hq
    · intro _ _
      refine wp_if_eq dX12_kindOf_21 (fun _ => ?_) (fun q => absurd q (by decide +kernel))
      refine wp_iconst (v := (nI 2)) dX12_kindOf_28 (by decide +kernel) ?_
      refine wp_ireturn dX12_kindOf_29 rfl ?_
      unfold kd at hq
      simp only [*, if_true, if_false] at hq
      exact hq
theorem pX12_numberOfL {h : mH} {Q : Option Value → mH → Prop} {w : Int64} (l : List Int64) (hm : mS h) (hu : l.length ≤ 240) (hn : hI h 153 24 = nI l.length) (he : ∀ i, i < l.length → hL h 163 i = l.getD i 0) (hin : w ∈ l → Q (some (.int (nI (l.idxOf w)))) h) (hout : w ∉ l → Q (some (.int (-1))) h) : Wp mX12_numberOf 0 0 0 [some (.ref 153), some (.long w), none, none] [] h Q := by
  refine pX12_numberOf hm hu hn (fun k hk h1 h2 => ?_) (fun h1 => ?_)
  · have e1 : l[k] = w := by
      rw [he k hk, List.getD_eq_getElem?_getD, List.getElem?_eq_getElem hk] at h1
      exact h1
    have e2 : l.idxOf w = k := by
      have hm9 : w ∈ l := by rw [← e1]; exact List.getElem_mem hk
      have hlt := List.idxOf_lt_length_iff.mpr hm9
      have e3 : l[l.idxOf w] = w := List.getElem_idxOf hlt
      rcases Nat.lt_trichotomy (l.idxOf w) k with q | q | q
      · exfalso
        apply h2 _ q
        rw [he _ hlt, List.getD_eq_getElem?_getD, List.getElem?_eq_getElem hlt]
        exact e3
      · exact q
      · exfalso
        have q9 := List.not_of_lt_findIdx q
        simp [e1] at q9
    rw [← e2] at *
    exact hin (by rw [← e1]; exact List.getElem_mem _)
  · refine hout (fun hw => ?_)
    have hlt := List.idxOf_lt_length_iff.mpr hw
    apply h1 _ hlt
    rw [he _ hlt, List.getD_eq_getElem?_getD, List.getElem?_eq_getElem hlt]
    exact List.getElem_idxOf hlt
theorem idxOf_left {l m : List Int64} {w : Int64} (h : w ∈ l) : (l ++ m).idxOf w = l.idxOf w := by
  rw [List.idxOf_append, if_pos h]
theorem mem_uq_snoc {l : List Int64} {w x : Int64} : x ∈ uq (l ++ [w]) ↔ x ∈ uq l ∨ x = w := by
  rw [uq_snoc]
  split
  · rename_i hw
    exact ⟨Or.inl, fun q => q.elim id (fun e => by rw [e]; exact hw)⟩
  · rw [List.mem_append, List.mem_singleton]
/-- the numbers of the words ahead of a place are laid -/
def numI (r : Nat → Int64) (h : mH) (p k : Nat) : Prop := hI h 153 24 = nI (uq (tk r p ++ pg r p k)).length ∧ (∀ i, i < (uq (tk r p ++ pg r p k)).length → hL h 163 i = (uq (tk r p ++ pg r p k)).getD i 0) ∧ ∀ p' k', (p' < p ∧ k' < rT r p' ∨ p' = p ∧ k' < k) → rW r p' k' ∈ uq (tk r p ++ pg r p k) ∧ hI h 164 (40 * p' + k') = nI ((uq (tk r p ++ pg r p k)).idxOf (rW r p' k')) ∧ hI h 165 (40 * p' + k') = nI (kd (rW r p' k'))
theorem numI_next {r : Nat → Int64} {h : mH} {p : Nat} (hn : numI r h p (rT r p)) : numI r h (p + 1) 0 := by
  have e : tk r (p + 1) ++ pg r (p + 1) 0 = tk r p ++ pg r p (rT r p) := by
    show (tk r p ++ pg r p (rT r p)) ++ [] = _
    rw [List.append_nil]
  unfold numI at hn ⊢
  rw [e]
  refine ⟨hn.1, hn.2.1, fun p' k' hq => hn.2.2 p' k' ?_⟩
  rcases hq with ⟨q1, q2⟩ | ⟨_, q2⟩
  · by_cases e9 : p' = p
    · subst e9
      exact Or.inr ⟨rfl, q2⟩
    · exact Or.inl ⟨by omega, q2⟩
  · omega
theorem numI_in {r : Nat → Int64} {h : mH} {p k : Nat} (hw6 : ∀ p', p' < p → rT r p' ≤ 40) (hk40 : k < 40) (hn : numI r h p k) (hin : rW r p k ∈ uq (tk r p ++ pg r p k)) : numI r (sI (sI h 164 (40 * p + k) (nI ((uq (tk r p ++ pg r p k)).idxOf (rW r p k)))) 165 (40 * p + k) (nI (kd (rW r p k)))) p (k + 1) := by
  have e : uq (tk r p ++ pg r p (k + 1)) = uq (tk r p ++ pg r p k) := by
    rw [pg_succ, ← List.append_assoc, uq_snoc, if_pos hin]
  unfold numI at hn ⊢
  rw [e]
  refine ⟨hn.1, hn.2.1, fun p' k' hq => ?_⟩
  by_cases hh : p' = p ∧ k' = k
  · obtain ⟨rfl, rfl⟩ := hh
    refine ⟨hin, ?_, ?_⟩
    · rw [hI_sI, if_neg (by omega), hI_sI, if_pos ⟨rfl, rfl⟩]
    · rw [hI_sI, if_pos ⟨rfl, rfl⟩]
  · have hq2 : p' < p ∧ k' < rT r p' ∨ p' = p ∧ k' < k := by
      rcases hq with q | ⟨q1, q2⟩
      · exact Or.inl q
      · exact Or.inr ⟨q1, by omega⟩
    have hne : ¬ 40 * p' + k' = 40 * p + k := by
      rcases hq2 with ⟨q1, q2⟩ | ⟨q1, q2⟩
      · have := hw6 p' q1
        omega
      · omega
    obtain ⟨g1, g2, g3⟩ := hn.2.2 p' k' hq2
    refine ⟨g1, ?_, ?_⟩
    · rw [hI_sI, if_neg (by omega), hI_sI, if_neg (fun q => hne q.2)]
      exact g2
    · rw [hI_sI, if_neg (fun q => hne q.2), hI_sI, if_neg (by omega)]
      exact g3
/-- a word that is new: it comes last -/
theorem numI_add {r : Nat → Int64} {h : mH} {p k : Nat} (hn : numI r h p k) (hout : rW r p k ∉ uq (tk r p ++ pg r p k)) (hl : (uq (tk r p ++ pg r p k)).length < 240) :
    hI (sI (sL h 163 (uq (tk r p ++ pg r p k)).length (rW r p k)) 153 24 (nI ((uq (tk r p ++ pg r p k)).length + 1))) 153 24 = nI (uq (tk r p ++ pg r p (k + 1))).length ∧ (∀ i, i < (uq (tk r p ++ pg r p (k + 1))).length → hL (sI (sL h 163 (uq (tk r p ++ pg r p k)).length (rW r p k)) 153 24 (nI ((uq (tk r p ++ pg r p k)).length + 1))) 163 i = (uq (tk r p ++ pg r p (k + 1))).getD i 0) := by
  have e : uq (tk r p ++ pg r p (k + 1)) = uq (tk r p ++ pg r p k) ++ [rW r p k] := by
    rw [pg_succ, ← List.append_assoc, uq_snoc, if_neg hout]
  rw [e]
  refine ⟨by rw [hI_sI, if_pos ⟨rfl, rfl⟩, List.length_append]; rfl, fun i hi => ?_⟩
  rw [hL_sI, hL_sL]
  rw [List.length_append] at hi
  have hi2 : i < (uq (tk r p ++ pg r p k)).length + 1 := hi
  rw [List.getD_eq_getElem?_getD]
  by_cases e9 : i = (uq (tk r p ++ pg r p k)).length
  · rw [if_pos ⟨rfl, e9⟩, e9, List.getElem?_append_right (Nat.le_refl _), Nat.sub_self]
    rfl
  · rw [if_neg (fun q => e9 q.2), List.getElem?_append_left (by omega), ← List.getD_eq_getElem?_getD]
    exact hn.2.1 i (by omega)
theorem numI_out {r : Nat → Int64} {h : mH} {p k : Nat} (hw6 : ∀ p', p' < p → rT r p' ≤ 40) (hk40 : k < 40) (hn : numI r h p k) (hout : rW r p k ∉ uq (tk r p ++ pg r p k)) (hl : (uq (tk r p ++ pg r p k)).length < 240) :
    numI r (sI (sI (sI (sL h 163 (uq (tk r p ++ pg r p k)).length (rW r p k)) 153 24 (nI ((uq (tk r p ++ pg r p k)).length + 1))) 164 (40 * p + k) (nI ((uq (tk r p ++ pg r p (k + 1))).idxOf (rW r p k)))) 165 (40 * p + k) (nI (kd (rW r p k)))) p (k + 1) := by
  obtain ⟨a1, a2⟩ := numI_add hn hout hl
  have e : uq (tk r p ++ pg r p (k + 1)) = uq (tk r p ++ pg r p k) ++ [rW r p k] := by
    rw [pg_succ, ← List.append_assoc, uq_snoc, if_neg hout]
  refine ⟨?_, ?_, fun p' k' hq => ?_⟩
  · rw [hI_sI, if_neg (by omega), hI_sI, if_neg (by omega)]
    exact a1
  · intro i hi
    rw [hL_sI, hL_sI]
    exact a2 i hi
  by_cases hh : p' = p ∧ k' = k
  · obtain ⟨rfl, rfl⟩ := hh
    refine ⟨by rw [e]; exact List.mem_append_right _ (List.mem_singleton.mpr rfl), ?_, ?_⟩
    · rw [hI_sI, if_neg (by omega), hI_sI, if_pos ⟨rfl, rfl⟩]
    · rw [hI_sI, if_pos ⟨rfl, rfl⟩]
  · have hq2 : p' < p ∧ k' < rT r p' ∨ p' = p ∧ k' < k := by
      rcases hq with q | ⟨q1, q2⟩
      · exact Or.inl q
      · exact Or.inr ⟨q1, by omega⟩
    have hne : ¬ 40 * p' + k' = 40 * p + k := by
      rcases hq2 with ⟨q1, q2⟩ | ⟨q1, q2⟩
      · have := hw6 p' q1
        omega
      · omega
    obtain ⟨g1, g2, g3⟩ := hn.2.2 p' k' hq2
    refine ⟨by rw [e]; exact List.mem_append_left _ g1, ?_, ?_⟩
    · rw [hI_sI, if_neg (by omega), hI_sI, if_neg (fun q => hne q.2), hI_sI, if_neg (by omega), hI_sL, e, idxOf_left g1]
      exact g2
    · rw [hI_sI, if_neg (fun q => hne q.2), hI_sI, if_neg (by omega), hI_sI, if_neg (by omega), hI_sL]
      exact g3
theorem nI_ne_m1 {j : Nat} (hj : j < 2147483648) : ¬ nI j = -1 := by
  intro q
  have := congrArg Int32.toInt q
  rw [nI_toInt hj] at this
  have e : (-1 : Int32).toInt = -1 := by decide +kernel
  omega
abbrev pwNum : Nat → Nat → Prop := mP [24] [163, 164, 165]
set_option maxRecDepth 20000 in
theorem pX12_laysNumbers {h : mH} {Q : Option Value → mH → Prop} (hm : mS h) (hw : WF (hL h 162)) (hq : ∀ h', mFr pwNum h h' → numI (hL h 162) h' (rP (hL h 162)) 0 → Q none h') : Wp mX12_laysNumbers 3 64 0 [some (.ref 153), none, none, none, none] [] h Q := by
  have hP6 := hw.1.2
  have hin1 : ∀ (p : Nat), p < rP (hL h 162) → ∀ (n k : Nat) (x3 : Option Value) (h1 : mH), k ≤ rT (hL h 162) p → mFr pwNum h h1 → numI (hL h 162) h1 p k → rT (hL h 162) p < k + n → (∀ (x2 x3 : Option Value) (h2 : mH), mFr pwNum h h2 → numI (hL h 162) h2 (p + 1) 0 → Wp mX12_laysNumbers 3 64 7 [some (.ref 153), some (.int (nI (p + 1))), x2, x3, none] [] h2 Q) → Wp mX12_laysNumbers 3 64 17 [some (.ref 153), some (.int (nI p)), some (.int (nI k)), x3, none] [] h1 Q := by
    intro p hp n
    induction n with
    | zero => intros; omega
    | succ n ih =>
      intro k x3 h1 hk hf1 hn1 hmz hcont
      have hm1 := hf1.s hm
      have hr1 : hL h1 162 = hL h 162 := hf1.Lr (by decide) (by decide)
      have hw1 : WF (hL h1 162) := by rw [hr1]; exact hw
      have hT := (hw.2.1 p (by omega)).2
      have htl := tk_len hw p (by omega)
      have hul := uq_len (tk (hL h 162) p ++ pg (hL h 162) p k)
      rw [List.length_append, show (pg (hL h 162) p k).length = k by unfold pg; simp] at hul
      have hT1 : rT (hL h1 162) p = rT (hL h 162) p := by rw [hr1]
      have hsn1 : rW (hL h 162) p k ∉ uq (tk (hL h 162) p ++ pg (hL h 162) p k) → uq (tk (hL h 162) p ++ pg (hL h 162) p (k + 1)) = uq (tk (hL h 162) p ++ pg (hL h 162) p k) ++ [rW (hL h 162) p k] := fun ho => by rw [pg_succ, ← List.append_assoc, uq_snoc, if_neg ho]
      refine wp_iload_n dX12_laysNumbers_17 rfl rfl ?_
      refine wp_aload_n dX12_laysNumbers_18 rfl rfl ?_
      refine wp_iload_n dX12_laysNumbers_19 rfl rfl ?_
      refine wp_cV1 0 0 [some _, some _] dX12_laysNumbers_20 tX12_tokensOf rfl (by decide) nX12_tokensOf vX12_tokensOf lX12_273 ⟨by decide, by decide⟩ (Nat.le_of_ble_eq_true rfl) (mO hm1) (Nat.le_of_ble_eq_true rfl) rfl ?_
      refine pX12_tokensOf hm1 hw1 (by omega) ?_
      intro _ _
      refine wp_icmp_geN dX12_laysNumbers_23 rfl rfl ⟨by omega, by omega⟩ (fun c1 => ?_) (fun c1 => ?_)
      · refine wp_iinc1 (ls1 := [_, some _, _, _, _]) dX12_laysNumbers_99 rfl (by decide) rfl ?_
        refine wp_goto dX12_laysNumbers_102 ?_
        rw [hr1] at c1
        exact hcont _ _ _ hf1 (numI_next (by rw [show rT (hL h 162) p = k by omega]; exact hn1))
      · refine wp_aload_n dX12_laysNumbers_26 rfl rfl ?_
        refine wp_iload_n dX12_laysNumbers_27 rfl rfl ?_
        refine wp_iload_n dX12_laysNumbers_28 rfl rfl ?_
        refine wp_cV2 0 0 [some _, some _, some _] dX12_laysNumbers_29 tX12_wordAt rfl (by decide) nX12_wordAt vX12_wordAt lX12_276 ⟨by decide, by decide⟩ (Nat.le_of_ble_eq_true rfl) (mO hm1) (Nat.le_of_ble_eq_true rfl) rfl ?_
        refine pX12_wordAt hm1 (by omega) (by omega) ?_
        intro _ _
        rw [hr1]
        refine wp_lstore_n (ls1 := [_, _, _, some _, _]) dX12_laysNumbers_32 rfl (by decide) rfl ?_
        refine wp_aload_n dX12_laysNumbers_33 rfl rfl ?_
        refine wp_lload_n dX12_laysNumbers_34 rfl rfl ?_
        refine wp_cV1 0 0 [some _, some _, none, none] dX12_laysNumbers_35 tX12_numberOf rfl (by decide) nX12_numberOf vX12_numberOf lX12_280 ⟨by decide, by decide⟩ (Nat.le_of_ble_eq_true rfl) (mO hm1) (Nat.le_of_ble_eq_true rfl) rfl ?_
        refine pX12_numberOfL (uq (tk (hL h 162) p ++ pg (hL h 162) p k)) hm1 (by omega) hn1.1 hn1.2.1 (fun hin => ?_) (fun hout => ?_)
        · intro _ _
          refine wp_iconst (v := (-1)) dX12_laysNumbers_38 (by decide +kernel) ?_
          refine wp_icmp_ne dX12_laysNumbers_39 (fun _ => ?_) (fun q => absurd q (nI_ne_m1 (by have := List.idxOf_lt_length_iff.mpr hin; omega)))
          refine wp_aload_n dX12_laysNumbers_62 rfl rfl ?_
          refine wp_getR dX12_laysNumbers_63 lX12_49 rfl (mO hm1) (mR_numbers hm1) ?_
          refine wp_bipush (v := (nI 40)) dX12_laysNumbers_66 (by decide +kernel) ?_
          refine wp_iload_n dX12_laysNumbers_68 rfl rfl ?_
          refine wp_imul dX12_laysNumbers_69 ?_
          refine wp_iload_n dX12_laysNumbers_70 rfl rfl ?_
          refine wp_iadd dX12_laysNumbers_71 ?_
          refine wp_aload_n dX12_laysNumbers_72 rfl rfl ?_
          refine wp_lload_n dX12_laysNumbers_73 rfl rfl ?_
          refine wp_cV1 0 0 [some _, some _, none, none] dX12_laysNumbers_74 tX12_numberOf rfl (by decide) nX12_numberOf vX12_numberOf lX12_280 ⟨by decide, by decide⟩ (Nat.le_of_ble_eq_true rfl) (mO hm1) (Nat.le_of_ble_eq_true rfl) rfl ?_
          refine pX12_numberOfL (uq (tk (hL h 162) p ++ pg (hL h 162) p k)) hm1 (by omega) hn1.1 hn1.2.1 (fun _ => ?_) (fun q9 => absurd hin q9)
          intro _ _
          refine wp_iastN dX12_laysNumbers_77 (mA_numbers hm1) (isN_add (isN_mul rfl rfl) rfl) ⟨by omega, by decide⟩ ?_
          refine wp_aload_n dX12_laysNumbers_78 rfl rfl ?_
          refine wp_getR dX12_laysNumbers_79 lX12_52 rfl (mO hm1) (mR_kinds hm1) ?_
          refine wp_bipush (v := (nI 40)) dX12_laysNumbers_82 (by decide +kernel) ?_
          refine wp_iload_n dX12_laysNumbers_84 rfl rfl ?_
          refine wp_imul dX12_laysNumbers_85 ?_
          refine wp_iload_n dX12_laysNumbers_86 rfl rfl ?_
          refine wp_iadd dX12_laysNumbers_87 ?_
          refine wp_lload_n dX12_laysNumbers_88 rfl rfl ?_
          refine wp_cS1 2 43 [some _, none] dX12_laysNumbers_89 tX12_kindOf sX12_kindOf lX12_283 ⟨by decide, by decide⟩ (Nat.le_of_ble_eq_true rfl) (Nat.le_of_ble_eq_true rfl) rfl ?_
          refine pX12_kindOf ?_
          intro _ _
          refine wp_iastN dX12_laysNumbers_92 (mA_kinds hm1) (isN_add (isN_mul rfl rfl) rfl) ⟨by omega, by decide⟩ ?_
          refine wp_iinc1 (ls1 := [_, _, some _, _, _]) dX12_laysNumbers_93 rfl (by decide) rfl ?_
          refine wp_goto dX12_laysNumbers_96 ?_
          exact ih (k + 1) _ _ (by omega) ((hf1.sI _ (Or.inr (by decide))).sI _ (Or.inr (by decide))) (numI_in (fun p9 h9 => (hw.2.1 p9 (by omega)).2) (by omega) hn1 hin) (by omega) hcont
        · intro _ _
          refine wp_iconst (v := (-1)) dX12_laysNumbers_38 (by decide +kernel) ?_
          refine wp_icmp_ne dX12_laysNumbers_39 (fun q => absurd rfl q) (fun _ => ?_)
          refine wp_aload_n dX12_laysNumbers_42 rfl rfl ?_
          refine wp_getR dX12_laysNumbers_43 lX12_46 rfl (mO hm1) (mR_unlike hm1) ?_
          refine wp_aload_n dX12_laysNumbers_46 rfl rfl ?_
          refine wp_getI dX12_laysNumbers_47 lX12_270 rfl (mO hm1) ?_
          refine wp_lload_n dX12_laysNumbers_50 rfl rfl ?_
          refine wp_lastN dX12_laysNumbers_51 (mA_unlike hm1) hn1.1 ⟨by omega, by decide⟩ ?_
          refine wp_aload_n dX12_laysNumbers_52 rfl rfl ?_
          refine wp_dup dX12_laysNumbers_53 rfl ?_
          refine wp_getI dX12_laysNumbers_54 lX12_270 rfl (mO hm1) ?_
          refine wp_iconst (v := (nI 1)) dX12_laysNumbers_57 (by decide +kernel) ?_
          refine wp_iadd dX12_laysNumbers_58 ?_
          refine wp_putI dX12_laysNumbers_59 lX12_270 rfl (Or.inl rfl) (mO hm1) rfl rfl ?_
          refine wp_aload_n dX12_laysNumbers_62 rfl rfl ?_
          refine wp_getR dX12_laysNumbers_63 lX12_49 rfl (mO hm1) (mR_numbers hm1) ?_
          refine wp_bipush (v := (nI 40)) dX12_laysNumbers_66 (by decide +kernel) ?_
          refine wp_iload_n dX12_laysNumbers_68 rfl rfl ?_
          refine wp_imul dX12_laysNumbers_69 ?_
          refine wp_iload_n dX12_laysNumbers_70 rfl rfl ?_
          refine wp_iadd dX12_laysNumbers_71 ?_
          refine wp_aload_n dX12_laysNumbers_72 rfl rfl ?_
          refine wp_lload_n dX12_laysNumbers_73 rfl rfl ?_
          refine wp_cV1 0 0 [some _, some _, none, none] dX12_laysNumbers_74 tX12_numberOf rfl (by decide) nX12_numberOf vX12_numberOf lX12_280 ⟨by decide, by decide⟩ (Nat.le_of_ble_eq_true rfl) (mO hm1) (Nat.le_of_ble_eq_true rfl) rfl ?_
          rw [hI_sL, hn1.1, show nI (uq (tk (hL h 162) p ++ pg (hL h 162) p k)).length + nI 1 = nI ((uq (tk (hL h 162) p ++ pg (hL h 162) p k)).length + 1) from nI_1 _]
          refine pX12_numberOfL (uq (tk (hL h 162) p ++ pg (hL h 162) p (k + 1))) hm1 (by rw [hsn1 hout, List.length_append]; show _ + 1 ≤ 240; omega) (numI_add hn1 hout (by omega)).1 (numI_add hn1 hout (by omega)).2 (fun _ => ?_) (fun q9 => absurd (by rw [hsn1 hout]; exact List.mem_append_right _ (List.mem_singleton.mpr rfl)) q9)
          intro _ _
          refine wp_iastN dX12_laysNumbers_77 (mA_numbers hm1) (isN_add (isN_mul rfl rfl) rfl) ⟨by omega, by decide⟩ ?_
          refine wp_aload_n dX12_laysNumbers_78 rfl rfl ?_
          refine wp_getR dX12_laysNumbers_79 lX12_52 rfl (mO hm1) (mR_kinds hm1) ?_
          refine wp_bipush (v := (nI 40)) dX12_laysNumbers_82 (by decide +kernel) ?_
          refine wp_iload_n dX12_laysNumbers_84 rfl rfl ?_
          refine wp_imul dX12_laysNumbers_85 ?_
          refine wp_iload_n dX12_laysNumbers_86 rfl rfl ?_
          refine wp_iadd dX12_laysNumbers_87 ?_
          refine wp_lload_n dX12_laysNumbers_88 rfl rfl ?_
          refine wp_cS1 2 43 [some _, none] dX12_laysNumbers_89 tX12_kindOf sX12_kindOf lX12_283 ⟨by decide, by decide⟩ (Nat.le_of_ble_eq_true rfl) (Nat.le_of_ble_eq_true rfl) rfl ?_
          refine pX12_kindOf ?_
          intro _ _
          refine wp_iastN dX12_laysNumbers_92 (mA_kinds hm1) (isN_add (isN_mul rfl rfl) rfl) ⟨by omega, by decide⟩ ?_
          refine wp_iinc1 (ls1 := [_, _, some _, _, _]) dX12_laysNumbers_93 rfl (by decide) rfl ?_
          refine wp_goto dX12_laysNumbers_96 ?_
          exact ih (k + 1) _ _ (by omega) ((((hf1.sL _ (Or.inr (by decide))).sI _ (Or.inl ⟨rfl, by decide⟩)).sI _ (Or.inr (by decide))).sI _ (Or.inr (by decide))) (numI_out (fun p9 h9 => (hw.2.1 p9 (by omega)).2) (by omega) hn1 hout (by omega)) (by omega) hcont
  have hout1 : ∀ (n p : Nat) (x2 x3 : Option Value) (h1 : mH), p ≤ rP (hL h 162) → mFr pwNum h h1 → numI (hL h 162) h1 p 0 → rP (hL h 162) < p + n → Wp mX12_laysNumbers 3 64 7 [some (.ref 153), some (.int (nI p)), x2, x3, none] [] h1 Q := by
    intro n
    induction n with
    | zero => intros; omega
    | succ n ih =>
      intro p x2 x3 h1 hp hf1 hn1 hmz
      have hm1 := hf1.s hm
      have hr1 : hL h1 162 = hL h 162 := hf1.Lr (by decide) (by decide)
      have hw1 : WF (hL h1 162) := by rw [hr1]; exact hw
      have hP1 : rP (hL h1 162) = rP (hL h 162) := by rw [hr1]
      refine wp_iload_n dX12_laysNumbers_7 rfl rfl ?_
      refine wp_aload_n dX12_laysNumbers_8 rfl rfl ?_
      refine wp_cV0 0 0 [some _] dX12_laysNumbers_9 tX12_pages rfl (by decide) nX12_pages vX12_pages lX12_255 ⟨by decide, by decide⟩ (Nat.le_of_ble_eq_true rfl) (mO hm1) (Nat.le_of_ble_eq_true rfl) rfl ?_
      refine pX12_pages hm1 hw1 ?_
      intro _ _
      refine wp_icmp_geN dX12_laysNumbers_12 rfl rfl ⟨by omega, by omega⟩ (fun c1 => ?_) (fun c1 => ?_)
      · refine wp_vreturn dX12_laysNumbers_105 rfl ?_
        rw [hr1] at c1
        exact hq _ hf1 (by rw [show rP (hL h 162) = p by omega]; exact hn1)
      · refine wp_iconst (v := (nI 0)) dX12_laysNumbers_15 (by decide +kernel) ?_
        refine wp_istore_n (ls1 := [_, _, some _, _, _]) dX12_laysNumbers_16 rfl (by decide) rfl ?_
        exact hin1 p (by omega) (rT (hL h 162) p + 1) 0 _ _ (Nat.zero_le _) hf1 hn1 (by omega) (fun x2 x3 h2 hf2 hn2 => ih (p + 1) x2 x3 h2 (by omega) hf2 hn2 (by omega))
  refine wp_aload_n dX12_laysNumbers_0 rfl rfl ?_
  refine wp_iconst (v := (nI 0)) dX12_laysNumbers_1 (by decide +kernel) ?_
  refine wp_putI dX12_laysNumbers_2 lX12_270 rfl (Or.inl rfl) (mO hm) rfl rfl ?_
  refine wp_iconst (v := (nI 0)) dX12_laysNumbers_5 (by decide +kernel) ?_
  refine wp_istore_n (ls1 := [_, some _, _, _, _]) dX12_laysNumbers_6 rfl (by decide) rfl ?_
  exact hout1 (rP (hL h 162) + 1) 0 none none _ (Nat.zero_le _) (mFr.rf.sI _ (Or.inl ⟨rfl, by decide⟩)) ⟨by rw [hI_sI, if_pos ⟨rfl, rfl⟩]; rfl, fun i hi => absurd hi (Nat.not_lt_zero _), fun p9 k9 q9 => by omega⟩ (by omega)
