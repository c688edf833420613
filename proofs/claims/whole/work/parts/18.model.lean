/-! ===== the model: its object is 153, its rows 154 .. 191 ===== -/
def mFld : List Nat := [0, 12, 13, 14, 15, 16, 17, 18, 22, 23, 25, 26, 27, 30, 31, 33, 34, 36, 37, 38, 39, 40, 42, 43, 44, 45, 46, 49, 51, 52, 53, 55, 56, 57, 58, 59, 63, 64]
def mKdl : List (Nat × Nat) := [(14, 900), (15, 4), (15, 240), (14, 4), (14, 6), (14, 4), (16, 4), (16, 4), (15, 935), (15, 240), (14, 240), (14, 240), (15, 14960), (14, 40), (14, 40), (14, 8), (14, 8), (15, 12000), (14, 12000), (14, 12000), (14, 12000), (14, 32768), (14, 64), (14, 64), (14, 64), (14, 64), (14, 6), (15, 44), (14, 4), (14, 400), (14, 400), (15, 12000), (15, 12000), (15, 12000), (14, 12000), (14, 32768), (15, 1870), (16, 2)]
def mS (h : mH) : Prop := hO h 153 12 ∧ ∀ j, j < 38 → hR h 153 (mFld.getD j 0) = some (154 + j) ∧ hA h (154 + j) (mKdl.getD j (0, 0)).1 (mKdl.getD j (0, 0)).2
theorem mO {h : mH} (s : mS h) : hO h 153 12 := s.1
theorem mR_tape {h : mH} (s : mS h) : hR h 153 0 = some 154 := (s.2 0 (by decide)).1
theorem mA_tape {h : mH} (s : mS h) : hA h 154 14 900 := (s.2 0 (by decide)).2
theorem mR_readName {h : mH} (s : mS h) : hR h 153 12 = some 155 := (s.2 1 (by decide)).1
theorem mA_readName {h : mH} (s : mS h) : hA h 155 15 4 := (s.2 1 (by decide)).2
theorem mR_readWords {h : mH} (s : mS h) : hR h 153 13 = some 156 := (s.2 2 (by decide)).1
theorem mA_readWords {h : mH} (s : mS h) : hA h 156 15 240 := (s.2 2 (by decide)).2
theorem mR_readParent {h : mH} (s : mS h) : hR h 153 14 = some 157 := (s.2 3 (by decide)).1
theorem mA_readParent {h : mH} (s : mS h) : hA h 157 14 4 := (s.2 3 (by decide)).2
theorem mR_readTokens {h : mH} (s : mS h) : hR h 153 15 = some 158 := (s.2 4 (by decide)).1
theorem mA_readTokens {h : mH} (s : mS h) : hA h 158 14 6 := (s.2 4 (by decide)).2
theorem mR_parent {h : mH} (s : mS h) : hR h 153 16 = some 159 := (s.2 5 (by decide)).1
theorem mA_parent {h : mH} (s : mS h) : hA h 159 14 4 := (s.2 5 (by decide)).2
theorem mR_readMany {h : mH} (s : mS h) : hR h 153 17 = some 160 := (s.2 6 (by decide)).1
theorem mA_readMany {h : mH} (s : mS h) : hA h 160 16 4 := (s.2 6 (by decide)).2
theorem mR_isMany {h : mH} (s : mS h) : hR h 153 18 = some 161 := (s.2 7 (by decide)).1
theorem mA_isMany {h : mH} (s : mS h) : hA h 161 16 4 := (s.2 7 (by decide)).2
theorem mR_now {h : mH} (s : mS h) : hR h 153 22 = some 162 := (s.2 8 (by decide)).1
theorem mA_now {h : mH} (s : mS h) : hA h 162 15 935 := (s.2 8 (by decide)).2
theorem mR_unlike {h : mH} (s : mS h) : hR h 153 23 = some 163 := (s.2 9 (by decide)).1
theorem mA_unlike {h : mH} (s : mS h) : hA h 163 15 240 := (s.2 9 (by decide)).2
theorem mR_numbers {h : mH} (s : mS h) : hR h 153 25 = some 164 := (s.2 10 (by decide)).1
theorem mA_numbers {h : mH} (s : mS h) : hA h 164 14 240 := (s.2 10 (by decide)).2
theorem mR_kinds {h : mH} (s : mS h) : hR h 153 26 = some 165 := (s.2 11 (by decide)).1
theorem mA_kinds {h : mH} (s : mS h) : hA h 165 14 240 := (s.2 11 (by decide)).2
theorem mR_past {h : mH} (s : mS h) : hR h 153 27 = some 166 := (s.2 12 (by decide)).1
theorem mA_past {h : mH} (s : mS h) : hA h 166 15 14960 := (s.2 12 (by decide)).2
theorem mR_rowNumber {h : mH} (s : mS h) : hR h 153 30 = some 167 := (s.2 13 (by decide)).1
theorem mA_rowNumber {h : mH} (s : mS h) : hA h 167 14 40 := (s.2 13 (by decide)).2
theorem mR_rowKind {h : mH} (s : mS h) : hR h 153 31 = some 168 := (s.2 14 (by decide)).1
theorem mA_rowKind {h : mH} (s : mS h) : hA h 168 14 40 := (s.2 14 (by decide)).2
theorem mR_cutFrom {h : mH} (s : mS h) : hR h 153 33 = some 169 := (s.2 15 (by decide)).1
theorem mA_cutFrom {h : mH} (s : mS h) : hA h 169 14 8 := (s.2 15 (by decide)).2
theorem mR_cutTo {h : mH} (s : mS h) : hR h 153 34 = some 170 := (s.2 16 (by decide)).1
theorem mA_cutTo {h : mH} (s : mS h) : hA h 170 14 8 := (s.2 16 (by decide)).2
theorem mR_key {h : mH} (s : mS h) : hR h 153 36 = some 171 := (s.2 17 (by decide)).1
theorem mA_key {h : mH} (s : mS h) : hA h 171 15 12000 := (s.2 17 (by decide)).2
theorem mR_of {h : mH} (s : mS h) : hR h 153 37 = some 172 := (s.2 18 (by decide)).1
theorem mA_of {h : mH} (s : mS h) : hA h 172 14 12000 := (s.2 18 (by decide)).2
theorem mR_rights {h : mH} (s : mS h) : hR h 153 38 = some 173 := (s.2 19 (by decide)).1
theorem mA_rights {h : mH} (s : mS h) : hA h 173 14 12000 := (s.2 19 (by decide)).2
theorem mR_wrongs {h : mH} (s : mS h) : hR h 153 39 = some 174 := (s.2 20 (by decide)).1
theorem mA_wrongs {h : mH} (s : mS h) : hA h 174 14 12000 := (s.2 20 (by decide)).2
theorem mR_found {h : mH} (s : mS h) : hR h 153 40 = some 175 := (s.2 21 (by decide)).1
theorem mA_found {h : mH} (s : mS h) : hA h 175 14 32768 := (s.2 21 (by decide)).2
theorem mR_bestRule {h : mH} (s : mS h) : hR h 153 42 = some 176 := (s.2 22 (by decide)).1
theorem mA_bestRule {h : mH} (s : mS h) : hA h 176 14 64 := (s.2 22 (by decide)).2
theorem mR_bestMany {h : mH} (s : mS h) : hR h 153 43 = some 177 := (s.2 23 (by decide)).1
theorem mA_bestMany {h : mH} (s : mS h) : hA h 177 14 64 := (s.2 23 (by decide)).2
theorem mR_bestCost {h : mH} (s : mS h) : hR h 153 44 = some 178 := (s.2 24 (by decide)).1
theorem mA_bestCost {h : mH} (s : mS h) : hA h 178 14 64 := (s.2 24 (by decide)).2
theorem mR_next {h : mH} (s : mS h) : hR h 153 45 = some 179 := (s.2 25 (by decide)).1
theorem mA_next {h : mH} (s : mS h) : hA h 179 14 64 := (s.2 25 (by decide)).2
theorem mR_coverRule {h : mH} (s : mS h) : hR h 153 46 = some 180 := (s.2 26 (by decide)).1
theorem mA_coverRule {h : mH} (s : mS h) : hA h 180 14 6 := (s.2 26 (by decide)).2
theorem mR_shape {h : mH} (s : mS h) : hR h 153 49 = some 181 := (s.2 27 (by decide)).1
theorem mA_shape {h : mH} (s : mS h) : hA h 181 15 44 := (s.2 27 (by decide)).2
theorem mR_chain {h : mH} (s : mS h) : hR h 153 51 = some 182 := (s.2 28 (by decide)).1
theorem mA_chain {h : mH} (s : mS h) : hA h 182 14 4 := (s.2 28 (by decide)).2
theorem mR_said {h : mH} (s : mS h) : hR h 153 52 = some 183 := (s.2 29 (by decide)).1
theorem mA_said {h : mH} (s : mS h) : hA h 183 14 400 := (s.2 29 (by decide)).2
theorem mR_wasSaid {h : mH} (s : mS h) : hR h 153 53 = some 184 := (s.2 30 (by decide)).1
theorem mA_wasSaid {h : mH} (s : mS h) : hA h 184 14 400 := (s.2 30 (by decide)).2
theorem mR_firstParts {h : mH} (s : mS h) : hR h 153 55 = some 185 := (s.2 31 (by decide)).1
theorem mA_firstParts {h : mH} (s : mS h) : hA h 185 15 12000 := (s.2 31 (by decide)).2
theorem mR_lastParts {h : mH} (s : mS h) : hR h 153 56 = some 186 := (s.2 32 (by decide)).1
theorem mA_lastParts {h : mH} (s : mS h) : hA h 186 15 12000 := (s.2 32 (by decide)).2
theorem mR_firstKey {h : mH} (s : mS h) : hR h 153 57 = some 187 := (s.2 33 (by decide)).1
theorem mA_firstKey {h : mH} (s : mS h) : hA h 187 15 12000 := (s.2 33 (by decide)).2
theorem mR_votes {h : mH} (s : mS h) : hR h 153 58 = some 188 := (s.2 34 (by decide)).1
theorem mA_votes {h : mH} (s : mS h) : hA h 188 14 12000 := (s.2 34 (by decide)).2
theorem mR_voteAt {h : mH} (s : mS h) : hR h 153 59 = some 189 := (s.2 35 (by decide)).1
theorem mA_voteAt {h : mH} (s : mS h) : hA h 189 14 32768 := (s.2 35 (by decide)).2
theorem mR_boxes {h : mH} (s : mS h) : hR h 153 63 = some 190 := (s.2 36 (by decide)).1
theorem mA_boxes {h : mH} (s : mS h) : hA h 190 15 1870 := (s.2 36 (by decide)).2
theorem mR_isKept {h : mH} (s : mS h) : hR h 153 64 = some 191 := (s.2 37 (by decide)).1
theorem mA_isKept {h : mH} (s : mS h) : hA h 191 16 2 := (s.2 37 (by decide)).2
set_option maxRecDepth 20000 in
theorem pX12_isLetter {h : mH} {Q : Option Value → mH → Prop} {x : Int32} (ht : nI 97 ≤ x ∧ x ≤ nI 122 → Q (some (.int (nI 1))) h) (hf : ¬ (nI 97 ≤ x ∧ x ≤ nI 122) → Q (some (.int (nI 0))) h) : Wp mX12_isLetter 0 0 0 [some (.int x)] [] h Q := by
  refine wp_iload_n dX12_isLetter_0 rfl rfl ?_
  refine wp_bipush (v := (nI 97)) dX12_isLetter_1 (by decide +kernel) ?_
  refine wp_icmp_lt dX12_isLetter_3 (fun c1 => ?_) (fun c1 => ?_)
  · refine wp_iconst (v := (nI 0)) dX12_isLetter_16 (by decide +kernel) ?_
    refine wp_zreturn dX12_isLetter_17 rfl (by first | exact Or.inl rfl | exact Or.inr rfl) ?_
    first | exact ht (by simp only [Int32.lt_iff_toInt_lt, Int32.le_iff_toInt_le, ← Int32.toInt_inj, nI_toInt, Nat.reduceLT, Nat.reducePow] at *; omega) | exact hf (by simp only [Int32.lt_iff_toInt_lt, Int32.le_iff_toInt_le, ← Int32.toInt_inj, nI_toInt, Nat.reduceLT, Nat.reducePow] at *; omega)
  · refine wp_iload_n dX12_isLetter_6 rfl rfl ?_
    refine wp_bipush (v := (nI 122)) dX12_isLetter_7 (by decide +kernel) ?_
    refine wp_icmp_gt dX12_isLetter_9 (fun c2 => ?_) (fun c2 => ?_)
    · refine wp_iconst (v := (nI 0)) dX12_isLetter_16 (by decide +kernel) ?_
      refine wp_zreturn dX12_isLetter_17 rfl (by first | exact Or.inl rfl | exact Or.inr rfl) ?_
      first | exact ht (by simp only [Int32.lt_iff_toInt_lt, Int32.le_iff_toInt_le, ← Int32.toInt_inj, nI_toInt, Nat.reduceLT, Nat.reducePow] at *; omega) | exact hf (by simp only [Int32.lt_iff_toInt_lt, Int32.le_iff_toInt_le, ← Int32.toInt_inj, nI_toInt, Nat.reduceLT, Nat.reducePow] at *; omega)
    · refine wp_iconst (v := (nI 1)) dX12_isLetter_12 (by decide +kernel) ?_
      refine wp_goto dX12_isLetter_13 ?_
      refine wp_zreturn dX12_isLetter_17 rfl (by first | exact Or.inl rfl | exact Or.inr rfl) ?_
      first | exact ht (by simp only [Int32.lt_iff_toInt_lt, Int32.le_iff_toInt_le, ← Int32.toInt_inj, nI_toInt, Nat.reduceLT, Nat.reducePow] at *; omega) | exact hf (by simp only [Int32.lt_iff_toInt_lt, Int32.le_iff_toInt_le, ← Int32.toInt_inj, nI_toInt, Nat.reduceLT, Nat.reducePow] at *; omega)
set_option maxRecDepth 20000 in
theorem pX12_isDigit {h : mH} {Q : Option Value → mH → Prop} {x : Int32} (ht : nI 48 ≤ x ∧ x ≤ nI 57 → Q (some (.int (nI 1))) h) (hf : ¬ (nI 48 ≤ x ∧ x ≤ nI 57) → Q (some (.int (nI 0))) h) : Wp mX12_isDigit 0 0 0 [some (.int x)] [] h Q := by
  refine wp_iload_n dX12_isDigit_0 rfl rfl ?_
  refine wp_bipush (v := (nI 48)) dX12_isDigit_1 (by decide +kernel) ?_
  refine wp_icmp_lt dX12_isDigit_3 (fun c1 => ?_) (fun c1 => ?_)
  · refine wp_iconst (v := (nI 0)) dX12_isDigit_16 (by decide +kernel) ?_
    refine wp_zreturn dX12_isDigit_17 rfl (by first | exact Or.inl rfl | exact Or.inr rfl) ?_
    first | exact ht (by simp only [Int32.lt_iff_toInt_lt, Int32.le_iff_toInt_le, ← Int32.toInt_inj, nI_toInt, Nat.reduceLT, Nat.reducePow] at *; omega) | exact hf (by simp only [Int32.lt_iff_toInt_lt, Int32.le_iff_toInt_le, ← Int32.toInt_inj, nI_toInt, Nat.reduceLT, Nat.reducePow] at *; omega)
  · refine wp_iload_n dX12_isDigit_6 rfl rfl ?_
    refine wp_bipush (v := (nI 57)) dX12_isDigit_7 (by decide +kernel) ?_
    refine wp_icmp_gt dX12_isDigit_9 (fun c2 => ?_) (fun c2 => ?_)
    · refine wp_iconst (v := (nI 0)) dX12_isDigit_16 (by decide +kernel) ?_
      refine wp_zreturn dX12_isDigit_17 rfl (by first | exact Or.inl rfl | exact Or.inr rfl) ?_
      first | exact ht (by simp only [Int32.lt_iff_toInt_lt, Int32.le_iff_toInt_le, ← Int32.toInt_inj, nI_toInt, Nat.reduceLT, Nat.reducePow] at *; omega) | exact hf (by simp only [Int32.lt_iff_toInt_lt, Int32.le_iff_toInt_le, ← Int32.toInt_inj, nI_toInt, Nat.reduceLT, Nat.reducePow] at *; omega)
    · refine wp_iconst (v := (nI 1)) dX12_isDigit_12 (by decide +kernel) ?_
      refine wp_goto dX12_isDigit_13 ?_
      refine wp_zreturn dX12_isDigit_17 rfl (by first | exact Or.inl rfl | exact Or.inr rfl) ?_
      first | exact ht (by simp only [Int32.lt_iff_toInt_lt, Int32.le_iff_toInt_le, ← Int32.toInt_inj, nI_toInt, Nat.reduceLT, Nat.reducePow] at *; omega) | exact hf (by simp only [Int32.lt_iff_toInt_lt, Int32.le_iff_toInt_le, ← Int32.toInt_inj, nI_toInt, Nat.reduceLT, Nat.reducePow] at *; omega)
set_option maxRecDepth 20000 in
theorem pX12_isIn {h : mH} {Q : Option Value → mH → Prop} {x a b : Int32} (ht : a ≤ x ∧ x ≤ b → Q (some (.int (nI 1))) h) (hf : ¬ (a ≤ x ∧ x ≤ b) → Q (some (.int (nI 0))) h) : Wp mX12_isIn 0 0 0 [some (.int x), some (.int a), some (.int b)] [] h Q := by
  refine wp_iload_n dX12_isIn_0 rfl rfl ?_
  refine wp_iload_n dX12_isIn_1 rfl rfl ?_
  refine wp_icmp_lt dX12_isIn_2 (fun c1 => ?_) (fun c1 => ?_)
  · refine wp_iconst (v := (nI 0)) dX12_isIn_14 (by decide +kernel) ?_
    refine wp_zreturn dX12_isIn_15 rfl (by first | exact Or.inl rfl | exact Or.inr rfl) ?_
    first | exact ht (by simp only [Int32.lt_iff_toInt_lt, Int32.le_iff_toInt_le, ← Int32.toInt_inj, nI_toInt, Nat.reduceLT, Nat.reducePow] at *; omega) | exact hf (by simp only [Int32.lt_iff_toInt_lt, Int32.le_iff_toInt_le, ← Int32.toInt_inj, nI_toInt, Nat.reduceLT, Nat.reducePow] at *; omega)
  · refine wp_iload_n dX12_isIn_5 rfl rfl ?_
    refine wp_iload_n dX12_isIn_6 rfl rfl ?_
    refine wp_icmp_gt dX12_isIn_7 (fun c2 => ?_) (fun c2 => ?_)
    · refine wp_iconst (v := (nI 0)) dX12_isIn_14 (by decide +kernel) ?_
      refine wp_zreturn dX12_isIn_15 rfl (by first | exact Or.inl rfl | exact Or.inr rfl) ?_
      first | exact ht (by simp only [Int32.lt_iff_toInt_lt, Int32.le_iff_toInt_le, ← Int32.toInt_inj, nI_toInt, Nat.reduceLT, Nat.reducePow] at *; omega) | exact hf (by simp only [Int32.lt_iff_toInt_lt, Int32.le_iff_toInt_le, ← Int32.toInt_inj, nI_toInt, Nat.reduceLT, Nat.reducePow] at *; omega)
    · refine wp_iconst (v := (nI 1)) dX12_isIn_10 (by decide +kernel) ?_
      refine wp_goto dX12_isIn_11 ?_
      refine wp_zreturn dX12_isIn_15 rfl (by first | exact Or.inl rfl | exact Or.inr rfl) ?_
      first | exact ht (by simp only [Int32.lt_iff_toInt_lt, Int32.le_iff_toInt_le, ← Int32.toInt_inj, nI_toInt, Nat.reduceLT, Nat.reducePow] at *; omega) | exact hf (by simp only [Int32.lt_iff_toInt_lt, Int32.le_iff_toInt_le, ← Int32.toInt_inj, nI_toInt, Nat.reduceLT, Nat.reducePow] at *; omega)
set_option maxRecDepth 20000 in
theorem pX12_lesser {h : mH} {Q : Option Value → mH → Prop} {x y : Int32} (hq : Q (some (.int (if x < y then x else y))) h) : Wp mX12_lesser 0 0 0 [some (.int x), some (.int y)] [] h Q := by
  refine wp_iload_n dX12_lesser_0 rfl rfl ?_
  refine wp_iload_n dX12_lesser_1 rfl rfl ?_
  refine wp_icmp_ge dX12_lesser_2 (fun c1 => ?_) (fun c1 => ?_)
  · refine wp_iload_n dX12_lesser_9 rfl rfl ?_
    refine wp_ireturn dX12_lesser_10 rfl ?_
    first | (rw [if_pos (by simp only [Int32.lt_iff_toInt_lt, Int32.le_iff_toInt_le, ← Int32.toInt_inj, nI_toInt, Nat.reduceLT, Nat.reducePow] at *; omega)] at hq; exact hq) | (rw [if_neg (by simp only [Int32.lt_iff_toInt_lt, Int32.le_iff_toInt_le, ← Int32.toInt_inj, nI_toInt, Nat.reduceLT, Nat.reducePow] at *; omega)] at hq; exact hq)
  · refine wp_iload_n dX12_lesser_5 rfl rfl ?_
    refine wp_goto dX12_lesser_6 ?_
    refine wp_ireturn dX12_lesser_10 rfl ?_
    first | (rw [if_pos (by simp only [Int32.lt_iff_toInt_lt, Int32.le_iff_toInt_le, ← Int32.toInt_inj, nI_toInt, Nat.reduceLT, Nat.reducePow] at *; omega)] at hq; exact hq) | (rw [if_neg (by simp only [Int32.lt_iff_toInt_lt, Int32.le_iff_toInt_le, ← Int32.toInt_inj, nI_toInt, Nat.reduceLT, Nat.reducePow] at *; omega)] at hq; exact hq)
set_option maxRecDepth 20000 in
theorem pX12_greater {h : mH} {Q : Option Value → mH → Prop} {x y : Int32} (hq : Q (some (.int (if y < x then x else y))) h) : Wp mX12_greater 0 0 0 [some (.int x), some (.int y)] [] h Q := by
  refine wp_iload_n dX12_greater_0 rfl rfl ?_
  refine wp_iload_n dX12_greater_1 rfl rfl ?_
  refine wp_icmp_le dX12_greater_2 (fun c1 => ?_) (fun c1 => ?_)
  · refine wp_iload_n dX12_greater_9 rfl rfl ?_
    refine wp_ireturn dX12_greater_10 rfl ?_
    first | (rw [if_pos (by simp only [Int32.lt_iff_toInt_lt, Int32.le_iff_toInt_le, ← Int32.toInt_inj, nI_toInt, Nat.reduceLT, Nat.reducePow] at *; omega)] at hq; exact hq) | (rw [if_neg (by simp only [Int32.lt_iff_toInt_lt, Int32.le_iff_toInt_le, ← Int32.toInt_inj, nI_toInt, Nat.reduceLT, Nat.reducePow] at *; omega)] at hq; exact hq)
  · refine wp_iload_n dX12_greater_5 rfl rfl ?_
    refine wp_goto dX12_greater_6 ?_
    refine wp_ireturn dX12_greater_10 rfl ?_
    first | (rw [if_pos (by simp only [Int32.lt_iff_toInt_lt, Int32.le_iff_toInt_le, ← Int32.toInt_inj, nI_toInt, Nat.reduceLT, Nat.reducePow] at *; omega)] at hq; exact hq) | (rw [if_neg (by simp only [Int32.lt_iff_toInt_lt, Int32.le_iff_toInt_le, ← Int32.toInt_inj, nI_toInt, Nat.reduceLT, Nat.reducePow] at *; omega)] at hq; exact hq)
set_option maxRecDepth 20000 in
theorem pX12_truth0 {h : mH} {Q : Option Value → mH → Prop}  (hq : Q (some (.int (nI 0))) h) : Wp mX12_truth 0 0 0 [some (.int (nI 0))] [] h Q := by
  refine wp_iload_n dX12_truth_0 rfl rfl ?_
  refine wp_if_eq dX12_truth_1 (fun _ => ?_) (fun q => absurd q (by decide +kernel))
  refine wp_iconst (v := (nI 0)) dX12_truth_8 (by decide +kernel) ?_
  refine wp_ireturn dX12_truth_9 rfl ?_
  exact hq
set_option maxRecDepth 20000 in
theorem pX12_truth1 {h : mH} {Q : Option Value → mH → Prop}  (hq : Q (some (.int (nI 1))) h) : Wp mX12_truth 0 0 0 [some (.int (nI 1))] [] h Q := by
  refine wp_iload_n dX12_truth_0 rfl rfl ?_
  refine wp_if_eq dX12_truth_1 (fun q => absurd q (by decide +kernel)) (fun _ => ?_)
  refine wp_iconst (v := (nI 1)) dX12_truth_4 (by decide +kernel) ?_
  refine wp_goto dX12_truth_5 ?_
  refine wp_ireturn dX12_truth_9 rfl ?_
  exact hq
set_option maxRecDepth 20000 in
theorem pX12_numberOf {h : mH} {Q : Option Value → mH → Prop} {w : Int64} {u : Nat} (hm : mS h) (hu : u ≤ 240) (hn : hI h 153 24 = nI u) (hfound : ∀ k, k < u → hL h 163 k = w → (∀ j, j < k → ¬ hL h 163 j = w) → Q (some (.int (nI k))) h) (hnone : (∀ j, j < u → ¬ hL h 163 j = w) → Q (some (.int (-1))) h) : Wp mX12_numberOf 0 0 0 [some (.ref 153), some (.long w), none, none] [] h Q := by
  have hloop : ∀ (n : Nat) (k : Nat), k ≤ u → (∀ j, j < k → ¬ hL h 163 j = w) → u < k + n → Wp mX12_numberOf 0 0 2 [some (.ref 153), some (.long w), none, some (.int (nI k))] [] h Q := by
    intro n
    induction n with
    | zero => intros; omega
    | succ n ih =>
      intro k hk hbef hmz
      refine wp_iload_n dX12_numberOf_2 rfl rfl ?_
      refine wp_aload_n dX12_numberOf_3 rfl rfl ?_
      refine wp_getI dX12_numberOf_4 lX12_270 rfl (mO hm) ?_
      refine wp_icmp_geN dX12_numberOf_7 rfl hn ⟨by omega, by omega⟩ (fun c1 => ?_) (fun c1 => ?_)
      · refine wp_iconst (v := (-1)) dX12_numberOf_29 (by decide +kernel) ?_
        refine wp_ireturn dX12_numberOf_30 rfl ?_
        exact hnone (by rw [show u = k by omega]; exact hbef)
      · refine wp_aload_n dX12_numberOf_10 rfl rfl ?_
        refine wp_getR dX12_numberOf_11 lX12_46 rfl (mO hm) (mR_unlike hm) ?_
        refine wp_iload_n dX12_numberOf_14 rfl rfl ?_
        refine wp_laldN dX12_numberOf_15 (mA_unlike hm) rfl ⟨by omega, by decide⟩ ?_
        refine wp_lload_n dX12_numberOf_16 rfl rfl ?_
        refine wp_lc_ne dX12_numberOf_17 dX12_numberOf_18 (fun c2 => ?_) (fun c2 => ?_)
        · refine wp_iinc1 (ls1 := [_, _, _, some _]) dX12_numberOf_23 rfl (by decide) rfl ?_
          refine wp_goto dX12_numberOf_26 ?_
          exact ih (k + 1) (by omega) (lt_s hbef c2) (by omega)
        · refine wp_iload_n dX12_numberOf_21 rfl rfl ?_
          refine wp_ireturn dX12_numberOf_22 rfl ?_
          exact hfound k (by omega) c2 hbef
  refine wp_iconst (v := (nI 0)) dX12_numberOf_0 (by decide +kernel) ?_
  refine wp_istore_n (ls1 := [_, _, _, some _]) dX12_numberOf_1 rfl (by decide) rfl ?_
  exact hloop (u + 1) 0 (by omega) lt_0 (by omega)
