/-! ===== tokens of a text ===== -/
def hr (tb : Nat → Int32) (N k : Nat) : Int32 := if k < N then tb k else -1
def isLt (c : Int32) : Bool := decide (nI 97 ≤ c ∧ c ≤ nI 122)
def isDg (c : Int32) : Bool := decide (nI 48 ≤ c ∧ c ≤ nI 57)
def isSg (c : Int32) : Bool := decide (c = nI 46 ∨ c = nI 58 ∨ c = nI 44 ∨ c = nI 45 ∨ c = nI 47 ∨ c = nI 35 ∨ c = nI 61 ∨ c = nI 43 ∨ c = nI 59)
def isSp (c : Int32) : Bool := decide (c = nI 32 ∨ c = nI 10)
def rnF (P : Nat → Bool) : Nat → Nat → Nat
  | 0, a => a
  | m + 1, a => if P a = true then rnF P m (a + 1) else a
/-- the first place from a on where it is not so -/
def rn (P : Int32 → Bool) (tb : Nat → Int32) (N a : Nat) : Nat := rnF (fun k => P (hr tb N k)) (N - a) a
theorem rnF_ge {P : Nat → Bool} : ∀ m a, a ≤ rnF P m a ∧ rnF P m a ≤ a + m
  | 0, a => ⟨Nat.le_refl _, Nat.le_refl _⟩
  | m + 1, a => by
    unfold rnF
    split
    · have := rnF_ge (P := P) m (a + 1)
      omega
    · omega
theorem rn_ge {P : Int32 → Bool} {tb : Nat → Int32} {N a : Nat} (h : a ≤ N) : a ≤ rn P tb N a ∧ rn P tb N a ≤ N := by
  have := rnF_ge (P := fun k => P (hr tb N k)) (N - a) a
  unfold rn
  omega
def wd (tb : Nat → Int32) (k : Nat) : Nat → Int64
  | 0 => 0
  | i + 1 => (wd tb k i <<< ((nI 8).toInt64 &&& 63)) ||| (tb (k + i)).toInt64
def tP (tb : Nat → Int32) (N a : Nat) : Nat := rn isSp tb N a
def tE (tb : Nat → Int32) (N a : Nat) : Nat := if N ≤ tP tb N a then tP tb N a else if isLt (tb (tP tb N a)) = true then rn isLt tb N (tP tb N a) else if isDg (tb (tP tb N a)) = true then rn isDg tb N (tP tb N a) else tP tb N a + 1
def tS (tb : Nat → Int32) (N a : Nat) : Nat := if N ≤ tP tb N a then 0 else if isLt (tb (tP tb N a)) = true then (if 8 < tE tb N a - tP tb N a then 4 else 1) else if isDg (tb (tP tb N a)) = true then (if 4 < tE tb N a - tP tb N a ∨ isLt (hr tb N (tE tb N a)) = true then 4 else 2) else if isSg (tb (tP tb N a)) = true then 3 else 4
def tW (tb : Nat → Int32) (N a : Nat) : Int64 := wd tb (tP tb N a) (min (tE tb N a - tP tb N a) 8)
def byt (tb : Nat → Int32) : Prop := ∀ k, ∃ j, j < 256 ∧ tb k = nI j
def tkH (h : mH) (tb : Nat → Int32) (N k : Nat) : Prop := mS h ∧ hI h 153 2 = nI N ∧ hI h 154 = tb ∧ hI h 153 3 = nI k
theorem tkH.fr {h h1 : mH} {tb : Nat → Int32} {N k : Nat} {F A : List Nat} (q : tkH h tb N k) (f : mFr (mP F A) h h1) (q1 : 2 ∉ F ∧ 3 ∉ F) (q2 : 153 ∉ A ∧ 154 ∉ A) : tkH h1 tb N k := ⟨f.s q.1, (f.fI 2 q1.1 q2.1).trans q.2.1, (f.Ir (by decide) q2.2).trans q.2.2.1, (f.fI 3 q1.2 q2.1).trans q.2.2.2⟩
/-- the token from a on is the one that is read -/
def tokC (h : mH) (tb : Nat → Int32) (N a : Nat) : Prop := hI h 153 4 = nI (tP tb N a) ∧ hI h 153 5 = nI (tS tb N a) ∧ (tS tb N a ≠ 0 → hI h 153 6 = nI (tE tb N a - tP tb N a)) ∧ hL h 153 11 = tW tb N a
theorem hr_lt {tb : Nat → Int32} {N k : Nat} (h : k < N) : hr tb N k = tb k := by
  unfold hr
  rw [if_pos h]
theorem hr_ge {tb : Nat → Int32} {N k : Nat} (h : N ≤ k) : hr tb N k = -1 := by
  unfold hr
  rw [if_neg (by omega)]
theorem lt_isL {tb : Nat → Int32} {N k : Nat} (h : isLt (hr tb N k) = true) : k < N := by
  rcases Nat.lt_or_ge k N with q | q
  · exact q
  · rw [hr_ge q] at h
    exact absurd h (by decide +kernel)
theorem lt_isD {tb : Nat → Int32} {N k : Nat} (h : isDg (hr tb N k) = true) : k < N := by
  rcases Nat.lt_or_ge k N with q | q
  · exact q
  · rw [hr_ge q] at h
    exact absurd h (by decide +kernel)
set_option maxRecDepth 20000 in
theorem pX12_here {h : mH} {Q : Option Value → mH → Prop} {tb : Nat → Int32} {N a k : Nat} (ht : tkH h tb N a) (hN : N ≤ 900) (hk : a + k < 2147483648) (hq : Q (some (.int (hr tb N (a + k)))) h) : Wp mX12_here 0 0 0 [some (.ref 153), some (.int (nI k))] [] h Q := by
  refine wp_aload_n dX12_here_0 rfl rfl ?_
  refine wp_getIV dX12_here_1 lX12_151 rfl (mO ht.1) ht.2.2.2 ?_
  refine wp_iload_n dX12_here_4 rfl rfl ?_
  refine wp_iadd dX12_here_5 ?_
  refine wp_aload_n dX12_here_6 rfl rfl ?_
  refine wp_getIV dX12_here_7 lX12_154 rfl (mO ht.1) ht.2.1 ?_
  refine wp_icmp_geN dX12_here_10 (isN_add rfl rfl) rfl ⟨by omega, by omega⟩ (fun c1 => ?_) (fun c1 => ?_)
  · refine wp_iconst (v := (-1)) dX12_here_27 (by decide +kernel) ?_
    refine wp_ireturn dX12_here_28 rfl ?_
    rw [hr_ge (by omega)] at hq
    exact hq
  · refine wp_aload_n dX12_here_13 rfl rfl ?_
    refine wp_getR dX12_here_14 lX12_7 rfl (mO ht.1) (mR_tape ht.1) ?_
    refine wp_aload_n dX12_here_17 rfl rfl ?_
    refine wp_getIV dX12_here_18 lX12_151 rfl (mO ht.1) ht.2.2.2 ?_
    refine wp_iload_n dX12_here_21 rfl rfl ?_
    refine wp_iadd dX12_here_22 ?_
    refine wp_ialdV dX12_here_23 (mA_tape ht.1) (isN_add rfl rfl) ⟨by omega, by decide⟩ (congrFun ht.2.2.1 _) ?_
    refine wp_goto dX12_here_24 ?_
    refine wp_ireturn dX12_here_28 rfl ?_
    rw [hr_lt (by omega)] at hq
    exact hq
theorem pX12_isLetterB {h : mH} {Q : Option Value → mH → Prop} {x : Int32} (ht : isLt x = true → Q (some (.int (nI 1))) h) (hf : isLt x = false → Q (some (.int (nI 0))) h) : Wp mX12_isLetter 0 0 0 [some (.int x)] [] h Q :=
  pX12_isLetter (fun q => ht (decide_eq_true q)) (fun q => hf (decide_eq_false q))
theorem pX12_isDigitB {h : mH} {Q : Option Value → mH → Prop} {x : Int32} (ht : isDg x = true → Q (some (.int (nI 1))) h) (hf : isDg x = false → Q (some (.int (nI 0))) h) : Wp mX12_isDigit 0 0 0 [some (.int x)] [] h Q :=
  pX12_isDigit (fun q => ht (decide_eq_true q)) (fun q => hf (decide_eq_false q))
set_option maxRecDepth 20000 in
theorem pX12_isSign {h : mH} {Q : Option Value → mH → Prop} {x : Int32} (ht : isSg x = true → Q (some (.int (nI 1))) h) (hf : isSg x = false → Q (some (.int (nI 0))) h) : Wp mX12_isSign 0 0 0 [some (.int x)] [] h Q := by
  refine wp_iload_n dX12_isSign_0 rfl rfl ?_
  refine wp_bipush (v := (nI 46)) dX12_isSign_1 (by decide +kernel) ?_
  refine wp_icmp_eq dX12_isSign_3 (fun c1 => ?_) (fun c1 => ?_)
  · refine wp_iconst (v := (nI 1)) dX12_isSign_54 (by decide +kernel) ?_
    refine wp_goto dX12_isSign_55 ?_
    refine wp_zreturn dX12_isSign_59 rfl (Or.inr rfl) ?_
    exact ht (decide_eq_true (by simp only [*, true_or, or_true]))
  · refine wp_iload_n dX12_isSign_6 rfl rfl ?_
    refine wp_bipush (v := (nI 58)) dX12_isSign_7 (by decide +kernel) ?_
    refine wp_icmp_eq dX12_isSign_9 (fun c2 => ?_) (fun c2 => ?_)
    · refine wp_iconst (v := (nI 1)) dX12_isSign_54 (by decide +kernel) ?_
      refine wp_goto dX12_isSign_55 ?_
      refine wp_zreturn dX12_isSign_59 rfl (Or.inr rfl) ?_
      exact ht (decide_eq_true (by simp only [*, true_or, or_true]))
    · refine wp_iload_n dX12_isSign_12 rfl rfl ?_
      refine wp_bipush (v := (nI 44)) dX12_isSign_13 (by decide +kernel) ?_
      refine wp_icmp_eq dX12_isSign_15 (fun c3 => ?_) (fun c3 => ?_)
      · refine wp_iconst (v := (nI 1)) dX12_isSign_54 (by decide +kernel) ?_
        refine wp_goto dX12_isSign_55 ?_
        refine wp_zreturn dX12_isSign_59 rfl (Or.inr rfl) ?_
        exact ht (decide_eq_true (by simp only [*, true_or, or_true]))
      · refine wp_iload_n dX12_isSign_18 rfl rfl ?_
        refine wp_bipush (v := (nI 45)) dX12_isSign_19 (by decide +kernel) ?_
        refine wp_icmp_eq dX12_isSign_21 (fun c4 => ?_) (fun c4 => ?_)
        · refine wp_iconst (v := (nI 1)) dX12_isSign_54 (by decide +kernel) ?_
          refine wp_goto dX12_isSign_55 ?_
          refine wp_zreturn dX12_isSign_59 rfl (Or.inr rfl) ?_
          exact ht (decide_eq_true (by simp only [*, true_or, or_true]))
        · refine wp_iload_n dX12_isSign_24 rfl rfl ?_
          refine wp_bipush (v := (nI 47)) dX12_isSign_25 (by decide +kernel) ?_
          refine wp_icmp_eq dX12_isSign_27 (fun c5 => ?_) (fun c5 => ?_)
          · refine wp_iconst (v := (nI 1)) dX12_isSign_54 (by decide +kernel) ?_
            refine wp_goto dX12_isSign_55 ?_
            refine wp_zreturn dX12_isSign_59 rfl (Or.inr rfl) ?_
            exact ht (decide_eq_true (by simp only [*, true_or, or_true]))
          · refine wp_iload_n dX12_isSign_30 rfl rfl ?_
            refine wp_bipush (v := (nI 35)) dX12_isSign_31 (by decide +kernel) ?_
            refine wp_icmp_eq dX12_isSign_33 (fun c6 => ?_) (fun c6 => ?_)
            · refine wp_iconst (v := (nI 1)) dX12_isSign_54 (by decide +kernel) ?_
              refine wp_goto dX12_isSign_55 ?_
              refine wp_zreturn dX12_isSign_59 rfl (Or.inr rfl) ?_
              exact ht (decide_eq_true (by simp only [*, true_or, or_true]))
            · refine wp_iload_n dX12_isSign_36 rfl rfl ?_
              refine wp_bipush (v := (nI 61)) dX12_isSign_37 (by decide +kernel) ?_
              refine wp_icmp_eq dX12_isSign_39 (fun c7 => ?_) (fun c7 => ?_)
              · refine wp_iconst (v := (nI 1)) dX12_isSign_54 (by decide +kernel) ?_
                refine wp_goto dX12_isSign_55 ?_
                refine wp_zreturn dX12_isSign_59 rfl (Or.inr rfl) ?_
                exact ht (decide_eq_true (by simp only [*, true_or, or_true]))
              · refine wp_iload_n dX12_isSign_42 rfl rfl ?_
                refine wp_bipush (v := (nI 43)) dX12_isSign_43 (by decide +kernel) ?_
                refine wp_icmp_eq dX12_isSign_45 (fun c8 => ?_) (fun c8 => ?_)
                · refine wp_iconst (v := (nI 1)) dX12_isSign_54 (by decide +kernel) ?_
                  refine wp_goto dX12_isSign_55 ?_
                  refine wp_zreturn dX12_isSign_59 rfl (Or.inr rfl) ?_
                  exact ht (decide_eq_true (by simp only [*, true_or, or_true]))
                · refine wp_iload_n dX12_isSign_48 rfl rfl ?_
                  refine wp_bipush (v := (nI 59)) dX12_isSign_49 (by decide +kernel) ?_
                  refine wp_icmp_ne dX12_isSign_51 (fun c9 => ?_) (fun c9 => ?_)
                  · refine wp_iconst (v := (nI 0)) dX12_isSign_58 (by decide +kernel) ?_
                    refine wp_zreturn dX12_isSign_59 rfl (Or.inl rfl) ?_
                    exact hf (decide_eq_false (by simp only [*, or_self, not_false_eq_true]))
                  · refine wp_iconst (v := (nI 1)) dX12_isSign_54 (by decide +kernel) ?_
                    refine wp_goto dX12_isSign_55 ?_
                    refine wp_zreturn dX12_isSign_59 rfl (Or.inr rfl) ?_
                    exact ht (decide_eq_true (by simp only [*, true_or, or_true]))
set_option maxRecDepth 20000 in
theorem goOn_w {h : mH} {Q : Option Value → mH → Prop} {tb : Nat → Int32} {N k m : Nat} {x2 : Option Value} (ht : tkH h tb N k) (hN : N ≤ 900) (hm : k + m ≤ N) (hw : hL h 153 11 = 0) (hq : ∀ h', mFr (mP [3, 6, 11] []) h h' → hI h' 153 3 = nI (k + m) → hI h' 153 6 = nI m → hL h' 153 11 = wd tb k (min m 8) → Q none h') : Wp mX12_goOn 1 21 186 [some (.ref 153), some (.int (nI m)), x2] [] h Q := by
  have hloop : ∀  (n : Nat) (i : Nat) (h1 : mH), (i ≤ min m 8) → (mFr (mP [3, 6, 11] []) h h1) → (hL h1 153 11 = wd tb k i) → (hI h1 153 3 = nI k) → (8 < i + n) → Wp mX12_goOn 1 21 188 [some (.ref 153), some (.int (nI m)), some (.int (nI i))] [] h1 Q := by
    intro n
    induction n with
    | zero => intros; omega
    | succ n ih =>
      intro i h1 hi hf1 hw1 hat1 hmz
      have tk1 : tkH h1 tb N k := ⟨hf1.s ht.1, (hf1.fI 2 (by decide) (by decide)).trans ht.2.1, (hf1.Ir (by decide) (by decide)).trans ht.2.2.1, hat1⟩
      refine wp_iload_n dX12_goOn_188 rfl rfl ?_
      refine wp_iload_n dX12_goOn_189 rfl rfl ?_
      refine wp_icmp_geN dX12_goOn_190 rfl rfl ⟨by omega, by omega⟩ (fun c1 => ?_) (fun c1 => ?_)
      · refine wp_aload_n dX12_goOn_223 rfl rfl ?_
        refine wp_iload_n dX12_goOn_224 rfl rfl ?_
        refine wp_putI dX12_goOn_225 lX12_181 rfl (Or.inl rfl) (mO tk1.1) rfl rfl ?_
        refine wp_aload_n dX12_goOn_228 rfl rfl ?_
        refine wp_dup dX12_goOn_229 rfl ?_
        refine wp_getIV dX12_goOn_230 lX12_151 rfl (mO tk1.1) tk1.2.2.2 ?_
        refine wp_iload_n dX12_goOn_233 rfl rfl ?_
        refine wp_iadd dX12_goOn_234 ?_
        refine wp_putIN dX12_goOn_235 lX12_151 rfl rfl (Or.inl rfl) (mO tk1.1) (isN_add rfl rfl) ?_
        refine wp_vreturn dX12_goOn_238 rfl ?_
        refine hq _ ((hf1.sI _ (Or.inl ⟨rfl, by decide⟩)).sI _ (Or.inl ⟨rfl, by decide⟩)) rfl rfl ?_
        show hL h1 153 11 = _
        rw [hw1, show i = min m 8 by omega]
      · refine wp_iload_n dX12_goOn_193 rfl rfl ?_
        refine wp_bipush (v := (nI 8)) dX12_goOn_194 (by decide +kernel) ?_
        refine wp_icmp_geN dX12_goOn_196 rfl rfl ⟨by omega, by omega⟩ (fun c2 => ?_) (fun c2 => ?_)
        · refine wp_aload_n dX12_goOn_223 rfl rfl ?_
          refine wp_iload_n dX12_goOn_224 rfl rfl ?_
          refine wp_putI dX12_goOn_225 lX12_181 rfl (Or.inl rfl) (mO tk1.1) rfl rfl ?_
          refine wp_aload_n dX12_goOn_228 rfl rfl ?_
          refine wp_dup dX12_goOn_229 rfl ?_
          refine wp_getIV dX12_goOn_230 lX12_151 rfl (mO tk1.1) tk1.2.2.2 ?_
          refine wp_iload_n dX12_goOn_233 rfl rfl ?_
          refine wp_iadd dX12_goOn_234 ?_
          refine wp_putIN dX12_goOn_235 lX12_151 rfl rfl (Or.inl rfl) (mO tk1.1) (isN_add rfl rfl) ?_
          refine wp_vreturn dX12_goOn_238 rfl ?_
          refine hq _ ((hf1.sI _ (Or.inl ⟨rfl, by decide⟩)).sI _ (Or.inl ⟨rfl, by decide⟩)) rfl rfl ?_
          show hL h1 153 11 = _
          rw [hw1, show i = min m 8 by omega]
        · refine wp_aload_n dX12_goOn_199 rfl rfl ?_
          refine wp_aload_n dX12_goOn_200 rfl rfl ?_
          refine wp_getLV dX12_goOn_201 lX12_164 rfl (mO tk1.1) hw1 ?_
          refine wp_bipush (v := (nI 8)) dX12_goOn_204 (by decide +kernel) ?_
          refine wp_lshl dX12_goOn_206 ?_
          refine wp_aload_n dX12_goOn_207 rfl rfl ?_
          refine wp_iload_n dX12_goOn_208 rfl rfl ?_
          refine wp_cV1 0 0 [some _, some _] dX12_goOn_209 tX12_here rfl (by decide) nX12_here vX12_here lX12_157 ⟨by decide, by decide⟩ (Nat.le_of_ble_eq_true rfl) (mO tk1.1) (Nat.le_of_ble_eq_true rfl) rfl ?_
          refine pX12_here tk1 hN (by omega) ?_
          intro _ _
          refine wp_i2l dX12_goOn_212 ?_
          refine wp_lor dX12_goOn_213 ?_
          refine wp_putL dX12_goOn_214 lX12_164 rfl (Or.inl rfl) (mO tk1.1) ?_
          refine wp_iinc1 (ls1 := [_, _, some _]) dX12_goOn_217 rfl (by decide) rfl ?_
          refine wp_goto dX12_goOn_220 ?_
          rw [hr_lt (by omega)]
          exact ih (i + 1) _ (by omega) (hf1.sL _ (Or.inl ⟨rfl, by decide⟩)) rfl hat1 (by omega)
  refine wp_iconst (v := (nI 0)) dX12_goOn_186 (by decide +kernel) ?_
  refine wp_istore_n (ls1 := [_, _, some _]) dX12_goOn_187 rfl (by decide) rfl ?_
  exact hloop 9 0 h (Nat.zero_le _) mFr.rf hw ht.2.2.2 (by omega)
set_option maxRecDepth 20000 in
theorem goOn_t {h : mH} {Q : Option Value → mH → Prop} {tb : Nat → Int32} {N k a : Nat} (ht : tkH h tb N k) (hN : N ≤ 900) (hk : k ≤ N) (hb : byt tb) (hw : hL h 153 11 = 0) (hp : hI h 153 4 = nI k) (hpa : tP tb N a = k) (hq : ∀ h', mFr (mP [3, 5, 6, 11] []) h h' → hI h' 153 3 = nI (tE tb N a) → tokC h' tb N a → Q none h') : Wp mX12_goOn 1 21 48 [some (.ref 153), some (.int (nI 0)), none] [] h Q := by
  have run73 : ∀  (n : Nat) (m : Nat), (k + m ≤ N) → (rnF (fun k => isLt (hr tb N k)) (N - (k + m)) (k + m) = rn isLt tb N k) → (N < m + n) → (∀ m, k + m ≤ N → rn isLt tb N k = k + m → isLt (hr tb N (k + m)) = false → Wp mX12_goOn 1 21 90 [some (.ref 153), some (.int (nI m)), none] [] h Q) → Wp mX12_goOn 1 21 73 [some (.ref 153), some (.int (nI m)), none] [] h Q := by
    intro n
    induction n with
    | zero => intros; omega
    | succ n ih =>
      intro m hm he hmz hcont
      refine wp_aload_n dX12_goOn_73 rfl rfl ?_
      refine wp_iload_n dX12_goOn_74 rfl rfl ?_
      refine wp_cV1 0 0 [some _, some _] dX12_goOn_75 tX12_here rfl (by decide) nX12_here vX12_here lX12_157 ⟨by decide, by decide⟩ (Nat.le_of_ble_eq_true rfl) (mO ht.1) (Nat.le_of_ble_eq_true rfl) rfl ?_
      refine pX12_here ht hN (by omega) ?_
      intro _ _
      refine wp_cS1 0 0 [some _] dX12_goOn_78 tX12_isLetter sX12_isLetter lX12_171 ⟨by decide, by decide⟩ (Nat.le_of_ble_eq_true rfl) (Nat.le_of_ble_eq_true rfl) rfl ?_
      refine pX12_isLetterB (fun b1 => ?_) (fun b1 => ?_)
      · intro _ _
        refine wp_if_eq dX12_goOn_81 (fun q => absurd q (by decide +kernel)) (fun _ => ?_)
        refine wp_iinc1 (ls1 := [_, some _, _]) dX12_goOn_84 rfl (by decide) rfl ?_
        refine wp_goto dX12_goOn_87 ?_
        refine ih (m + 1) (by have := lt_isL (by assumption : isLt (hr tb N (k + m)) = true); omega) ?_ (by omega) hcont
        rw [show N - (k + m) = (N - (k + (m + 1))) + 1 by have := lt_isL (by assumption : isLt (hr tb N (k + m)) = true); omega] at he
        unfold rnF at he
        rw [if_pos (by assumption)] at he
        exact he
      · intro _ _
        refine wp_if_eq dX12_goOn_81 (fun _ => ?_) (fun q => absurd q (by decide +kernel))
        refine hcont m hm ?_ (by assumption)
        cases h9 : N - (k + m) with
        | zero =>
          rw [h9] at he
          exact he.symm
        | succ j =>
          rw [h9] at he
          unfold rnF at he
          rw [if_neg (by rw [(show isLt (hr tb N (k + m)) = false by assumption)]; decide)] at he
          exact he.symm
  have run119 : ∀  (n : Nat) (m : Nat), (k + m ≤ N) → (rnF (fun k => isDg (hr tb N k)) (N - (k + m)) (k + m) = rn isDg tb N k) → (N < m + n) → (∀ m, k + m ≤ N → rn isDg tb N k = k + m → isDg (hr tb N (k + m)) = false → Wp mX12_goOn 1 21 136 [some (.ref 153), some (.int (nI m)), none] [] h Q) → Wp mX12_goOn 1 21 119 [some (.ref 153), some (.int (nI m)), none] [] h Q := by
    intro n
    induction n with
    | zero => intros; omega
    | succ n ih =>
      intro m hm he hmz hcont
      refine wp_aload_n dX12_goOn_119 rfl rfl ?_
      refine wp_iload_n dX12_goOn_120 rfl rfl ?_
      refine wp_cV1 0 0 [some _, some _] dX12_goOn_121 tX12_here rfl (by decide) nX12_here vX12_here lX12_157 ⟨by decide, by decide⟩ (Nat.le_of_ble_eq_true rfl) (mO ht.1) (Nat.le_of_ble_eq_true rfl) rfl ?_
      refine pX12_here ht hN (by omega) ?_
      intro _ _
      refine wp_cS1 0 0 [some _] dX12_goOn_124 tX12_isDigit sX12_isDigit lX12_175 ⟨by decide, by decide⟩ (Nat.le_of_ble_eq_true rfl) (Nat.le_of_ble_eq_true rfl) rfl ?_
      refine pX12_isDigitB (fun b1 => ?_) (fun b1 => ?_)
      · intro _ _
        refine wp_if_eq dX12_goOn_127 (fun q => absurd q (by decide +kernel)) (fun _ => ?_)
        refine wp_iinc1 (ls1 := [_, some _, _]) dX12_goOn_130 rfl (by decide) rfl ?_
        refine wp_goto dX12_goOn_133 ?_
        refine ih (m + 1) (by have := lt_isD (by assumption : isDg (hr tb N (k + m)) = true); omega) ?_ (by omega) hcont
        rw [show N - (k + m) = (N - (k + (m + 1))) + 1 by have := lt_isD (by assumption : isDg (hr tb N (k + m)) = true); omega] at he
        unfold rnF at he
        rw [if_pos (by assumption)] at he
        exact he
      · intro _ _
        refine wp_if_eq dX12_goOn_127 (fun _ => ?_) (fun q => absurd q (by decide +kernel))
        refine hcont m hm ?_ (by assumption)
        cases h9 : N - (k + m) with
        | zero =>
          rw [h9] at he
          exact he.symm
        | succ j =>
          rw [h9] at he
          unfold rnF at he
          rw [if_neg (by rw [(show isDg (hr tb N (k + m)) = false by assumption)]; decide)] at he
          exact he.symm
  refine wp_aload_n dX12_goOn_48 rfl rfl ?_
  refine wp_iconst (v := (nI 0)) dX12_goOn_49 (by decide +kernel) ?_
  refine wp_cV1 0 0 [some _, some _] dX12_goOn_50 tX12_here rfl (by decide) nX12_here vX12_here lX12_157 ⟨by decide, by decide⟩ (Nat.le_of_ble_eq_true rfl) (mO ht.1) (Nat.le_of_ble_eq_true rfl) rfl ?_
  refine pX12_here ht hN (by omega) ?_
  intro _ _
  refine wp_if_ge dX12_goOn_53 (fun c1 => ?_) (fun c1 => ?_)
  · refine wp_aload_n dX12_goOn_62 rfl rfl ?_
    refine wp_iconst (v := (nI 0)) dX12_goOn_63 (by decide +kernel) ?_
    refine wp_cV1 0 0 [some _, some _] dX12_goOn_64 tX12_here rfl (by decide) nX12_here vX12_here lX12_157 ⟨by decide, by decide⟩ (Nat.le_of_ble_eq_true rfl) (mO ht.1) (Nat.le_of_ble_eq_true rfl) rfl ?_
    refine pX12_here ht hN (by omega) ?_
    intro _ _
    refine wp_cS1 0 0 [some _] dX12_goOn_67 tX12_isLetter sX12_isLetter lX12_171 ⟨by decide, by decide⟩ (Nat.le_of_ble_eq_true rfl) (Nat.le_of_ble_eq_true rfl) rfl ?_
    refine pX12_isLetterB (fun b1 => ?_) (fun b1 => ?_)
    · intro _ _
      refine wp_if_eq dX12_goOn_70 (fun q => absurd q (by decide +kernel)) (fun _ => ?_)
      have hkN : k < N := lt_isL (by assumption : isLt (hr tb N (k + 0)) = true)
      refine run73 (N + 1) 0 (by omega) rfl (by omega) (fun m hm hE hx => ?_)
      have hL1 : isLt (tb k) = true := by rw [← hr_lt (tb := tb) hkN]; assumption
      have eE : tE tb N a = k + m := by unfold tE; rw [hpa, if_neg (by omega), if_pos hL1, hE]
      refine wp_aload_n dX12_goOn_90 rfl rfl ?_
      refine wp_iload_n dX12_goOn_91 rfl rfl ?_
      refine wp_bipush (v := (nI 8)) dX12_goOn_92 (by decide +kernel) ?_
      refine wp_icmp_leN dX12_goOn_94 rfl rfl ⟨by omega, by omega⟩ (fun c3 => ?_) (fun c3 => ?_)
      · refine wp_iconst (v := (nI 1)) dX12_goOn_101 (by decide +kernel) ?_
        refine wp_putI dX12_goOn_102 lX12_168 rfl (Or.inl rfl) (mO ht.1) rfl rfl ?_
        refine wp_goto dX12_goOn_105 ?_
        have eS : tS tb N a = 1 := by unfold tS; rw [hpa, if_neg (by omega), if_pos hL1, eE]; first | rw [if_pos (by omega)] | rw [if_neg (by omega)]
        refine goOn_w (k := k) (m := m) (ht.fr (mFr.rf.sI _ (Or.inl ⟨rfl, by decide⟩) : mFr (mP [5] []) _ _) (by decide) (by decide)) hN (by omega) hw (fun h9 f9 a9 l9 w9 => hq h9 (((mFr.rf.sI _ (Or.inl ⟨rfl, by decide⟩)).tr (f9.up (by decide) (by decide)))) ?_ ⟨(f9.fI 4 (by decide) (by decide)).trans (hp.trans (by rw [hpa])), ?_, fun _ => ?_, ?_⟩)
        · rw [a9, eE]
        · refine (f9.fI 5 (by decide) (by decide)).trans ?_
          rw [eS]
          rfl
        · rw [l9, eE, hpa]; congr 1; omega
        · rw [w9]; unfold tW; rw [eE, hpa]; congr 2; omega
      · refine wp_iconst (v := (nI 4)) dX12_goOn_97 (by decide +kernel) ?_
        refine wp_goto dX12_goOn_98 ?_
        refine wp_putI dX12_goOn_102 lX12_168 rfl (Or.inl rfl) (mO ht.1) rfl rfl ?_
        refine wp_goto dX12_goOn_105 ?_
        have eS : tS tb N a = 4 := by unfold tS; rw [hpa, if_neg (by omega), if_pos hL1, eE]; first | rw [if_pos (by omega)] | rw [if_neg (by omega)]
        refine goOn_w (k := k) (m := m) (ht.fr (mFr.rf.sI _ (Or.inl ⟨rfl, by decide⟩) : mFr (mP [5] []) _ _) (by decide) (by decide)) hN (by omega) hw (fun h9 f9 a9 l9 w9 => hq h9 (((mFr.rf.sI _ (Or.inl ⟨rfl, by decide⟩)).tr (f9.up (by decide) (by decide)))) ?_ ⟨(f9.fI 4 (by decide) (by decide)).trans (hp.trans (by rw [hpa])), ?_, fun _ => ?_, ?_⟩)
        · rw [a9, eE]
        · refine (f9.fI 5 (by decide) (by decide)).trans ?_
          rw [eS]
          rfl
        · rw [l9, eE, hpa]; congr 1; omega
        · rw [w9]; unfold tW; rw [eE, hpa]; congr 2; omega
    · intro _ _
      refine wp_if_eq dX12_goOn_70 (fun _ => ?_) (fun q => absurd q (by decide +kernel))
      refine wp_aload_n dX12_goOn_108 rfl rfl ?_
      refine wp_iconst (v := (nI 0)) dX12_goOn_109 (by decide +kernel) ?_
      refine wp_cV1 0 0 [some _, some _] dX12_goOn_110 tX12_here rfl (by decide) nX12_here vX12_here lX12_157 ⟨by decide, by decide⟩ (Nat.le_of_ble_eq_true rfl) (mO ht.1) (Nat.le_of_ble_eq_true rfl) rfl ?_
      refine pX12_here ht hN (by omega) ?_
      intro _ _
      refine wp_cS1 0 0 [some _] dX12_goOn_113 tX12_isDigit sX12_isDigit lX12_175 ⟨by decide, by decide⟩ (Nat.le_of_ble_eq_true rfl) (Nat.le_of_ble_eq_true rfl) rfl ?_
      refine pX12_isDigitB (fun b2 => ?_) (fun b2 => ?_)
      · intro _ _
        refine wp_if_eq dX12_goOn_116 (fun q => absurd q (by decide +kernel)) (fun _ => ?_)
        have hkN : k < N := lt_isD (by assumption : isDg (hr tb N (k + 0)) = true)
        refine run119 (N + 1) 0 (by omega) rfl (by omega) (fun m hm hE hx => ?_)
        have hL0 : isLt (tb k) = false := by rw [← hr_lt (tb := tb) hkN]; assumption
        have hL1 : isDg (tb k) = true := by rw [← hr_lt (tb := tb) hkN]; assumption
        have eE : tE tb N a = k + m := by unfold tE; rw [hpa, if_neg (by omega), if_neg (by rw [hL0]; decide), if_pos hL1, hE]
        refine wp_aload_n dX12_goOn_136 rfl rfl ?_
        refine wp_iload_n dX12_goOn_137 rfl rfl ?_
        refine wp_iconst (v := (nI 4)) dX12_goOn_138 (by decide +kernel) ?_
        refine wp_icmp_gtN dX12_goOn_139 rfl rfl ⟨by omega, by omega⟩ (fun c6 => ?_) (fun c6 => ?_)
        · refine wp_iconst (v := (nI 4)) dX12_goOn_153 (by decide +kernel) ?_
          refine wp_goto dX12_goOn_154 ?_
          refine wp_putI dX12_goOn_158 lX12_168 rfl (Or.inl rfl) (mO ht.1) rfl rfl ?_
          refine wp_goto dX12_goOn_161 ?_
          have eS : tS tb N a = 4 := by unfold tS; rw [hpa, if_neg (by omega), if_neg (by rw [hL0]; decide), if_pos hL1, eE]; first | rw [if_pos (Or.inl (by omega))] | rw [if_pos (Or.inr (by assumption))] | rw [if_neg (fun q9 => q9.elim (by omega) (fun q8 => by simp_all))]
          refine goOn_w (k := k) (m := m) (ht.fr (mFr.rf.sI _ (Or.inl ⟨rfl, by decide⟩) : mFr (mP [5] []) _ _) (by decide) (by decide)) hN (by omega) hw (fun h9 f9 a9 l9 w9 => hq h9 (((mFr.rf.sI _ (Or.inl ⟨rfl, by decide⟩)).tr (f9.up (by decide) (by decide)))) ?_ ⟨(f9.fI 4 (by decide) (by decide)).trans (hp.trans (by rw [hpa])), ?_, fun _ => ?_, ?_⟩)
          · rw [a9, eE]
          · refine (f9.fI 5 (by decide) (by decide)).trans ?_
            rw [eS]
            rfl
          · rw [l9, eE, hpa]; congr 1; omega
          · rw [w9]; unfold tW; rw [eE, hpa]; congr 2; omega
        · refine wp_aload_n dX12_goOn_142 rfl rfl ?_
          refine wp_iload_n dX12_goOn_143 rfl rfl ?_
          refine wp_cV1 0 0 [some _, some _] dX12_goOn_144 tX12_here rfl (by decide) nX12_here vX12_here lX12_157 ⟨by decide, by decide⟩ (Nat.le_of_ble_eq_true rfl) (mO ht.1) (Nat.le_of_ble_eq_true rfl) rfl ?_
          refine pX12_here ht hN (by omega) ?_
          intro _ _
          refine wp_cS1 0 0 [some _] dX12_goOn_147 tX12_isLetter sX12_isLetter lX12_171 ⟨by decide, by decide⟩ (Nat.le_of_ble_eq_true rfl) (Nat.le_of_ble_eq_true rfl) rfl ?_
          refine pX12_isLetterB (fun b3 => ?_) (fun b3 => ?_)
          · intro _ _
            refine wp_if_eq dX12_goOn_150 (fun q => absurd q (by decide +kernel)) (fun _ => ?_)
            refine wp_iconst (v := (nI 4)) dX12_goOn_153 (by decide +kernel) ?_
            refine wp_goto dX12_goOn_154 ?_
            refine wp_putI dX12_goOn_158 lX12_168 rfl (Or.inl rfl) (mO ht.1) rfl rfl ?_
            refine wp_goto dX12_goOn_161 ?_
            have eS : tS tb N a = 4 := by unfold tS; rw [hpa, if_neg (by omega), if_neg (by rw [hL0]; decide), if_pos hL1, eE]; first | rw [if_pos (Or.inl (by omega))] | rw [if_pos (Or.inr (by assumption))] | rw [if_neg (fun q9 => q9.elim (by omega) (fun q8 => by simp_all))]
            refine goOn_w (k := k) (m := m) (ht.fr (mFr.rf.sI _ (Or.inl ⟨rfl, by decide⟩) : mFr (mP [5] []) _ _) (by decide) (by decide)) hN (by omega) hw (fun h9 f9 a9 l9 w9 => hq h9 (((mFr.rf.sI _ (Or.inl ⟨rfl, by decide⟩)).tr (f9.up (by decide) (by decide)))) ?_ ⟨(f9.fI 4 (by decide) (by decide)).trans (hp.trans (by rw [hpa])), ?_, fun _ => ?_, ?_⟩)
            · rw [a9, eE]
            · refine (f9.fI 5 (by decide) (by decide)).trans ?_
              rw [eS]
              rfl
            · rw [l9, eE, hpa]; congr 1; omega
            · rw [w9]; unfold tW; rw [eE, hpa]; congr 2; omega
          · intro _ _
            refine wp_if_eq dX12_goOn_150 (fun _ => ?_) (fun q => absurd q (by decide +kernel))
            refine wp_iconst (v := (nI 2)) dX12_goOn_157 (by decide +kernel) ?_
            refine wp_putI dX12_goOn_158 lX12_168 rfl (Or.inl rfl) (mO ht.1) rfl rfl ?_
            refine wp_goto dX12_goOn_161 ?_
            have eS : tS tb N a = 2 := by unfold tS; rw [hpa, if_neg (by omega), if_neg (by rw [hL0]; decide), if_pos hL1, eE]; first | rw [if_pos (Or.inl (by omega))] | rw [if_pos (Or.inr (by assumption))] | rw [if_neg (fun q9 => q9.elim (by omega) (fun q8 => by simp_all))]
            refine goOn_w (k := k) (m := m) (ht.fr (mFr.rf.sI _ (Or.inl ⟨rfl, by decide⟩) : mFr (mP [5] []) _ _) (by decide) (by decide)) hN (by omega) hw (fun h9 f9 a9 l9 w9 => hq h9 (((mFr.rf.sI _ (Or.inl ⟨rfl, by decide⟩)).tr (f9.up (by decide) (by decide)))) ?_ ⟨(f9.fI 4 (by decide) (by decide)).trans (hp.trans (by rw [hpa])), ?_, fun _ => ?_, ?_⟩)
            · rw [a9, eE]
            · refine (f9.fI 5 (by decide) (by decide)).trans ?_
              rw [eS]
              rfl
            · rw [l9, eE, hpa]; congr 1; omega
            · rw [w9]; unfold tW; rw [eE, hpa]; congr 2; omega
      · intro _ _
        refine wp_if_eq dX12_goOn_116 (fun _ => ?_) (fun q => absurd q (by decide +kernel))
        refine wp_aload_n dX12_goOn_164 rfl rfl ?_
        refine wp_aload_n dX12_goOn_165 rfl rfl ?_
        refine wp_iconst (v := (nI 0)) dX12_goOn_166 (by decide +kernel) ?_
        refine wp_cV1 0 0 [some _, some _] dX12_goOn_167 tX12_here rfl (by decide) nX12_here vX12_here lX12_157 ⟨by decide, by decide⟩ (Nat.le_of_ble_eq_true rfl) (mO ht.1) (Nat.le_of_ble_eq_true rfl) rfl ?_
        refine pX12_here ht hN (by omega) ?_
        intro _ _
        refine wp_cS1 0 0 [some _] dX12_goOn_170 tX12_isSign sX12_isSign lX12_178 ⟨by decide, by decide⟩ (Nat.le_of_ble_eq_true rfl) (Nat.le_of_ble_eq_true rfl) rfl ?_
        refine pX12_isSign (fun b4 => ?_) (fun b4 => ?_)
        · intro _ _
          refine wp_if_eq dX12_goOn_173 (fun q => absurd q (by decide +kernel)) (fun _ => ?_)
          refine wp_iconst (v := (nI 3)) dX12_goOn_176 (by decide +kernel) ?_
          refine wp_goto dX12_goOn_177 ?_
          refine wp_putI dX12_goOn_181 lX12_168 rfl (Or.inl rfl) (mO ht.1) rfl rfl ?_
          refine wp_iconst (v := (nI 1)) dX12_goOn_184 (by decide +kernel) ?_
          refine wp_istore_n (ls1 := [_, some _, _]) dX12_goOn_185 rfl (by decide) rfl ?_
          have hkN : k < N := by
            rcases Nat.lt_or_ge k N with q9 | q9
            · exact q9
            · rw [Nat.add_zero, hr_ge q9] at c1
              exact absurd c1 (by decide +kernel)
          have hL0 : isLt (tb k) = false := by rw [← hr_lt (tb := tb) hkN]; assumption
          have hL1 : isDg (tb k) = false := by rw [← hr_lt (tb := tb) hkN]; assumption
          have eE : tE tb N a = k + 1 := by unfold tE; rw [hpa, if_neg (by omega), if_neg (by rw [hL0]; decide), if_neg (by rw [hL1]; decide)]
          have hL3 : isSg (tb k) = true := by rw [← hr_lt (tb := tb) hkN]; assumption
          have eS : tS tb N a = 3 := by unfold tS; rw [hpa, if_neg (by omega), if_neg (by rw [hL0]; decide), if_neg (by rw [hL1]; decide), if_pos hL3]
          refine goOn_w (k := k) (m := 1) (ht.fr (mFr.rf.sI _ (Or.inl ⟨rfl, by decide⟩) : mFr (mP [5] []) _ _) (by decide) (by decide)) hN (by omega) hw (fun h9 f9 a9 l9 w9 => hq h9 (((mFr.rf.sI _ (Or.inl ⟨rfl, by decide⟩)).tr (f9.up (by decide) (by decide)))) ?_ ⟨(f9.fI 4 (by decide) (by decide)).trans (hp.trans (by rw [hpa])), ?_, fun _ => ?_, ?_⟩)
          · rw [a9, eE]
          · refine (f9.fI 5 (by decide) (by decide)).trans ?_
            rw [eS]
            rfl
          · rw [l9, eE, hpa]; congr 1; omega
          · rw [w9]; unfold tW; rw [eE, hpa]; congr 2; omega
        · intro _ _
          refine wp_if_eq dX12_goOn_173 (fun _ => ?_) (fun q => absurd q (by decide +kernel))
          refine wp_iconst (v := (nI 4)) dX12_goOn_180 (by decide +kernel) ?_
          refine wp_putI dX12_goOn_181 lX12_168 rfl (Or.inl rfl) (mO ht.1) rfl rfl ?_
          refine wp_iconst (v := (nI 1)) dX12_goOn_184 (by decide +kernel) ?_
          refine wp_istore_n (ls1 := [_, some _, _]) dX12_goOn_185 rfl (by decide) rfl ?_
          have hkN : k < N := by
            rcases Nat.lt_or_ge k N with q9 | q9
            · exact q9
            · rw [Nat.add_zero, hr_ge q9] at c1
              exact absurd c1 (by decide +kernel)
          have hL0 : isLt (tb k) = false := by rw [← hr_lt (tb := tb) hkN]; assumption
          have hL1 : isDg (tb k) = false := by rw [← hr_lt (tb := tb) hkN]; assumption
          have eE : tE tb N a = k + 1 := by unfold tE; rw [hpa, if_neg (by omega), if_neg (by rw [hL0]; decide), if_neg (by rw [hL1]; decide)]
          have hL3 : isSg (tb k) = false := by rw [← hr_lt (tb := tb) hkN]; assumption
          have eS : tS tb N a = 4 := by unfold tS; rw [hpa, if_neg (by omega), if_neg (by rw [hL0]; decide), if_neg (by rw [hL1]; decide), if_neg (by rw [hL3]; decide)]
          refine goOn_w (k := k) (m := 1) (ht.fr (mFr.rf.sI _ (Or.inl ⟨rfl, by decide⟩) : mFr (mP [5] []) _ _) (by decide) (by decide)) hN (by omega) hw (fun h9 f9 a9 l9 w9 => hq h9 (((mFr.rf.sI _ (Or.inl ⟨rfl, by decide⟩)).tr (f9.up (by decide) (by decide)))) ?_ ⟨(f9.fI 4 (by decide) (by decide)).trans (hp.trans (by rw [hpa])), ?_, fun _ => ?_, ?_⟩)
          · rw [a9, eE]
          · refine (f9.fI 5 (by decide) (by decide)).trans ?_
            rw [eS]
            rfl
          · rw [l9, eE, hpa]; congr 1; omega
          · rw [w9]; unfold tW; rw [eE, hpa]; congr 2; omega
  · have hkN : N ≤ k := by
      rcases Nat.lt_or_ge k N with q9 | q9
      · exfalso
        rw [Nat.add_zero, hr_lt q9] at c1
        obtain ⟨j9, hj9, ej9⟩ := hb k
        rw [ej9, Int32.le_iff_toInt_le, nI_toInt (by omega), Int32.toInt_zero] at c1
        omega
      · exact q9
    have eE0 : tE tb N a = k := by unfold tE; rw [hpa, if_pos hkN]
    have eS0 : tS tb N a = 0 := by unfold tS; rw [hpa, if_pos hkN]
    refine wp_aload_n dX12_goOn_56 rfl rfl ?_
    refine wp_iconst (v := (nI 0)) dX12_goOn_57 (by decide +kernel) ?_
    refine wp_putI dX12_goOn_58 lX12_168 rfl (Or.inl rfl) (mO ht.1) rfl rfl ?_
    refine wp_vreturn dX12_goOn_61 rfl ?_
    refine hq _ (mFr.rf.sI _ (Or.inl ⟨rfl, by decide⟩)) ?_ ⟨?_, ?_, ?_, ?_⟩
    · show hI h 153 3 = _
      rw [ht.2.2.2, eE0]
    · show hI h 153 4 = _
      rw [hp, hpa]
    · rw [eS0]; rfl
    · intro q9; exact absurd eS0 q9
    · show hL h 153 11 = _
      rw [hw]
      unfold tW
      rw [eE0, hpa, Nat.sub_self]
      rfl
