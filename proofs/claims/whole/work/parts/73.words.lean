/-! ===== words of a text ===== -/
def cB (tb : Nat → Int32) (j : Nat) : Nat := nOfI (tb j)
theorem cB_e {tb : Nat → Int32} (h : byt tb) (j : Nat) : tb j = nI (cB tb j) ∧ cB tb j < 256 := by
  obtain ⟨c, hc, e⟩ := h j
  unfold cB
  rw [e, nOfI_nI (by omega)]
  exact ⟨rfl, hc⟩
def wN (tb : Nat → Int32) (k : Nat) : Nat → Nat
  | 0 => 0
  | i + 1 => wN tb k i * 256 + cB tb (k + i)
theorem wN_bd {tb : Nat → Int32} {k : Nat} : ∀ n, (∀ i, i < n + 1 → cB tb (k + i) < 128) → 0 < cB tb k → 256 ^ n ≤ wN tb k (n + 1) ∧ wN tb k (n + 1) < 128 * 256 ^ n ∧ wN tb k (n + 1) / 256 ^ n = cB tb k
  | 0, h, h0 => by
    have := h 0 (by omega)
    show 1 ≤ 0 * 256 + cB tb (k + 0) ∧ 0 * 256 + cB tb (k + 0) < 128 * 1 ∧ (0 * 256 + cB tb (k + 0)) / 1 = _
    rw [Nat.add_zero] at *
    omega
  | n + 1, h, h0 => by
    have ih := wN_bd n (fun i hi => h i (by omega)) h0
    have h1 := h (n + 1) (by omega)
    show 256 ^ (n + 1) ≤ wN tb k (n + 1) * 256 + cB tb (k + (n + 1)) ∧ wN tb k (n + 1) * 256 + cB tb (k + (n + 1)) < _ ∧ (wN tb k (n + 1) * 256 + cB tb (k + (n + 1))) / _ = _
    rw [Nat.pow_succ]
    refine ⟨by omega, by omega, ?_⟩
    rw [Nat.mul_comm (256 ^ n) 256, ← Nat.div_div_eq_div_mul, show (wN tb k (n + 1) * 256 + cB tb (k + (n + 1))) / 256 = wN tb k (n + 1) by omega]
    exact ih.2.2
theorem wd_N {tb : Nat → Int32} {k : Nat} (hb : byt tb) : ∀ n, n ≤ 8 → (∀ i, i < n → cB tb (k + i) < 128) → wd tb k n = lN (wN tb k n) ∧ wN tb k n < 256 ^ n
  | 0, _, _ => ⟨rfl, (by decide : 0 < 1)⟩
  | n + 1, hn, h => by
    have ih := wd_N hb n (by omega) (fun i hi => h i (by omega))
    have h1 := h n (by omega)
    have h2 : 256 ^ n ≤ 256 ^ 7 := Nat.pow_le_pow_right (by decide) (by omega)
    have h3 : 256 ^ 7 = 72057594037927936 := by decide
    refine ⟨?_, ?_⟩
    · show (wd tb k n <<< ((nI 8).toInt64 &&& 63)) ||| (tb (k + n)).toInt64 = _
      rw [ih.1, (cB_e hb (k + n)).1, l_sh8 (by omega) (by omega)]
      rfl
    · show wN tb k n * 256 + cB tb (k + n) < _
      rw [Nat.pow_succ]
      omega
theorem sh8 : ∀ k, k < 8 → (((nI 8 * nI k).toInt64 &&& 63).toBitVec.smod 64).toNat = 8 * k := by decide +kernel
theorem lshr63 {a d : Nat} {D : Int64} (h : a < 9223372036854775808) (hD : (D.toBitVec.smod 64).toNat = d) : lN a >>> D = lN (a / 2 ^ d) := by
  have hd : a / 2 ^ d ≤ a := Nat.div_le_self _ _
  apply Int64.toInt_inj.mp
  have e : (lN a >>> D).toInt = (lN a).toInt >>> d := by
    rw [← hD]
    exact BitVec.toInt_sshiftRight ..
  rw [e, Int.shiftRight_eq_div_pow, pf_lI (by omega), pf_lI (by omega)]
  rfl
theorem shB_N {x k : Nat} (hx : x < 9223372036854775808) (hk : k < 8) : shB (lN x) k = lN (x / 256 ^ k) := by
  unfold shB
  have e : 256 ^ k = 2 ^ (8 * k) := by rw [Nat.pow_mul]
  rw [e]
  exact lshr63 hx (sh8 k hk)
theorem bNf_N {x n : Nat} (hx : x < 9223372036854775808) (h1 : 256 ^ n ≤ x) (h2 : x < 256 ^ (n + 1)) (hn : n < 8) : ∀ m k, k ≤ n + 1 → k + m = 8 → bNf (lN x) m k = n + 1
  | 0, k, hk, hm => by
    show k = n + 1
    omega
  | m + 1, k, hk, hm => by
    unfold bNf
    rw [shB_N hx (by omega)]
    have hq : x / 256 ^ k < 9223372036854775808 := Nat.lt_of_le_of_lt (Nat.div_le_self _ _) hx
    by_cases c : k = n + 1
    · rw [if_pos]
      · exact c
      · rw [c, Nat.div_eq_of_lt h2]
        rfl
    · have h3 : 256 ^ k ≤ x := Nat.le_trans (Nat.pow_le_pow_right (by decide) (by omega)) h1
      rw [if_neg]
      · exact bNf_N hx h1 h2 hn m (k + 1) (by omega) (by omega)
      · intro z
        have z2 : x / 256 ^ k = 0 := (pk_lEQ (b := 0) hq (by decide)).mp z
        have := Nat.div_pos h3 (Nat.pow_pos (by decide))
        omega
theorem l255 {x : Nat} (hx : x < 9223372036854775808) : (lN x &&& 255).toInt32 = nI (x % 256) := by
  rw [show (255 : Int64) = lN (2 ^ 8 - 1) by decide +kernel, wb_mask (by omega) (by decide), lN_i]
/-- a word of n + 1 bytes below 128: its first byte, its last -/
theorem word_N {tb : Nat → Int32} {k n : Nat} (hb : byt tb) (hn : n < 8) (h : ∀ i, i < n + 1 → cB tb (k + i) < 128) (h0 : 0 < cB tb k) : 0 < (wd tb k (n + 1)).toInt ∧ fB (wd tb k (n + 1)) = nI (cB tb k) ∧ (wd tb k (n + 1) &&& 255).toInt32 = nI (cB tb (k + n)) := by
  have h1 := wN_bd n h h0
  have h2 := (wd_N hb (n + 1) (by omega) h).1
  have h3 : 256 ^ n ≤ 256 ^ 7 := Nat.pow_le_pow_right (by decide) (by omega)
  have h4 : 256 ^ 7 = 72057594037927936 := by decide
  have h5 : 0 < 256 ^ n := Nat.pow_pos (by decide)
  have hx : wN tb k (n + 1) < 9223372036854775808 := by omega
  have hbn : bN (wd tb k (n + 1)) = n + 1 := by
    rw [h2]
    exact bNf_N hx h1.1 (by rw [Nat.pow_succ]; omega) hn 8 0 (by omega) (by omega)
  refine ⟨?_, ?_, ?_⟩
  · rw [h2, pf_lI (by omega)]
    omega
  · unfold fB
    rw [hbn, pk_sub (by omega), show n + 1 - 1 = n by omega, h2]
    have e := shB_N hx hn
    unfold shB at e
    rw [e, h1.2.2, l255 (by have := h 0 (by omega); rw [Nat.add_zero] at this; omega), Nat.mod_eq_of_lt (by have := h 0 (by omega); rw [Nat.add_zero] at this; omega)]
  · rw [h2, l255 hx]
    congr 1
    show (wN tb k n * 256 + cB tb (k + n)) % 256 = _
    have := h n (by omega)
    omega
theorem lt_c {c : Nat} (hc : c < 256) : isLt (nI c) = true ↔ 97 ≤ c ∧ c ≤ 122 := by
  unfold isLt
  rw [decide_eq_true_iff, nI_leI (by omega) (by omega), nI_leI (by omega) (by omega)]
theorem dg_c {c : Nat} (hc : c < 256) : isDg (nI c) = true ↔ 48 ≤ c ∧ c ≤ 57 := by
  unfold isDg
  rw [decide_eq_true_iff, nI_leI (by omega) (by omega), nI_leI (by omega) (by omega)]
theorem sg_c {c : Nat} (hc : c < 256) (h : isSg (nI c) = true) : 0 < c ∧ c < 128 ∧ ¬ (97 ≤ c ∧ c ≤ 122) ∧ ¬ (48 ≤ c ∧ c ≤ 57) := by
  have := of_decide_eq_true h
  simp only [nI_eq (show c < 2 ^ 31 by omega) (show (46 : Nat) < 2 ^ 31 by decide), nI_eq (show c < 2 ^ 31 by omega) (show (58 : Nat) < 2 ^ 31 by decide), nI_eq (show c < 2 ^ 31 by omega) (show (44 : Nat) < 2 ^ 31 by decide), nI_eq (show c < 2 ^ 31 by omega) (show (45 : Nat) < 2 ^ 31 by decide), nI_eq (show c < 2 ^ 31 by omega) (show (47 : Nat) < 2 ^ 31 by decide), nI_eq (show c < 2 ^ 31 by omega) (show (35 : Nat) < 2 ^ 31 by decide), nI_eq (show c < 2 ^ 31 by omega) (show (61 : Nat) < 2 ^ 31 by decide), nI_eq (show c < 2 ^ 31 by omega) (show (43 : Nat) < 2 ^ 31 by decide), nI_eq (show c < 2 ^ 31 by omega) (show (59 : Nat) < 2 ^ 31 by decide)] at this
  omega
theorem kd_c {w : Int64} {c : Nat} (hc : c < 256) (h : fB w = nI c) : kd w = if 97 ≤ c ∧ c ≤ 122 then 0 else if 48 ≤ c ∧ c ≤ 57 then 1 else 2 := by
  unfold kd
  simp only [h, nI_leI (show 97 < 2 ^ 31 by decide) (show c < 2 ^ 31 by omega), nI_leI (show c < 2 ^ 31 by omega) (show 122 < 2 ^ 31 by decide), nI_leI (show 48 < 2 ^ 31 by decide) (show c < 2 ^ 31 by omega), nI_leI (show c < 2 ^ 31 by omega) (show 57 < 2 ^ 31 by decide)]
theorem kdL_c {w : Int64} {c : Nat} (hc : c < 256) (h : (w &&& 255).toInt32 = nI c) : kdL w = if 97 ≤ c ∧ c ≤ 122 then 0 else if 48 ≤ c ∧ c ≤ 57 then 1 else 2 := by
  unfold kdL
  simp only [h, nI_leI (show 97 < 2 ^ 31 by decide) (show c < 2 ^ 31 by omega), nI_leI (show c < 2 ^ 31 by omega) (show 122 < 2 ^ 31 by decide), nI_leI (show 48 < 2 ^ 31 by decide) (show c < 2 ^ 31 by omega), nI_leI (show c < 2 ^ 31 by omega) (show 57 < 2 ^ 31 by decide)]
theorem rnF_all {P : Nat → Bool} : ∀ m a j, a ≤ j → j < rnF P m a → P j = true
  | 0, a, j, h1, h2 => by
    have h2 : j < a := h2
    omega
  | m + 1, a, j, h1, h2 => by
    unfold rnF at h2
    split at h2
    · rename_i c
      by_cases e : j = a
      · rw [e]
        exact c
      · exact rnF_all m (a + 1) j (by omega) h2
    · omega
/-- tokens that stand on a page are good words -/
theorem tok_good {tb : Nat → Int32} {N a : Nat} (hb : byt tb) (h : isPT tb N a = true) : goodW (tW tb N a) := by
  have hS : tS tb N a = 1 ∨ tS tb N a = 2 ∨ tS tb N a = 3 := by
    rcases of_decide_eq_true h with z | z | z
    · exact Or.inl z.1
    · exact Or.inr (Or.inl z)
    · exact Or.inr (Or.inr z.1)
  have hN : tP tb N a < N := Nat.lt_of_not_le (fun z => by
    have : tS tb N a = 0 := by
      unfold tS
      rw [if_pos z]
    omega)
  have hc := cB_e hb
  have run : ∀ (P : Int32 → Bool), P (tb (tP tb N a)) = true → ∀ j, tP tb N a ≤ j → j < rn P tb N (tP tb N a) → P (tb j) = true := fun P _ j h1 h2 => by
    have h3 := rnF_all _ _ _ h1 h2
    have h4 := (rn_ge (P := P) (tb := tb) (N := N) (a := tP tb N a) (by omega)).2
    rw [hr_lt (by omega)] at h3
    exact h3
  by_cases cL : isLt (tb (tP tb N a)) = true
  · have eE : tE tb N a = rn isLt tb N (tP tb N a) := by
      unfold tE
      rw [if_neg (by omega), if_pos cL]
    have eS : tS tb N a = if 8 < tE tb N a - tP tb N a then 4 else 1 := by
      unfold tS
      rw [if_neg (by omega), if_pos cL]
    have hlen : tE tb N a - tP tb N a ≤ 8 := by
      rcases Nat.lt_or_ge 8 (tE tb N a - tP tb N a) with z | z
      · rw [if_pos z] at eS
        omega
      · exact z
    have hpos : tP tb N a < tE tb N a := by
      rw [eE]
      exact rnF_pos (P := fun k => isLt (hr tb N k)) (by rw [hr_lt (by omega)]; exact cL) (by omega)
    have hl : ∀ i, i < tE tb N a - tP tb N a → 97 ≤ cB tb (tP tb N a + i) ∧ cB tb (tP tb N a + i) ≤ 122 := fun i hi => by
      have := run isLt cL (tP tb N a + i) (by omega) (by rw [← eE]; omega)
      rw [(hc _).1] at this
      exact (lt_c (hc _).2).mp this
    obtain ⟨n, en⟩ : ∃ n, tE tb N a - tP tb N a = n + 1 := ⟨tE tb N a - tP tb N a - 1, by omega⟩
    have ew : tW tb N a = wd tb (tP tb N a) (n + 1) := by
      unfold tW
      rw [Nat.min_eq_left (by omega), en]
    have h0 := hl 0 (by omega)
    have hn := hl n (by omega)
    rw [Nat.add_zero] at h0
    have hw := word_N (k := tP tb N a) hb (show n < 8 by omega) (fun i hi => by have := hl i (by omega); omega) (by omega)
    rw [ew]
    refine ⟨hw.1, ?_⟩
    rw [kd_c (by omega) hw.2.1, kdL_c (by omega) hw.2.2, if_pos h0, if_pos hn]
  · by_cases cD : isDg (tb (tP tb N a)) = true
    · have eE : tE tb N a = rn isDg tb N (tP tb N a) := by
        unfold tE
        rw [if_neg (by omega), if_neg cL, if_pos cD]
      have eS : tS tb N a = if 4 < tE tb N a - tP tb N a ∨ isLt (hr tb N (tE tb N a)) = true then 4 else 2 := by
        unfold tS
        rw [if_neg (by omega), if_neg cL, if_pos cD]
      have hlen : tE tb N a - tP tb N a ≤ 4 := by
        rcases Nat.lt_or_ge 4 (tE tb N a - tP tb N a) with z | z
        · rw [if_pos (Or.inl z)] at eS
          omega
        · exact z
      have hpos : tP tb N a < tE tb N a := by
        rw [eE]
        exact rnF_pos (P := fun k => isDg (hr tb N k)) (by rw [hr_lt (by omega)]; exact cD) (by omega)
      have hl : ∀ i, i < tE tb N a - tP tb N a → 48 ≤ cB tb (tP tb N a + i) ∧ cB tb (tP tb N a + i) ≤ 57 := fun i hi => by
        have := run isDg cD (tP tb N a + i) (by omega) (by rw [← eE]; omega)
        rw [(hc _).1] at this
        exact (dg_c (hc _).2).mp this
      obtain ⟨n, en⟩ : ∃ n, tE tb N a - tP tb N a = n + 1 := ⟨tE tb N a - tP tb N a - 1, by omega⟩
      have ew : tW tb N a = wd tb (tP tb N a) (n + 1) := by
        unfold tW
        rw [Nat.min_eq_left (by omega), en]
      have h0 := hl 0 (by omega)
      have hn := hl n (by omega)
      rw [Nat.add_zero] at h0
      have hw := word_N (k := tP tb N a) hb (show n < 8 by omega) (fun i hi => by have := hl i (by omega); omega) (by omega)
      rw [ew]
      refine ⟨hw.1, ?_⟩
      rw [kd_c (by omega) hw.2.1, kdL_c (by omega) hw.2.2, if_neg (by omega), if_pos h0, if_neg (by omega), if_pos hn]
    · have eE : tE tb N a = tP tb N a + 1 := by
        unfold tE
        rw [if_neg (by omega), if_neg cL, if_neg cD]
      have eS : tS tb N a = if isSg (tb (tP tb N a)) = true then 3 else 4 := by
        unfold tS
        rw [if_neg (by omega), if_neg cL, if_neg cD]
      have cS : isSg (tb (tP tb N a)) = true := by
        refine Classical.byContradiction (fun z => ?_)
        rw [if_neg z] at eS
        omega
      have h9 := (hc (tP tb N a))
      rw [h9.1] at cS
      have h0 := sg_c h9.2 cS
      have ew : tW tb N a = wd tb (tP tb N a) (0 + 1) := by
        unfold tW
        rw [Nat.min_eq_left (by omega), show tE tb N a - tP tb N a = 0 + 1 by omega]
      have hw := word_N (n := 0) hb (by omega) (fun i hi => by rw [show i = 0 by omega, Nat.add_zero]; omega) h0.1
      rw [ew]
      refine ⟨hw.1, ?_⟩
      rw [kd_c h9.2 hw.2.1, kdL_c (by rw [Nat.add_zero]; exact h9.2) hw.2.2, Nat.add_zero]
