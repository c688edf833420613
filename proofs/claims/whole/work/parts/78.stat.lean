/-! ===== the class's static methods ===== -/
theorem bcs {n k : Nat} (hn : n < 2 ^ 64) (hk : k < 64) : ((lN n).toUInt64 >>> ((nI k).toInt64.toUInt64 &&& Int64.toUInt64 63)).toInt64 = lN (n / 2 ^ k) := wb_shr hn hk
theorem bc1 {n : Nat} (hn : n < 2 ^ 64) (h : n / 2 &&& 6148914691236517205 ≤ n) : lN n - (((lN n).toUInt64 >>> ((nI 1).toInt64.toUInt64 &&& Int64.toUInt64 63)).toInt64 &&& 6148914691236517205) = lN (n - (n / 2 &&& 6148914691236517205)) := by
  rw [wb_shr hn (by decide), show (6148914691236517205 : Int64) = lN 6148914691236517205 from rfl, wb_and (Nat.lt_of_le_of_lt (Nat.div_le_self _ _) hn) (by decide), show n / 2 ^ 1 = n / 2 from rfl, lN_sub h]
theorem bc2 {n : Nat} (hn : n < 2 ^ 64) : (lN n &&& 3689348814741910323) + (((lN n).toUInt64 >>> ((nI 2).toInt64.toUInt64 &&& Int64.toUInt64 63)).toInt64 &&& 3689348814741910323) = lN ((n &&& 3689348814741910323) + (n / 4 &&& 3689348814741910323)) := by
  rw [wb_shr hn (by decide), show (3689348814741910323 : Int64) = lN 3689348814741910323 from rfl, wb_and hn (by decide), wb_and (Nat.lt_of_le_of_lt (Nat.div_le_self _ _) hn) (by decide), lN_add]
theorem bc3 {n : Nat} (hn : n < 2 ^ 64) (h : n + n / 16 < 2 ^ 64) : (lN n + ((lN n).toUInt64 >>> ((nI 4).toInt64.toUInt64 &&& Int64.toUInt64 63)).toInt64) &&& 1085102592571150095 = lN ((n + n / 16) &&& 1085102592571150095) := by
  rw [wb_shr hn (by decide), show (1085102592571150095 : Int64) = lN 1085102592571150095 from rfl, lN_add, wb_and h (by decide)]
theorem bc4 {n k : Nat} (hn : n < 2 ^ 64) (hk : k < 64) : lN n + ((lN n).toUInt64 >>> ((nI k).toInt64.toUInt64 &&& Int64.toUInt64 63)).toInt64 = lN (n + n / 2 ^ k) := by rw [wb_shr hn hk, lN_add]
theorem low_eq {n : Nat} (hn : n < 2 ^ 63) : (lN n &&& -(lN n)) - 1 = lN (2 ^ lwB n - 1) := by
  by_cases e : n = 0
  · subst e
    rw [lwB_0]
    decide +kernel
  · obtain ⟨a, m, hm⟩ := odd_of n e
    have h64 : n < 2 ^ 64 := by omega
    have ha : a < 63 := (odd_lt (by rw [← hm]; exact hn)).1
    rw [lN_neg (by omega) h64, wb_and h64 (by omega)]
    rw [hm] at h64 ⊢
    rw [low_and h64, lwB_odd (by omega), show (1 : Int64) = lN 1 from rfl, lN_sub (Nat.two_pow_pos a)]
theorem ix_lt0 {x : Int32} {n : Nat} (h : x < 0) : ix x n = none := by
  unfold ix
  have h0 : (0 : Int32).toInt = 0 := by decide
  rw [Int32.lt_iff_toInt_lt] at h
  exact if_neg (by omega)
theorem ix_ge {x : Int32} {n : Nat} (hn : n < 2147483648) (h : nI n ≤ x) : ix x n = none := by
  unfold ix
  rw [Int32.le_iff_toInt_le, nI_toInt hn] at h
  exact if_neg (by omega)
theorem ix_gt {x : Int32} {n : Nat} (hn : n < 2147483647) (h : nI n < x) : ix x (n + 1) = none := by
  unfold ix
  rw [Int32.lt_iff_toInt_lt, nI_toInt (by omega)] at h
  exact if_neg (by omega)
theorem ix_pos {x : Int32} {n : Nat} (hn : n < 2147483648) (h1 : ¬ x < 0) (h2 : ¬ nI n ≤ x) : ∃ j, j < n ∧ x = nI j := by
  rcases pk_ix x hn with z | z | z
  · exact absurd z h1
  · exact absurd z h2
  · exact z
theorem ix_le {x : Int32} {n : Nat} (hn : n < 2147483647) (h1 : ¬ x < 0) (h2 : x ≤ nI n) : ∃ j, j < n + 1 ∧ x = nI j := by
  refine ix_pos (by omega) h1 (fun z => ?_)
  rw [Int32.le_iff_toInt_le, nI_toInt (by omega)] at z h2
  omega
theorem ix_lt {x : Int32} {n : Nat} (hn : n < 2147483648) (h1 : ¬ x < 0) (h2 : x < nI n) : ∃ j, j < n ∧ x = nI j := ix_pos hn h1 (fun z => by
  rw [Int32.lt_iff_toInt_lt] at h2
  rw [Int32.le_iff_toInt_le] at z
  omega)
theorem ix_nle {x : Int32} {n : Nat} (hn : n < 2147483647) (h : ¬ x ≤ nI n) : ix x (n + 1) = none := ix_gt hn (by
  rw [Int32.le_iff_toInt_le] at h
  rw [Int32.lt_iff_toInt_lt]
  omega)
theorem ix_nlt {x : Int32} {n : Nat} (hn : n < 2147483648) (h : ¬ x < nI n) : ix x n = none := ix_ge hn (by
  rw [Int32.lt_iff_toInt_lt] at h
  rw [Int32.le_iff_toInt_le]
  omega)
theorem ix_pos1 {x : Int32} {n : Nat} (hn : n < 2147483647) (h1 : ¬ x < 0) (h2 : ¬ nI n < x) : ∃ j, j < n + 1 ∧ x = nI j := by
  refine ix_pos (by omega) h1 (fun z => h2 ?_)
  rw [Int32.le_iff_toInt_le, nI_toInt (by omega)] at z
  rw [Int32.lt_iff_toInt_lt, nI_toInt (by omega)]
  omega
theorem i_nle {x y : Int32} (h : x < y) : ¬ y ≤ x := by
  rw [Int32.lt_iff_toInt_lt] at h
  rw [Int32.le_iff_toInt_le]
  omega
theorem i_le {x y : Int32} (h : ¬ x < y) : y ≤ x := by
  rw [Int32.lt_iff_toInt_lt] at h
  rw [Int32.le_iff_toInt_le]
  omega
set_option maxRecDepth 20000 in
theorem pJ13_bitCount_95d88 {h : mH} {Q : Option Value → mH → Prop} {n : Nat} (hn : n < 2 ^ 64) (hq : Q (some (.int (nI (pop n)))) h) : Wp mJ13_bitCount_95d88 0 0 0 [some (.long (lN n)), none] [] h Q := by
  obtain ⟨y1, y2, e1, l1, e2, e3, b1, b2, b3⟩ := w3_e hn
  obtain ⟨g1, g2, g3, q1, q2, q3, q4, r3, r2, r1, r0⟩ := w3_sum n
  refine wp_lload_n dJ13_bitCount_95d88_0 rfl rfl ?_
  refine wp_lload_n dJ13_bitCount_95d88_1 rfl rfl ?_
  refine wp_iconst (v := (nI 1)) dJ13_bitCount_95d88_2 (by decide +kernel) ?_
  refine wp_lushr dJ13_bitCount_95d88_3 ?_
  refine wp_ldc2 dJ13_bitCount_95d88_4 lJ13_314 ?_
  refine wp_land dJ13_bitCount_95d88_7 ?_
  refine wp_lsub dJ13_bitCount_95d88_8 ?_
  rw [bc1 hn l1, ← e1]
  refine wp_lstore_n (ls1 := [some _, _]) dJ13_bitCount_95d88_9 rfl (by decide) rfl ?_
  refine wp_lload_n dJ13_bitCount_95d88_10 rfl rfl ?_
  refine wp_ldc2 dJ13_bitCount_95d88_11 lJ13_316 ?_
  refine wp_land dJ13_bitCount_95d88_14 ?_
  refine wp_lload_n dJ13_bitCount_95d88_15 rfl rfl ?_
  refine wp_iconst (v := (nI 2)) dJ13_bitCount_95d88_16 (by decide +kernel) ?_
  refine wp_lushr dJ13_bitCount_95d88_17 ?_
  refine wp_ldc2 dJ13_bitCount_95d88_18 lJ13_316 ?_
  refine wp_land dJ13_bitCount_95d88_21 ?_
  refine wp_ladd dJ13_bitCount_95d88_22 ?_
  rw [bc2 b1, ← e2]
  refine wp_lstore_n (ls1 := [some _, _]) dJ13_bitCount_95d88_23 rfl (by decide) rfl ?_
  refine wp_lload_n dJ13_bitCount_95d88_24 rfl rfl ?_
  refine wp_lload_n dJ13_bitCount_95d88_25 rfl rfl ?_
  refine wp_iconst (v := (nI 4)) dJ13_bitCount_95d88_26 (by decide +kernel) ?_
  refine wp_lushr dJ13_bitCount_95d88_27 ?_
  refine wp_ladd dJ13_bitCount_95d88_28 ?_
  refine wp_ldc2 dJ13_bitCount_95d88_29 lJ13_318 ?_
  refine wp_land dJ13_bitCount_95d88_32 ?_
  rw [bc3 b2 b3, e3]
  refine wp_lstore_n (ls1 := [some _, _]) dJ13_bitCount_95d88_33 rfl (by decide) rfl ?_
  refine wp_lload_n dJ13_bitCount_95d88_34 rfl rfl ?_
  refine wp_lload_n dJ13_bitCount_95d88_35 rfl rfl ?_
  refine wp_bipush (v := (nI 8)) dJ13_bitCount_95d88_36 (by decide +kernel) ?_
  refine wp_lushr dJ13_bitCount_95d88_38 ?_
  refine wp_ladd dJ13_bitCount_95d88_39 ?_
  rw [bc4 r0 (by decide), show (2 : Nat) ^ 8 = 256 from rfl, ← q1]
  refine wp_lstore_n (ls1 := [some _, _]) dJ13_bitCount_95d88_40 rfl (by decide) rfl ?_
  refine wp_lload_n dJ13_bitCount_95d88_41 rfl rfl ?_
  refine wp_lload_n dJ13_bitCount_95d88_42 rfl rfl ?_
  refine wp_bipush (v := (nI 16)) dJ13_bitCount_95d88_43 (by decide +kernel) ?_
  refine wp_lushr dJ13_bitCount_95d88_45 ?_
  refine wp_ladd dJ13_bitCount_95d88_46 ?_
  rw [bc4 r1 (by decide), show (2 : Nat) ^ 16 = 65536 from rfl, ← q2]
  refine wp_lstore_n (ls1 := [some _, _]) dJ13_bitCount_95d88_47 rfl (by decide) rfl ?_
  refine wp_lload_n dJ13_bitCount_95d88_48 rfl rfl ?_
  refine wp_lload_n dJ13_bitCount_95d88_49 rfl rfl ?_
  refine wp_bipush (v := (nI 32)) dJ13_bitCount_95d88_50 (by decide +kernel) ?_
  refine wp_lushr dJ13_bitCount_95d88_52 ?_
  refine wp_ladd dJ13_bitCount_95d88_53 ?_
  rw [bc4 r2 (by decide), show (2 : Nat) ^ 32 = 4294967296 from rfl, ← q3]
  refine wp_lstore_n (ls1 := [some _, _]) dJ13_bitCount_95d88_54 rfl (by decide) rfl ?_
  refine wp_lload_n dJ13_bitCount_95d88_55 rfl rfl ?_
  refine wp_l2i dJ13_bitCount_95d88_56 ?_
  refine wp_bipush (v := (nI 127)) dJ13_bitCount_95d88_57 (by decide +kernel) ?_
  refine wp_iand dJ13_bitCount_95d88_59 ?_
  rw [lN_i, nx_and, show (127 : Nat) = 2 ^ 7 - 1 from rfl, Nat.and_two_pow_sub_one_eq_mod, show (2 : Nat) ^ 7 = 128 from rfl, q4, popN_e]
  refine wp_ireturn dJ13_bitCount_95d88_60 rfl ?_
  exact hq
def ic1 (x : Int32) : Int32 := (x - (((x).toUInt32 >>> ((nI 1).toUInt32 &&& Int32.toUInt32 31)).toInt32 &&& 1431655765))
def ic2 (x : Int32) : Int32 := ((x &&& 858993459) + (((x).toUInt32 >>> ((nI 2).toUInt32 &&& Int32.toUInt32 31)).toInt32 &&& 858993459))
def ic3 (x : Int32) : Int32 := ((x + ((x).toUInt32 >>> ((nI 4).toUInt32 &&& Int32.toUInt32 31)).toInt32) &&& 252645135)
def ic4 (x : Int32) : Int32 := (x + ((x).toUInt32 >>> ((nI 8).toUInt32 &&& Int32.toUInt32 31)).toInt32)
def ic5 (x : Int32) : Int32 := (x + ((x).toUInt32 >>> ((nI 16).toUInt32 &&& Int32.toUInt32 31)).toInt32)
theorem icb : ∀ s, s < 64 → (ic5 (ic4 (ic3 (ic2 (ic1 (nI s)))))) &&& nI 63 = nI (pcb s) := by decide +kernel
set_option maxRecDepth 20000 in
theorem pJ6_bitCount_0f7a4 {h : mH} {Q : Option Value → mH → Prop} {s : Nat} (hs : s < 64) (hq : Q (some (.int (nI (pcb s)))) h) : Wp mJ6_bitCount_0f7a4 0 0 0 [some (.int (nI s))] [] h Q := by
  refine wp_iload_n dJ6_bitCount_0f7a4_0 rfl rfl ?_
  refine wp_iload_n dJ6_bitCount_0f7a4_1 rfl rfl ?_
  refine wp_iconst (v := (nI 1)) dJ6_bitCount_0f7a4_2 (by decide +kernel) ?_
  refine wp_iushr dJ6_bitCount_0f7a4_3 ?_
  refine wp_ldcw dJ6_bitCount_0f7a4_4 lJ6_265 ?_
  refine wp_iand dJ6_bitCount_0f7a4_7 ?_
  refine wp_isub dJ6_bitCount_0f7a4_8 ?_
  refine Eq.mp (congrArg (fun z9 => Wp _ _ _ _ _ [.int z9] h Q) (rfl : ic1 (nI s) = _)) ?_
  refine wp_istore_n (ls1 := [some _]) dJ6_bitCount_0f7a4_9 rfl (by decide) rfl ?_
  refine wp_iload_n dJ6_bitCount_0f7a4_10 rfl rfl ?_
  refine wp_ldcw dJ6_bitCount_0f7a4_11 lJ6_266 ?_
  refine wp_iand dJ6_bitCount_0f7a4_14 ?_
  refine wp_iload_n dJ6_bitCount_0f7a4_15 rfl rfl ?_
  refine wp_iconst (v := (nI 2)) dJ6_bitCount_0f7a4_16 (by decide +kernel) ?_
  refine wp_iushr dJ6_bitCount_0f7a4_17 ?_
  refine wp_ldcw dJ6_bitCount_0f7a4_18 lJ6_266 ?_
  refine wp_iand dJ6_bitCount_0f7a4_21 ?_
  refine wp_iadd dJ6_bitCount_0f7a4_22 ?_
  refine Eq.mp (congrArg (fun z9 => Wp _ _ _ _ _ [.int z9] h Q) (rfl : ic2 (ic1 (nI s)) = _)) ?_
  refine wp_istore_n (ls1 := [some _]) dJ6_bitCount_0f7a4_23 rfl (by decide) rfl ?_
  refine wp_iload_n dJ6_bitCount_0f7a4_24 rfl rfl ?_
  refine wp_iload_n dJ6_bitCount_0f7a4_25 rfl rfl ?_
  refine wp_iconst (v := (nI 4)) dJ6_bitCount_0f7a4_26 (by decide +kernel) ?_
  refine wp_iushr dJ6_bitCount_0f7a4_27 ?_
  refine wp_iadd dJ6_bitCount_0f7a4_28 ?_
  refine wp_ldcw dJ6_bitCount_0f7a4_29 lJ6_267 ?_
  refine wp_iand dJ6_bitCount_0f7a4_32 ?_
  refine Eq.mp (congrArg (fun z9 => Wp _ _ _ _ _ [.int z9] h Q) (rfl : ic3 (ic2 (ic1 (nI s))) = _)) ?_
  refine wp_istore_n (ls1 := [some _]) dJ6_bitCount_0f7a4_33 rfl (by decide) rfl ?_
  refine wp_iload_n dJ6_bitCount_0f7a4_34 rfl rfl ?_
  refine wp_iload_n dJ6_bitCount_0f7a4_35 rfl rfl ?_
  refine wp_bipush (v := (nI 8)) dJ6_bitCount_0f7a4_36 (by decide +kernel) ?_
  refine wp_iushr dJ6_bitCount_0f7a4_38 ?_
  refine wp_iadd dJ6_bitCount_0f7a4_39 ?_
  refine Eq.mp (congrArg (fun z9 => Wp _ _ _ _ _ [.int z9] h Q) (rfl : ic4 (ic3 (ic2 (ic1 (nI s)))) = _)) ?_
  refine wp_istore_n (ls1 := [some _]) dJ6_bitCount_0f7a4_40 rfl (by decide) rfl ?_
  refine wp_iload_n dJ6_bitCount_0f7a4_41 rfl rfl ?_
  refine wp_iload_n dJ6_bitCount_0f7a4_42 rfl rfl ?_
  refine wp_bipush (v := (nI 16)) dJ6_bitCount_0f7a4_43 (by decide +kernel) ?_
  refine wp_iushr dJ6_bitCount_0f7a4_45 ?_
  refine wp_iadd dJ6_bitCount_0f7a4_46 ?_
  refine Eq.mp (congrArg (fun z9 => Wp _ _ _ _ _ [.int z9] h Q) (rfl : ic5 (ic4 (ic3 (ic2 (ic1 (nI s))))) = _)) ?_
  refine wp_istore_n (ls1 := [some _]) dJ6_bitCount_0f7a4_47 rfl (by decide) rfl ?_
  refine wp_iload_n dJ6_bitCount_0f7a4_48 rfl rfl ?_
  refine wp_bipush (v := (nI 63)) dJ6_bitCount_0f7a4_49 (by decide +kernel) ?_
  refine wp_iand dJ6_bitCount_0f7a4_51 ?_
  rw [icb s hs]
  refine wp_ireturn dJ6_bitCount_0f7a4_52 rfl ?_
  exact hq
set_option maxRecDepth 20000 in
theorem pJ9_max_7cf53 {h : mH} {Q : Option Value → mH → Prop} {x y : Nat} (hx : x < 2147483648) (hy : y < 2147483648) (hq : Q (some (.int (nI (max x y)))) h) : Wp mJ9_max_7cf53 0 0 0 [some (.int (nI x)), some (.int (nI y))] [] h Q := by
  have hz : ∀ z, max x y = z → Q (some (.int (nI z))) h := fun z e => e ▸ hq
  refine wp_iload_n dJ9_max_7cf53_0 rfl rfl ?_
  refine wp_iload_n dJ9_max_7cf53_1 rfl rfl ?_
  refine wp_icmp_ltN dJ9_max_7cf53_2 rfl rfl ⟨by omega, by omega⟩ (fun c2 => ?_) (fun c2 => ?_)
  · refine wp_iload_n dJ9_max_7cf53_9 rfl rfl ?_
    refine wp_ireturn dJ9_max_7cf53_10 rfl ?_
    first | exact hz x (by omega) | exact hz y (by omega)
  · refine wp_iload_n dJ9_max_7cf53_5 rfl rfl ?_
    refine wp_goto dJ9_max_7cf53_6 ?_
    refine wp_ireturn dJ9_max_7cf53_10 rfl ?_
    first | exact hz x (by omega) | exact hz y (by omega)
set_option maxRecDepth 20000 in
theorem pJ9_min_7cf53 {h : mH} {Q : Option Value → mH → Prop} {x y : Nat} (hx : x < 2147483648) (hy : y < 2147483648) (hq : Q (some (.int (nI (min x y)))) h) : Wp mJ9_min_7cf53 0 0 0 [some (.int (nI x)), some (.int (nI y))] [] h Q := by
  have hz : ∀ z, min x y = z → Q (some (.int (nI z))) h := fun z e => e ▸ hq
  refine wp_iload_n dJ9_min_7cf53_0 rfl rfl ?_
  refine wp_iload_n dJ9_min_7cf53_1 rfl rfl ?_
  refine wp_icmp_gtN dJ9_min_7cf53_2 rfl rfl ⟨by omega, by omega⟩ (fun c2 => ?_) (fun c2 => ?_)
  · refine wp_iload_n dJ9_min_7cf53_9 rfl rfl ?_
    refine wp_ireturn dJ9_min_7cf53_10 rfl ?_
    first | exact hz x (by omega) | exact hz y (by omega)
  · refine wp_iload_n dJ9_min_7cf53_5 rfl rfl ?_
    refine wp_goto dJ9_min_7cf53_6 ?_
    refine wp_ireturn dJ9_min_7cf53_10 rfl ?_
    first | exact hz x (by omega) | exact hz y (by omega)
set_option maxRecDepth 20000 in
theorem pJ9_floorMod_7cf53 {h : mH} {Q : Option Value → mH → Prop} {x y : Nat} (hx : x < 2147483648) (hy : y < 2147483648) (h0 : 0 < y) (hq : Q (some (.int (nI (x % y)))) h) : Wp mJ9_floorMod_7cf53 0 0 0 [some (.int (nI x)), some (.int (nI y)), none] [] h Q := by
  refine wp_iload_n dJ9_floorMod_7cf53_0 rfl rfl ?_
  refine wp_iload_n dJ9_floorMod_7cf53_1 rfl rfl ?_
  refine wp_irem dJ9_floorMod_7cf53_2 (nI_ne0 h0 hy) ?_
  rw [pk_rem (by omega) (by omega) (by omega)]
  refine wp_istore_n (ls1 := [_, _, some _]) dJ9_floorMod_7cf53_3 rfl (by decide) rfl ?_
  refine wp_iload_n dJ9_floorMod_7cf53_4 rfl rfl ?_
  refine wp_iload_n dJ9_floorMod_7cf53_5 rfl rfl ?_
  refine wp_ixor dJ9_floorMod_7cf53_6 ?_
  rw [nx_xor]
  refine wp_if_ge dJ9_floorMod_7cf53_7 (fun _ => ?_) (fun q => absurd (nI_pos' (Nat.xor_lt_two_pow (n := 31) (by omega) (by omega))) q)
  refine wp_iload_n dJ9_floorMod_7cf53_18 rfl rfl ?_
  refine wp_ireturn dJ9_floorMod_7cf53_19 rfl ?_
  exact hq
set_option maxRecDepth 20000 in
theorem pX11_lowest {h : mH} {Q : Option Value → mH → Prop} {n : Nat} (hn : n < 2 ^ 63) (hq : Q (some (.int (nI (lwB n)))) h) : Wp mX11_lowest 1 21 0 [some (.long (lN n)), none] [] h Q := by
  refine wp_lload_n dX11_lowest_0 rfl rfl ?_
  refine wp_lload_n dX11_lowest_1 rfl rfl ?_
  refine wp_lneg dX11_lowest_2 ?_
  refine wp_land dX11_lowest_3 ?_
  refine wp_lconst (v := 1) dX11_lowest_4 (by decide +kernel) ?_
  refine wp_lsub dX11_lowest_5 ?_
  rw [low_eq hn]
  refine wp_cS1 0 0 [some _, none] dX11_lowest_6 tJ13_bitCount_95d88 sJ13_bitCount_95d88 lX11_216 ⟨by decide, by decide⟩ (Nat.le_of_ble_eq_true rfl) (Nat.le_of_ble_eq_true rfl) rfl ?_
  refine pJ13_bitCount_95d88 (Nat.lt_of_lt_of_le (Nat.sub_lt (Nat.two_pow_pos _) (by decide)) (Nat.pow_le_pow_right (by decide) (lwB_le n))) ?_
  intro _ _
  refine wp_ireturn dX11_lowest_9 rfl ?_
  rw [pop_ones ⟨lwB n, Nat.lt_succ_of_le (lwB_le n)⟩]
  exact hq
theorem drop_cons {l : List Nat} {k : Nat} (h : k < l.length) : l.drop k = l.getD k 0 :: l.drop (k + 1) := by
  rw [List.drop_eq_getElem_cons h]
  congr 1
  rw [List.getD_eq_getElem?_getD, List.getElem?_eq_getElem h]
  rfl
theorem asc_drop : ∀ {l : List Nat} {b : Nat} (k : Nat), asc l b → ∃ b', asc (l.drop k) b'
  | l, b, 0, h => ⟨b, h⟩
  | [], b, k + 1, h => ⟨0, trivial⟩
  | a :: t, b, k + 1, h => asc_drop (l := t) k h.2.2
theorem nth_s {l : List Nat} {b k : Nat} (hl : asc l b) (hk : k < l.length) : lN (bsN (l.drop k)) &&& (lN (bsN (l.drop k)) - 1) = lN (bsN (l.drop (k + 1))) := by
  obtain ⟨b', h'⟩ := asc_drop k hl
  rw [drop_cons hk] at h' ⊢
  have h0 := bsN_pos h'
  have hlt := bsN_lt h'
  rw [show (1 : Int64) = lN 1 from rfl, lN_sub (by omega), wb_and (by omega) (by omega), bsN_clr h']
theorem nth_e {l : List Nat} {b k : Nat} (hl : asc l b) (hk : k < l.length) : lwB (bsN (l.drop k)) = l.getD k 0 ∧ bsN (l.drop k) < 2 ^ 63 := by
  obtain ⟨b', h'⟩ := asc_drop k hl
  rw [drop_cons hk] at h' ⊢
  exact ⟨bsN_low h', bsN_lt h'⟩
set_option maxRecDepth 20000 in
theorem pX11_nth {h : mH} {Q : Option Value → mH → Prop} {l : List Nat} {b i : Nat} (hl : asc l b) (hi : i < l.length) (h8 : l.length ≤ 8) (hq : Q (some (.int (nI (l.getD i 0)))) h) : Wp mX11_nth 2 42 0 [some (.long (lN (bsN l))), none, some (.int (nI i)), none, none, none] [] h Q := by
  have hloop : ∀  (t9 : Nat) (k : Nat), (k ≤ i) → (i < k + t9) → Wp mX11_nth 2 42 5 [some (.long (lN (bsN l))), none, some (.int (nI i)), some (.long (lN (bsN (l.drop k)))), none, some (.int (nI k))] [] h Q := by
    intro t9
    induction t9 with
    | zero => intros; omega
    | succ t9 ih =>
      intro k hk hmz
      refine wp_iload dX11_nth_5 rfl ?_
      refine wp_iload_n dX11_nth_7 rfl rfl ?_
      refine wp_icmp_geN dX11_nth_8 rfl rfl ⟨by omega, by omega⟩ (fun c2 => ?_) (fun c2 => ?_)
      · have e9 : k = i := by omega
        subst e9
        refine wp_lload_n dX11_nth_30 rfl rfl ?_
        refine wp_cS1 1 21 [some _, none] dX11_nth_31 tX11_lowest sX11_lowest lX11_227 ⟨by decide, by decide⟩ (Nat.le_of_ble_eq_true rfl) (Nat.le_of_ble_eq_true rfl) rfl ?_
        refine pX11_lowest (nth_e hl hi).2 ?_
        intro _ _
        rw [(nth_e hl hi).1]
        refine wp_ireturn dX11_nth_34 rfl ?_
        exact hq
      · refine wp_iload dX11_nth_11 rfl ?_
        refine wp_bipush (v := (nI 8)) dX11_nth_13 (by decide +kernel) ?_
        refine wp_icmp_geN dX11_nth_15 rfl rfl ⟨by omega, by omega⟩ (fun c4 => ?_) (fun c4 => ?_)
        · have e9 : k = i := by omega
          subst e9
          refine wp_lload_n dX11_nth_30 rfl rfl ?_
          refine wp_cS1 1 21 [some _, none] dX11_nth_31 tX11_lowest sX11_lowest lX11_227 ⟨by decide, by decide⟩ (Nat.le_of_ble_eq_true rfl) (Nat.le_of_ble_eq_true rfl) rfl ?_
          refine pX11_lowest (nth_e hl hi).2 ?_
          intro _ _
          rw [(nth_e hl hi).1]
          refine wp_ireturn dX11_nth_34 rfl ?_
          exact hq
        · refine wp_lload_n dX11_nth_18 rfl rfl ?_
          refine wp_lload_n dX11_nth_19 rfl rfl ?_
          refine wp_lconst (v := 1) dX11_nth_20 (by decide +kernel) ?_
          refine wp_lsub dX11_nth_21 ?_
          refine wp_land dX11_nth_22 ?_
          refine wp_lstore_n (ls1 := [_, _, _, some _, _, _]) dX11_nth_23 rfl (by decide) rfl ?_
          refine wp_iinc1 (ls1 := [_, _, _, _, _, some _]) dX11_nth_24 rfl (by decide) rfl ?_
          refine wp_goto dX11_nth_27 ?_
          rw [nth_s hl (by omega)]
          exact ih (k + 1) (by omega) (by omega)
  refine wp_lload_n dX11_nth_0 rfl rfl ?_
  refine wp_lstore_n (ls1 := [_, _, _, some _, _, _]) dX11_nth_1 rfl (by decide) rfl ?_
  refine wp_iconst (v := (nI 0)) dX11_nth_2 (by decide +kernel) ?_
  refine wp_istore (ls1 := [_, _, _, _, _, some _]) dX11_nth_3 (by decide) rfl ?_
  exact hloop (i + 1) 0 (by omega) (by omega)
theorem map_getD {f : Nat × Nat → Nat} (hf : f (0, 0) = 0) (l : List (Nat × Nat)) (i : Nat) : (l.map f).getD i 0 = f (l.getD i (0, 0)) := by
  rw [List.getD_eq_getElem?_getD, List.getD_eq_getElem?_getD, List.getElem?_map]
  cases l[i]? with
  | none => exact hf.symm
  | some q => rfl
theorem partV_w {l : List (Nat × Nat)} {j : Nat} {what : Int32} (hj : j < l.length ∧ l.length ≤ 8) (h : ix what 2 = none) : partV l (nI j) what = -1 := by
  unfold partV
  rw [if_neg (nI_ne_m1 (by omega)), ix_nI hj.1 (by omega)]
  have h0 : ¬ what = 0 := fun z => by rw [z] at h; exact absurd h (by decide +kernel)
  have h1 : ¬ what = 1 := fun z => by rw [z] at h; exact absurd h (by decide +kernel)
  show (if what = 0 then _ else if what = 1 then _ else _) = _
  rw [if_neg h0, if_neg h1]
theorem partV_0 {l : List (Nat × Nat)} {j : Nat} (hj : j < l.length ∧ l.length ≤ 8) : partV l (nI j) (nI 0) = nI (l.getD j (0, 0)).1 := by
  unfold partV
  rw [if_neg (nI_ne_m1 (by omega)), ix_nI hj.1 (by omega)]
  exact if_pos (by decide +kernel)
theorem partV_1 {l : List (Nat × Nat)} {j : Nat} (hj : j < l.length ∧ l.length ≤ 8) : partV l (nI j) (nI 1) = nI (l.getD j (0, 0)).2 := by
  unfold partV
  rw [if_neg (nI_ne_m1 (by omega)), ix_nI hj.1 (by omega)]
  show (if nI 1 = 0 then _ else if nI 1 = 1 then _ else _) = _
  rw [if_neg (by decide +kernel), if_pos (by decide +kernel)]
set_option maxRecDepth 20000 in
theorem pX11_partOf {h : mH} {Q : Option Value → mH → Prop} {l : List (Nat × Nat)} {N : Nat} {i w : Int32} (hl : srt l N) (hn : N < 63) (h8 : l.length ≤ 8) (hq : Q (some (.int (partV l i w))) h) : Wp mX11_partOf 3 67 0 [some (.long (lN (bsA l))), none, some (.long (lN (bsE l))), none, some (.int i), some (.int w), none] [] h Q := by
  have hz : ∀ z, partV l i w = z → Q (some (.int z)) h := fun z e => e ▸ hq
  refine wp_lload_n dX11_partOf_0 rfl rfl ?_
  refine wp_cS1 0 0 [some _, none] dX11_partOf_1 tJ13_bitCount_95d88 sJ13_bitCount_95d88 lX11_216 ⟨by decide, by decide⟩ (Nat.le_of_ble_eq_true rfl) (Nat.le_of_ble_eq_true rfl) rfl ?_
  refine pJ13_bitCount_95d88 (Nat.lt_trans (bsN_lt (srt_asc hl hn).1) (by decide)) ?_
  intro _ _
  rw [show pop (bsA l) = l.length from (bsN_pop (srt_asc hl hn).1).trans (List.length_map ..)]
  refine wp_istore (ls1 := [_, _, _, _, _, _, some _]) dX11_partOf_4 (by decide) rfl ?_
  refine wp_iload dX11_partOf_6 rfl ?_
  refine wp_iconst (v := (-1)) dX11_partOf_8 (by decide +kernel) ?_
  refine wp_icmp_ne dX11_partOf_9 (fun c1 => ?_) (fun c1 => ?_)
  · refine wp_iload dX11_partOf_15 rfl ?_
    refine wp_if_lt dX11_partOf_17 (fun c3 => ?_) (fun c3 => ?_)
    · refine wp_iconst (v := (-1)) dX11_partOf_38 (by decide +kernel) ?_
      refine wp_ireturn dX11_partOf_39 rfl ?_
      exact hz _ (partV_n (by assumption) (ix_lt0 c3))
    · refine wp_iload dX11_partOf_20 rfl ?_
      refine wp_iload dX11_partOf_22 rfl ?_
      refine wp_icmp_ge dX11_partOf_24 (fun c5 => ?_) (fun c5 => ?_)
      · refine wp_iconst (v := (-1)) dX11_partOf_38 (by decide +kernel) ?_
        refine wp_ireturn dX11_partOf_39 rfl ?_
        exact hz _ (partV_n (by assumption) (ix_ge (by omega) c5))
      · obtain ⟨j1, hj1, ej1⟩ := ix_pos (by omega) c3 c5
        subst ej1
        refine wp_iload dX11_partOf_27 rfl ?_
        refine wp_if_lt dX11_partOf_29 (fun c7 => ?_) (fun c7 => ?_)
        · refine wp_iconst (v := (-1)) dX11_partOf_38 (by decide +kernel) ?_
          refine wp_ireturn dX11_partOf_39 rfl ?_
          exact hz _ (partV_w ⟨by omega, h8⟩ (ix_lt0 c7))
        · refine wp_iload dX11_partOf_32 rfl ?_
          refine wp_iconst (v := (nI 1)) dX11_partOf_34 (by decide +kernel) ?_
          refine wp_icmp_le dX11_partOf_35 (fun c9 => ?_) (fun c9 => ?_)
          · obtain ⟨j2, hj2, ej2⟩ := ix_le (by omega) c7 c9
            subst ej2
            refine wp_iload dX11_partOf_40 rfl ?_
            rcases (by omega : j2 = 0 ∨ j2 = 1) with e9 | e9
            · subst e9
              refine wp_if_ne dX11_partOf_42 (fun q => absurd rfl q) (fun _ => ?_)
              refine wp_lload_n dX11_partOf_45 rfl rfl ?_
              refine wp_goto dX11_partOf_46 ?_
              refine wp_iload dX11_partOf_50 rfl ?_
              refine wp_cS2 2 42 [some _, none, some _, none, none, none] dX11_partOf_52 tX11_nth sX11_nth lX11_432 ⟨by decide, by decide⟩ (Nat.le_of_ble_eq_true rfl) (Nat.le_of_ble_eq_true rfl) rfl ?_
              refine pX11_nth (srt_asc hl hn).1 (by rw [List.length_map]; omega) (by rw [List.length_map]; omega) ?_
              intro _ _
              rw [map_getD rfl]
              refine wp_ireturn dX11_partOf_55 rfl ?_
              exact hz _ (partV_0 ⟨by omega, h8⟩)
            · subst e9
              refine wp_if_ne dX11_partOf_42 (fun _ => ?_) (fun q => absurd q (by decide +kernel))
              refine wp_lload_n dX11_partOf_49 rfl rfl ?_
              refine wp_iload dX11_partOf_50 rfl ?_
              refine wp_cS2 2 42 [some _, none, some _, none, none, none] dX11_partOf_52 tX11_nth sX11_nth lX11_432 ⟨by decide, by decide⟩ (Nat.le_of_ble_eq_true rfl) (Nat.le_of_ble_eq_true rfl) rfl ?_
              refine pX11_nth (srt_asc hl hn).2 (by rw [List.length_map]; omega) (by rw [List.length_map]; omega) ?_
              intro _ _
              rw [map_getD rfl]
              refine wp_ireturn dX11_partOf_55 rfl ?_
              exact hz _ (partV_1 ⟨by omega, h8⟩)
          · refine wp_iconst (v := (-1)) dX11_partOf_38 (by decide +kernel) ?_
            refine wp_ireturn dX11_partOf_39 rfl ?_
            exact hz _ (partV_w ⟨by omega, h8⟩ (ix_nle (by omega) c9))
  · refine wp_iload dX11_partOf_12 rfl ?_
    refine wp_ireturn dX11_partOf_14 rfl ?_
    exact hz _ (partV_a (by assumption))
set_option maxRecDepth 20000 in
theorem pX11_spotOf {h : mH} {Q : Option Value → mH → Prop} {p f : Nat} (hq : Q (some (.int (nI (6 * f + p)))) h) : Wp mX11_spotOf 0 0 0 [some (.int (nI p)), some (.int (nI f))] [] h Q := by
  refine wp_iload_n dX11_spotOf_0 rfl rfl ?_
  refine wp_bipush (v := (nI 6)) dX11_spotOf_1 (by decide +kernel) ?_
  refine wp_imul dX11_spotOf_3 ?_
  refine wp_iload_n dX11_spotOf_4 rfl rfl ?_
  refine wp_iadd dX11_spotOf_5 ?_
  refine wp_ireturn dX11_spotOf_6 rfl ?_
  rw [pk_mul, nI_add, Nat.mul_comm]
  exact hq
set_option maxRecDepth 20000 in
theorem pX11_below {h : mH} {Q : Option Value → mH → Prop} {p : Nat} (hp : p < 64) (hq : Q (some (.long (lN (2 ^ p - 1)))) h) : Wp mX11_below 0 0 0 [some (.int (nI p))] [] h Q := by
  refine wp_lconst (v := 1) dX11_below_0 (by decide +kernel) ?_
  refine wp_iload_n dX11_below_1 rfl rfl ?_
  refine wp_lshl dX11_below_2 ?_
  refine wp_lconst (v := 1) dX11_below_3 (by decide +kernel) ?_
  refine wp_lsub dX11_below_4 ?_
  refine wp_lreturn dX11_below_5 rfl ?_
  rw [show (1 : Int64) = lN 1 from rfl, wb_shl 1 hp, lN_sub (by have := Nat.two_pow_pos p; omega), Nat.one_mul]
  exact hq
set_option maxRecDepth 20000 in
theorem pX11_isLetter {h : mH} {Q : Option Value → mH → Prop} {c : Int32} (ht : isLt c = true → Q (some (.int (nI 1))) h) (hf : isLt c = false → Q (some (.int (nI 0))) h) : Wp mX11_isLetter 0 0 0 [some (.int c)] [] h Q := by
  refine wp_iload_n dX11_isLetter_0 rfl rfl ?_
  refine wp_bipush (v := (nI 97)) dX11_isLetter_1 (by decide +kernel) ?_
  refine wp_icmp_lt dX11_isLetter_3 (fun c1 => ?_) (fun c1 => ?_)
  · refine wp_iconst (v := (nI 0)) dX11_isLetter_16 (by decide +kernel) ?_
    refine wp_zreturn dX11_isLetter_17 rfl (by first | exact Or.inl rfl | exact Or.inr rfl) ?_
    first | exact ht (decide_eq_true ⟨i_le (by assumption), i_le (by assumption)⟩) | exact hf (decide_eq_false (fun z => absurd z.1 (i_nle (by assumption)))) | exact hf (decide_eq_false (fun z => absurd z.2 (i_nle (by assumption))))
  · refine wp_iload_n dX11_isLetter_6 rfl rfl ?_
    refine wp_bipush (v := (nI 122)) dX11_isLetter_7 (by decide +kernel) ?_
    refine wp_icmp_gt dX11_isLetter_9 (fun c2 => ?_) (fun c2 => ?_)
    · refine wp_iconst (v := (nI 0)) dX11_isLetter_16 (by decide +kernel) ?_
      refine wp_zreturn dX11_isLetter_17 rfl (by first | exact Or.inl rfl | exact Or.inr rfl) ?_
      first | exact ht (decide_eq_true ⟨i_le (by assumption), i_le (by assumption)⟩) | exact hf (decide_eq_false (fun z => absurd z.1 (i_nle (by assumption)))) | exact hf (decide_eq_false (fun z => absurd z.2 (i_nle (by assumption))))
    · refine wp_iconst (v := (nI 1)) dX11_isLetter_12 (by decide +kernel) ?_
      refine wp_goto dX11_isLetter_13 ?_
      refine wp_zreturn dX11_isLetter_17 rfl (by first | exact Or.inl rfl | exact Or.inr rfl) ?_
      first | exact ht (decide_eq_true ⟨i_le (by assumption), i_le (by assumption)⟩) | exact hf (decide_eq_false (fun z => absurd z.1 (i_nle (by assumption)))) | exact hf (decide_eq_false (fun z => absurd z.2 (i_nle (by assumption))))
set_option maxRecDepth 20000 in
theorem pX11_isDigit {h : mH} {Q : Option Value → mH → Prop} {c : Int32} (ht : isDg c = true → Q (some (.int (nI 1))) h) (hf : isDg c = false → Q (some (.int (nI 0))) h) : Wp mX11_isDigit 0 0 0 [some (.int c)] [] h Q := by
  refine wp_iload_n dX11_isDigit_0 rfl rfl ?_
  refine wp_bipush (v := (nI 48)) dX11_isDigit_1 (by decide +kernel) ?_
  refine wp_icmp_lt dX11_isDigit_3 (fun c1 => ?_) (fun c1 => ?_)
  · refine wp_iconst (v := (nI 0)) dX11_isDigit_16 (by decide +kernel) ?_
    refine wp_zreturn dX11_isDigit_17 rfl (by first | exact Or.inl rfl | exact Or.inr rfl) ?_
    first | exact ht (decide_eq_true ⟨i_le (by assumption), i_le (by assumption)⟩) | exact hf (decide_eq_false (fun z => absurd z.1 (i_nle (by assumption)))) | exact hf (decide_eq_false (fun z => absurd z.2 (i_nle (by assumption))))
  · refine wp_iload_n dX11_isDigit_6 rfl rfl ?_
    refine wp_bipush (v := (nI 57)) dX11_isDigit_7 (by decide +kernel) ?_
    refine wp_icmp_gt dX11_isDigit_9 (fun c2 => ?_) (fun c2 => ?_)
    · refine wp_iconst (v := (nI 0)) dX11_isDigit_16 (by decide +kernel) ?_
      refine wp_zreturn dX11_isDigit_17 rfl (by first | exact Or.inl rfl | exact Or.inr rfl) ?_
      first | exact ht (decide_eq_true ⟨i_le (by assumption), i_le (by assumption)⟩) | exact hf (decide_eq_false (fun z => absurd z.1 (i_nle (by assumption)))) | exact hf (decide_eq_false (fun z => absurd z.2 (i_nle (by assumption))))
    · refine wp_iconst (v := (nI 1)) dX11_isDigit_12 (by decide +kernel) ?_
      refine wp_goto dX11_isDigit_13 ?_
      refine wp_zreturn dX11_isDigit_17 rfl (by first | exact Or.inl rfl | exact Or.inr rfl) ?_
      first | exact ht (decide_eq_true ⟨i_le (by assumption), i_le (by assumption)⟩) | exact hf (decide_eq_false (fun z => absurd z.1 (i_nle (by assumption)))) | exact hf (decide_eq_false (fun z => absurd z.2 (i_nle (by assumption))))
theorem kdL_e {w : Int64} {k : Nat} (h : (isLt (w &&& 255).toInt32 = true ∧ k = 0) ∨ (isLt (w &&& 255).toInt32 = false ∧ isDg (w &&& 255).toInt32 = true ∧ k = 1) ∨ (isLt (w &&& 255).toInt32 = false ∧ isDg (w &&& 255).toInt32 = false ∧ k = 2)) : kdL w = k := by
  unfold kdL
  rcases h with ⟨h1, rfl⟩ | ⟨h1, h2, rfl⟩ | ⟨h1, h2, rfl⟩
  · rw [if_pos (of_decide_eq_true h1)]
  · rw [if_neg (of_decide_eq_false h1), if_pos (of_decide_eq_true h2)]
  · rw [if_neg (of_decide_eq_false h1), if_neg (of_decide_eq_false h2)]
set_option maxRecDepth 20000 in
theorem pX11_kindOf {h : mH} {Q : Option Value → mH → Prop} {w : Int64} (hq : Q (some (.int (nI (kdL w)))) h) : Wp mX11_kindOf 1 20 0 [some (.long w), none, none] [] h Q := by
  refine wp_lload_n dX11_kindOf_0 rfl rfl ?_
  refine wp_ldc2 dX11_kindOf_1 lX11_435 ?_
  refine wp_land dX11_kindOf_4 ?_
  refine wp_l2i dX11_kindOf_5 ?_
  refine wp_istore_n (ls1 := [_, _, some _]) dX11_kindOf_6 rfl (by decide) rfl ?_
  refine wp_iload_n dX11_kindOf_7 rfl rfl ?_
  refine wp_cS1 0 0 [some _] dX11_kindOf_8 tX11_isLetter sX11_isLetter lX11_437 ⟨by decide, by decide⟩ (Nat.le_of_ble_eq_true rfl) (Nat.le_of_ble_eq_true rfl) rfl ?_
  refine pX11_isLetter (fun b1 => ?_) (fun b1 => ?_)
  · intro _ _
    refine wp_if_eq dX11_kindOf_11 (fun q => absurd q (by decide +kernel)) (fun _ => ?_)
    refine wp_iconst (v := (nI 0)) dX11_kindOf_14 (by decide +kernel) ?_
    refine wp_goto dX11_kindOf_15 ?_
    refine wp_ireturn dX11_kindOf_30 rfl ?_
    exact (kdL_e (by first | exact Or.inl ⟨by assumption, rfl⟩ | exact Or.inr (Or.inl ⟨by assumption, by assumption, rfl⟩) | exact Or.inr (Or.inr ⟨by assumption, by assumption, rfl⟩))) ▸ hq
  · intro _ _
    refine wp_if_eq dX11_kindOf_11 (fun _ => ?_) (fun q => absurd q (by decide +kernel))
    refine wp_iload_n dX11_kindOf_18 rfl rfl ?_
    refine wp_cS1 0 0 [some _] dX11_kindOf_19 tX11_isDigit sX11_isDigit lX11_440 ⟨by decide, by decide⟩ (Nat.le_of_ble_eq_true rfl) (Nat.le_of_ble_eq_true rfl) rfl ?_
    refine pX11_isDigit (fun b2 => ?_) (fun b2 => ?_)
    · intro _ _
      refine wp_if_eq dX11_kindOf_22 (fun q => absurd q (by decide +kernel)) (fun _ => ?_)
      refine wp_iconst (v := (nI 1)) dX11_kindOf_25 (by decide +kernel) ?_
      refine wp_goto dX11_kindOf_26 ?_
      refine wp_ireturn dX11_kindOf_30 rfl ?_
      exact (kdL_e (by first | exact Or.inl ⟨by assumption, rfl⟩ | exact Or.inr (Or.inl ⟨by assumption, by assumption, rfl⟩) | exact Or.inr (Or.inr ⟨by assumption, by assumption, rfl⟩))) ▸ hq
    · intro _ _
      refine wp_if_eq dX11_kindOf_22 (fun _ => ?_) (fun q => absurd q (by decide +kernel))
      refine wp_iconst (v := (nI 2)) dX11_kindOf_29 (by decide +kernel) ?_
      refine wp_ireturn dX11_kindOf_30 rfl ?_
      exact (kdL_e (by first | exact Or.inl ⟨by assumption, rfl⟩ | exact Or.inr (Or.inl ⟨by assumption, by assumption, rfl⟩) | exact Or.inr (Or.inr ⟨by assumption, by assumption, rfl⟩))) ▸ hq
theorem itm_cases {c : Nat} (hc : c < 256) : (c = 0 ∧ itm c = -1) ∨ (0 < c ∧ itm c = nI (c - 1)) := by
  unfold itm
  by_cases e : c = 0
  · exact Or.inl ⟨e, if_pos e⟩
  · exact Or.inr ⟨by omega, if_neg e⟩
set_option maxRecDepth 20000 in
theorem pX11_costOfItem {h : mH} {Q : Option Value → mH → Prop} {c : Nat} (hc : c < 256) (hq : Q (some (.int (nI (cs c)))) h) : Wp mX11_costOfItem 0 0 0 [some (.int (itm c))] [] h Q := by
  rcases itm_cases hc with ⟨e9, e8⟩ | ⟨e9, e8⟩
  · rw [e8]
    refine wp_iload_n dX11_costOfItem_0 rfl rfl ?_
    refine wp_iconst (v := (-1)) dX11_costOfItem_1 (by decide +kernel) ?_
    refine wp_icmp_ne dX11_costOfItem_2 (fun q => absurd q (by decide +kernel)) (fun _ => ?_)
    refine wp_iconst (v := (nI 0)) dX11_costOfItem_5 (by decide +kernel) ?_
    refine wp_goto dX11_costOfItem_6 ?_
    refine wp_ireturn dX11_costOfItem_19 rfl ?_
    rw [show cs c = 0 by rw [e9]; rfl] at hq
    exact hq
  · rw [e8]
    refine wp_iload_n dX11_costOfItem_0 rfl rfl ?_
    refine wp_iconst (v := (-1)) dX11_costOfItem_1 (by decide +kernel) ?_
    refine wp_icmp_ne dX11_costOfItem_2 (fun _ => ?_) (fun q => absurd q (nI_ne_m1 (by omega)))
    refine wp_iload_n dX11_costOfItem_9 rfl rfl ?_
    refine wp_iconst (v := (nI 3)) dX11_costOfItem_10 (by decide +kernel) ?_
    refine wp_icmp_geN dX11_costOfItem_11 rfl rfl ⟨by omega, by omega⟩ (fun c3 => ?_) (fun c3 => ?_)
    · refine wp_iconst (v := (nI 2)) dX11_costOfItem_18 (by decide +kernel) ?_
      refine wp_ireturn dX11_costOfItem_19 rfl ?_
      rw [show cs c = 2 by unfold cs; rw [if_neg (by omega)]; first | exact if_pos (by omega) | exact if_neg (by omega)] at hq
      exact hq
    · refine wp_iconst (v := (nI 3)) dX11_costOfItem_14 (by decide +kernel) ?_
      refine wp_goto dX11_costOfItem_15 ?_
      refine wp_ireturn dX11_costOfItem_19 rfl ?_
      rw [show cs c = 3 by unfold cs; rw [if_neg (by omega)]; first | exact if_pos (by omega) | exact if_neg (by omega)] at hq
      exact hq
theorem itmL {c : Nat} (hc : c < 256) : (itm c).toInt64 + 1 = lN c := by
  rcases itm_cases hc with ⟨e9, e8⟩ | ⟨e9, e8⟩
  · rw [e8, e9]; decide +kernel
  · rw [e8, nI_l (by omega), lN_1]; congr 1; omega
theorem or_lo {k p x y : Nat} (hp : 2 ^ k = p) (hy : y < p) (h : x * p + y < 2 ^ 63) : lN (x * p) ||| lN y = lN (x * p + y) := g_or hp hy (by omega)
theorem rul_e {a b c d s : Nat} (ha : a < 256) (hb : b < 256) (hc : c < 256) (hd : d < 256) (hs : s < 256) : ((((lN s <<< ((nI 32).toInt64 &&& 63)) ||| (lN a <<< ((nI 24).toInt64 &&& 63))) ||| (lN b <<< ((nI 16).toInt64 &&& 63))) ||| (lN c <<< ((nI 8).toInt64 &&& 63))) ||| lN d = lN (s * 4294967296 + a * 16777216 + b * 65536 + c * 256 + d) := by
  rw [wb_shl s (by decide), wb_shl a (by decide), wb_shl b (by decide), wb_shl c (by decide)]
  rw [or_lo (k := 32) rfl (show a * 2 ^ 24 < 2 ^ 32 by omega) (by omega)]
  rw [show s * 2 ^ 32 + a * 2 ^ 24 = (s * 256 + a) * 2 ^ 24 by omega, or_lo (k := 24) rfl (show b * 2 ^ 16 < 2 ^ 24 by omega) (by omega)]
  rw [show (s * 256 + a) * 2 ^ 24 + b * 2 ^ 16 = ((s * 256 + a) * 256 + b) * 2 ^ 16 by omega, or_lo (k := 16) rfl (show c * 2 ^ 8 < 2 ^ 16 by omega) (by omega)]
  rw [show ((s * 256 + a) * 256 + b) * 2 ^ 16 + c * 2 ^ 8 = (((s * 256 + a) * 256 + b) * 256 + c) * 2 ^ 8 by omega, or_lo (k := 8) rfl (show d < 2 ^ 8 by omega) (by omega)]
set_option maxRecDepth 20000 in
theorem pX11_ruleOf {h : mH} {Q : Option Value → mH → Prop} {a b c d : Nat} (ha : a < 256) (hb : b < 256) (hc : c < 256) (hd : d < 256) (hq : Q (some (.long (lN (kN a b c d)))) h) : Wp mX11_ruleOf 1 20 0 [some (.int (itm a)), some (.int (itm b)), some (.int (itm c)), some (.int (itm d)), none, none] [] h Q := by
  have ka := cs_le a
  have kb := cs_le b
  have kc := cs_le c
  have kd9 := cs_le d
  refine wp_iload_n dX11_ruleOf_0 rfl rfl ?_
  refine wp_cS1 0 0 [some _] dX11_ruleOf_1 tX11_costOfItem sX11_costOfItem lX11_443 ⟨by decide, by decide⟩ (Nat.le_of_ble_eq_true rfl) (Nat.le_of_ble_eq_true rfl) rfl ?_
  refine pX11_costOfItem (by omega) ?_
  intro _ _
  refine wp_iload_n dX11_ruleOf_4 rfl rfl ?_
  refine wp_cS1 0 0 [some _] dX11_ruleOf_5 tX11_costOfItem sX11_costOfItem lX11_443 ⟨by decide, by decide⟩ (Nat.le_of_ble_eq_true rfl) (Nat.le_of_ble_eq_true rfl) rfl ?_
  refine pX11_costOfItem (by omega) ?_
  intro _ _
  refine wp_iadd dX11_ruleOf_8 ?_
  refine wp_iload_n dX11_ruleOf_9 rfl rfl ?_
  refine wp_cS1 0 0 [some _] dX11_ruleOf_10 tX11_costOfItem sX11_costOfItem lX11_443 ⟨by decide, by decide⟩ (Nat.le_of_ble_eq_true rfl) (Nat.le_of_ble_eq_true rfl) rfl ?_
  refine pX11_costOfItem (by omega) ?_
  intro _ _
  refine wp_iadd dX11_ruleOf_13 ?_
  refine wp_iload_n dX11_ruleOf_14 rfl rfl ?_
  refine wp_cS1 0 0 [some _] dX11_ruleOf_15 tX11_costOfItem sX11_costOfItem lX11_443 ⟨by decide, by decide⟩ (Nat.le_of_ble_eq_true rfl) (Nat.le_of_ble_eq_true rfl) rfl ?_
  refine pX11_costOfItem (by omega) ?_
  intro _ _
  refine wp_iadd dX11_ruleOf_18 ?_
  rw [nI_add, nI_add, nI_add]
  refine wp_i2l dX11_ruleOf_19 ?_
  rw [nI_l (by omega)]
  refine wp_lstore (ls1 := [_, _, _, _, some _, _]) dX11_ruleOf_20 (by decide) rfl ?_
  refine wp_lload dX11_ruleOf_22 rfl ?_
  refine wp_bipush (v := (nI 32)) dX11_ruleOf_24 (by decide +kernel) ?_
  refine wp_lshl dX11_ruleOf_26 ?_
  refine wp_iload_n dX11_ruleOf_27 rfl rfl ?_
  refine wp_i2l dX11_ruleOf_28 ?_
  refine wp_lconst (v := 1) dX11_ruleOf_29 (by decide +kernel) ?_
  refine wp_ladd dX11_ruleOf_30 ?_
  refine wp_bipush (v := (nI 24)) dX11_ruleOf_31 (by decide +kernel) ?_
  refine wp_lshl dX11_ruleOf_33 ?_
  refine wp_lor dX11_ruleOf_34 ?_
  refine wp_iload_n dX11_ruleOf_35 rfl rfl ?_
  refine wp_i2l dX11_ruleOf_36 ?_
  refine wp_lconst (v := 1) dX11_ruleOf_37 (by decide +kernel) ?_
  refine wp_ladd dX11_ruleOf_38 ?_
  refine wp_bipush (v := (nI 16)) dX11_ruleOf_39 (by decide +kernel) ?_
  refine wp_lshl dX11_ruleOf_41 ?_
  refine wp_lor dX11_ruleOf_42 ?_
  refine wp_iload_n dX11_ruleOf_43 rfl rfl ?_
  refine wp_i2l dX11_ruleOf_44 ?_
  refine wp_lconst (v := 1) dX11_ruleOf_45 (by decide +kernel) ?_
  refine wp_ladd dX11_ruleOf_46 ?_
  refine wp_bipush (v := (nI 8)) dX11_ruleOf_47 (by decide +kernel) ?_
  refine wp_lshl dX11_ruleOf_49 ?_
  refine wp_lor dX11_ruleOf_50 ?_
  refine wp_iload_n dX11_ruleOf_51 rfl rfl ?_
  refine wp_i2l dX11_ruleOf_52 ?_
  refine wp_lconst (v := 1) dX11_ruleOf_53 (by decide +kernel) ?_
  refine wp_ladd dX11_ruleOf_54 ?_
  refine wp_lor dX11_ruleOf_55 ?_
  refine wp_lreturn dX11_ruleOf_56 rfl ?_
  rw [itmL ha, itmL hb, itmL hc, itmL hd, rul_e ha hb hc hd (by omega)]
  exact hq
theorem far_e {a b c d s : Nat} (hs : cs a = s) (ha : 0 < a) (ha2 : a < 256) : lN (kN 0 b c d) + (lN s <<< ((nI 32).toInt64 &&& 63)) + (((itm a).toInt64 + 1) <<< ((nI 24).toInt64 &&& 63)) = lN (kN a b c d) := by
  rw [itmL ha2, wb_shl s (by decide), wb_shl a (by decide), lN_add, lN_add]
  refine congrArg lN ?_
  unfold kN
  rw [hs, show cs 0 = 0 from rfl]
  omega
set_option maxRecDepth 20000 in
theorem pX11_withFar {h : mH} {Q : Option Value → mH → Prop} {a b c d : Nat} (ha : 0 < a) (ha2 : a < 256) (hq : Q (some (.long (lN (kN a b c d)))) h) : Wp mX11_withFar 0 0 0 [some (.long (lN (kN 0 b c d))), none, some (.int (itm a)), none, none] [] h Q := by
  have e8 : itm a = nI (a - 1) := if_neg (by omega)
  have hq : ∀ z, z = lN (kN a b c d) → Q (some (.long z)) h := fun z hz => hz ▸ hq
  rw [e8]
  refine wp_iload_n dX11_withFar_0 rfl rfl ?_
  refine wp_iconst (v := (nI 3)) dX11_withFar_1 (by decide +kernel) ?_
  refine wp_icmp_geN dX11_withFar_2 rfl rfl ⟨by omega, by omega⟩ (fun c2 => ?_) (fun c2 => ?_)
  · refine wp_ldc2 dX11_withFar_11 lX11_448 ?_
    refine wp_lstore_n (ls1 := [_, _, _, some _, _]) dX11_withFar_14 rfl (by decide) rfl ?_
    refine wp_lload_n dX11_withFar_15 rfl rfl ?_
    refine wp_lload_n dX11_withFar_16 rfl rfl ?_
    refine wp_bipush (v := (nI 32)) dX11_withFar_17 (by decide +kernel) ?_
    refine wp_lshl dX11_withFar_19 ?_
    refine wp_ladd dX11_withFar_20 ?_
    refine wp_iload_n dX11_withFar_21 rfl rfl ?_
    refine wp_i2l dX11_withFar_22 ?_
    refine wp_lconst (v := 1) dX11_withFar_23 (by decide +kernel) ?_
    refine wp_ladd dX11_withFar_24 ?_
    refine wp_bipush (v := (nI 24)) dX11_withFar_25 (by decide +kernel) ?_
    refine wp_lshl dX11_withFar_27 ?_
    refine wp_ladd dX11_withFar_28 ?_
    refine wp_lreturn dX11_withFar_29 rfl ?_
    rw [← e8]
    refine hq _ (far_e (by unfold cs; rw [if_neg (by omega)]; first | exact if_pos (by omega) | exact if_neg (by omega)) ha ha2)
  · refine wp_ldc2 dX11_withFar_5 lX11_446 ?_
    refine wp_goto dX11_withFar_8 ?_
    refine wp_lstore_n (ls1 := [_, _, _, some _, _]) dX11_withFar_14 rfl (by decide) rfl ?_
    refine wp_lload_n dX11_withFar_15 rfl rfl ?_
    refine wp_lload_n dX11_withFar_16 rfl rfl ?_
    refine wp_bipush (v := (nI 32)) dX11_withFar_17 (by decide +kernel) ?_
    refine wp_lshl dX11_withFar_19 ?_
    refine wp_ladd dX11_withFar_20 ?_
    refine wp_iload_n dX11_withFar_21 rfl rfl ?_
    refine wp_i2l dX11_withFar_22 ?_
    refine wp_lconst (v := 1) dX11_withFar_23 (by decide +kernel) ?_
    refine wp_ladd dX11_withFar_24 ?_
    refine wp_bipush (v := (nI 24)) dX11_withFar_25 (by decide +kernel) ?_
    refine wp_lshl dX11_withFar_27 ?_
    refine wp_ladd dX11_withFar_28 ?_
    refine wp_lreturn dX11_withFar_29 rfl ?_
    rw [← e8]
    refine hq _ (far_e (by unfold cs; rw [if_neg (by omega)]; first | exact if_pos (by omega) | exact if_neg (by omega)) ha ha2)
theorem shr24 : ∀ w, w < 4 → ((((nI 24 - nI 8 * nI w)).toInt64 &&& 63).toBitVec.smod 64).toNat = 8 * (3 - w) := by decide +kernel
theorem itmC {k w : Nat} (hk : k < 1099511627776) (hw : w < 4) : ((lN k >>> ((nI 24 - nI 8 * nI w).toInt64 &&& 63)) &&& 255).toInt32 - nI 1 = itm (kI k w) := by
  rw [← itmN hk hw, pf_shr (shr24 w hw) (by omega), pf_shr (shr8 w hw) (by omega)]
set_option maxRecDepth 20000 in
theorem pX11_itemOf {h : mH} {Q : Option Value → mH → Prop} {k w : Nat} (hk : k < 1099511627776) (hw : w < 4) (hq : Q (some (.int (itm (kI k w)))) h) : Wp mX11_itemOf 0 0 0 [some (.long (lN k)), none, some (.int (nI w))] [] h Q := by
  refine wp_lload_n dX11_itemOf_0 rfl rfl ?_
  refine wp_bipush (v := (nI 24)) dX11_itemOf_1 (by decide +kernel) ?_
  refine wp_bipush (v := (nI 8)) dX11_itemOf_3 (by decide +kernel) ?_
  refine wp_iload_n dX11_itemOf_5 rfl rfl ?_
  refine wp_imul dX11_itemOf_6 ?_
  refine wp_isub dX11_itemOf_7 ?_
  refine wp_lshr dX11_itemOf_8 ?_
  refine wp_ldc2 dX11_itemOf_9 lX11_435 ?_
  refine wp_land dX11_itemOf_12 ?_
  refine wp_l2i dX11_itemOf_13 ?_
  refine wp_iconst (v := (nI 1)) dX11_itemOf_14 (by decide +kernel) ?_
  refine wp_isub dX11_itemOf_15 ?_
  refine wp_ireturn dX11_itemOf_16 rfl ?_
  rw [itmC hk hw]
  exact hq
set_option maxRecDepth 20000 in
theorem pX11_costOf {h : mH} {Q : Option Value → mH → Prop} {k : Nat} (hk : k < 1099511627776) (hq : Q (some (.int (nI (k / 4294967296)))) h) : Wp mX11_costOf 0 0 0 [some (.long (lN k)), none] [] h Q := by
  refine wp_lload_n dX11_costOf_0 rfl rfl ?_
  refine wp_bipush (v := (nI 32)) dX11_costOf_1 (by decide +kernel) ?_
  refine wp_lshr dX11_costOf_3 ?_
  refine wp_l2i dX11_costOf_4 ?_
  refine wp_ireturn dX11_costOf_5 rfl ?_
  rw [costN hk]
  exact hq
def dtV (k : Nat) (what : Int32) : Int32 := match ix what 5 with
  | some w => if w = 4 then nI (k / 4294967296) else itm (kI k w)
  | none => -2
theorem dtV_n {k : Nat} {what : Int32} (h : ix what 5 = none) : dtV k what = -2 := by
  unfold dtV
  rw [h]
theorem dtV_k {k w : Nat} (h : w < 5) : dtV k (nI w) = if w = 4 then nI (k / 4294967296) else itm (kI k w) := by
  unfold dtV
  rw [ix_nI h (by decide)]
set_option maxRecDepth 20000 in
theorem pX11_detailOf {h : mH} {Q : Option Value → mH → Prop} {k : Nat} {w : Int32} (hk9 : k < 1099511627776) (hq : Q (some (.int (dtV k w))) h) : Wp mX11_detailOf 1 22 0 [some (.long (lN k)), none, some (.int w)] [] h Q := by
  have hz : ∀ z, dtV k w = z → Q (some (.int z)) h := fun z e => e ▸ hq
  refine wp_iload_n dX11_detailOf_0 rfl rfl ?_
  refine wp_if_lt dX11_detailOf_1 (fun c2 => ?_) (fun c2 => ?_)
  · refine wp_bipush (v := (-2)) dX11_detailOf_9 (by decide +kernel) ?_
    refine wp_ireturn dX11_detailOf_11 rfl ?_
    exact hz _ (dtV_n (ix_lt0 c2))
  · refine wp_iload_n dX11_detailOf_4 rfl rfl ?_
    refine wp_iconst (v := (nI 4)) dX11_detailOf_5 (by decide +kernel) ?_
    refine wp_icmp_le dX11_detailOf_6 (fun c4 => ?_) (fun c4 => ?_)
    · obtain ⟨j1, hj1, ej1⟩ := ix_le (by omega) c2 c4
      subst ej1
      refine wp_iload_n dX11_detailOf_12 rfl rfl ?_
      refine wp_iconst (v := (nI 4)) dX11_detailOf_13 (by decide +kernel) ?_
      refine wp_icmp_neN dX11_detailOf_14 rfl rfl ⟨by omega, by omega⟩ (fun c5 => ?_) (fun c5 => ?_)
      · refine wp_lload_n dX11_detailOf_24 rfl rfl ?_
        refine wp_iload_n dX11_detailOf_25 rfl rfl ?_
        refine wp_cS2 0 0 [some _, none, some _] dX11_detailOf_26 tX11_itemOf sX11_itemOf lX11_453 ⟨by decide, by decide⟩ (Nat.le_of_ble_eq_true rfl) (Nat.le_of_ble_eq_true rfl) rfl ?_
        refine pX11_itemOf hk9 (by omega) ?_
        intro _ _
        refine wp_ireturn dX11_detailOf_29 rfl ?_
        exact hz _ ((dtV_k (by omega)).trans (by first | exact if_pos (by assumption) | exact if_neg (by assumption)))
      · refine wp_lload_n dX11_detailOf_17 rfl rfl ?_
        refine wp_cS1 0 0 [some _, none] dX11_detailOf_18 tX11_costOf sX11_costOf lX11_450 ⟨by decide, by decide⟩ (Nat.le_of_ble_eq_true rfl) (Nat.le_of_ble_eq_true rfl) rfl ?_
        refine pX11_costOf hk9 ?_
        intro _ _
        refine wp_goto dX11_detailOf_21 ?_
        refine wp_ireturn dX11_detailOf_29 rfl ?_
        exact hz _ ((dtV_k (by omega)).trans (by first | exact if_pos (by assumption) | exact if_neg (by assumption)))
    · refine wp_bipush (v := (-2)) dX11_detailOf_9 (by decide +kernel) ?_
      refine wp_ireturn dX11_detailOf_11 rfl ?_
      exact hz _ (dtV_n (ix_nle (by omega) c4))
