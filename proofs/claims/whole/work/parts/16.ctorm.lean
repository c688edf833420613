def iX12_1 (h : mH) (a : Nat) : mH := al (al (al (al (al (al (al (sI (sI (al (h) a 0 14 900) a 8 (-1)) a 10 (-1)) a 12 15 4) a 13 15 240) a 14 14 4) a 15 14 6) a 16 14 4) a 17 16 4) a 18 16 4
def iX12_2 (h : mH) (a : Nat) : mH := al (al (al (al (al (al (al (al (al (al (iX12_1 h a) a 22 15 935) a 23 15 240) a 25 14 240) a 26 14 240) a 27 15 14960) a 30 14 40) a 31 14 40) a 33 14 8) a 34 14 8) a 36 15 12000
def iX12_3 (h : mH) (a : Nat) : mH := al (al (al (al (al (al (al (al (al (al (iX12_2 h a) a 37 14 12000) a 38 14 12000) a 39 14 12000) a 40 14 32768) a 42 14 64) a 43 14 64) a 44 14 64) a 45 14 64) a 46 14 6) a 49 15 44
def iX12_4 (h : mH) (a : Nat) : mH := al (al (al (al (al (al (al (al (al (al (iX12_3 h a) a 51 14 4) a 52 14 400) a 53 14 400) a 55 15 12000) a 56 15 12000) a 57 15 12000) a 58 14 12000) a 59 14 32768) a 63 15 1870) a 64 16 2
def iX12 (h : mH) (a : Nat) : mH := sI (sI (sI (iX12_4 h a) a 19 (0)) a 20 (0)) a 21 (0)
theorem hN_iX12_1 (h : mH) (a : Nat) : hN (iX12_1 h a) = hN h + 8 := by
  unfold iX12_1
  rw [hN_al, hN_al, hN_al, hN_al, hN_al, hN_al, hN_al, hN_sI, hN_sI, hN_al]
  try omega
theorem hU_iX12_1 (h : mH) (a : Nat) : hU (iX12_1 h a) = hU h + 1166 := by
  unfold iX12_1
  rw [hU_al, hU_al, hU_al, hU_al, hU_al, hU_al, hU_al, hU_sI, hU_sI, hU_al]
  try omega
theorem hN_iX12_2 (h : mH) (a : Nat) : hN (iX12_2 h a) = hN h + 18 := by
  have e2 := hN_iX12_1 h a
  unfold iX12_2
  rw [hN_al, hN_al, hN_al, hN_al, hN_al, hN_al, hN_al, hN_al, hN_al, hN_al]
  try omega
theorem hU_iX12_2 (h : mH) (a : Nat) : hU (iX12_2 h a) = hU h + 29877 := by
  have e2 := hU_iX12_1 h a
  unfold iX12_2
  rw [hU_al, hU_al, hU_al, hU_al, hU_al, hU_al, hU_al, hU_al, hU_al, hU_al]
  try omega
theorem hN_iX12_3 (h : mH) (a : Nat) : hN (iX12_3 h a) = hN h + 28 := by
  have e2 := hN_iX12_2 h a
  unfold iX12_3
  rw [hN_al, hN_al, hN_al, hN_al, hN_al, hN_al, hN_al, hN_al, hN_al, hN_al]
  try omega
theorem hU_iX12_3 (h : mH) (a : Nat) : hU (iX12_3 h a) = hU h + 98951 := by
  have e2 := hU_iX12_2 h a
  unfold iX12_3
  rw [hU_al, hU_al, hU_al, hU_al, hU_al, hU_al, hU_al, hU_al, hU_al, hU_al]
  try omega
theorem hN_iX12_4 (h : mH) (a : Nat) : hN (iX12_4 h a) = hN h + 38 := by
  have e2 := hN_iX12_3 h a
  unfold iX12_4
  rw [hN_al, hN_al, hN_al, hN_al, hN_al, hN_al, hN_al, hN_al, hN_al, hN_al]
  try omega
theorem hU_iX12_4 (h : mH) (a : Nat) : hU (iX12_4 h a) = hU h + 182395 := by
  have e2 := hU_iX12_3 h a
  unfold iX12_4
  rw [hU_al, hU_al, hU_al, hU_al, hU_al, hU_al, hU_al, hU_al, hU_al, hU_al]
  try omega
theorem hN_iX12 (h : mH) (a : Nat) : hN (iX12 h a) = hN h + 38 := by
  have e2 := hN_iX12_4 h a
  unfold iX12
  rw [hN_sI, hN_sI, hN_sI]
  try omega
theorem hU_iX12 (h : mH) (a : Nat) : hU (iX12 h a) = hU h + 182395 := by
  have e2 := hU_iX12_4 h a
  unfold iX12
  rw [hU_sI, hU_sI, hU_sI]
  try omega
set_option maxRecDepth 40000 in
theorem pX12_init {h : mH} {a : Nat} {Q : Option Value → mH → Prop} (ho : hO h a 12) (hq : Q none (iX12 h a)) : Wp mX12_init 1 20 0 [some (.ref a)] [] h Q := by
  refine wp_aload_n dX12_init_0 rfl rfl ?_
  refine wp_objInit dX12_init_1 lX12_1 wOi wOc (Nat.le_of_ble_eq_true rfl) (by decide) ?_
  refine wp_aload_n dX12_init_4 rfl rfl ?_
  refine wp_sipush (v := (nI 900)) dX12_init_5 (by decide +kernel) ?_
  refine wp_newI (N := 900) dX12_init_8 wAc14 (by decide +kernel) (by decide +kernel) (by decide +kernel) ?_
  refine wp_putR (v := some _) dX12_init_10 lX12_7 rfl (Or.inr ⟨rfl, rfl, rfl⟩) (hO_nw ho) ?_
  refine wp_aload_n dX12_init_13 rfl rfl ?_
  refine wp_iconst (v := (-1)) dX12_init_14 (by decide +kernel) ?_
  refine wp_putI dX12_init_15 lX12_13 rfl (Or.inl rfl) (hO_nw ho) rfl rfl ?_
  refine wp_aload_n dX12_init_18 rfl rfl ?_
  refine wp_iconst (v := (-1)) dX12_init_19 (by decide +kernel) ?_
  refine wp_putI dX12_init_20 lX12_17 rfl (Or.inl rfl) (hO_nw ho) rfl rfl ?_
  refine wp_aload_n dX12_init_23 rfl rfl ?_
  refine wp_iconst (v := (nI 4)) dX12_init_24 (by decide +kernel) ?_
  refine wp_newL (N := 4) dX12_init_25 wAc15 (by decide +kernel) (by decide +kernel) (by decide +kernel) ?_
  refine wp_putR (v := some _) dX12_init_27 lX12_20 rfl (Or.inr ⟨rfl, rfl, rfl⟩) (hO_nw (hO_nw ho)) ?_
  refine wp_aload_n dX12_init_30 rfl rfl ?_
  refine wp_sipush (v := (nI 240)) dX12_init_31 (by decide +kernel) ?_
  refine wp_newL (N := 240) dX12_init_34 wAc15 (by decide +kernel) (by decide +kernel) (by decide +kernel) ?_
  refine wp_putR (v := some _) dX12_init_36 lX12_24 rfl (Or.inr ⟨rfl, rfl, rfl⟩) (hO_nw (hO_nw (hO_nw ho))) ?_
  refine wp_aload_n dX12_init_39 rfl rfl ?_
  refine wp_iconst (v := (nI 4)) dX12_init_40 (by decide +kernel) ?_
  refine wp_newI (N := 4) dX12_init_41 wAc14 (by decide +kernel) (by decide +kernel) (by decide +kernel) ?_
  refine wp_putR (v := some _) dX12_init_43 lX12_27 rfl (Or.inr ⟨rfl, rfl, rfl⟩) (hO_nw (hO_nw (hO_nw (hO_nw ho)))) ?_
  refine wp_aload_n dX12_init_46 rfl rfl ?_
  refine wp_bipush (v := (nI 6)) dX12_init_47 (by decide +kernel) ?_
  refine wp_newI (N := 6) dX12_init_49 wAc14 (by decide +kernel) (by decide +kernel) (by decide +kernel) ?_
  refine wp_putR (v := some _) dX12_init_51 lX12_30 rfl (Or.inr ⟨rfl, rfl, rfl⟩) (hO_nw (hO_nw (hO_nw (hO_nw (hO_nw ho))))) ?_
  refine wp_aload_n dX12_init_54 rfl rfl ?_
  refine wp_iconst (v := (nI 4)) dX12_init_55 (by decide +kernel) ?_
  refine wp_newI (N := 4) dX12_init_56 wAc14 (by decide +kernel) (by decide +kernel) (by decide +kernel) ?_
  refine wp_putR (v := some _) dX12_init_58 lX12_33 rfl (Or.inr ⟨rfl, rfl, rfl⟩) (hO_nw (hO_nw (hO_nw (hO_nw (hO_nw (hO_nw ho)))))) ?_
  refine wp_aload_n dX12_init_61 rfl rfl ?_
  refine wp_iconst (v := (nI 4)) dX12_init_62 (by decide +kernel) ?_
  refine wp_newZ (N := 4) dX12_init_63 wAc16 (by decide +kernel) (by decide +kernel) (by decide +kernel) ?_
  refine wp_putR (v := some _) dX12_init_65 lX12_36 rfl (Or.inr ⟨rfl, rfl, rfl⟩) (hO_nw (hO_nw (hO_nw (hO_nw (hO_nw (hO_nw (hO_nw ho))))))) ?_
  refine wp_aload_n dX12_init_68 rfl rfl ?_
  refine wp_iconst (v := (nI 4)) dX12_init_69 (by decide +kernel) ?_
  refine wp_newZ (N := 4) dX12_init_70 wAc16 (by decide +kernel) (by decide +kernel) (by decide +kernel) ?_
  refine wp_putR (v := some _) dX12_init_72 lX12_40 rfl (Or.inr ⟨rfl, rfl, rfl⟩) (hO_nw (hO_nw (hO_nw (hO_nw (hO_nw (hO_nw (hO_nw (hO_nw ho)))))))) ?_
  refine wp_aload_n dX12_init_75 rfl rfl ?_
  refine wp_sipush (v := (nI 935)) dX12_init_76 (by decide +kernel) ?_
  refine wp_newL (N := 935) dX12_init_79 wAc15 (by decide +kernel) (by decide +kernel) (by decide +kernel) ?_
  refine wp_putR (v := some _) dX12_init_81 lX12_43 rfl (Or.inr ⟨rfl, rfl, rfl⟩) (hO_nw (hO_nw (hO_nw (hO_nw (hO_nw (hO_nw (hO_nw (hO_nw (hO_nw ho))))))))) ?_
  refine wp_aload_n dX12_init_84 rfl rfl ?_
  refine wp_sipush (v := (nI 240)) dX12_init_85 (by decide +kernel) ?_
  refine wp_newL (N := 240) dX12_init_88 wAc15 (by decide +kernel) (by decide +kernel) (by decide +kernel) ?_
  refine wp_putR (v := some _) dX12_init_90 lX12_46 rfl (Or.inr ⟨rfl, rfl, rfl⟩) (hO_nw (hO_nw (hO_nw (hO_nw (hO_nw (hO_nw (hO_nw (hO_nw (hO_nw (hO_nw ho)))))))))) ?_
  refine wp_aload_n dX12_init_93 rfl rfl ?_
  refine wp_sipush (v := (nI 240)) dX12_init_94 (by decide +kernel) ?_
  refine wp_newI (N := 240) dX12_init_97 wAc14 (by decide +kernel) (by decide +kernel) (by decide +kernel) ?_
  refine wp_putR (v := some _) dX12_init_99 lX12_49 rfl (Or.inr ⟨rfl, rfl, rfl⟩) (hO_nw (hO_nw (hO_nw (hO_nw (hO_nw (hO_nw (hO_nw (hO_nw (hO_nw (hO_nw (hO_nw ho))))))))))) ?_
  refine wp_aload_n dX12_init_102 rfl rfl ?_
  refine wp_sipush (v := (nI 240)) dX12_init_103 (by decide +kernel) ?_
  refine wp_newI (N := 240) dX12_init_106 wAc14 (by decide +kernel) (by decide +kernel) (by decide +kernel) ?_
  refine wp_putR (v := some _) dX12_init_108 lX12_52 rfl (Or.inr ⟨rfl, rfl, rfl⟩) (hO_nw (hO_nw (hO_nw (hO_nw (hO_nw (hO_nw (hO_nw (hO_nw (hO_nw (hO_nw (hO_nw (hO_nw ho)))))))))))) ?_
  refine wp_aload_n dX12_init_111 rfl rfl ?_
  refine wp_sipush (v := (nI 14960)) dX12_init_112 (by decide +kernel) ?_
  refine wp_newL (N := 14960) dX12_init_115 wAc15 (by decide +kernel) (by decide +kernel) (by decide +kernel) ?_
  refine wp_putR (v := some _) dX12_init_117 lX12_55 rfl (Or.inr ⟨rfl, rfl, rfl⟩) (hO_nw (hO_nw (hO_nw (hO_nw (hO_nw (hO_nw (hO_nw (hO_nw (hO_nw (hO_nw (hO_nw (hO_nw (hO_nw ho))))))))))))) ?_
  refine wp_aload_n dX12_init_120 rfl rfl ?_
  refine wp_bipush (v := (nI 40)) dX12_init_121 (by decide +kernel) ?_
  refine wp_newI (N := 40) dX12_init_123 wAc14 (by decide +kernel) (by decide +kernel) (by decide +kernel) ?_
  refine wp_putR (v := some _) dX12_init_125 lX12_58 rfl (Or.inr ⟨rfl, rfl, rfl⟩) (hO_nw (hO_nw (hO_nw (hO_nw (hO_nw (hO_nw (hO_nw (hO_nw (hO_nw (hO_nw (hO_nw (hO_nw (hO_nw (hO_nw ho)))))))))))))) ?_
  refine wp_aload_n dX12_init_128 rfl rfl ?_
  refine wp_bipush (v := (nI 40)) dX12_init_129 (by decide +kernel) ?_
  refine wp_newI (N := 40) dX12_init_131 wAc14 (by decide +kernel) (by decide +kernel) (by decide +kernel) ?_
  refine wp_putR (v := some _) dX12_init_133 lX12_61 rfl (Or.inr ⟨rfl, rfl, rfl⟩) (hO_nw (hO_nw (hO_nw (hO_nw (hO_nw (hO_nw (hO_nw (hO_nw (hO_nw (hO_nw (hO_nw (hO_nw (hO_nw (hO_nw (hO_nw ho))))))))))))))) ?_
  refine wp_aload_n dX12_init_136 rfl rfl ?_
  refine wp_bipush (v := (nI 8)) dX12_init_137 (by decide +kernel) ?_
  refine wp_newI (N := 8) dX12_init_139 wAc14 (by decide +kernel) (by decide +kernel) (by decide +kernel) ?_
  refine wp_putR (v := some _) dX12_init_141 lX12_64 rfl (Or.inr ⟨rfl, rfl, rfl⟩) (hO_nw (hO_nw (hO_nw (hO_nw (hO_nw (hO_nw (hO_nw (hO_nw (hO_nw (hO_nw (hO_nw (hO_nw (hO_nw (hO_nw (hO_nw (hO_nw ho)))))))))))))))) ?_
  refine wp_aload_n dX12_init_144 rfl rfl ?_
  refine wp_bipush (v := (nI 8)) dX12_init_145 (by decide +kernel) ?_
  refine wp_newI (N := 8) dX12_init_147 wAc14 (by decide +kernel) (by decide +kernel) (by decide +kernel) ?_
  refine wp_putR (v := some _) dX12_init_149 lX12_67 rfl (Or.inr ⟨rfl, rfl, rfl⟩) (hO_nw (hO_nw (hO_nw (hO_nw (hO_nw (hO_nw (hO_nw (hO_nw (hO_nw (hO_nw (hO_nw (hO_nw (hO_nw (hO_nw (hO_nw (hO_nw (hO_nw ho))))))))))))))))) ?_
  refine wp_aload_n dX12_init_152 rfl rfl ?_
  refine wp_sipush (v := (nI 12000)) dX12_init_153 (by decide +kernel) ?_
  refine wp_newL (N := 12000) dX12_init_156 wAc15 (by decide +kernel) (by decide +kernel) (by decide +kernel) ?_
  refine wp_putR (v := some _) dX12_init_158 lX12_70 rfl (Or.inr ⟨rfl, rfl, rfl⟩) (hO_nw (hO_nw (hO_nw (hO_nw (hO_nw (hO_nw (hO_nw (hO_nw (hO_nw (hO_nw (hO_nw (hO_nw (hO_nw (hO_nw (hO_nw (hO_nw (hO_nw (hO_nw ho)))))))))))))))))) ?_
  refine wp_aload_n dX12_init_161 rfl rfl ?_
  refine wp_sipush (v := (nI 12000)) dX12_init_162 (by decide +kernel) ?_
  refine wp_newI (N := 12000) dX12_init_165 wAc14 (by decide +kernel) (by decide +kernel) (by decide +kernel) ?_
  refine wp_putR (v := some _) dX12_init_167 lX12_73 rfl (Or.inr ⟨rfl, rfl, rfl⟩) (hO_nw (hO_nw (hO_nw (hO_nw (hO_nw (hO_nw (hO_nw (hO_nw (hO_nw (hO_nw (hO_nw (hO_nw (hO_nw (hO_nw (hO_nw (hO_nw (hO_nw (hO_nw (hO_nw ho))))))))))))))))))) ?_
  refine wp_aload_n dX12_init_170 rfl rfl ?_
  refine wp_sipush (v := (nI 12000)) dX12_init_171 (by decide +kernel) ?_
  refine wp_newI (N := 12000) dX12_init_174 wAc14 (by decide +kernel) (by decide +kernel) (by decide +kernel) ?_
  refine wp_putR (v := some _) dX12_init_176 lX12_76 rfl (Or.inr ⟨rfl, rfl, rfl⟩) (hO_nw (hO_nw (hO_nw (hO_nw (hO_nw (hO_nw (hO_nw (hO_nw (hO_nw (hO_nw (hO_nw (hO_nw (hO_nw (hO_nw (hO_nw (hO_nw (hO_nw (hO_nw (hO_nw (hO_nw ho)))))))))))))))))))) ?_
  refine wp_aload_n dX12_init_179 rfl rfl ?_
  refine wp_sipush (v := (nI 12000)) dX12_init_180 (by decide +kernel) ?_
  refine wp_newI (N := 12000) dX12_init_183 wAc14 (by decide +kernel) (by decide +kernel) (by decide +kernel) ?_
  refine wp_putR (v := some _) dX12_init_185 lX12_79 rfl (Or.inr ⟨rfl, rfl, rfl⟩) (hO_nw (hO_nw (hO_nw (hO_nw (hO_nw (hO_nw (hO_nw (hO_nw (hO_nw (hO_nw (hO_nw (hO_nw (hO_nw (hO_nw (hO_nw (hO_nw (hO_nw (hO_nw (hO_nw (hO_nw (hO_nw ho))))))))))))))))))))) ?_
  refine wp_aload_n dX12_init_188 rfl rfl ?_
  refine wp_ldc dX12_init_189 lX12_82 ?_
  refine wp_newI (N := 32768) dX12_init_191 wAc14 (by decide +kernel) (by decide +kernel) (by decide +kernel) ?_
  refine wp_putR (v := some _) dX12_init_193 lX12_83 rfl (Or.inr ⟨rfl, rfl, rfl⟩) (hO_nw (hO_nw (hO_nw (hO_nw (hO_nw (hO_nw (hO_nw (hO_nw (hO_nw (hO_nw (hO_nw (hO_nw (hO_nw (hO_nw (hO_nw (hO_nw (hO_nw (hO_nw (hO_nw (hO_nw (hO_nw (hO_nw ho)))))))))))))))))))))) ?_
  refine wp_aload_n dX12_init_196 rfl rfl ?_
  refine wp_bipush (v := (nI 64)) dX12_init_197 (by decide +kernel) ?_
  refine wp_newI (N := 64) dX12_init_199 wAc14 (by decide +kernel) (by decide +kernel) (by decide +kernel) ?_
  refine wp_putR (v := some _) dX12_init_201 lX12_86 rfl (Or.inr ⟨rfl, rfl, rfl⟩) (hO_nw (hO_nw (hO_nw (hO_nw (hO_nw (hO_nw (hO_nw (hO_nw (hO_nw (hO_nw (hO_nw (hO_nw (hO_nw (hO_nw (hO_nw (hO_nw (hO_nw (hO_nw (hO_nw (hO_nw (hO_nw (hO_nw (hO_nw ho))))))))))))))))))))))) ?_
  refine wp_aload_n dX12_init_204 rfl rfl ?_
  refine wp_bipush (v := (nI 64)) dX12_init_205 (by decide +kernel) ?_
  refine wp_newI (N := 64) dX12_init_207 wAc14 (by decide +kernel) (by decide +kernel) (by decide +kernel) ?_
  refine wp_putR (v := some _) dX12_init_209 lX12_89 rfl (Or.inr ⟨rfl, rfl, rfl⟩) (hO_nw (hO_nw (hO_nw (hO_nw (hO_nw (hO_nw (hO_nw (hO_nw (hO_nw (hO_nw (hO_nw (hO_nw (hO_nw (hO_nw (hO_nw (hO_nw (hO_nw (hO_nw (hO_nw (hO_nw (hO_nw (hO_nw (hO_nw (hO_nw ho)))))))))))))))))))))))) ?_
  refine wp_aload_n dX12_init_212 rfl rfl ?_
  refine wp_bipush (v := (nI 64)) dX12_init_213 (by decide +kernel) ?_
  refine wp_newI (N := 64) dX12_init_215 wAc14 (by decide +kernel) (by decide +kernel) (by decide +kernel) ?_
  refine wp_putR (v := some _) dX12_init_217 lX12_92 rfl (Or.inr ⟨rfl, rfl, rfl⟩) (hO_nw (hO_nw (hO_nw (hO_nw (hO_nw (hO_nw (hO_nw (hO_nw (hO_nw (hO_nw (hO_nw (hO_nw (hO_nw (hO_nw (hO_nw (hO_nw (hO_nw (hO_nw (hO_nw (hO_nw (hO_nw (hO_nw (hO_nw (hO_nw (hO_nw ho))))))))))))))))))))))))) ?_
  refine wp_aload_n dX12_init_220 rfl rfl ?_
  refine wp_bipush (v := (nI 64)) dX12_init_221 (by decide +kernel) ?_
  refine wp_newI (N := 64) dX12_init_223 wAc14 (by decide +kernel) (by decide +kernel) (by decide +kernel) ?_
  refine wp_putR (v := some _) dX12_init_225 lX12_95 rfl (Or.inr ⟨rfl, rfl, rfl⟩) (hO_nw (hO_nw (hO_nw (hO_nw (hO_nw (hO_nw (hO_nw (hO_nw (hO_nw (hO_nw (hO_nw (hO_nw (hO_nw (hO_nw (hO_nw (hO_nw (hO_nw (hO_nw (hO_nw (hO_nw (hO_nw (hO_nw (hO_nw (hO_nw (hO_nw (hO_nw ho)))))))))))))))))))))))))) ?_
  refine wp_aload_n dX12_init_228 rfl rfl ?_
  refine wp_bipush (v := (nI 6)) dX12_init_229 (by decide +kernel) ?_
  refine wp_newI (N := 6) dX12_init_231 wAc14 (by decide +kernel) (by decide +kernel) (by decide +kernel) ?_
  refine wp_putR (v := some _) dX12_init_233 lX12_98 rfl (Or.inr ⟨rfl, rfl, rfl⟩) (hO_nw (hO_nw (hO_nw (hO_nw (hO_nw (hO_nw (hO_nw (hO_nw (hO_nw (hO_nw (hO_nw (hO_nw (hO_nw (hO_nw (hO_nw (hO_nw (hO_nw (hO_nw (hO_nw (hO_nw (hO_nw (hO_nw (hO_nw (hO_nw (hO_nw (hO_nw (hO_nw ho))))))))))))))))))))))))))) ?_
  refine wp_aload_n dX12_init_236 rfl rfl ?_
  refine wp_bipush (v := (nI 44)) dX12_init_237 (by decide +kernel) ?_
  refine wp_newL (N := 44) dX12_init_239 wAc15 (by decide +kernel) (by decide +kernel) (by decide +kernel) ?_
  refine wp_putR (v := some _) dX12_init_241 lX12_101 rfl (Or.inr ⟨rfl, rfl, rfl⟩) (hO_nw (hO_nw (hO_nw (hO_nw (hO_nw (hO_nw (hO_nw (hO_nw (hO_nw (hO_nw (hO_nw (hO_nw (hO_nw (hO_nw (hO_nw (hO_nw (hO_nw (hO_nw (hO_nw (hO_nw (hO_nw (hO_nw (hO_nw (hO_nw (hO_nw (hO_nw (hO_nw (hO_nw ho)))))))))))))))))))))))))))) ?_
  refine wp_aload_n dX12_init_244 rfl rfl ?_
  refine wp_iconst (v := (nI 4)) dX12_init_245 (by decide +kernel) ?_
  refine wp_newI (N := 4) dX12_init_246 wAc14 (by decide +kernel) (by decide +kernel) (by decide +kernel) ?_
  refine wp_putR (v := some _) dX12_init_248 lX12_104 rfl (Or.inr ⟨rfl, rfl, rfl⟩) (hO_nw (hO_nw (hO_nw (hO_nw (hO_nw (hO_nw (hO_nw (hO_nw (hO_nw (hO_nw (hO_nw (hO_nw (hO_nw (hO_nw (hO_nw (hO_nw (hO_nw (hO_nw (hO_nw (hO_nw (hO_nw (hO_nw (hO_nw (hO_nw (hO_nw (hO_nw (hO_nw (hO_nw (hO_nw ho))))))))))))))))))))))))))))) ?_
  refine wp_aload_n dX12_init_251 rfl rfl ?_
  refine wp_sipush (v := (nI 400)) dX12_init_252 (by decide +kernel) ?_
  refine wp_newI (N := 400) dX12_init_255 wAc14 (by decide +kernel) (by decide +kernel) (by decide +kernel) ?_
  refine wp_putR (v := some _) dX12_init_257 lX12_107 rfl (Or.inr ⟨rfl, rfl, rfl⟩) (hO_nw (hO_nw (hO_nw (hO_nw (hO_nw (hO_nw (hO_nw (hO_nw (hO_nw (hO_nw (hO_nw (hO_nw (hO_nw (hO_nw (hO_nw (hO_nw (hO_nw (hO_nw (hO_nw (hO_nw (hO_nw (hO_nw (hO_nw (hO_nw (hO_nw (hO_nw (hO_nw (hO_nw (hO_nw (hO_nw ho)))))))))))))))))))))))))))))) ?_
  refine wp_aload_n dX12_init_260 rfl rfl ?_
  refine wp_sipush (v := (nI 400)) dX12_init_261 (by decide +kernel) ?_
  refine wp_newI (N := 400) dX12_init_264 wAc14 (by decide +kernel) (by decide +kernel) (by decide +kernel) ?_
  refine wp_putR (v := some _) dX12_init_266 lX12_110 rfl (Or.inr ⟨rfl, rfl, rfl⟩) (hO_nw (hO_nw (hO_nw (hO_nw (hO_nw (hO_nw (hO_nw (hO_nw (hO_nw (hO_nw (hO_nw (hO_nw (hO_nw (hO_nw (hO_nw (hO_nw (hO_nw (hO_nw (hO_nw (hO_nw (hO_nw (hO_nw (hO_nw (hO_nw (hO_nw (hO_nw (hO_nw (hO_nw (hO_nw (hO_nw (hO_nw ho))))))))))))))))))))))))))))))) ?_
  refine wp_aload_n dX12_init_269 rfl rfl ?_
  refine wp_sipush (v := (nI 12000)) dX12_init_270 (by decide +kernel) ?_
  refine wp_newL (N := 12000) dX12_init_273 wAc15 (by decide +kernel) (by decide +kernel) (by decide +kernel) ?_
  refine wp_putR (v := some _) dX12_init_275 lX12_113 rfl (Or.inr ⟨rfl, rfl, rfl⟩) (hO_nw (hO_nw (hO_nw (hO_nw (hO_nw (hO_nw (hO_nw (hO_nw (hO_nw (hO_nw (hO_nw (hO_nw (hO_nw (hO_nw (hO_nw (hO_nw (hO_nw (hO_nw (hO_nw (hO_nw (hO_nw (hO_nw (hO_nw (hO_nw (hO_nw (hO_nw (hO_nw (hO_nw (hO_nw (hO_nw (hO_nw (hO_nw ho)))))))))))))))))))))))))))))))) ?_
  refine wp_aload_n dX12_init_278 rfl rfl ?_
  refine wp_sipush (v := (nI 12000)) dX12_init_279 (by decide +kernel) ?_
  refine wp_newL (N := 12000) dX12_init_282 wAc15 (by decide +kernel) (by decide +kernel) (by decide +kernel) ?_
  refine wp_putR (v := some _) dX12_init_284 lX12_116 rfl (Or.inr ⟨rfl, rfl, rfl⟩) (hO_nw (hO_nw (hO_nw (hO_nw (hO_nw (hO_nw (hO_nw (hO_nw (hO_nw (hO_nw (hO_nw (hO_nw (hO_nw (hO_nw (hO_nw (hO_nw (hO_nw (hO_nw (hO_nw (hO_nw (hO_nw (hO_nw (hO_nw (hO_nw (hO_nw (hO_nw (hO_nw (hO_nw (hO_nw (hO_nw (hO_nw (hO_nw (hO_nw ho))))))))))))))))))))))))))))))))) ?_
  refine wp_aload_n dX12_init_287 rfl rfl ?_
  refine wp_sipush (v := (nI 12000)) dX12_init_288 (by decide +kernel) ?_
  refine wp_newL (N := 12000) dX12_init_291 wAc15 (by decide +kernel) (by decide +kernel) (by decide +kernel) ?_
  refine wp_putR (v := some _) dX12_init_293 lX12_119 rfl (Or.inr ⟨rfl, rfl, rfl⟩) (hO_nw (hO_nw (hO_nw (hO_nw (hO_nw (hO_nw (hO_nw (hO_nw (hO_nw (hO_nw (hO_nw (hO_nw (hO_nw (hO_nw (hO_nw (hO_nw (hO_nw (hO_nw (hO_nw (hO_nw (hO_nw (hO_nw (hO_nw (hO_nw (hO_nw (hO_nw (hO_nw (hO_nw (hO_nw (hO_nw (hO_nw (hO_nw (hO_nw (hO_nw ho)))))))))))))))))))))))))))))))))) ?_
  refine wp_aload_n dX12_init_296 rfl rfl ?_
  refine wp_sipush (v := (nI 12000)) dX12_init_297 (by decide +kernel) ?_
  refine wp_newI (N := 12000) dX12_init_300 wAc14 (by decide +kernel) (by decide +kernel) (by decide +kernel) ?_
  refine wp_putR (v := some _) dX12_init_302 lX12_122 rfl (Or.inr ⟨rfl, rfl, rfl⟩) (hO_nw (hO_nw (hO_nw (hO_nw (hO_nw (hO_nw (hO_nw (hO_nw (hO_nw (hO_nw (hO_nw (hO_nw (hO_nw (hO_nw (hO_nw (hO_nw (hO_nw (hO_nw (hO_nw (hO_nw (hO_nw (hO_nw (hO_nw (hO_nw (hO_nw (hO_nw (hO_nw (hO_nw (hO_nw (hO_nw (hO_nw (hO_nw (hO_nw (hO_nw (hO_nw ho))))))))))))))))))))))))))))))))))) ?_
  refine wp_aload_n dX12_init_305 rfl rfl ?_
  refine wp_ldc dX12_init_306 lX12_82 ?_
  refine wp_newI (N := 32768) dX12_init_308 wAc14 (by decide +kernel) (by decide +kernel) (by decide +kernel) ?_
  refine wp_putR (v := some _) dX12_init_310 lX12_125 rfl (Or.inr ⟨rfl, rfl, rfl⟩) (hO_nw (hO_nw (hO_nw (hO_nw (hO_nw (hO_nw (hO_nw (hO_nw (hO_nw (hO_nw (hO_nw (hO_nw (hO_nw (hO_nw (hO_nw (hO_nw (hO_nw (hO_nw (hO_nw (hO_nw (hO_nw (hO_nw (hO_nw (hO_nw (hO_nw (hO_nw (hO_nw (hO_nw (hO_nw (hO_nw (hO_nw (hO_nw (hO_nw (hO_nw (hO_nw (hO_nw ho)))))))))))))))))))))))))))))))))))) ?_
  refine wp_aload_n dX12_init_313 rfl rfl ?_
  refine wp_sipush (v := (nI 1870)) dX12_init_314 (by decide +kernel) ?_
  refine wp_newL (N := 1870) dX12_init_317 wAc15 (by decide +kernel) (by decide +kernel) (by decide +kernel) ?_
  refine wp_putR (v := some _) dX12_init_319 lX12_128 rfl (Or.inr ⟨rfl, rfl, rfl⟩) (hO_nw (hO_nw (hO_nw (hO_nw (hO_nw (hO_nw (hO_nw (hO_nw (hO_nw (hO_nw (hO_nw (hO_nw (hO_nw (hO_nw (hO_nw (hO_nw (hO_nw (hO_nw (hO_nw (hO_nw (hO_nw (hO_nw (hO_nw (hO_nw (hO_nw (hO_nw (hO_nw (hO_nw (hO_nw (hO_nw (hO_nw (hO_nw (hO_nw (hO_nw (hO_nw (hO_nw (hO_nw ho))))))))))))))))))))))))))))))))))))) ?_
  refine wp_aload_n dX12_init_322 rfl rfl ?_
  refine wp_iconst (v := (nI 2)) dX12_init_323 (by decide +kernel) ?_
  refine wp_newZ (N := 2) dX12_init_324 wAc16 (by decide +kernel) (by decide +kernel) (by decide +kernel) ?_
  refine wp_putR (v := some _) dX12_init_326 lX12_131 rfl (Or.inr ⟨rfl, rfl, rfl⟩) (hO_nw (hO_nw (hO_nw (hO_nw (hO_nw (hO_nw (hO_nw (hO_nw (hO_nw (hO_nw (hO_nw (hO_nw (hO_nw (hO_nw (hO_nw (hO_nw (hO_nw (hO_nw (hO_nw (hO_nw (hO_nw (hO_nw (hO_nw (hO_nw (hO_nw (hO_nw (hO_nw (hO_nw (hO_nw (hO_nw (hO_nw (hO_nw (hO_nw (hO_nw (hO_nw (hO_nw (hO_nw (hO_nw ho)))))))))))))))))))))))))))))))))))))) ?_
  refine wp_aload_n dX12_init_329 rfl rfl ?_
  refine wp_cV0 0 0 [some _] dX12_init_330 tX12_begins rfl (by decide) nX12_begins vX12_begins lX12_134 ⟨by decide, by decide⟩ (Nat.le_of_ble_eq_true rfl) (hO_nw (hO_nw (hO_nw (hO_nw (hO_nw (hO_nw (hO_nw (hO_nw (hO_nw (hO_nw (hO_nw (hO_nw (hO_nw (hO_nw (hO_nw (hO_nw (hO_nw (hO_nw (hO_nw (hO_nw (hO_nw (hO_nw (hO_nw (hO_nw (hO_nw (hO_nw (hO_nw (hO_nw (hO_nw (hO_nw (hO_nw (hO_nw (hO_nw (hO_nw (hO_nw (hO_nw (hO_nw (hO_nw ho)))))))))))))))))))))))))))))))))))))) (Nat.le_of_ble_eq_true rfl) rfl ?_
  refine wp_aload_n dX12_begins_0 rfl rfl ?_
  refine wp_iconst (v := (nI 0)) dX12_begins_1 (by decide +kernel) ?_
  refine wp_putI dX12_begins_2 lX12_206 rfl (Or.inl rfl) (hO_nw (hO_nw (hO_nw (hO_nw (hO_nw (hO_nw (hO_nw (hO_nw (hO_nw (hO_nw (hO_nw (hO_nw (hO_nw (hO_nw (hO_nw (hO_nw (hO_nw (hO_nw (hO_nw (hO_nw (hO_nw (hO_nw (hO_nw (hO_nw (hO_nw (hO_nw (hO_nw (hO_nw (hO_nw (hO_nw (hO_nw (hO_nw (hO_nw (hO_nw (hO_nw (hO_nw (hO_nw (hO_nw ho)))))))))))))))))))))))))))))))))))))) rfl rfl ?_
  refine wp_aload_n dX12_begins_5 rfl rfl ?_
  refine wp_iconst (v := (nI 0)) dX12_begins_6 (by decide +kernel) ?_
  refine wp_putI dX12_begins_7 lX12_209 rfl (Or.inl rfl) (hO_nw (hO_nw (hO_nw (hO_nw (hO_nw (hO_nw (hO_nw (hO_nw (hO_nw (hO_nw (hO_nw (hO_nw (hO_nw (hO_nw (hO_nw (hO_nw (hO_nw (hO_nw (hO_nw (hO_nw (hO_nw (hO_nw (hO_nw (hO_nw (hO_nw (hO_nw (hO_nw (hO_nw (hO_nw (hO_nw (hO_nw (hO_nw (hO_nw (hO_nw (hO_nw (hO_nw (hO_nw (hO_nw ho)))))))))))))))))))))))))))))))))))))) rfl rfl ?_
  refine wp_vreturn dX12_begins_10 rfl ?_
  intro _ _
  refine wp_aload_n dX12_init_333 rfl rfl ?_
  refine wp_iconst (v := (nI 0)) dX12_init_334 (by decide +kernel) ?_
  refine wp_putI dX12_init_335 lX12_137 rfl (Or.inl rfl) (hO_nw (hO_nw (hO_nw (hO_nw (hO_nw (hO_nw (hO_nw (hO_nw (hO_nw (hO_nw (hO_nw (hO_nw (hO_nw (hO_nw (hO_nw (hO_nw (hO_nw (hO_nw (hO_nw (hO_nw (hO_nw (hO_nw (hO_nw (hO_nw (hO_nw (hO_nw (hO_nw (hO_nw (hO_nw (hO_nw (hO_nw (hO_nw (hO_nw (hO_nw (hO_nw (hO_nw (hO_nw (hO_nw ho)))))))))))))))))))))))))))))))))))))) rfl rfl ?_
  refine wp_vreturn dX12_init_338 rfl ?_
  exact hq
