/-! ===== the tape ===== -/
def bK (x : Int32) : Nat := x.toBitVec.toNat % 256
def sgB8 (b : Nat) : Int32 := if b < 128 then nI b else nI b - nI 256
theorem bK_lt (x : Int32) : bK x < 256 := Nat.mod_lt _ (by decide)
theorem sg_all : ∀ b : Fin 256, vp_nar .byte (Int8.ofNat b.val).toInt32 = sgB8 b.val := by decide +kernel
theorem bK_m (x : Int32) : x &&& nI 255 = nI (bK x) := by
  obtain ⟨m, hm, e⟩ := wb_of32 x
  have e2 : bK x = m % 256 := by
    unfold bK
    rw [e]
    show (BitVec.ofNat 32 m).toNat % 256 = _
    rw [BitVec.toNat_ofNat, Nat.mod_eq_of_lt hm]
  rw [e2, e, nx_and, show (255 : Nat) = 2 ^ 8 - 1 from rfl, Nat.and_two_pow_sub_one_eq_mod]
theorem bK_c (x : Int32) : vp_nar .byte x.toInt8.toInt32 = sgB8 (bK x) := by
  have e : x.toInt8 = Int8.ofNat (bK x) := by
    apply Int8.toBitVec_inj.mp
    show x.toBitVec.signExtend 8 = BitVec.ofNat 8 (bK x)
    rw [BitVec.signExtend_eq_setWidth_of_le _ (by decide)]
    apply BitVec.eq_of_toNat_eq
    rw [BitVec.toNat_setWidth, BitVec.toNat_ofNat]
    unfold bK
    rw [Nat.mod_mod_of_dvd _ (by decide)]
  rw [e]
  exact sg_all ⟨bK x, bK_lt x⟩
def fur (G : Nat → Int32) (T : Nat → Int32) (t : Nat) (v : Int32) : Nat → Int32 := fun y => if y = t + 3 then G (bK (v >>> ((nI 24 + Int32.ofInt (-8) + Int32.ofInt (-8) + Int32.ofInt (-8)) &&& 31))) else if y = t + 2 then G (bK (v >>> ((nI 24 + Int32.ofInt (-8) + Int32.ofInt (-8)) &&& 31))) else if y = t + 1 then G (bK (v >>> ((nI 24 + Int32.ofInt (-8)) &&& 31))) else if y = t then G (bK (v >>> (nI 24 &&& 31))) else T y
theorem fur_R {T C : Nat → Int32} {t : Nat} {v : Int32} (h : ∀ j, j < t → ∃ b, b < 256 ∧ T j = nI b ∧ C j = sgB8 b) : ∀ j, j < t + 4 → ∃ b, b < 256 ∧ fur nI T t v j = nI b ∧ fur sgB8 C t v j = sgB8 b := fun j hj => by
  unfold fur
  by_cases c3 : j = t + 3
  · rw [if_pos c3, if_pos c3]; exact ⟨_, bK_lt _, rfl, rfl⟩
  · rw [if_neg c3, if_neg c3]
    by_cases c2 : j = t + 2
    · rw [if_pos c2, if_pos c2]; exact ⟨_, bK_lt _, rfl, rfl⟩
    · rw [if_neg c2, if_neg c2]
      by_cases c1 : j = t + 1
      · rw [if_pos c1, if_pos c1]; exact ⟨_, bK_lt _, rfl, rfl⟩
      · rw [if_neg c1, if_neg c1]
        by_cases c0 : j = t
        · rw [if_pos c0, if_pos c0]; exact ⟨_, bK_lt _, rfl, rfl⟩
        · rw [if_neg c0, if_neg c0]; exact h j (by omega)
theorem fur_by {T : Nat → Int32} {t : Nat} {v : Int32} (h : byt T) : byt (fur nI T t v) := fun k => by
  unfold fur
  split
  · exact ⟨_, bK_lt _, rfl⟩
  · split
    · exact ⟨_, bK_lt _, rfl⟩
    · split
      · exact ⟨_, bK_lt _, rfl⟩
      · split
        · exact ⟨_, bK_lt _, rfl⟩
        · exact h k
theorem fur_e {G T : Nat → Int32} {t : Nat} {v : Int32} : upI (upI (upI (upI T t (G (bK (v >>> (nI 24 &&& 31))))) (t + 1) (G (bK (v >>> ((nI 24 + Int32.ofInt (-8)) &&& 31))))) (t + 2) (G (bK (v >>> ((nI 24 + Int32.ofInt (-8) + Int32.ofInt (-8)) &&& 31))))) (t + 3) (G (bK (v >>> ((nI 24 + Int32.ofInt (-8) + Int32.ofInt (-8) + Int32.ofInt (-8)) &&& 31)))) = fur G T t v := rfl
theorem four_fr {h : mH} {t : Nat} {v : Int32} : mFr (mP [1] [154]) h (fourH h t v) := by
  have a : ∀ {k}, mP [1] [154] 154 k := Or.inr (List.mem_singleton.mpr rfl)
  have b : mP [1] [154] 153 1 := Or.inl ⟨rfl, List.mem_singleton.mpr rfl⟩
  exact (((((((mFr.rf.sI _ a).sI _ b).sI _ a).sI _ b).sI _ a).sI _ b).sI _ a).sI _ b
theorem four_I {h : mH} {t : Nat} {v : Int32} : hI (fourH h t v) 154 = fur nI (hI h 154) t v := by
  rw [← fur_e]
  unfold fourH
  simp only [bK_m]
  funext y
  rw [hI_sI, if_neg (by omega), hI_up, show hI (sI (sI (sI (sI (sI (sI h 154 t (nI (bK (v >>> (nI 24 &&& 31))))) 153 1 (nI (t + 1))) 154 (t + 1) (nI (bK (v >>> ((nI 24 + Int32.ofInt (-8)) &&& 31))))) 153 1 (nI (t + 1 + 1))) 154 (t + 1 + 1) (nI (bK (v >>> ((nI 24 + Int32.ofInt (-8) + Int32.ofInt (-8)) &&& 31))))) 153 1 (nI (t + 1 + 1 + 1))) 154 = upI (upI (upI (hI h 154) t (nI (bK (v >>> (nI 24 &&& 31))))) (t + 1) (nI (bK (v >>> ((nI 24 + Int32.ofInt (-8)) &&& 31))))) (t + 2) (nI (bK (v >>> ((nI 24 + Int32.ofInt (-8) + Int32.ofInt (-8)) &&& 31)))) from ?_]
  funext z
  rw [hI_sI, if_neg (by omega), hI_up]
  congr 1
  funext z
  rw [hI_sI, if_neg (by omega), hI_up]
  congr 1
  funext z
  rw [hI_sI, if_neg (by omega), hI_up]
theorem mT.four {h : mH} {r : Nat → Int64} {F : Nat} {pa my : Nat → Int32} {pr : Nat → Nat → Int64} {a u : Nat} {bx : Nat → Nat → Int64} {kp tp : Nat → Int32} {t : Nat} {tf tl : Int32} {v : Int32} (q : mT h r F pa my pr a u bx kp tp t tf tl) (ht : t + 4 ≤ 900) : mT (fourH h t v) r F pa my pr a u bx kp (fur nI tp t v) (t + 4) tf tl := by
  have f := four_fr (h := h) (t := t) (v := v)
  refine ⟨q.1.fr f (by decide) (by decide) (by decide) (by decide) (by decide), q.zz, fun i hi => (pastR_eq (f.Lr (by decide) (by decide))).trans (q.pp i hi), (f.fI 28 (by decide) (by decide)).trans q.aa, (f.fI 29 (by decide) (by decide)).trans q.uu, q.au, fun b hb => (boxR_eq (f.Lr (by decide) (by decide))).trans (q.bb b hb), (f.Ir (by decide) (by decide)).trans q.kk, ?_, ⟨hI_four h t v, ht⟩, (f.fI 9 (by decide) (by decide)).trans q.ff, (f.fI 10 (by decide) (by decide)).trans q.ll⟩
  rw [four_I, q.tt]
theorem mT.endT {h : mH} {r : Nat → Int64} {F : Nat} {pa my : Nat → Int32} {pr : Nat → Nat → Int64} {a u : Nat} {bx : Nat → Nat → Int64} {kp tp : Nat → Int32} {t j : Nat} {tf tl : Int32} (q : mT h r F pa my pr a u bx kp tp t tf tl) (hj : j ≤ t) : mT (sI h 153 1 (nI j)) r F pa my pr a u bx kp tp j tf tl ∧ mFr pwM h (sI h 153 1 (nI j)) := by
  have f : mFr (mP [1] []) h (sI h 153 1 (nI j)) := mFr.rf.sI _ (Or.inl ⟨rfl, List.mem_singleton.mpr rfl⟩)
  have := q.t9.2
  refine ⟨⟨q.1.fr f (by decide) (by decide) (by decide) (by decide) (by decide), q.zz, fun i hi => (pastR_eq (f.Lr (by decide) (by decide))).trans (q.pp i hi), (f.fI 28 (by decide) (by decide)).trans q.aa, (f.fI 29 (by decide) (by decide)).trans q.uu, q.au, fun b hb => (boxR_eq (f.Lr (by decide) (by decide))).trans (q.bb b hb), (f.Ir (by decide) (by decide)).trans q.kk, (f.Ir (by decide) (by decide)).trans q.tt, ⟨by rw [hI_sI, if_pos ⟨rfl, rfl⟩], by omega⟩, (f.fI 9 (by decide) (by decide)).trans q.ff, (f.fI 10 (by decide) (by decide)).trans q.ll⟩, f.mM (by decide)⟩
/-- a byte put on the tape -/
theorem tp_w {M : mM} {fr9 lo9 pc9 : Nat} {ls9 : List (Option Value)} {sk9 : List Value} {Q : Option Value → mH → Prop} {ow : Nat → Nat} {h : mH} {j : Nat} {v : Int32} {T : Nat → Int32} (ha : hA h 1 13 900) (hw : ow 1 = 6) (hT : hI h 1 = T) (K : ∀ h', cFr [6] 0 ow h ow h' → hA h' 1 13 900 → hI h' 1 = upI T j v → Wp M fr9 lo9 pc9 ls9 sk9 h' Q) : Wp M fr9 lo9 pc9 ls9 sk9 (sI h 1 j v) Q := K _ (cFr_sI hw) ha (by rw [hI_up, hT])
set_option maxRecDepth 20000 in
theorem pX11_putBytes {h : mH} {Q : Option Value → mH → Prop} {ow : Nat → Nat} {t : Nat} {tf tl v : Int32} {xq : Option Nat} {T : Nat → Int32} (zx : zX ow h (nI t) tf tl xq) (ha : hA h 1 13 900) (hw : ow 1 = 6) (hT0 : hI h 1 = T) (ht : t + 4 ≤ 900) (hq : ∀ h', cFr [6, 7] 0 ow h ow h' → zX ow h' (nI (t + 4)) tf tl xq → hI h' 1 = fur sgB8 T t v → Q none h') : Wp mX11_putBytes 0 0 0 [some (.ref 0), some (.int v), none] [] h Q := by
  refine wp_bipush (v := (nI 24)) dX11_putBytes_0 (by decide +kernel) ?_
  refine wp_istore_n (ls1 := [_, _, some _]) dX11_putBytes_2 rfl (by decide) rfl ?_
  refine wp_iload_n dX11_putBytes_3 rfl rfl ?_
  refine wp_if_lt dX11_putBytes_4 (fun q => absurd q (nI_pos (by omega))) (fun _ => ?_)
  refine wp_aload_n dX11_putBytes_7 rfl rfl ?_
  refine wp_getIV dX11_putBytes_8 lX11_82 rfl zx.o zx.f1 ?_
  refine wp_sipush (v := (nI 900)) dX11_putBytes_11 (by decide +kernel) ?_
  refine wp_icmp_geN dX11_putBytes_14 rfl rfl ⟨by omega, by omega⟩ (fun q => absurd q (by omega)) (fun _ => ?_)
  refine wp_aload_n dX11_putBytes_17 rfl rfl ?_
  refine wp_getR dX11_putBytes_18 lX11_9 rfl zx.o zx.r0 ?_
  refine wp_aload_n dX11_putBytes_21 rfl rfl ?_
  refine wp_getIV dX11_putBytes_22 lX11_82 rfl zx.o zx.f1 ?_
  refine wp_iload_n dX11_putBytes_25 rfl rfl ?_
  refine wp_iload_n dX11_putBytes_26 rfl rfl ?_
  refine wp_ishr dX11_putBytes_27 ?_
  refine wp_i2b dX11_putBytes_28 ?_
  refine wp_bastN dX11_putBytes_29 ha rfl ⟨by omega, by omega⟩ ?_
  rw [bK_c]
  refine tp_w ha hw hT0 (fun hh1 f1 ha1 hT1 => ?_)
  have zx_1 := zx.fr f1 (rnS (by omega) rn0)
  refine wp_aload_n dX11_putBytes_30 rfl rfl ?_
  refine wp_dup dX11_putBytes_31 rfl ?_
  refine wp_getIV dX11_putBytes_32 lX11_82 rfl zx_1.o zx_1.f1 ?_
  refine wp_iconst (v := (nI 1)) dX11_putBytes_35 (by decide +kernel) ?_
  refine wp_iadd dX11_putBytes_36 ?_
  refine wp_putIN dX11_putBytes_37 lX11_82 rfl rfl (Or.inl rfl) zx_1.o (isN_add rfl rfl) ?_
  refine zx_1.p1 (fun hh2 f2 zx_2 => ?_)
  have ha2p := f2.a ha1
  have hT2p := (f2.s ha1.1 hw (by decide)).1.trans hT1
  refine wp_iinc (ls1 := [_, _, some _]) dX11_putBytes_40 rfl rfl (by decide) rfl ?_
  refine wp_goto dX11_putBytes_43 ?_
  refine wp_iload_n dX11_putBytes_3 rfl rfl ?_
  refine wp_if_lt dX11_putBytes_4 (fun q => absurd q (by decide +kernel)) (fun _ => ?_)
  refine wp_aload_n dX11_putBytes_7 rfl rfl ?_
  refine wp_getIV dX11_putBytes_8 lX11_82 rfl zx_2.o zx_2.f1 ?_
  refine wp_sipush (v := (nI 900)) dX11_putBytes_11 (by decide +kernel) ?_
  refine wp_icmp_geN dX11_putBytes_14 rfl rfl ⟨by omega, by omega⟩ (fun q => absurd q (by omega)) (fun _ => ?_)
  refine wp_aload_n dX11_putBytes_17 rfl rfl ?_
  refine wp_getR dX11_putBytes_18 lX11_9 rfl zx_2.o zx_2.r0 ?_
  refine wp_aload_n dX11_putBytes_21 rfl rfl ?_
  refine wp_getIV dX11_putBytes_22 lX11_82 rfl zx_2.o zx_2.f1 ?_
  refine wp_iload_n dX11_putBytes_25 rfl rfl ?_
  refine wp_iload_n dX11_putBytes_26 rfl rfl ?_
  refine wp_ishr dX11_putBytes_27 ?_
  refine wp_i2b dX11_putBytes_28 ?_
  refine wp_bastN dX11_putBytes_29 ha2p rfl ⟨by omega, by omega⟩ ?_
  rw [bK_c]
  refine tp_w ha2p hw hT2p (fun hh3 f3 ha3 hT3 => ?_)
  have zx_3 := zx_2.fr f3 (rnS (by omega) rn0)
  refine wp_aload_n dX11_putBytes_30 rfl rfl ?_
  refine wp_dup dX11_putBytes_31 rfl ?_
  refine wp_getIV dX11_putBytes_32 lX11_82 rfl zx_3.o zx_3.f1 ?_
  refine wp_iconst (v := (nI 1)) dX11_putBytes_35 (by decide +kernel) ?_
  refine wp_iadd dX11_putBytes_36 ?_
  refine wp_putIN dX11_putBytes_37 lX11_82 rfl rfl (Or.inl rfl) zx_3.o (isN_add rfl rfl) ?_
  refine zx_3.p1 (fun hh4 f4 zx_4 => ?_)
  have ha4p := f4.a ha3
  have hT4p := (f4.s ha3.1 hw (by decide)).1.trans hT3
  refine wp_iinc (ls1 := [_, _, some _]) dX11_putBytes_40 rfl rfl (by decide) rfl ?_
  refine wp_goto dX11_putBytes_43 ?_
  refine wp_iload_n dX11_putBytes_3 rfl rfl ?_
  refine wp_if_lt dX11_putBytes_4 (fun q => absurd q (by decide +kernel)) (fun _ => ?_)
  refine wp_aload_n dX11_putBytes_7 rfl rfl ?_
  refine wp_getIV dX11_putBytes_8 lX11_82 rfl zx_4.o zx_4.f1 ?_
  refine wp_sipush (v := (nI 900)) dX11_putBytes_11 (by decide +kernel) ?_
  refine wp_icmp_geN dX11_putBytes_14 rfl rfl ⟨by omega, by omega⟩ (fun q => absurd q (by omega)) (fun _ => ?_)
  refine wp_aload_n dX11_putBytes_17 rfl rfl ?_
  refine wp_getR dX11_putBytes_18 lX11_9 rfl zx_4.o zx_4.r0 ?_
  refine wp_aload_n dX11_putBytes_21 rfl rfl ?_
  refine wp_getIV dX11_putBytes_22 lX11_82 rfl zx_4.o zx_4.f1 ?_
  refine wp_iload_n dX11_putBytes_25 rfl rfl ?_
  refine wp_iload_n dX11_putBytes_26 rfl rfl ?_
  refine wp_ishr dX11_putBytes_27 ?_
  refine wp_i2b dX11_putBytes_28 ?_
  refine wp_bastN dX11_putBytes_29 ha4p rfl ⟨by omega, by omega⟩ ?_
  rw [bK_c]
  refine tp_w ha4p hw hT4p (fun hh5 f5 ha5 hT5 => ?_)
  have zx_5 := zx_4.fr f5 (rnS (by omega) rn0)
  refine wp_aload_n dX11_putBytes_30 rfl rfl ?_
  refine wp_dup dX11_putBytes_31 rfl ?_
  refine wp_getIV dX11_putBytes_32 lX11_82 rfl zx_5.o zx_5.f1 ?_
  refine wp_iconst (v := (nI 1)) dX11_putBytes_35 (by decide +kernel) ?_
  refine wp_iadd dX11_putBytes_36 ?_
  refine wp_putIN dX11_putBytes_37 lX11_82 rfl rfl (Or.inl rfl) zx_5.o (isN_add rfl rfl) ?_
  refine zx_5.p1 (fun hh6 f6 zx_6 => ?_)
  have ha6p := f6.a ha5
  have hT6p := (f6.s ha5.1 hw (by decide)).1.trans hT5
  refine wp_iinc (ls1 := [_, _, some _]) dX11_putBytes_40 rfl rfl (by decide) rfl ?_
  refine wp_goto dX11_putBytes_43 ?_
  refine wp_iload_n dX11_putBytes_3 rfl rfl ?_
  refine wp_if_lt dX11_putBytes_4 (fun q => absurd q (by decide +kernel)) (fun _ => ?_)
  refine wp_aload_n dX11_putBytes_7 rfl rfl ?_
  refine wp_getIV dX11_putBytes_8 lX11_82 rfl zx_6.o zx_6.f1 ?_
  refine wp_sipush (v := (nI 900)) dX11_putBytes_11 (by decide +kernel) ?_
  refine wp_icmp_geN dX11_putBytes_14 rfl rfl ⟨by omega, by omega⟩ (fun q => absurd q (by omega)) (fun _ => ?_)
  refine wp_aload_n dX11_putBytes_17 rfl rfl ?_
  refine wp_getR dX11_putBytes_18 lX11_9 rfl zx_6.o zx_6.r0 ?_
  refine wp_aload_n dX11_putBytes_21 rfl rfl ?_
  refine wp_getIV dX11_putBytes_22 lX11_82 rfl zx_6.o zx_6.f1 ?_
  refine wp_iload_n dX11_putBytes_25 rfl rfl ?_
  refine wp_iload_n dX11_putBytes_26 rfl rfl ?_
  refine wp_ishr dX11_putBytes_27 ?_
  refine wp_i2b dX11_putBytes_28 ?_
  refine wp_bastN dX11_putBytes_29 ha6p rfl ⟨by omega, by omega⟩ ?_
  rw [bK_c]
  refine tp_w ha6p hw hT6p (fun hh7 f7 ha7 hT7 => ?_)
  have zx_7 := zx_6.fr f7 (rnS (by omega) rn0)
  refine wp_aload_n dX11_putBytes_30 rfl rfl ?_
  refine wp_dup dX11_putBytes_31 rfl ?_
  refine wp_getIV dX11_putBytes_32 lX11_82 rfl zx_7.o zx_7.f1 ?_
  refine wp_iconst (v := (nI 1)) dX11_putBytes_35 (by decide +kernel) ?_
  refine wp_iadd dX11_putBytes_36 ?_
  refine wp_putIN dX11_putBytes_37 lX11_82 rfl rfl (Or.inl rfl) zx_7.o (isN_add rfl rfl) ?_
  refine zx_7.p1 (fun hh8 f8 zx_8 => ?_)
  have ha8p := f8.a ha7
  have hT8p := (f8.s ha7.1 hw (by decide)).1.trans hT7
  refine wp_iinc (ls1 := [_, _, some _]) dX11_putBytes_40 rfl rfl (by decide) rfl ?_
  refine wp_goto dX11_putBytes_43 ?_
  refine wp_iload_n dX11_putBytes_3 rfl rfl ?_
  refine wp_if_lt dX11_putBytes_4 (fun _ => ?_) (fun q => absurd (by decide +kernel) q)
  refine wp_vreturn dX11_putBytes_46 rfl ?_
  exact hq _ ((((((((f1.up (by decide) (Nat.le_refl _)).tr (f2.up (by decide) (Nat.le_refl _))).tr (f3.up (by decide) (Nat.le_refl _))).tr (f4.up (by decide) (Nat.le_refl _))).tr (f5.up (by decide) (Nat.le_refl _))).tr (f6.up (by decide) (Nat.le_refl _))).tr (f7.up (by decide) (Nat.le_refl _))).tr (f8.up (by decide) (Nat.le_refl _))) zx_8 (hT8p.trans fur_e)
theorem cC.tape {ow : Nat → Nat} {h h' : mH} {F : Nat} {pa my : Nat → Int32} {fa o a u : Nat} {r : Nat → Int64} {pr : Nat → Nat → Int64} {bx : Nat → Nat → Int64} {kp tp : Nat → Int32} {t : Nat} {tf tl : Int32} {n w : Nat} {tp' : Nat → Int32} {t' : Nat} {tf' tl' : Int32} (c : cC ow h F pa my fa o a u r pr bx kp tp t tf tl n w) (f : cFr [6, 7] 0 ow h ow h') (zx : zX ow h' (nI t') tf' tl' (some fa)) (hp : ∀ j, j < t' → ∃ b, b < 256 ∧ tp' j = nI b ∧ hI h' 1 j = sgB8 b) : cC ow h' F pa my fa o a u r pr bx kp tp' t' tf' tl' n w :=
  ⟨zx, c.zh.fr f (by decide), c.kb.fr f (by decide) (by decide), c.fl.fr f (by decide), c.rg.fr f (by decide) (fun j hj => by simp; omega), c.od, c.bxx.fr f (by decide) (by decide) (by decide) (by decide), ⟨f.a c.tpp.1, (f.w c.tpp.1.1).trans c.tpp.2.1, hp⟩, c.rd.fr f (by decide), c.cz.fr f (by decide) (by decide) (by decide) (by decide), c.tw.fr f (fun j hj => by simp; omega), c.ti.fr f (by decide)⟩
set_option maxRecDepth 20000 in
theorem pX11_feed {h : mH} {Q : Option Value → mH → Prop} {ow : Nat → Nat} {F : Nat} {pa my : Nat → Int32} {fa o a u : Nat} {r : Nat → Int64} {pr : Nat → Nat → Int64} {bx : Nat → Nat → Int64} {kp tp : Nat → Int32} {t : Nat} {tf tl : Int32} {n w : Nat} {a1 a2 a3 a4 a5 : Int32} (c : cC ow h F pa my fa o a u r pr bx kp tp t tf tl n w) (ht9 : t ≤ 900) (h0 : 900 < t + 20 → Q (some (.int (-1))) h) (h1 : t + 20 ≤ 900 → ∀ h', cC ow h' F pa my fa o a u r pr bx kp (fur nI (fur nI (fur nI (fur nI (fur nI tp t a1) (t + 4) a2) (t + 8) a3) (t + 12) a4) (t + 16) a5) (t + 20) tf tl n w → cFr [6, 7] 0 ow h ow h' → Q (some (.int (nI (t + 20)))) h') : Wp mX11_feed 1 22 0 [some (.ref 0), some (.int a1), some (.int a2), some (.int a3), some (.int a4), some (.int a5)] [] h Q := by
  refine wp_aload_n dX11_feed_0 rfl rfl ?_
  refine wp_getIV dX11_feed_1 lX11_82 rfl c.zx.o c.zx.f1 ?_
  refine wp_bipush (v := (nI 20)) dX11_feed_4 (by decide +kernel) ?_
  refine wp_iadd dX11_feed_6 ?_
  refine wp_sipush (v := (nI 900)) dX11_feed_7 (by decide +kernel) ?_
  refine wp_icmp_leN dX11_feed_10 (isN_add rfl rfl) rfl ⟨by omega, by omega⟩ (fun c2 => ?_) (fun c2 => ?_)
  · refine wp_aload_n dX11_feed_15 rfl rfl ?_
    refine wp_iload_n dX11_feed_16 rfl rfl ?_
    refine wp_cV1 0 0 [some _, some _, none] dX11_feed_17 tX11_putBytes rfl (by decide) nX11_putBytes vX11_putBytes lX11_85 ⟨by decide, by decide⟩ (Nat.le_of_ble_eq_true rfl) c.zx.o (Nat.le_of_ble_eq_true rfl) rfl ?_
    refine pX11_putBytes c.zx c.tpp.1 c.tpp.2.1 rfl (by omega) (fun hh1 f1 zx_1 hT1 => ?_)
    intro _ _
    have ha1 := f1.a c.tpp.1
    refine wp_aload_n dX11_feed_20 rfl rfl ?_
    refine wp_iload_n dX11_feed_21 rfl rfl ?_
    refine wp_cV1 0 0 [some _, some _, none] dX11_feed_22 tX11_putBytes rfl (by decide) nX11_putBytes vX11_putBytes lX11_85 ⟨by decide, by decide⟩ (Nat.le_of_ble_eq_true rfl) zx_1.o (Nat.le_of_ble_eq_true rfl) rfl ?_
    refine pX11_putBytes zx_1 ha1 c.tpp.2.1 hT1 (by omega) (fun hh2 f2 zx_2 hT2 => ?_)
    intro _ _
    have ha2 := f2.a ha1
    refine wp_aload_n dX11_feed_25 rfl rfl ?_
    refine wp_iload_n dX11_feed_26 rfl rfl ?_
    refine wp_cV1 0 0 [some _, some _, none] dX11_feed_27 tX11_putBytes rfl (by decide) nX11_putBytes vX11_putBytes lX11_85 ⟨by decide, by decide⟩ (Nat.le_of_ble_eq_true rfl) zx_2.o (Nat.le_of_ble_eq_true rfl) rfl ?_
    refine pX11_putBytes zx_2 ha2 c.tpp.2.1 hT2 (by omega) (fun hh3 f3 zx_3 hT3 => ?_)
    intro _ _
    have ha3 := f3.a ha2
    refine wp_aload_n dX11_feed_30 rfl rfl ?_
    refine wp_iload dX11_feed_31 rfl ?_
    refine wp_cV1 0 0 [some _, some _, none] dX11_feed_33 tX11_putBytes rfl (by decide) nX11_putBytes vX11_putBytes lX11_85 ⟨by decide, by decide⟩ (Nat.le_of_ble_eq_true rfl) zx_3.o (Nat.le_of_ble_eq_true rfl) rfl ?_
    refine pX11_putBytes zx_3 ha3 c.tpp.2.1 hT3 (by omega) (fun hh4 f4 zx_4 hT4 => ?_)
    intro _ _
    have ha4 := f4.a ha3
    refine wp_aload_n dX11_feed_36 rfl rfl ?_
    refine wp_iload dX11_feed_37 rfl ?_
    refine wp_cV1 0 0 [some _, some _, none] dX11_feed_39 tX11_putBytes rfl (by decide) nX11_putBytes vX11_putBytes lX11_85 ⟨by decide, by decide⟩ (Nat.le_of_ble_eq_true rfl) zx_4.o (Nat.le_of_ble_eq_true rfl) rfl ?_
    refine pX11_putBytes zx_4 ha4 c.tpp.2.1 hT4 (by omega) (fun hh5 f5 zx_5 hT5 => ?_)
    intro _ _
    have ha5 := f5.a ha4
    refine wp_aload_n dX11_feed_42 rfl rfl ?_
    refine wp_getIV dX11_feed_43 lX11_82 rfl zx_5.o zx_5.f1 ?_
    refine wp_ireturn dX11_feed_46 rfl ?_
    exact h1 (by omega) _ (c.tape (((((f1.up (by decide) (Nat.le_refl _)).tr (f2.up (by decide) (Nat.le_refl _))).tr (f3.up (by decide) (Nat.le_refl _))).tr (f4.up (by decide) (Nat.le_refl _))).tr (f5.up (by decide) (Nat.le_refl _))) zx_5 (by rw [hT5]; exact fur_R (t := t + 16) (fur_R (t := t + 12) (fur_R (t := t + 8) (fur_R (t := t + 4) (fur_R c.tpp.2.2)))))) (((((f1.up (by decide) (Nat.le_refl _)).tr (f2.up (by decide) (Nat.le_refl _))).tr (f3.up (by decide) (Nat.le_refl _))).tr (f4.up (by decide) (Nat.le_refl _))).tr (f5.up (by decide) (Nat.le_refl _)))
  · refine wp_iconst (v := (-1)) dX11_feed_13 (by decide +kernel) ?_
    refine wp_ireturn dX11_feed_14 rfl ?_
    exact h0 (by omega)
set_option maxRecDepth 20000 in
theorem pX11_end {h : mH} {Q : Option Value → mH → Prop} {ow : Nat → Nat} {F : Nat} {pa my : Nat → Int32} {fa o a u : Nat} {r : Nat → Int64} {pr : Nat → Nat → Int64} {bx : Nat → Nat → Int64} {kp tp : Nat → Int32} {t : Nat} {tf tl : Int32} {n w : Nat} {x : Int32} (c : cC ow h F pa my fa o a u r pr bx kp tp t tf tl n w) (ht9 : t ≤ 900) (h0 : (∀ j, j ≤ t → x = nI j → False) → Q (some (.int (-1))) h) (h1 : ∀ j, j ≤ t → x = nI j → ∀ h', cC ow h' F pa my fa o a u r pr bx kp tp j tf tl n w → cFr [6, 7] 0 ow h ow h' → Q (some (.int (nI j))) h') : Wp mX11_end 0 0 0 [some (.ref 0), some (.int x)] [] h Q := by
  have zx0 := c.zx
  refine wp_iload_n dX11_end_0 rfl rfl ?_
  refine wp_if_lt dX11_end_1 (fun c2 => ?_) (fun c2 => ?_)
  · refine wp_iconst (v := (-1)) dX11_end_12 (by decide +kernel) ?_
    refine wp_ireturn dX11_end_13 rfl ?_
    exact h0 (fun j hj e => absurd (ix_lt0 c2) (by rw [e, ix_nI (n := t + 1) (by omega) (by omega)]; exact fun z => by cases z))
  · refine wp_iload_n dX11_end_4 rfl rfl ?_
    refine wp_aload_n dX11_end_5 rfl rfl ?_
    refine wp_getIV dX11_end_6 lX11_82 rfl zx0.o zx0.f1 ?_
    refine wp_icmp_le dX11_end_9 (fun c4 => ?_) (fun c4 => ?_)
    · obtain ⟨j1, hj1, ej1⟩ := ix_le (by omega) c2 c4
      subst ej1
      refine wp_aload_n dX11_end_14 rfl rfl ?_
      refine wp_iload_n dX11_end_15 rfl rfl ?_
      refine wp_putI dX11_end_16 lX11_82 rfl (Or.inl rfl) zx0.o rfl rfl ?_
      refine zx0.p1 (fun hh2 f2 zx0_2 => ?_)
      refine wp_iload_n dX11_end_19 rfl rfl ?_
      refine wp_ireturn dX11_end_20 rfl ?_
      exact h1 j1 (by omega) rfl _ (c.tape (f2.up (by decide) (Nat.le_refl _)) zx0_2 (fun k hk => by rw [(f2.s c.tpp.1.1 c.tpp.2.1 (by decide)).1]; exact c.tpp.2.2 k (by omega))) (f2.up (by decide) (Nat.le_refl _))
    · refine wp_iconst (v := (-1)) dX11_end_12 (by decide +kernel) ?_
      refine wp_ireturn dX11_end_13 rfl ?_
      exact h0 (fun j hj e => absurd (ix_nle (by omega) c4) (by rw [e, ix_nI (n := t + 1) (by omega) (by omega)]; exact fun z => by cases z))
