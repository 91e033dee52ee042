/-! ===== meanOff, movingShare ===== -/
theorem vn64 {r : UInt64} (h : r.toNat % 2 ^ 63 ≤ 9218868437227405312) : vf_n64 r := by
  unfold vf_n64
  rw [UInt64.le_iff_toNat_le, UInt64.toNat_and]
  have e : (0x7fffffffffffffff : UInt64).toNat = 2 ^ 63 - 1 := by decide
  rw [e, Nat.and_two_pow_sub_one_eq_mod]
  exact h
theorem vn32 {r : UInt32} (h : r.toNat % 2 ^ 31 ≤ 2139095040) : vf_n32 r := by
  unfold vf_n32
  rw [UInt32.le_iff_toNat_le, UInt32.toNat_and]
  have e : (0x7fffffff : UInt32).toNat = 2 ^ 31 - 1 := by decide
  rw [e, Nat.and_two_pow_sub_one_eq_mod]
  exact h
theorem dv_ok {s : Int64} {n : Int32} (h : ¬ n = 0) : vf_n64 (FP.ddiv (FP.l2d s) (FP.i2d n)) := by
  have h1 := FP.Core.l2d_mag s
  have h2 := FP.Core.i2d_big (FP.Core.int32_ne h)
  have h3 := FP.Core.ddiv_mag (a := FP.l2d s) (b := FP.i2d n) (K := 1088) (L := 1023) h1 h2.1 h2.2 (by decide) (by decide)
  exact vn64 (r := FP.Core.ddiv (FP.l2d s) (FP.i2d n)) (by omega)
theorem fv_ok {s n : Int64} (h : ¬ n = 0) : vf_n32 (FP.fdiv (FP.l2f s) (FP.l2f n)) := by
  have h1 := FP.Core.l2f_mag s
  have h2 := FP.Core.l2f_big (FP.Core.int64_ne h)
  have h3 := FP.Core.fdiv_mag (a := FP.l2f s) (b := FP.l2f n) (K := 192) (L := 127) h1 h2.1 h2.2 (by decide) (by decide)
  exact vn32 (r := FP.Core.fdiv (FP.l2f s) (FP.l2f n)) (by omega)
/-- how far the forecasts were off, how many -/
def zom (g : Nat → Int64) : Nat → Int64
  | 0 => lN 0
  | f + 1 => zom g f + go g f
def zsc (g : Nat → Int64) : Nat → Int32
  | 0 => nI 0
  | f + 1 => zsc g f + gf g f 5
def zmO (g : Nat → Int64) : UInt64 := if zsc g (gN g 3) = 0 then FP.dconst0 else FP.ddiv (FP.l2d (zom g (gN g 3))) (FP.i2d (zsc g (gN g 3)))
def zmS (a m : Int64) : UInt32 := if a = lN 0 then FP.fconst0 else FP.fdiv (FP.l2f m) (FP.l2f a)
section
variable {l : Launch} {G : zG}
theorem w_X8_meanOff_7 (hl : l.stackTraces = false) {M : zMem} {g : Nat → Int64} {p : Nat → Nat} (hx : xSh M) (h : rSt M 630 g p) : ∀ (k : Nat) (i : Nat), i ≤ gN g 3 → gN g 3 - i < k → zS l G mX8_meanOff 2 60 0 0 7 [some (.ref 0), some (.long (zom g i)), none, some (.int (zsc g i)), some (.int (nI i))] [] M (zD (some (.double (zmO g))) M) := by
  intro k
  induction k with
  | zero => intros; omega
  | succ k ih =>
    intro i hi hk
    have h20 := h.b.2.2.1.2
    refine s_iload (zdk hX8_meanOff 6 rfl) rfl ?_
    refine s_aload_n (zdk hX8_meanOff 7 rfl) rfl ?_
    refine s_getR (zdk hX8_meanOff 8 rfl) fw_X8_40 rfl (hx.K) (show _ = some 630 from (hx.r (i := 4) rfl)) ?_
    refine s_getI (zdk hX8_meanOff 9 rfl) fw_X8_100 rfl (h.K) ?_
    refine s_topi (b := nI (gN g 3)) (h.v4) ?_
    refine s_icmp_ge 57 (zdk hX8_meanOff 10 rfl) (by decide) (fun c16 => ?_) (fun c16 => ?_)
    · have n16 : gN g 3 ≤ i := nle c16 (by omega) (by omega)
      obtain rfl : i = gN g 3 := by omega
      refine s_iload_n (zdk hX8_meanOff 31 rfl) rfl ?_
      refine s_if_ne 65 (zdk hX8_meanOff 32 rfl) (by decide) (fun c58 => ?_) (fun c58 => ?_)
      · have eZ : zmO g = FP.ddiv (FP.l2d (zom g (gN g 3))) (FP.i2d (zsc g (gN g 3))) := if_neg c58
        rw [eZ]
        refine s_lload_n (zdk hX8_meanOff 35 rfl) rfl ?_
        refine s_l2d (zdk hX8_meanOff 36 rfl) ?_
        refine s_iload_n (zdk hX8_meanOff 37 rfl) rfl ?_
        refine s_i2d (zdk hX8_meanOff 38 rfl) ?_
        refine s_ddiv (zdk hX8_meanOff 39 rfl) (dv_ok c58) ?_
        refine s_dreturn (zdk hX8_meanOff 40 rfl) rfl  ?_
        exact ⟨rfl, rfl⟩
      · have eZ : zmO g = FP.dconst0 := if_pos c58
        rw [eZ]
        refine s_dconst0 (zdk hX8_meanOff 33 rfl) ?_
        refine s_goto 70 (zdk hX8_meanOff 34 rfl) (by decide) ?_
        refine s_dreturn (zdk hX8_meanOff 40 rfl) rfl  ?_
        exact ⟨rfl, rfl⟩
    · have n16 : i < gN g 3 := nlt c16 (by omega) (by omega)
      refine s_lload_n (zdk hX8_meanOff 11 rfl) rfl ?_
      refine s_aload_n (zdk hX8_meanOff 12 rfl) rfl ?_
      refine s_getR (zdk hX8_meanOff 13 rfl) fw_X8_40 rfl (hx.K) (show _ = some 630 from (hx.r (i := 4) rfl)) ?_
      refine s_getR (zdk hX8_meanOff 14 rfl) fw_X8_149 rfl (h.K) (h.r6) ?_
      refine s_iload (zdk hX8_meanOff 15 rfl) rfl ?_
      refine s_aaloadN (N := 20) (j := i) (zdk hX8_meanOff 16 rfl) (h.fK) (by decide) (h.fN) (h.fL n16) (by decide) (h.rR n16) ?_
      refine s_getJ (zdk hX8_meanOff 17 rfl) fw_X8_199 rfl ((h.rS n16).1) ?_
      refine s_topl (b := go g i) (h.f6 n16) ?_
      refine s_ladd (zdk hX8_meanOff 18 rfl) ?_
      refine s_lstore_n (zdk hX8_meanOff 19 rfl) (Nat.le_of_ble_eq_true rfl) ?_
      refine s_ls (ls' := [some (.ref 0), some (.long ((zom g i) + (go g i))), none, some (.int (zsc g i)), some (.int (nI i))]) rfl ?_
      refine s_iload_n (zdk hX8_meanOff 20 rfl) rfl ?_
      refine s_aload_n (zdk hX8_meanOff 21 rfl) rfl ?_
      refine s_getR (zdk hX8_meanOff 22 rfl) fw_X8_40 rfl (hx.K) (show _ = some 630 from (hx.r (i := 4) rfl)) ?_
      refine s_getR (zdk hX8_meanOff 23 rfl) fw_X8_149 rfl (h.K) (h.r6) ?_
      refine s_iload (zdk hX8_meanOff 24 rfl) rfl ?_
      refine s_aaloadN (N := 20) (j := i) (zdk hX8_meanOff 25 rfl) (h.fK) (by decide) (h.fN) (h.fL n16) (by decide) (h.rR n16) ?_
      refine s_getI (zdk hX8_meanOff 26 rfl) fw_X8_172 rfl ((h.rS n16).1) ?_
      refine s_topi (b := gf g i 5) (h.f5 n16) ?_
      refine s_iadd (zdk hX8_meanOff 27 rfl) ?_
      refine s_istore_n (zdk hX8_meanOff 28 rfl) (Nat.le_of_ble_eq_true rfl) ?_
      refine s_ls (ls' := [some (.ref 0), some (.long ((zom g i) + (go g i))), none, some (.int ((zsc g i) + (gf g i 5))), some (.int (nI i))]) rfl ?_
      refine s_iinc (r := nI (i + 1)) (zdk hX8_meanOff 29 rfl) (Nat.le_of_ble_eq_true rfl) rfl (nI_1 _) ?_
      refine s_ls (ls' := [some (.ref 0), some (.long ((zom g i) + (go g i))), none, some (.int ((zsc g i) + (gf g i 5))), some (.int (nI (i + 1)))]) rfl ?_
      refine s_goto 7 (zdk hX8_meanOff 30 rfl) (by decide) ?_
      exact ih (i + 1) (by omega) (by omega)
theorem c_X8_meanOff (hl : l.stackTraces = false) {M : zMem} {g : Nat → Int64} {p : Nat → Nat} (hx : xSh M) (h : rSt M 630 g p) : zCm l G mX8_meanOff 2 60 0 0 [.ref 0] M (zD (some (.double (zmO g))) M) := by
  refine zCd.of (ls0 := [some (.ref 0), none, none, none, none]) (by decide +kernel) rfl hl rfl (Nat.le_of_ble_eq_true rfl) rfl ?_
  refine s_lconstv (v := lN 0) (zdk hX8_meanOff 0 rfl) rfl ?_
  refine s_lstore_n (zdk hX8_meanOff 1 rfl) (Nat.le_of_ble_eq_true rfl) ?_
  refine s_ls (ls' := [some (.ref 0), some (.long (lN 0)), none, none, none]) rfl ?_
  refine s_iconstv (v := nI 0) (zdk hX8_meanOff 2 rfl) zc_iconst_0 ?_
  refine s_istore_n (zdk hX8_meanOff 3 rfl) (Nat.le_of_ble_eq_true rfl) ?_
  refine s_ls (ls' := [some (.ref 0), some (.long (lN 0)), none, some (.int (nI 0)), none]) rfl ?_
  refine s_iconstv (v := nI 0) (zdk hX8_meanOff 4 rfl) zc_iconst_0 ?_
  refine s_istore (zdk hX8_meanOff 5 rfl) (Nat.le_of_ble_eq_true rfl) ?_
  refine s_ls (ls' := [some (.ref 0), some (.long (lN 0)), none, some (.int (nI 0)), some (.int (nI 0))]) rfl ?_
  exact w_X8_meanOff_7 hl hx h (gN g 3 + 1) 0 (by omega) (by omega)
theorem c_X8_movingShare (hl : l.stackTraces = false) {M : zMem} {g : Nat → Int64} {p : Nat → Nat} (hx : xSh M) (h : rSt M 630 g p) : zCm l G mX8_movingShare 2 60 0 0 [.ref 0] M (zD (some (.float (zmS (zpa g 3 (gN g 2)) (zpa g 2 (gN g 2))))) M) := by
  refine zCd.of (ls0 := [some (.ref 0), none, none]) (by decide +kernel) rfl hl rfl (Nat.le_of_ble_eq_true rfl) rfl ?_
  refine s_aload_n (zdk hX8_movingShare 0 rfl) rfl ?_
  refine s_getR (zdk hX8_movingShare 1 rfl) fw_X8_40 rfl (hx.K) (show _ = some 630 from (hx.r (i := 4) rfl)) ?_
  refine s_iconstv (v := nI 3) (zdk hX8_movingShare 2 rfl) zc_iconst_3 ?_
  refine s_callV0 (ci := 5) [.int (nI 3)] (zdk hX8_movingShare 3 rfl) cw_X8_210 (h.K) (by decide) rfl rfl rfl (Nat.le_of_ble_eq_true rfl) (by decide) (c_X5_paidOnAll hl h (k9 := 3) (by omega)) ?_
  refine s_lstore_n (zdk hX8_movingShare 4 rfl) (Nat.le_of_ble_eq_true rfl) ?_
  refine s_ls (ls' := [some (.ref 0), some (.long (zpa g 3 (gN g 2))), none]) rfl ?_
  refine s_lload_n (zdk hX8_movingShare 5 rfl) rfl ?_
  refine s_lconstv (v := lN 0) (zdk hX8_movingShare 6 rfl) rfl ?_
  refine s_lcmp (zdk hX8_movingShare 7 rfl) ?_
  refine s_if_ne 19 (zdk hX8_movingShare 8 rfl) (by decide) (fun c12 => ?_) (fun c12 => ?_)
  · have eN : ¬ zpa g 3 (gN g 2) = lN 0 := lcmpn c12
    rw [show zmS (zpa g 3 (gN g 2)) (zpa g 2 (gN g 2)) = FP.fdiv (FP.l2f (zpa g 2 (gN g 2))) (FP.l2f (zpa g 3 (gN g 2))) from if_neg eN]
    refine s_aload_n (zdk hX8_movingShare 11 rfl) rfl ?_
    refine s_getR (zdk hX8_movingShare 12 rfl) fw_X8_40 rfl (hx.K) (show _ = some 630 from (hx.r (i := 4) rfl)) ?_
    refine s_iconstv (v := nI 2) (zdk hX8_movingShare 13 rfl) zc_iconst_2 ?_
    refine s_callV0 (ci := 5) [.int (nI 2)] (zdk hX8_movingShare 14 rfl) cw_X8_210 (h.K) (by decide) rfl rfl rfl (Nat.le_of_ble_eq_true rfl) (by decide) (c_X5_paidOnAll hl h (k9 := 2) (by omega)) ?_
    refine s_l2f (zdk hX8_movingShare 15 rfl) ?_
    refine s_lload_n (zdk hX8_movingShare 16 rfl) rfl ?_
    refine s_l2f (zdk hX8_movingShare 17 rfl) ?_
    refine s_fdiv (zdk hX8_movingShare 18 rfl) (fv_ok eN) ?_
    refine s_freturn (zdk hX8_movingShare 19 rfl) rfl  ?_
    exact ⟨rfl, rfl⟩
  · rw [show zmS (zpa g 3 (gN g 2)) (zpa g 2 (gN g 2)) = FP.fconst0 from if_pos (lcmp0 c12)]
    refine s_fconst0 (zdk hX8_movingShare 9 rfl) ?_
    refine s_goto 31 (zdk hX8_movingShare 10 rfl) (by decide) ?_
    refine s_freturn (zdk hX8_movingShare 19 rfl) rfl  ?_
    exact ⟨rfl, rfl⟩
theorem w_X9_meanOff_12 (hl : l.stackTraces = false) {M : zMem} (hm : mSh M) {g : Nat → Int64} (hb : gBd g) : ∀ (k : Nat) (i : Nat), i ≤ gN g 3 → gN g 3 - i < k → zS l G mX9_meanOff 2 60 0 0 12 [some (.ref 941), some (.long (zom g i)), none, some (.int (zsc g i)), some (.int (nI i))] [] (zsL (zsI M 941 6 (nI 0)) 942 g) (zD (some (.double (zmO g))) (zsL (zsI M 941 6 (nI 0)) 942 g)) := by
  intro k
  induction k with
  | zero => intros; omega
  | succ k ih =>
    intro i hi hk
    have hn2 := hb.2.2.1.2

    refine s_iload (zdk hX9_meanOff 9 rfl) rfl ?_
    refine s_aload_n (zdk hX9_meanOff 10 rfl) rfl ?_
    refine s_callV0 (ci := 9) [] (zdk hX9_meanOff 11 rfl) cw_X9_180 (hm.1) (by decide) rfl rfl rfl (Nat.le_of_ble_eq_true rfl) (by decide) (c_X9_files hl (M := (zsI M 941 6 (nI 0))) (g := g) hm hb) ?_
    refine s_icmp_ge 56 (zdk hX9_meanOff 12 rfl) (by decide) (fun c18 => ?_) (fun c18 => ?_)
    · have n18 : gN g 3 ≤ i := nle c18 (by omega) (by omega)
      obtain rfl : i = gN g 3 := by omega
      refine s_iload_n (zdk hX9_meanOff 35 rfl) rfl ?_
      refine s_if_ne 64 (zdk hX9_meanOff 36 rfl) (by decide) (fun c57 => ?_) (fun c57 => ?_)
      · have eZ : zmO g = FP.ddiv (FP.l2d (zom g (gN g 3))) (FP.i2d (zsc g (gN g 3))) := if_neg c57
        rw [eZ]
        refine s_lload_n (zdk hX9_meanOff 39 rfl) rfl ?_
        refine s_l2d (zdk hX9_meanOff 40 rfl) ?_
        refine s_iload_n (zdk hX9_meanOff 41 rfl) rfl ?_
        refine s_i2d (zdk hX9_meanOff 42 rfl) ?_
        refine s_ddiv (zdk hX9_meanOff 43 rfl) (dv_ok c57) ?_
        refine s_dreturn (zdk hX9_meanOff 44 rfl) rfl  ?_
        exact ⟨rfl, rfl⟩
      · have eZ : zmO g = FP.dconst0 := if_pos c57
        rw [eZ]
        refine s_dconst0 (zdk hX9_meanOff 37 rfl) ?_
        refine s_goto 69 (zdk hX9_meanOff 38 rfl) (by decide) ?_
        refine s_dreturn (zdk hX9_meanOff 44 rfl) rfl  ?_
        exact ⟨rfl, rfl⟩
    · have n18 : i < gN g 3 := nlt c18 (by omega) (by omega)
      refine s_lload_n (zdk hX9_meanOff 13 rfl) rfl ?_
      refine s_aload_n (zdk hX9_meanOff 14 rfl) rfl ?_
      refine s_getR (zdk hX9_meanOff 15 rfl) fw_X9_7 rfl (hm.1) (show _ = some 942 from (hm.r (i := 0) rfl).1) ?_
      refine s_bipushv (v := nI 58) (zdk hX9_meanOff 16 rfl) zc_bipush_58 ?_
      refine s_bipushv (v := nI 51) (zdk hX9_meanOff 17 rfl) zc_bipush_51 ?_
      refine s_iload (zdk hX9_meanOff 18 rfl) rfl ?_
      refine s_imul (zdk hX9_meanOff 19 rfl) ?_
      refine s_topi (b := nI (51 * i)) (pk_mul _ _) ?_
      refine s_iadd (zdk hX9_meanOff 20 rfl) ?_
      refine s_topi (b := nI (58 + 51 * i)) (nI_add _ _) ?_
      refine s_bipushv (v := nI 50) (zdk hX9_meanOff 21 rfl) zc_bipush_50 ?_
      refine s_iadd (zdk hX9_meanOff 22 rfl) ?_
      refine s_topi (b := nI (58 + 51 * i + 50)) (nI_add _ _) ?_
      refine s_laloadN (N := 1390) (j := 58 + 51 * i + 50) (zdk hX9_meanOff 23 rfl) ((hm.r (i := 0) rfl).2.1) ((hm.r (i := 0) rfl).2.2) (by omega) (by decide) ?_
      refine s_topl (b := g (58 + 51 * i + 50)) (congrFun zJ_Le _) ?_
      refine s_ladd (zdk hX9_meanOff 24 rfl) ?_
      refine s_lstore_n (zdk hX9_meanOff 25 rfl) (Nat.le_of_ble_eq_true rfl) ?_
      refine s_ls (ls' := [some (.ref 941), some (.long ((zom g i) + (g (58 + 51 * i + 50)))), none, some (.int (zsc g i)), some (.int (nI i))]) rfl ?_
      refine s_iload_n (zdk hX9_meanOff 26 rfl) rfl ?_
      refine s_aload_n (zdk hX9_meanOff 27 rfl) rfl ?_
      refine s_iload (zdk hX9_meanOff 28 rfl) rfl ?_
      refine s_iconstv (v := nI 5) (zdk hX9_meanOff 29 rfl) zc_iconst_5 ?_
      refine s_callV0 (ci := 9) [.int (nI i), .int (nI 5)] (zdk hX9_meanOff 30 rfl) cw_X9_211 (hm.1) (by decide) rfl rfl rfl (Nat.le_of_ble_eq_true rfl) (by decide) (c_X9_of hl (M := (zsI M 941 6 (nI 0))) (g := g) hm (f := i) (k := 5) (by omega)) ?_
      refine s_iadd (zdk hX9_meanOff 31 rfl) ?_
      refine s_istore_n (zdk hX9_meanOff 32 rfl) (Nat.le_of_ble_eq_true rfl) ?_
      refine s_ls (ls' := [some (.ref 941), some (.long ((zom g i) + (g (58 + 51 * i + 50)))), none, some (.int ((zsc g i) + (gf g i 5))), some (.int (nI i))]) rfl ?_
      refine s_iinc (r := nI (i + 1)) (zdk hX9_meanOff 33 rfl) (Nat.le_of_ble_eq_true rfl) rfl (nI_1 _) ?_
      refine s_ls (ls' := [some (.ref 941), some (.long ((zom g i) + (g (58 + 51 * i + 50)))), none, some (.int ((zsc g i) + (gf g i 5))), some (.int (nI (i + 1)))]) rfl ?_
      refine s_goto 12 (zdk hX9_meanOff 34 rfl) (by decide) ?_
      exact ih (i + 1) (by omega) (by omega)
theorem c_X9_meanOff (hl : l.stackTraces = false) {M : zMem} (hm : mSh M) {g : Nat → Int64} (hb : gBd g) : zCm l G mX9_meanOff 2 60 0 0 [.ref 941] (zsL M 942 g) (zD (some (.double (zmO g))) (zsL (zsI M 941 6 (nI 0)) 942 g)) := by
  refine zCd.of (ls0 := [some (.ref 941), none, none, none, none]) (by decide +kernel) rfl hl rfl (Nat.le_of_ble_eq_true rfl) rfl ?_
  refine s_aload_n (zdk hX9_meanOff 0 rfl) rfl ?_
  refine s_iconstv (v := nI 0) (zdk hX9_meanOff 1 rfl) zc_iconst_0 ?_
  refine s_putI (zdk hX9_meanOff 2 rfl) fw_X9_69 rfl pw_9_6 (hm.1) ?_
  refine s_mem (M' := (zsL (zsI M 941 6 (nI 0)) 942 g)) rfl ?_
  refine s_lconstv (v := lN 0) (zdk hX9_meanOff 3 rfl) rfl ?_
  refine s_lstore_n (zdk hX9_meanOff 4 rfl) (Nat.le_of_ble_eq_true rfl) ?_
  refine s_ls (ls' := [some (.ref 941), some (.long (lN 0)), none, none, none]) rfl ?_
  refine s_iconstv (v := nI 0) (zdk hX9_meanOff 5 rfl) zc_iconst_0 ?_
  refine s_istore_n (zdk hX9_meanOff 6 rfl) (Nat.le_of_ble_eq_true rfl) ?_
  refine s_ls (ls' := [some (.ref 941), some (.long (lN 0)), none, some (.int (nI 0)), none]) rfl ?_
  refine s_iconstv (v := nI 0) (zdk hX9_meanOff 7 rfl) zc_iconst_0 ?_
  refine s_istore (zdk hX9_meanOff 8 rfl) (Nat.le_of_ble_eq_true rfl) ?_
  refine s_ls (ls' := [some (.ref 941), some (.long (lN 0)), none, some (.int (nI 0)), some (.int (nI 0))]) rfl ?_
  exact w_X9_meanOff_12 hl hm hb (gN g 3 + 1) 0 (by omega) (by omega)
theorem c_X9_movingShare (hl : l.stackTraces = false) {M : zMem} (hm : mSh M) {g : Nat → Int64} (hb : gBd g) : zCm l G mX9_movingShare 3 90 0 0 [.ref 941] (zsL M 942 g) (zD (some (.float (zmS (rSum g (-1) 3 (gN g 2)) (rSum g (-1) 2 (gN g 2))))) (zsL (zsI M 941 6 (nI 0)) 942 g)) := by
  refine zCd.of (ls0 := [some (.ref 941), none, none]) (by decide +kernel) rfl hl rfl (Nat.le_of_ble_eq_true rfl) rfl ?_
  refine s_aload_n (zdk hX9_movingShare 0 rfl) rfl ?_
  refine s_iconstv (v := nI 0) (zdk hX9_movingShare 1 rfl) zc_iconst_0 ?_
  refine s_putI (zdk hX9_movingShare 2 rfl) fw_X9_69 rfl pw_9_6 (hm.1) ?_
  refine s_mem (M' := (zsL (zsI M 941 6 (nI 0)) 942 g)) rfl ?_
  refine s_aload_n (zdk hX9_movingShare 3 rfl) rfl ?_
  refine s_iconstv (v := (-1)) (zdk hX9_movingShare 4 rfl) zc_iconst_m1 ?_
  refine s_iconstv (v := nI 3) (zdk hX9_movingShare 5 rfl) zc_iconst_3 ?_
  refine s_callV0 (ci := 9) [.int ((-1)), .int (nI 3)] (zdk hX9_movingShare 6 rfl) cw_X9_264 (hm.1) (by decide) rfl rfl rfl (Nat.le_of_ble_eq_true rfl) (by decide) (c_X9_sumOf hl (M := (zsI M 941 6 (nI 0))) (g := g) hm hb.2.1.1 hb.2.1.2 ((-1)) (w := 3) (by omega)) ?_
  refine s_lstore_n (zdk hX9_movingShare 7 rfl) (Nat.le_of_ble_eq_true rfl) ?_
  refine s_ls (ls' := [some (.ref 941), some (.long (rSum g ((-1)) 3 (gN g 2))), none]) rfl ?_
  refine s_lload_n (zdk hX9_movingShare 8 rfl) rfl ?_
  refine s_lconstv (v := lN 0) (zdk hX9_movingShare 9 rfl) rfl ?_
  refine s_lcmp (zdk hX9_movingShare 10 rfl) ?_
  refine s_if_ne 22 (zdk hX9_movingShare 11 rfl) (by decide) (fun c15 => ?_) (fun c15 => ?_)
  · have eN : ¬ rSum g (-1) 3 (gN g 2) = lN 0 := lcmpn c15
    rw [show zmS (rSum g (-1) 3 (gN g 2)) (rSum g (-1) 2 (gN g 2)) = FP.fdiv (FP.l2f (rSum g (-1) 2 (gN g 2))) (FP.l2f (rSum g (-1) 3 (gN g 2))) from if_neg eN]
    refine s_aload_n (zdk hX9_movingShare 14 rfl) rfl ?_
    refine s_iconstv (v := (-1)) (zdk hX9_movingShare 15 rfl) zc_iconst_m1 ?_
    refine s_iconstv (v := nI 2) (zdk hX9_movingShare 16 rfl) zc_iconst_2 ?_
    refine s_callV0 (ci := 9) [.int ((-1)), .int (nI 2)] (zdk hX9_movingShare 17 rfl) cw_X9_264 (hm.1) (by decide) rfl rfl rfl (Nat.le_of_ble_eq_true rfl) (by decide) (c_X9_sumOf hl (M := (zsI M 941 6 (nI 0))) (g := g) hm hb.2.1.1 hb.2.1.2 ((-1)) (w := 2) (by omega)) ?_
    refine s_l2f (zdk hX9_movingShare 18 rfl) ?_
    refine s_lload_n (zdk hX9_movingShare 19 rfl) rfl ?_
    refine s_l2f (zdk hX9_movingShare 20 rfl) ?_
    refine s_fdiv (zdk hX9_movingShare 21 rfl) (fv_ok eN) ?_
    refine s_freturn (zdk hX9_movingShare 22 rfl) rfl  ?_
    exact ⟨rfl, rfl⟩
  · rw [show zmS (rSum g (-1) 3 (gN g 2)) (rSum g (-1) 2 (gN g 2)) = FP.fconst0 from if_pos (lcmp0 c15)]
    refine s_fconst0 (zdk hX9_movingShare 12 rfl) ?_
    refine s_goto 32 (zdk hX9_movingShare 13 rfl) (by decide) ?_
    refine s_freturn (zdk hX9_movingShare 22 rfl) rfl  ?_
    exact ⟨rfl, rfl⟩
end
