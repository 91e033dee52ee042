/-! ===== the reference: close, drop ===== -/
def rEnd (g : Nat → Int64) : Nat → Int64 := zwL (zwL (rCl g (gN g 3)) 4 (nI (gN g 4 + 1)).toInt64) 5 (nI 0).toInt64
def rEndV (g : Nat → Int64) : Int64 := rSum (rEnd g) (-1) 3 (gN g 2) - rSum g (-1) 3 (gN g 2)
theorem lcmp9 {g : Nat → Int64} {n : Nat} (h4 : g 4 = (its g 4).toInt64) (h : its g 4 = nI n) (hn : n < 100000) (m : Nat) (hm : m < 100000) : lg_cmp (g 4) (nI m).toInt64 = 0 ↔ n = m := by
  rw [h4, h]
  constructor
  · intro q
    have q1 := lcmp0 q
    rw [nI_l (by omega), nI_l (by omega)] at q1
    exact (lN_eq (by omega) (by omega)).mp q1
  · intro q
    rw [q]
    unfold lg_cmp
    rw [if_neg (fun z => by rw [gt_iff_lt, Int64.lt_iff_toInt_lt] at z; omega), if_pos rfl]
section
variable {l : Launch} {G : zG}
theorem c_X9_close_x (hl : l.stackTraces = false) {M : zMem} (hm : mSh M) {g : Nat → Int64} (hb : gBd g) (hi4 : g 4 = (its g 4).toInt64) (h9 : gN g 4 = 9999) : zCm l G mX9_close 5 124 0 0 [.ref 941] (zsL M 942 g) (zD (some (.long ((-17 : Int32).toInt64))) (zsL (zsI M 941 6 (nI 0)) 942 g)) := by
  refine zCd.of (ls0 := [some (.ref 941), none, none, none]) (by decide +kernel) rfl hl rfl (Nat.le_of_ble_eq_true rfl) rfl ?_
  have hn2 := hb.2.2.1.2
  have ht4 := hb.2.1.2
  have hcy := hb.1.2.2
  have hpe := hb.2.2.2.1.2
  refine s_aload_n (zdk hX9_close 0 rfl) rfl ?_
  refine s_iconstv (v := nI 0) (zdk hX9_close 1 rfl) zc_iconst_0 ?_
  refine s_putI (zdk hX9_close 2 rfl) fw_X9_69 rfl pw_9_6 (hm.1) ?_
  refine s_mem (M' := (zsL (zsI M 941 6 (nI 0)) 942 g)) rfl ?_
  refine s_aload_n (zdk hX9_close 3 rfl) rfl ?_
  refine s_getR (zdk hX9_close 4 rfl) fw_X9_7 rfl (hm.1) (show _ = some 942 from (hm.r (i := 0) rfl).1) ?_
  refine s_iconstv (v := nI 4) (zdk hX9_close 5 rfl) zc_iconst_4 ?_
  refine s_laloadN (N := 1390) (j := 4) (zdk hX9_close 6 rfl) ((hm.r (i := 0) rfl).2.1) ((hm.r (i := 0) rfl).2.2) (by omega) (by decide) ?_
  refine s_topl (b := g 4) (congrFun zJ_Le _) ?_
  refine s_ldc2 (zdk hX9_close 7 rfl) kw_X9_335 ?_
  refine s_topl (b := (nI 9999).toInt64) (by decide) ?_
  refine s_lcmp (zdk hX9_close 8 rfl) ?_
  refine s_if_ne 25 (zdk hX9_close 9 rfl) (by decide) (fun c15 => ?_) (fun c15 => ?_)
  · exact absurd ((lcmp9 hi4 hb.h4 (by omega) 9999 (by omega)).mpr h9) c15
  · refine s_bipushv (v := nI 7) (zdk hX9_close 10 rfl) zc_bipush_7 ?_
    refine s_callS0 [.int (nI 7)] (zdk hX9_close 11 rfl) cw_X9_326 rfl (Nat.le_of_ble_eq_true rfl) (by decide) (c_X9_refused hl (zsL (zsI M 941 6 (nI 0)) 942 g) (nI 7)) ?_
    refine s_topi (b := (-17 : Int32)) (by decide) ?_
    refine s_i2l (zdk hX9_close 12 rfl) ?_
    refine s_lreturn (zdk hX9_close 13 rfl) rfl  ?_
    exact ⟨rfl, rfl⟩
theorem w_X9_close_42 (hl : l.stackTraces = false) {M : zMem} (hm : mSh M) {g : Nat → Int64} (hb : gBd g) {c : Nat} (hc : zI M 941 5 = nI c) (hc8 : c ≤ 8) (h9 : ¬ gN g 4 = 9999) (hi4 : g 4 = (its g 4).toInt64) (W9 : Int64) : ∀ (k : Nat) (i : Nat), i ≤ gN g 3 → gN g 3 - i < k → zS l G mX9_close 5 124 0 0 42 [some (.ref 941), some (.long (W9)), none, some (.int (nI i))] [] (zsL (KP M c g) 942 (rCl g i)) (zD (some (.long (rSum (rEnd g) (-1) 3 (gN g 2) - W9))) (zsL (KP M c g) 942 (rEnd g))) := by
  intro k
  induction k with
  | zero => intros; omega
  | succ k ih =>
    intro i hi hk9
    have h20 := hb.2.2.1.2
    have hp9 := hb.2.2.2.1.2
    refine s_iload_n (zdk hX9_close 25 rfl) rfl ?_
    refine s_aload_n (zdk hX9_close 26 rfl) rfl ?_
    have ef : gN (rCl g i) 3 = gN g 3 := gN_eq ((hb.cl i (by omega)).2 3 (by omega))
    refine s_callV0 (ci := 9) [] (zdk hX9_close 27 rfl) cw_X9_180 (hm.1) (by decide) rfl rfl rfl (Nat.le_of_ble_eq_true rfl) (by decide) (c_X9_files hl (M := KP M c g) (g := rCl g i) hm (hb.cl i (by omega)).1) ?_
    refine s_icmp_ge 61 (zdk hX9_close 28 rfl) (by decide) (fun c47 => ?_) (fun c47 => ?_)
    · have n47 : gN (rCl g i) 3 ≤ i := nle c47 (by omega) (by omega)
      have ef : gN (rCl g i) 3 = gN g 3 := gN_eq ((hb.cl i (by omega)).2 3 (by omega))
      have hie : i = gN g 3 := by omega
      subst hie
      refine s_aload_n (zdk hX9_close 34 rfl) rfl ?_
      refine s_getR (zdk hX9_close 35 rfl) fw_X9_7 rfl (hm.1) (show _ = some 942 from (hm.r (i := 0) rfl).1) ?_
      refine s_iconstv (v := nI 4) (zdk hX9_close 36 rfl) zc_iconst_4 ?_
      refine s_dup2ir (zdk hX9_close 37 rfl) ?_
      refine s_laloadN (N := 1390) (j := 4) (zdk hX9_close 38 rfl) ((hm.r (i := 0) rfl).2.1) ((hm.r (i := 0) rfl).2.2) (by omega) (by decide) ?_
      refine s_topl (b := (rCl g (gN g 3)) 4) (congrFun zJ_Le _) ?_
      refine s_lconstv (v := lN 1) (zdk hX9_close 39 rfl) rfl ?_
      refine s_ladd (zdk hX9_close 40 rfl) ?_
      refine s_topl (b := (nI (gN g 4 + 1)).toInt64) ((congrArg (fun q : Int64 => q + lN 1) (((hb.cl (gN g 3) (by omega)).2 4 (by omega)).trans (hi4.trans (congrArg Int32.toInt64 hb.h4)))).trans (inc64 (by omega))) ?_
      refine s_lastoreN (N := 1390) (j := 4) (zdk hX9_close 41 rfl) ((hm.r (i := 0) rfl).2.1) ((hm.r (i := 0) rfl).2.2) (by omega) (by decide) ?_
      refine s_mem (M' := (zsL (KP M c g) 942 (zwL (rCl g (gN g 3)) 4 ((nI (gN g 4 + 1)).toInt64)))) (zsL_1 _ _ _ _ _) ?_
      refine s_aload_n (zdk hX9_close 42 rfl) rfl ?_
      refine s_getR (zdk hX9_close 43 rfl) fw_X9_7 rfl (hm.1) (show _ = some 942 from (hm.r (i := 0) rfl).1) ?_
      refine s_iconstv (v := nI 5) (zdk hX9_close 44 rfl) zc_iconst_5 ?_
      refine s_lconstv (v := (nI 0).toInt64) (zdk hX9_close 45 rfl) (by decide) ?_
      refine s_lastoreN (N := 1390) (j := 5) (zdk hX9_close 46 rfl) ((hm.r (i := 0) rfl).2.1) ((hm.r (i := 0) rfl).2.2) (by omega) (by decide) ?_
      refine s_mem (M' := (zsL (KP M c g) 942 (zwL (zwL (rCl g (gN g 3)) 4 ((nI (gN g 4 + 1)).toInt64)) 5 ((nI 0).toInt64)))) (zsL_1 _ _ _ _ _) ?_
      refine s_aload_n (zdk hX9_close 47 rfl) rfl ?_
      refine s_iconstv (v := (-1)) (zdk hX9_close 48 rfl) zc_iconst_m1 ?_
      refine s_iconstv (v := nI 3) (zdk hX9_close 49 rfl) zc_iconst_3 ?_
      have e2 : rEnd g 2 = g 2 := (zwL_n (by omega)).trans ((zwL_n (by omega)).trans ((hb.cl (gN g 3) (by omega)).2 2 (by omega)))
      refine s_callV0 (ci := 9) [.int ((-1)), .int (nI 3)] (zdk hX9_close 50 rfl) cw_X9_264 (hm.1) (by decide) rfl rfl rfl (Nat.le_of_ble_eq_true rfl) (by decide) (c_X9_sumOf hl (M := KP M c g) (g := rEnd g) hm (by rw [its_eq e2, gN_eq e2]; exact hb.h2) (by rw [gN_eq e2]; exact hb.2.1.2) (-1) (w := 3) (by omega)) ?_
      refine s_topl (b := rSum (rEnd g) (-1) 3 (gN g 2)) (by rw [gN_eq e2]) ?_
      refine s_lload_n (zdk hX9_close 51 rfl) rfl ?_
      refine s_lsub (zdk hX9_close 52 rfl) ?_
      refine s_lreturn (zdk hX9_close 53 rfl) rfl  ?_
      exact ⟨rfl, rfl⟩
    · have n47 : i < gN (rCl g i) 3 := nlt c47 (by omega) (by omega)
      refine s_aload_n (zdk hX9_close 29 rfl) rfl ?_
      refine s_iload_n (zdk hX9_close 30 rfl) rfl ?_
      refine s_callV0 (ci := 9) [.int (nI i)] (zdk hX9_close 31 rfl) cw_X9_337 (hm.1) (by decide) rfl rfl rfl (Nat.le_of_ble_eq_true rfl) (by decide) (c_X9_closes hl (M := KP M c g) (g := rCl g i) hm (hb.cl i (by omega)).1 (f := i) (by omega)) ?_
      refine s_iinc (r := nI (i + 1)) (zdk hX9_close 32 rfl) (Nat.le_of_ble_eq_true rfl) rfl (nI_1 _) ?_
      refine s_ls (ls' := [some (.ref 941), some (.long (W9)), none, some (.int (nI (i + 1)))]) rfl ?_
      refine s_goto 42 (zdk hX9_close 33 rfl) (by decide) ?_
      exact ih (i + 1) (by omega) (by omega)
theorem c_X9_close (hl : l.stackTraces = false) {M : zMem} (hm : mSh M) {g : Nat → Int64} (hb : gBd g) {c : Nat} (hc : zI M 941 5 = nI c) (hc8 : c ≤ 8) (h9 : ¬ gN g 4 = 9999) (hi4 : g 4 = (its g 4).toInt64) : zCm l G mX9_close 5 124 0 0 [.ref 941] (zsL M 942 g) (zD (some (.long (rEndV g))) (zsL (KP M c g) 942 (rEnd g))) := by
  refine zCd.of (ls0 := [some (.ref 941), none, none, none]) (by decide +kernel) rfl hl rfl (Nat.le_of_ble_eq_true rfl) rfl ?_
  have hn2 := hb.2.2.1.2
  have ht4 := hb.2.1.2
  have hcy := hb.1.2.2
  have hpe := hb.2.2.2.1.2
  refine s_aload_n (zdk hX9_close 0 rfl) rfl ?_
  refine s_iconstv (v := nI 0) (zdk hX9_close 1 rfl) zc_iconst_0 ?_
  refine s_putI (zdk hX9_close 2 rfl) fw_X9_69 rfl pw_9_6 (hm.1) ?_
  refine s_mem (M' := (zsL (zsI M 941 6 (nI 0)) 942 g)) rfl ?_
  refine s_aload_n (zdk hX9_close 3 rfl) rfl ?_
  refine s_getR (zdk hX9_close 4 rfl) fw_X9_7 rfl (hm.1) (show _ = some 942 from (hm.r (i := 0) rfl).1) ?_
  refine s_iconstv (v := nI 4) (zdk hX9_close 5 rfl) zc_iconst_4 ?_
  refine s_laloadN (N := 1390) (j := 4) (zdk hX9_close 6 rfl) ((hm.r (i := 0) rfl).2.1) ((hm.r (i := 0) rfl).2.2) (by omega) (by decide) ?_
  refine s_topl (b := g 4) (congrFun zJ_Le _) ?_
  refine s_ldc2 (zdk hX9_close 7 rfl) kw_X9_335 ?_
  refine s_topl (b := (nI 9999).toInt64) (by decide) ?_
  refine s_lcmp (zdk hX9_close 8 rfl) ?_
  refine s_if_ne 25 (zdk hX9_close 9 rfl) (by decide) (fun c15 => ?_) (fun c15 => ?_)
  · refine s_aload_n (zdk hX9_close 14 rfl) rfl ?_
    refine s_aload_n (zdk hX9_close 15 rfl) rfl ?_
    refine s_getR (zdk hX9_close 16 rfl) fw_X9_7 rfl (hm.1) (show _ = some 942 from (hm.r (i := 0) rfl).1) ?_
    refine s_callV0 (ci := 9) [.ref 942] (zdk hX9_close 17 rfl) cw_X9_83 (hm.1) (by decide) rfl rfl rfl (Nat.le_of_ble_eq_true rfl) (by decide) (c_keeps0 hl hm hc hc8) ?_
    refine s_aload_n (zdk hX9_close 18 rfl) rfl ?_
    refine s_iconstv (v := (-1)) (zdk hX9_close 19 rfl) zc_iconst_m1 ?_
    refine s_iconstv (v := nI 3) (zdk hX9_close 20 rfl) zc_iconst_3 ?_
    refine s_callV0 (ci := 9) [.int ((-1)), .int (nI 3)] (zdk hX9_close 21 rfl) cw_X9_264 (hm.1) (by decide) rfl rfl rfl (Nat.le_of_ble_eq_true rfl) (by decide) (c_X9_sumOf hl (M := KP M c g) (g := g) hm hb.h2 hb.2.1.2 (-1) (w := 3) (by omega)) ?_
    refine s_lstore_n (zdk hX9_close 22 rfl) (Nat.le_of_ble_eq_true rfl) ?_
    refine s_ls (ls' := [some (.ref 941), some (.long (rSum g (-1) 3 (gN g 2))), none, none]) rfl ?_
    refine s_iconstv (v := nI 0) (zdk hX9_close 23 rfl) zc_iconst_0 ?_
    refine s_istore_n (zdk hX9_close 24 rfl) (Nat.le_of_ble_eq_true rfl) ?_
    refine s_ls (ls' := [some (.ref 941), some (.long (rSum g (-1) 3 (gN g 2))), none, some (.int (nI 0))]) rfl ?_
    exact w_X9_close_42 hl hm hb hc hc8 h9 hi4 (rSum g (-1) 3 (gN g 2)) (gN g 3 + 1) 0 (by omega) (by omega)
  · exact absurd ((lcmp9 hi4 hb.h4 (by omega) 9999 (by omega)).mp c15) h9
end
