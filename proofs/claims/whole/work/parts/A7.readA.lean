theorem zc_bipush_64 : (Int8.ofInt 64).toInt32 = nI 64 := by decide
/-! ===== the reference reads: a file up to its name ===== -/
section
variable {l : Launch} {G : zG}
theorem c_X9_filesN (hl : l.stackTraces = false) {M : zMem} (hm : mSh M) {g : Nat → Int64} (h3 : its g 3 = nI (gN g 3)) : zCm l G mX9_files 1 22 0 0 [.ref 941] (zsL M 942 g) (zD (some (.int (nI (gN g 3)))) (zsL M 942 g)) := by
  refine zCd.of (ls0 := [some (.ref 941)]) (by decide +kernel) rfl hl rfl (Nat.le_of_ble_eq_true rfl) rfl ?_
  refine s_aload_n (zdk hX9_files 0 rfl) rfl ?_
  refine s_iconstv (v := nI 3) (zdk hX9_files 1 rfl) zc_iconst_3 ?_
  refine s_callV0 (ci := 9) [.int (nI 3)] (zdk hX9_files 2 rfl) cw_X9_87 (hm.1) (by decide) rfl rfl rfl (Nat.le_of_ble_eq_true rfl) (by decide) (c_X9_itsN hl hm (k := 3) (by decide) h3) ?_
  refine s_ireturn (zdk hX9_files 3 rfl) rfl rfl ?_
  exact ⟨rfl, rfl⟩
theorem w_X9_readsFile_17 (hl : l.stackTraces = false) {M : zMem} (hm : mSh M) {g : Nat → Int64} {u : Nat → Int32} (hu : zI M 947 = u) {n : Nat} (hn : zI M 941 8 = nI n) (hn6 : n ≤ 600) {r : rRd} (ho : rOk n r) {t : Nat} (ht : t ≤ 20) {nv : Int32} {ra rb rc : rRd} (hra : rMu u n (nI 1) r = ra) (hrb : rMn ra = rb) (hnv : rNa g u rb 64 51 t = nv) (hrc : (if nv = -1 then rb else rFl rb (-5)) = rc) (hoa : rOk n ra) (hob : rOk n rb) {Q : zOut → zMem → Prop} (kk1 : rc.2.2.2.2.1 = 0 → zS l G mX9_readsFile 6 200 0 0 53 [some (.ref 941), some (.int (nI t)), none, none, none] [] (zsL (rdM M rc) 942 g) Q) (kk2 : ¬ rc.2.2.2.2.1 = 0 → Q (.inl none) (zsL (rdM M rc) 942 g)) : zS l G mX9_readsFile 6 200 0 0 17 [some (.ref 941), some (.int (nI t)), none, none, none] [] (zsL (rdM M r) 942 g) Q := by
  refine s_aload_n (zdk hX9_readsFile_0 9 rfl) rfl ?_
  refine s_iconstv (v := nI 1) (zdk hX9_readsFile_0 10 rfl) zc_iconst_1 ?_
  refine s_callV0 (ci := 9) [.int (nI 1)] (zdk hX9_readsFile_0 11 rfl) cw_X9_150 (hm.1) (by decide) rfl rfl rfl (Nat.le_of_ble_eq_true rfl) (by decide) (c_X9_must hl hm hu hn hn6 (g := g) (r := r) ho (nI 1)) ?_
  refine s_mem (M' := (zsL (rdM M ra) 942 g)) (by rw [hra]) ?_
  refine s_aload_n (zdk hX9_readsFile_0 12 rfl) rfl ?_
  refine s_callV0 (ci := 9) [] (zdk hX9_readsFile_0 13 rfl) cw_X9_163 (hm.1) (by decide) rfl rfl rfl (Nat.le_of_ble_eq_true rfl) (by decide) (c_X9_mustName hl hm hu hn hn6 (g := g) (r := ra) hoa) ?_
  refine s_mem (M' := (zsL (rdM M rb) 942 g)) (by rw [hrb]) ?_
  refine s_aload_n (zdk hX9_readsFile_0 14 rfl) rfl ?_
  refine s_bipushv (v := nI 64) (zdk hX9_readsFile_0 15 rfl) zc_bipush_64 ?_
  refine s_iload_n (zdk hX9_readsFile_0 16 rfl) rfl ?_
  refine s_bipushv (v := nI 51) (zdk hX9_readsFile_0 17 rfl) zc_bipush_51 ?_
  refine s_callV0 (ci := 9) [.int (nI 64), .int (nI t), .int (nI 51)] (zdk hX9_readsFile_0 18 rfl) cw_X9_166 (hm.1) (by decide) rfl rfl rfl (Nat.le_of_ble_eq_true rfl) (by decide) (c_X9_named2 hl hm hu hn hn6 (g := g) (r := rb) hob (b0 := 64) (sz := 51) (m := t) (by omega) (fun i hi => by omega)) ?_
  refine s_topi (b := nv) (hnv) ?_
  refine s_iconstv (v := (-1)) (zdk hX9_readsFile_0 19 rfl) zc_iconst_m1 ?_
  refine s_icmp_eq 45 (zdk hX9_readsFile_0 20 rfl) (by decide) (fun c36 => ?_) (fun c36 => ?_)
  · rw [if_pos c36] at hrc
    refine s_mem (M' := (zsL (rdM M rc) 942 g)) (by rw [hrc]) ?_
    refine s_aload_n (zdk hX9_readsFile_0 24 rfl) rfl ?_
    refine s_getI (zdk hX9_readsFile_0 25 rfl) fw_X9_127 rfl (hm.1) ?_
    refine s_topi (b := rc.2.2.2.2.1) (show zI (rdM M rc) 941 13 = _ from rd_wr) ?_
    refine s_if_eq 53 (zdk hX9_readsFile_0 26 rfl) (by decide) (fun c49 => ?_) (fun c49 => ?_)
    · exact kk1 c49
    · refine s_return (zdk hX9_readsFile_0 27 rfl) rfl ?_
      exact kk2 c49
  · rw [if_neg c36] at hrc
    refine s_aload_n (zdk hX9_readsFile_0 21 rfl) rfl ?_
    refine s_bipushv (v := (-5)) (zdk hX9_readsFile_0 22 rfl) zc_bipush_m5 ?_
    refine s_callV0 (ci := 9) [.int ((-5))] (zdk hX9_readsFile_0 23 rfl) cw_X9_143 (hm.1) (by decide) rfl rfl rfl (Nat.le_of_ble_eq_true rfl) (by decide) (c_X9_fails hl hm (g := g) (r := rb) (-5)) ?_
    refine s_mem (M' := (zsL (rdM M rc) 942 g)) (by rw [hrc]) ?_
    refine s_aload_n (zdk hX9_readsFile_0 24 rfl) rfl ?_
    refine s_getI (zdk hX9_readsFile_0 25 rfl) fw_X9_127 rfl (hm.1) ?_
    refine s_topi (b := rc.2.2.2.2.1) (show zI (rdM M rc) 941 13 = _ from rd_wr) ?_
    refine s_if_eq 53 (zdk hX9_readsFile_0 26 rfl) (by decide) (fun c49 => ?_) (fun c49 => ?_)
    · exact kk1 c49
    · refine s_return (zdk hX9_readsFile_0 27 rfl) rfl ?_
      exact kk2 c49
end
