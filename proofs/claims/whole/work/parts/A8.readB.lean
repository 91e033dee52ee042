theorem zc_bipush_m4 : (Int8.ofInt (-4)).toInt32 = (-4) := by decide
/-! ===== the reference reads: a file's size and tier ===== -/
section
variable {l : Launch} {G : zG}
theorem w_X9_readsFile_53 (hl : l.stackTraces = false) {M : zMem} (hm : mSh M) {g : Nat → Int64} {u : Nat → Int32} (hu : zI M 947 = u) {n : Nat} (hn : zI M 941 8 = nI n) (hn6 : n ≤ 600) {r : rRd} (ho : rOk n r) {t : Nat} (ht : t < 20) {g2 : Nat → Int64} {r1 r3 r4 r5 : rRd} {x : Int32 × rRd} {v2 nv : Int32} (hg2 : rPn u r (oB0 g t) (58 + 51 * t + 6) 8 = g2) (h1 : rNx u n r = r1) (hx : rTa u n (nI 1) (nI 999) r1 = x) (hv2 : rIw u 4 x.2 = v2) (h3 : rMu u n v2 x.2 = r3) (h4 : rMn r3 = r4) (h22 : its g2 2 = nI (gN g2 2)) (h24 : gN g2 2 ≤ 4) (hnv : rNa g2 u r4 11 13 (gN g2 2) = nv) (h5 : (if nv = -1 then rFl r4 (-4) else r4) = r5) (ho1 : rOk n r1) (ho2 : rOk n x.2) (ho3 : rOk n r3) (ho4 : rOk n r4) {Q : zOut → zMem → Prop} (kk : zS l G mX9_readsFile 6 200 0 0 123 [some (.ref 941), some (.int (nI t)), some (.int (x.1)), some (.int (nv)), none] [] (zsL (rdM M r5) 942 g2) Q) : zS l G mX9_readsFile 6 200 0 0 53 [some (.ref 941), some (.int (nI t)), none, none, none] [] (zsL (rdM M r) 942 g) Q := by
  refine s_aload_n (zdk hX9_readsFile_0 28 rfl) rfl ?_
  refine s_iload_n (zdk hX9_readsFile_0 29 rfl) rfl ?_
  refine s_callV0 (ci := 9) [.int (nI t)] (zdk hX9_readsFile_0 30 rfl) cw_X9_183 (hm.1) (by decide) rfl rfl rfl (Nat.le_of_ble_eq_true rfl) (by decide) (c_X9_begins0 hl (M := rdM M r) (g := g) hm (f := t) (by omega)) ?_
  refine s_aload_n (zdk hX9_readsFile_0 31 rfl) rfl ?_
  refine s_bipushv (v := nI 58) (zdk hX9_readsFile_0 32 rfl) zc_bipush_58 ?_
  refine s_bipushv (v := nI 51) (zdk hX9_readsFile_0 33 rfl) zc_bipush_51 ?_
  refine s_iload_n (zdk hX9_readsFile_0 34 rfl) rfl ?_
  refine s_imul (zdk hX9_readsFile_0 35 rfl) ?_
  refine s_topi (b := nI (51 * t)) (pk_mul _ _) ?_
  refine s_iadd (zdk hX9_readsFile_0 36 rfl) ?_
  refine s_topi (b := nI (58 + 51 * t)) (nI_add _ _) ?_
  refine s_bipushv (v := nI 6) (zdk hX9_readsFile_0 37 rfl) zc_bipush_6 ?_
  refine s_iadd (zdk hX9_readsFile_0 38 rfl) ?_
  refine s_topi (b := nI (58 + 51 * t + 6)) (nI_add _ _) ?_
  refine s_callV0 (ci := 9) [.int (nI (58 + 51 * t + 6))] (zdk hX9_readsFile_0 39 rfl) cw_X9_170 (hm.1) (by decide) rfl rfl rfl (Nat.le_of_ble_eq_true rfl) (by decide) (c_X9_putsName hl hm hu hn hn6 (g := oB0 g t) (r := r) ho (to := 58 + 51 * t + 6) (by omega)) ?_
  refine s_mem (M' := (zsL (rdM M r) 942 g2)) (by rw [hg2]) ?_
  refine s_aload_n (zdk hX9_readsFile_0 40 rfl) rfl ?_
  refine s_callV0 (ci := 9) [] (zdk hX9_readsFile_0 41 rfl) cw_X9_147 (hm.1) (by decide) rfl rfl rfl (Nat.le_of_ble_eq_true rfl) (by decide) (c_X9_next hl hm hu hn hn6 (g := g2) (i := r.1) (b := r.2.1) (k0 := r.2.2.1) ho.2.1 r.2.2.2.1 r.2.2.2.2.1 r.2.2.2.2.2) ?_
  refine s_mem (M' := (zsL (rdM M r1) 942 g2)) (by rw [show rNx u n (r.1, r.2.1, r.2.2.1, r.2.2.2.1, r.2.2.2.2.1, r.2.2.2.2.2) = r1 from h1]) ?_
  refine s_aload_n (zdk hX9_readsFile_0 42 rfl) rfl ?_
  refine s_iconstv (v := nI 1) (zdk hX9_readsFile_0 43 rfl) zc_iconst_1 ?_
  refine s_sipushv (v := nI 999) (zdk hX9_readsFile_0 44 rfl) zc_sipush_999 ?_
  refine s_callV0 (ci := 9) [.int (nI 1), .int (nI 999)] (zdk hX9_readsFile_0 45 rfl) cw_X9_174 (hm.1) (by decide) rfl rfl rfl (Nat.le_of_ble_eq_true rfl) (by decide) (c_X9_takes hl hm hu hn hn6 (g := g2) (r := r1) ho1 (nI 1) (nI 999)) ?_
  refine s_topi (b := x.1) (by rw [hx]) ?_
  refine s_istore_n (zdk hX9_readsFile_0 46 rfl) (Nat.le_of_ble_eq_true rfl) ?_
  refine s_ls (ls' := [some (.ref 941), some (.int (nI t)), some (.int (x.1)), none, none]) rfl ?_
  refine s_mem (M' := (zsL (rdM M x.2) 942 g2)) (by rw [hx]) ?_
  refine s_aload_n (zdk hX9_readsFile_0 47 rfl) rfl ?_
  refine s_aload_n (zdk hX9_readsFile_0 48 rfl) rfl ?_
  refine s_ldcS (tx := "on") (k := 4) (zdk hX9_readsFile_0 49 rfl) (by decide +kernel) (by decide) ?_
  refine s_callV0 (ci := 9) [.ref (1000000 + 4)] (zdk hX9_readsFile_0 50 rfl) cw_X9_159 (hm.1) (by decide) rfl rfl rfl (Nat.le_of_ble_eq_true rfl) (by decide) (c_X9_isWord hl hm hu hn hn6 (g := g2) (r := x.2) ho2 (w := 4) (by decide)) ?_
  refine s_topi (b := v2) (hv2) ?_
  refine s_callV0 (ci := 9) [.int (v2)] (zdk hX9_readsFile_0 51 rfl) cw_X9_150 (hm.1) (by decide) rfl rfl rfl (Nat.le_of_ble_eq_true rfl) (by decide) (c_X9_must hl hm hu hn hn6 (g := g2) (r := x.2) ho2 v2) ?_
  refine s_mem (M' := (zsL (rdM M r3) 942 g2)) (by rw [h3]) ?_
  refine s_aload_n (zdk hX9_readsFile_0 52 rfl) rfl ?_
  refine s_callV0 (ci := 9) [] (zdk hX9_readsFile_0 53 rfl) cw_X9_163 (hm.1) (by decide) rfl rfl rfl (Nat.le_of_ble_eq_true rfl) (by decide) (c_X9_mustName hl hm hu hn hn6 (g := g2) (r := r3) ho3) ?_
  refine s_mem (M' := (zsL (rdM M r4) 942 g2)) (by rw [h4]) ?_
  refine s_aload_n (zdk hX9_readsFile_0 54 rfl) rfl ?_
  refine s_bipushv (v := nI 11) (zdk hX9_readsFile_0 55 rfl) zc_bipush_11 ?_
  refine s_aload_n (zdk hX9_readsFile_0 56 rfl) rfl ?_
  refine s_callV0 (ci := 9) [] (zdk hX9_readsFile_0 57 rfl) cw_X9_154 (hm.1) (by decide) rfl rfl rfl (Nat.le_of_ble_eq_true rfl) (by decide) (c_X9_tiersN hl (M := rdM M r4) (g := g2) hm h22) ?_
  refine s_bipushv (v := nI 13) (zdk hX9_readsFile_0 58 rfl) zc_bipush_13 ?_
  refine s_callV0 (ci := 9) [.int (nI 11), .int (nI (gN g2 2)), .int (nI 13)] (zdk hX9_readsFile_0 59 rfl) cw_X9_166 (hm.1) (by decide) rfl rfl rfl (Nat.le_of_ble_eq_true rfl) (by decide) (c_X9_named2 hl hm hu hn hn6 (g := g2) (r := r4) ho4 (b0 := 11) (sz := 13) (m := gN g2 2) (by omega) (fun i hi => by omega)) ?_
  refine s_topi (b := nv) (hnv) ?_
  refine s_istore_n (zdk hX9_readsFile_1 0 rfl) (Nat.le_of_ble_eq_true rfl) ?_
  refine s_ls (ls' := [some (.ref 941), some (.int (nI t)), some (.int (x.1)), some (.int (nv)), none]) rfl ?_
  refine s_iload_n (zdk hX9_readsFile_1 1 rfl) rfl ?_
  refine s_iconstv (v := (-1)) (zdk hX9_readsFile_1 2 rfl) zc_iconst_m1 ?_
  refine s_icmp_ne 123 (zdk hX9_readsFile_1 3 rfl) (by decide) (fun c114 => ?_) (fun c114 => ?_)
  · rw [if_neg c114] at h5
    refine s_mem (M' := (zsL (rdM M r5) 942 g2)) (by rw [h5]) ?_
    exact kk
  · rw [if_pos c114] at h5
    refine s_aload_n (zdk hX9_readsFile_1 4 rfl) rfl ?_
    refine s_bipushv (v := (-4)) (zdk hX9_readsFile_1 5 rfl) zc_bipush_m4 ?_
    refine s_callV0 (ci := 9) [.int ((-4))] (zdk hX9_readsFile_1 6 rfl) cw_X9_143 (hm.1) (by decide) rfl rfl rfl (Nat.le_of_ble_eq_true rfl) (by decide) (c_X9_fails hl hm (g := g2) (r := r4) (-4)) ?_
    refine s_mem (M' := (zsL (rdM M r5) 942 g2)) (by rw [h5]) ?_
    exact kk
end
