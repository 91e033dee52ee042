theorem zc_bipush_m5 : (Int8.ofInt (-5)).toInt32 = (-5) := by decide
theorem zc_bipush_11 : (Int8.ofInt 11).toInt32 = nI 11 := by decide
/-! ===== the reference reads: a tier up to its name ===== -/
section
variable {l : Launch} {G : zG}
theorem w_X9_readsTier_16 (hl : l.stackTraces = false) {M : zMem} (hm : mSh M) {g : Nat → Int64} {u : Nat → Int32} (hu : zI M 947 = u) {n : Nat} (hn : zI M 941 8 = nI n) (hn6 : n ≤ 600) {r : rRd} (ho : rOk n r) {t : Nat} (ht : t ≤ 4) {v1 nv : Int32} {ra rb rc : rRd} (hv1 : rIw u 2 r = v1) (hra : rMu u n v1 r = ra) (hrb : rMn ra = rb) (hnv : rNa g u rb 11 13 t = nv) (hrc : (if nv = -1 then rb else rFl rb (-5)) = rc) (hoa : rOk n ra) (hob : rOk n rb) {Q : zOut → zMem → Prop} (kk1 : rc.2.2.2.2.1 = 0 → zS l G mX9_readsTier 6 200 0 0 57 [some (.ref 941), some (.int (nI t)), none] [] (zsL (rdM M rc) 942 g) Q) (kk2 : ¬ rc.2.2.2.2.1 = 0 → Q (.inl none) (zsL (rdM M rc) 942 g)) : zS l G mX9_readsTier 6 200 0 0 16 [some (.ref 941), some (.int (nI t)), none] [] (zsL (rdM M r) 942 g) Q := by
  refine s_aload_n (zdk hX9_readsTier_0 9 rfl) rfl ?_
  refine s_aload_n (zdk hX9_readsTier_0 10 rfl) rfl ?_
  refine s_ldcS (tx := "tier") (k := 2) (zdk hX9_readsTier_0 11 rfl) (by decide +kernel) (by decide) ?_
  refine s_callV0 (ci := 9) [.ref (1000000 + 2)] (zdk hX9_readsTier_0 12 rfl) cw_X9_159 (hm.1) (by decide) rfl rfl rfl (Nat.le_of_ble_eq_true rfl) (by decide) (c_X9_isWord hl hm hu hn hn6 (g := g) (r := r) ho (w := 2) (by decide)) ?_
  refine s_topi (b := v1) (hv1) ?_
  refine s_callV0 (ci := 9) [.int (v1)] (zdk hX9_readsTier_0 13 rfl) cw_X9_150 (hm.1) (by decide) rfl rfl rfl (Nat.le_of_ble_eq_true rfl) (by decide) (c_X9_must hl hm hu hn hn6 (g := g) (r := r) ho v1) ?_
  refine s_mem (M' := (zsL (rdM M ra) 942 g)) (by rw [hra]) ?_
  refine s_aload_n (zdk hX9_readsTier_0 14 rfl) rfl ?_
  refine s_callV0 (ci := 9) [] (zdk hX9_readsTier_0 15 rfl) cw_X9_163 (hm.1) (by decide) rfl rfl rfl (Nat.le_of_ble_eq_true rfl) (by decide) (c_X9_mustName hl hm hu hn hn6 (g := g) (r := ra) hoa) ?_
  refine s_mem (M' := (zsL (rdM M rb) 942 g)) (by rw [hrb]) ?_
  refine s_aload_n (zdk hX9_readsTier_0 16 rfl) rfl ?_
  refine s_bipushv (v := nI 11) (zdk hX9_readsTier_0 17 rfl) zc_bipush_11 ?_
  refine s_iload_n (zdk hX9_readsTier_0 18 rfl) rfl ?_
  refine s_bipushv (v := nI 13) (zdk hX9_readsTier_0 19 rfl) zc_bipush_13 ?_
  refine s_callV0 (ci := 9) [.int (nI 11), .int (nI t), .int (nI 13)] (zdk hX9_readsTier_0 20 rfl) cw_X9_166 (hm.1) (by decide) rfl rfl rfl (Nat.le_of_ble_eq_true rfl) (by decide) (c_X9_named2 hl hm hu hn hn6 (g := g) (r := rb) hob (b0 := 11) (sz := 13) (m := t) (by omega) (fun i hi => by omega)) ?_
  refine s_topi (b := nv) (hnv) ?_
  refine s_iconstv (v := (-1)) (zdk hX9_readsTier_0 21 rfl) zc_iconst_m1 ?_
  refine s_icmp_eq 49 (zdk hX9_readsTier_0 22 rfl) (by decide) (fun c40 => ?_) (fun c40 => ?_)
  · rw [if_pos c40] at hrc
    refine s_mem (M' := (zsL (rdM M rc) 942 g)) (by rw [hrc]) ?_
    refine s_aload_n (zdk hX9_readsTier_0 26 rfl) rfl ?_
    refine s_getI (zdk hX9_readsTier_0 27 rfl) fw_X9_127 rfl (hm.1) ?_
    refine s_topi (b := rc.2.2.2.2.1) (show zI (rdM M rc) 941 13 = _ from rd_wr) ?_
    refine s_if_eq 57 (zdk hX9_readsTier_0 28 rfl) (by decide) (fun c53 => ?_) (fun c53 => ?_)
    · exact kk1 c53
    · refine s_return (zdk hX9_readsTier_0 29 rfl) rfl ?_
      exact kk2 c53
  · rw [if_neg c40] at hrc
    refine s_aload_n (zdk hX9_readsTier_0 23 rfl) rfl ?_
    refine s_bipushv (v := (-5)) (zdk hX9_readsTier_0 24 rfl) zc_bipush_m5 ?_
    refine s_callV0 (ci := 9) [.int ((-5))] (zdk hX9_readsTier_0 25 rfl) cw_X9_143 (hm.1) (by decide) rfl rfl rfl (Nat.le_of_ble_eq_true rfl) (by decide) (c_X9_fails hl hm (g := g) (r := rb) (-5)) ?_
    refine s_mem (M' := (zsL (rdM M rc) 942 g)) (by rw [hrc]) ?_
    refine s_aload_n (zdk hX9_readsTier_0 26 rfl) rfl ?_
    refine s_getI (zdk hX9_readsTier_0 27 rfl) fw_X9_127 rfl (hm.1) ?_
    refine s_topi (b := rc.2.2.2.2.1) (show zI (rdM M rc) 941 13 = _ from rd_wr) ?_
    refine s_if_eq 57 (zdk hX9_readsTier_0 28 rfl) (by decide) (fun c53 => ?_) (fun c53 => ?_)
    · exact kk1 c53
    · refine s_return (zdk hX9_readsTier_0 29 rfl) rfl ?_
      exact kk2 c53
end
