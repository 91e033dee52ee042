/-! ===== the reference reads: a tier, whole ===== -/
theorem rT1_ok {u : Nat → Int32} {n : Nat} {r : rRd} (h : rOk n r) : rOk n (rT1 u n r) := rMn_ok (rMu_ok h)
theorem rT3_ok {u : Nat → Int32} {n t : Nat} {g : Nat → Int64} {r : rRd} (h : rOk n r) : rOk n (rT3 u n t g r) := by
  unfold rT3
  split
  · exact h
  · exact rFl_ok h
theorem rT5_ok {u : Nat → Int32} {n t : Nat} {g : Nat → Int64} {r : rRd} (h : rOk n r) : rOk n (rT5 u n t g r).2 := rTa_ok (rNx_ok h)
theorem rEn_ok {u : Nat → Int32} {n : Nat} {r : rRd} (h : rOk n r) : rOk n (rEn u n r) := rMu_ok h
/-- a tier is read -/
def rT0 (t : Nat) (r : rRd) : rRd := if t = 4 then rFl r (-7) else r
theorem rT0_ok {n t : Nat} {r : rRd} (h : rOk n r) : rOk n (rT0 t r) := by
  unfold rT0
  split
  · exact rFl_ok h
  · exact h
def rRt (u : Nat → Int32) (n t : Nat) (g : Nat → Int64) (r : rRd) : (Nat → Int64) × rRd := if (rT3 u n t g (rT1 u n (rT0 t r))).2.2.2.2.1 = 0 then rT9 u n t g (rT3 u n t g (rT1 u n (rT0 t r))) else (g, rT3 u n t g (rT1 u n (rT0 t r)))
section
variable {l : Launch} {G : zG}
theorem c_X9_tiersN (hl : l.stackTraces = false) {M : zMem} (hm : mSh M) {g : Nat → Int64} (h2 : its g 2 = nI (gN g 2)) : zCm l G mX9_tiers 1 22 0 0 [.ref 941] (zsL M 942 g) (zD (some (.int (nI (gN g 2)))) (zsL M 942 g)) := by
  refine zCd.of (ls0 := [some (.ref 941)]) (by decide +kernel) rfl hl rfl (Nat.le_of_ble_eq_true rfl) rfl ?_
  refine s_aload_n (zdk hX9_tiers 0 rfl) rfl ?_
  refine s_iconstv (v := nI 2) (zdk hX9_tiers 1 rfl) zc_iconst_2 ?_
  refine s_callV0 (ci := 9) [.int (nI 2)] (zdk hX9_tiers 2 rfl) cw_X9_87 (hm.1) (by decide) rfl rfl rfl (Nat.le_of_ble_eq_true rfl) (by decide) (c_X9_itsN hl hm (k := 2) (by decide) h2) ?_
  refine s_ireturn (zdk hX9_tiers 3 rfl) rfl rfl ?_
  exact ⟨rfl, rfl⟩
theorem w_X9_readsTier_57 (hl : l.stackTraces = false) {M : zMem} (hm : mSh M) {g : Nat → Int64} {u : Nat → Int32} (hu : zI M 947 = u) {n : Nat} (hn : zI M 941 8 = nI n) (hn6 : n ≤ 600) {r : rRd} (ho : rOk n r) {t : Nat} (ht : t ≤ 4) {X Y : (Nat → Int64) × rRd} (hY : rT5 u n t g r = Y) (hX : rTq u n t Y 4 = X) (hoY : rOk n Y.2) (hoX : rOk n X.2) : zS l G mX9_readsTier 6 200 0 0 57 [some (.ref 941), some (.int (nI t)), none] [] (zsL (rdM M r) 942 g) (zD none (zsL (rdM M (rEn u n X.2)) 942 (zwL X.1 2 (X.1 2 + lN 1)))) := by
  refine s_aload_n (zdk hX9_readsTier_0 30 rfl) rfl ?_
  refine s_bipushv (v := nI 6) (zdk hX9_readsTier_0 31 rfl) zc_bipush_6 ?_
  refine s_bipushv (v := nI 13) (zdk hX9_readsTier_0 32 rfl) zc_bipush_13 ?_
  refine s_iload_n (zdk hX9_readsTier_0 33 rfl) rfl ?_
  refine s_imul (zdk hX9_readsTier_0 34 rfl) ?_
  refine s_topi (b := nI (13 * t)) (pk_mul _ _) ?_
  refine s_iadd (zdk hX9_readsTier_0 35 rfl) ?_
  refine s_topi (b := nI (6 + 13 * t)) (nI_add _ _) ?_
  refine s_iconstv (v := nI 5) (zdk hX9_readsTier_0 36 rfl) zc_iconst_5 ?_
  refine s_iadd (zdk hX9_readsTier_0 37 rfl) ?_
  refine s_topi (b := nI (6 + 13 * t + 5)) (nI_add _ _) ?_
  refine s_callV0 (ci := 9) [.int (nI (6 + 13 * t + 5))] (zdk hX9_readsTier_0 38 rfl) cw_X9_170 (hm.1) (by decide) rfl rfl rfl (Nat.le_of_ble_eq_true rfl) (by decide) (c_X9_putsName hl hm hu hn hn6 ho (to := 6 + 13 * t + 5) (by omega)) ?_
  refine s_aload_n (zdk hX9_readsTier_0 39 rfl) rfl ?_
  refine s_callV0 (ci := 9) [] (zdk hX9_readsTier_0 40 rfl) cw_X9_147 (hm.1) (by decide) rfl rfl rfl (Nat.le_of_ble_eq_true rfl) (by decide) (c_X9_next hl hm hu hn hn6 (g := (rPn u r g (6 + 13 * t + 5) 8)) (i := r.1) (b := r.2.1) (k0 := r.2.2.1) (ho).2.1 r.2.2.2.1 r.2.2.2.2.1 r.2.2.2.2.2) ?_
  refine s_aload_n (zdk hX9_readsTier_0 41 rfl) rfl ?_
  refine s_getR (zdk hX9_readsTier_0 42 rfl) fw_X9_7 rfl (hm.1) (show _ = some 942 from (hm.r (i := 0) rfl).1) ?_
  refine s_bipushv (v := nI 6) (zdk hX9_readsTier_0 43 rfl) zc_bipush_6 ?_
  refine s_bipushv (v := nI 13) (zdk hX9_readsTier_0 44 rfl) zc_bipush_13 ?_
  refine s_iload_n (zdk hX9_readsTier_0 45 rfl) rfl ?_
  refine s_imul (zdk hX9_readsTier_0 46 rfl) ?_
  refine s_topi (b := nI (13 * t)) (pk_mul _ _) ?_
  refine s_iadd (zdk hX9_readsTier_0 47 rfl) ?_
  refine s_topi (b := nI (6 + 13 * t)) (nI_add _ _) ?_
  refine s_aload_n (zdk hX9_readsTier_0 48 rfl) rfl ?_
  refine s_iconstv (v := nI 1) (zdk hX9_readsTier_0 49 rfl) zc_iconst_1 ?_
  refine s_ldc (zdk hX9_readsTier_0 50 rfl) kw_X9_173 ?_
  refine s_topi (b := nI 99999) (by decide) ?_
  refine s_callV0 (ci := 9) [.int (nI 1), .int (nI 99999)] (zdk hX9_readsTier_0 51 rfl) cw_X9_174 (hm.1) (by decide) rfl rfl rfl (Nat.le_of_ble_eq_true rfl) (by decide) (c_X9_takes hl hm hu hn hn6 (g := (rPn u r g (6 + 13 * t + 5) 8)) (r := (rNx u n r)) (rNx_ok ho) (nI 1) (nI 99999)) ?_
  refine s_i2l (zdk hX9_readsTier_0 52 rfl) ?_
  refine s_lastoreN (N := 1390) (j := 6 + 13 * t) (zdk hX9_readsTier_0 53 rfl) ((hm.r (i := 0) rfl).2.1) ((hm.r (i := 0) rfl).2.2) (by omega) (by decide) ?_
  refine s_mem (M' := (zsL (rdM M (rTa u n (nI 1) (nI 99999) (rNx u n r)).2) 942 (zwL (rPn u r g (6 + 13 * t + 5) 8) (6 + 13 * t) (((rTa u n (nI 1) (nI 99999) (rNx u n r)).1).toInt64)))) (zsL_1 _ _ _ _ _) ?_
  refine s_iconstv (v := nI 1) (zdk hX9_readsTier_0 54 rfl) zc_iconst_1 ?_
  refine s_istore_n (zdk hX9_readsTier_0 55 rfl) (Nat.le_of_ble_eq_true rfl) ?_
  refine s_ls (ls' := [some (.ref 941), some (.int (nI t)), some (.int (nI 1))]) rfl ?_
  refine s_mem (M' := zsL (rdM M Y.2) 942 Y.1) (by rw [← hY]; unfold rT5; dsimp only) ?_
  refine w_X9_readsTier_96 hl hm hu hn hn6 ht (x := Y) hoY ?_ 5 0 (by omega) (by omega)
  rw [hX]
  refine s_aload_n (zdk hX9_readsTier_1 16 rfl) rfl ?_
  refine s_callV0 (ci := 9) [] (zdk hX9_readsTier_1 17 rfl) cw_X9_177 (hm.1) (by decide) rfl rfl rfl (Nat.le_of_ble_eq_true rfl) (by decide) (c_X9_mustEnd hl hm hu hn hn6 (g := X.1) (r := X.2) hoX) ?_
  refine s_aload_n (zdk hX9_readsTier_1 18 rfl) rfl ?_
  refine s_getR (zdk hX9_readsTier_1 19 rfl) fw_X9_7 rfl (hm.1) (show _ = some 942 from (hm.r (i := 0) rfl).1) ?_
  refine s_iconstv (v := nI 2) (zdk hX9_readsTier_1 20 rfl) zc_iconst_2 ?_
  refine s_dup2ir (zdk hX9_readsTier_1 21 rfl) ?_
  refine s_laloadN (N := 1390) (j := 2) (zdk hX9_readsTier_1 22 rfl) ((hm.r (i := 0) rfl).2.1) ((hm.r (i := 0) rfl).2.2) (by omega) (by decide) ?_
  refine s_topl (b := X.1 2) (congrFun zJ_Le _) ?_
  refine s_lconstv (v := lN 1) (zdk hX9_readsTier_1 23 rfl) rfl ?_
  refine s_ladd (zdk hX9_readsTier_1 24 rfl) ?_
  refine s_lastoreN (N := 1390) (j := 2) (zdk hX9_readsTier_1 25 rfl) ((hm.r (i := 0) rfl).2.1) ((hm.r (i := 0) rfl).2.2) (by omega) (by decide) ?_
  refine s_mem (M' := (zsL (rdM M (rEn u n X.2)) 942 (zwL X.1 2 ((X.1 2) + (lN 1))))) (zsL_1 _ _ _ _ _) ?_
  refine s_return (zdk hX9_readsTier_1 26 rfl) rfl ?_
  exact ⟨rfl, rfl⟩
theorem c_X9_named2 (hl : l.stackTraces = false) {M : zMem} (hm : mSh M) {g : Nat → Int64} {u : Nat → Int32} (hu : zI M 947 = u) {n : Nat} (hn : zI M 941 8 = nI n) (hn6 : n ≤ 600) {r : rRd} (ho : rOk n r) {b0 sz m : Nat} (hm9 : m ≤ 20) (hB : ∀ i, i < m → b0 + sz * i + 8 ≤ 1390) : zCm l G mX9_named 1 40 0 0 [.ref 941, .int (nI b0), .int (nI m), .int (nI sz)] (zsL (rdM M r) 942 g) (zD (some (.int (rNa g u r b0 sz m))) (zsL (rdM M r) 942 g)) := by
  unfold rNa
  by_cases c0 : r.2.2.2.2.1 = 0
  · rw [if_pos c0]
    exact c_X9_named hl hm hu hn hn6 ho c0 hm9 hB
  · rw [if_neg c0]
    exact c_X9_named_w hl hm hu hn hn6 ho c0 hm9
end
