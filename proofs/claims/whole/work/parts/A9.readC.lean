/-! ===== the reference reads: a file's end ===== -/
section
variable {l : Launch} {G : zG}
theorem w_X9_readsFile_176 (hl : l.stackTraces = false) {M : zMem} (hm : mSh M) {g : Nat → Int64} {u : Nat → Int32} (hu : zI M 947 = u) {n : Nat} (hn : zI M 941 8 = nI n) (hn6 : n ≤ 600)  {t : Nat} (ht : t < 20) {s nv : Int32} {z : Int32 × rRd} (hoz : rOk n z.2) : zS l G mX9_readsFile 6 200 0 0 176 [some (.ref 941), some (.int (nI t)), some (.int (s)), some (.int (nv)), some (.int (z.1))] [] (zsL (rdM M z.2) 942 g) (zD none (zsL (rdM M (rEn u n z.2)) 942 (zwL (zwL (zwL (zwL g (58 + 51 * t + 0) s.toInt64) (58 + 51 * t + 1) nv.toInt64) (58 + 51 * t + 3) z.1.toInt64) 3 ((zwL (zwL (zwL g (58 + 51 * t + 0) s.toInt64) (58 + 51 * t + 1) nv.toInt64) (58 + 51 * t + 3) z.1.toInt64) 3 + lN 1)))) := by
  refine s_aload_n (zdk hX9_readsFile_1 34 rfl) rfl ?_
  refine s_callV0 (ci := 9) [] (zdk hX9_readsFile_1 35 rfl) cw_X9_177 (hm.1) (by decide) rfl rfl rfl (Nat.le_of_ble_eq_true rfl) (by decide) (c_X9_mustEnd hl hm hu hn hn6 (g := g) (r := z.2) hoz) ?_
  refine s_aload_n (zdk hX9_readsFile_1 36 rfl) rfl ?_
  refine s_iload_n (zdk hX9_readsFile_1 37 rfl) rfl ?_
  refine s_iconstv (v := nI 0) (zdk hX9_readsFile_1 38 rfl) zc_iconst_0 ?_
  refine s_iload_n (zdk hX9_readsFile_1 39 rfl) rfl ?_
  refine s_i2l (zdk hX9_readsFile_1 40 rfl) ?_
  refine s_callV0 (ci := 9) [.int (nI t), .int (nI 0), .long ((s).toInt64)] (zdk hX9_readsFile_1 41 rfl) cw_X9_193 (hm.1) (by decide) rfl rfl rfl (Nat.le_of_ble_eq_true rfl) (by decide) (c_X9_sets hl (M := (rdM M (rEn u n z.2))) (g := g) hm (f := t) (k := 0) (E := 58 + 51 * t + 0) (by omega) (by omega) ((s).toInt64)) ?_
  refine s_aload_n (zdk hX9_readsFile_1 42 rfl) rfl ?_
  refine s_iload_n (zdk hX9_readsFile_1 43 rfl) rfl ?_
  refine s_iconstv (v := nI 1) (zdk hX9_readsFile_1 44 rfl) zc_iconst_1 ?_
  refine s_iload_n (zdk hX9_readsFile_1 45 rfl) rfl ?_
  refine s_i2l (zdk hX9_readsFile_1 46 rfl) ?_
  refine s_callV0 (ci := 9) [.int (nI t), .int (nI 1), .long ((nv).toInt64)] (zdk hX9_readsFile_1 47 rfl) cw_X9_193 (hm.1) (by decide) rfl rfl rfl (Nat.le_of_ble_eq_true rfl) (by decide) (c_X9_sets hl (M := (rdM M (rEn u n z.2))) (g := (zwL g (58 + 51 * t + 0) ((s).toInt64))) hm (f := t) (k := 1) (E := 58 + 51 * t + 1) (by omega) (by omega) ((nv).toInt64)) ?_
  refine s_aload_n (zdk hX9_readsFile_1 48 rfl) rfl ?_
  refine s_iload_n (zdk hX9_readsFile_1 49 rfl) rfl ?_
  refine s_iconstv (v := nI 3) (zdk hX9_readsFile_1 50 rfl) zc_iconst_3 ?_
  refine s_iload (zdk hX9_readsFile_1 51 rfl) rfl ?_
  refine s_i2l (zdk hX9_readsFile_1 52 rfl) ?_
  refine s_callV0 (ci := 9) [.int (nI t), .int (nI 3), .long ((z.1).toInt64)] (zdk hX9_readsFile_1 53 rfl) cw_X9_193 (hm.1) (by decide) rfl rfl rfl (Nat.le_of_ble_eq_true rfl) (by decide) (c_X9_sets hl (M := (rdM M (rEn u n z.2))) (g := (zwL (zwL g (58 + 51 * t + 0) ((s).toInt64)) (58 + 51 * t + 1) ((nv).toInt64))) hm (f := t) (k := 3) (E := 58 + 51 * t + 3) (by omega) (by omega) ((z.1).toInt64)) ?_
  refine s_aload_n (zdk hX9_readsFile_1 54 rfl) rfl ?_
  refine s_getR (zdk hX9_readsFile_1 55 rfl) fw_X9_7 rfl (hm.1) (show _ = some 942 from (hm.r (i := 0) rfl).1) ?_
  refine s_iconstv (v := nI 3) (zdk hX9_readsFile_1 56 rfl) zc_iconst_3 ?_
  refine s_dup2ir (zdk hX9_readsFile_1 57 rfl) ?_
  refine s_laloadN (N := 1390) (j := 3) (zdk hX9_readsFile_1 58 rfl) ((hm.r (i := 0) rfl).2.1) ((hm.r (i := 0) rfl).2.2) (by omega) (by decide) ?_
  refine s_topl (b := (zwL (zwL (zwL g (58 + 51 * t + 0) ((s).toInt64)) (58 + 51 * t + 1) ((nv).toInt64)) (58 + 51 * t + 3) ((z.1).toInt64)) 3) (congrFun zJ_Le _) ?_
  refine s_lconstv (v := lN 1) (zdk hX9_readsFile_1 59 rfl) rfl ?_
  refine s_ladd (zdk hX9_readsFile_2 0 rfl) ?_
  refine s_lastoreN (N := 1390) (j := 3) (zdk hX9_readsFile_2 1 rfl) ((hm.r (i := 0) rfl).2.1) ((hm.r (i := 0) rfl).2.2) (by omega) (by decide) ?_
  refine s_mem (M' := (zsL (rdM M (rEn u n z.2)) 942 (zwL (zwL (zwL (zwL g (58 + 51 * t + 0) ((s).toInt64)) (58 + 51 * t + 1) ((nv).toInt64)) (58 + 51 * t + 3) ((z.1).toInt64)) 3 (((zwL (zwL (zwL g (58 + 51 * t + 0) ((s).toInt64)) (58 + 51 * t + 1) ((nv).toInt64)) (58 + 51 * t + 3) ((z.1).toInt64)) 3) + (lN 1))))) (zsL_1 _ _ _ _ _) ?_
  refine s_return (zdk hX9_readsFile_2 2 rfl) rfl ?_
  exact ⟨rfl, rfl⟩
theorem w_X9_readsFile_145 (hl : l.stackTraces = false) {M : zMem} (hm : mSh M) {g : Nat → Int64} {u : Nat → Int32} (hu : zI M 947 = u) {n : Nat} (hn : zI M 941 8 = nI n) (hn6 : n ≤ 600) {r : rRd} (ho : rOk n r) {t : Nat} (ht : t < 20) {s nv v7 : Int32} {r7 : rRd} {z : Int32 × rRd} (h7 : rMu u n (nI 1) r = r7) (hv7 : rIw u 5 r7 = v7) (hz : (if v7 = 0 then (nI 0, r7) else rTa u n (nI 0) (nI 9999) (rNx u n r7)) = z) (ho7 : rOk n r7) (hoz : rOk n z.2) : zS l G mX9_readsFile 6 200 0 0 145 [some (.ref 941), some (.int (nI t)), some (.int (s)), some (.int (nv)), none] [] (zsL (rdM M r) 942 g) (zD none (zsL (rdM M (rEn u n z.2)) 942 (zwL (zwL (zwL (zwL g (58 + 51 * t + 0) s.toInt64) (58 + 51 * t + 1) nv.toInt64) (58 + 51 * t + 3) z.1.toInt64) 3 ((zwL (zwL (zwL g (58 + 51 * t + 0) s.toInt64) (58 + 51 * t + 1) nv.toInt64) (58 + 51 * t + 3) z.1.toInt64) 3 + lN 1)))) := by
  refine s_aload_n (zdk hX9_readsFile_1 18 rfl) rfl ?_
  refine s_iconstv (v := nI 1) (zdk hX9_readsFile_1 19 rfl) zc_iconst_1 ?_
  refine s_callV0 (ci := 9) [.int (nI 1)] (zdk hX9_readsFile_1 20 rfl) cw_X9_150 (hm.1) (by decide) rfl rfl rfl (Nat.le_of_ble_eq_true rfl) (by decide) (c_X9_must hl hm hu hn hn6 (g := g) (r := r) ho (nI 1)) ?_
  refine s_mem (M' := (zsL (rdM M r7) 942 g)) (by rw [h7]) ?_
  refine s_iconstv (v := nI 0) (zdk hX9_readsFile_1 21 rfl) zc_iconst_0 ?_
  refine s_istore (zdk hX9_readsFile_1 22 rfl) (Nat.le_of_ble_eq_true rfl) ?_
  refine s_ls (ls' := [some (.ref 941), some (.int (nI t)), some (.int (s)), some (.int (nv)), some (.int (nI 0))]) rfl ?_
  refine s_aload_n (zdk hX9_readsFile_1 23 rfl) rfl ?_
  refine s_ldcS (tx := "pin") (k := 5) (zdk hX9_readsFile_1 24 rfl) (by decide +kernel) (by decide) ?_
  refine s_callV0 (ci := 9) [.ref (1000000 + 5)] (zdk hX9_readsFile_1 25 rfl) cw_X9_159 (hm.1) (by decide) rfl rfl rfl (Nat.le_of_ble_eq_true rfl) (by decide) (c_X9_isWord hl hm hu hn hn6 (g := g) (r := r7) ho7 (w := 5) (by decide)) ?_
  refine s_topi (b := v7) (hv7) ?_
  refine s_if_eq 176 (zdk hX9_readsFile_1 26 rfl) (by decide) (fun c159 => ?_) (fun c159 => ?_)
  · rw [if_pos c159] at hz
    refine s_mem (M' := (zsL (rdM M z.2) 942 g)) (by rw [← hz]) ?_
    refine s_ls (ls' := [some (.ref 941), some (.int (nI t)), some (.int (s)), some (.int (nv)), some (.int (z.1))]) (by rw [← hz]) ?_
    exact w_X9_readsFile_176 hl hm hu hn hn6 ht hoz
  · rw [if_neg c159] at hz
    refine s_aload_n (zdk hX9_readsFile_1 27 rfl) rfl ?_
    refine s_callV0 (ci := 9) [] (zdk hX9_readsFile_1 28 rfl) cw_X9_147 (hm.1) (by decide) rfl rfl rfl (Nat.le_of_ble_eq_true rfl) (by decide) (c_X9_next hl hm hu hn hn6 (g := g) (i := r7.1) (b := r7.2.1) (k0 := r7.2.2.1) ho7.2.1 r7.2.2.2.1 r7.2.2.2.2.1 r7.2.2.2.2.2) ?_
    refine s_aload_n (zdk hX9_readsFile_1 29 rfl) rfl ?_
    refine s_iconstv (v := nI 0) (zdk hX9_readsFile_1 30 rfl) zc_iconst_0 ?_
    refine s_sipushv (v := nI 9999) (zdk hX9_readsFile_1 31 rfl) zc_sipush_9999 ?_
    refine s_callV0 (ci := 9) [.int (nI 0), .int (nI 9999)] (zdk hX9_readsFile_1 32 rfl) cw_X9_174 (hm.1) (by decide) rfl rfl rfl (Nat.le_of_ble_eq_true rfl) (by decide) (c_X9_takes hl hm hu hn hn6 (g := g) (r := rNx u n r7) (rNx_ok ho7) (nI 0) (nI 9999)) ?_
    refine s_topi (b := z.1) (by rw [hz]) ?_
    refine s_istore (zdk hX9_readsFile_1 33 rfl) (Nat.le_of_ble_eq_true rfl) ?_
    refine s_ls (ls' := [some (.ref 941), some (.int (nI t)), some (.int (s)), some (.int (nv)), some (.int (z.1))]) rfl ?_
    refine s_mem (M' := (zsL (rdM M z.2) 942 g)) (by rw [hz]) ?_
    exact w_X9_readsFile_176 hl hm hu hn hn6 ht hoz
end
