theorem zc_bipush_m6 : (Int8.ofInt (-6)).toInt32 = (-6) := by decide
/-! ===== the reference reads: is there room for a file? ===== -/
section
variable {l : Launch} {G : zG}
theorem w_X9_readsFile_123 (hl : l.stackTraces = false) {M : zMem} (hm : mSh M) {g : Nat → Int64} {u : Nat → Int32} (hu : zI M 947 = u) {n : Nat} (hn : zI M 941 8 = nI n) (hn6 : n ≤ 600) {r : rRd} (ho : rOk n r) {t : Nat} {s nv : Int32} {r6 : rRd} (hw : r.2.2.2.2.1 = 0 → gBd g ∧ ∃ d, d < gN g 2 ∧ nv = nI d) (h6 : (if r.2.2.2.2.1 = 0 ∧ gt g nv.toNatClampNeg 0 - zfull g nv (gN g 3) < s then rFl r (-6) else r) = r6) {Q : zOut → zMem → Prop} (kk : zS l G mX9_readsFile 6 200 0 0 145 [some (.ref 941), some (.int (nI t)), some (.int (s)), some (.int (nv)), none] [] (zsL (rdM M r6) 942 g) Q) : zS l G mX9_readsFile 6 200 0 0 123 [some (.ref 941), some (.int (nI t)), some (.int (s)), some (.int (nv)), none] [] (zsL (rdM M r) 942 g) Q := by
  refine s_aload_n (zdk hX9_readsFile_1 7 rfl) rfl ?_
  refine s_getI (zdk hX9_readsFile_1 8 rfl) fw_X9_127 rfl (hm.1) ?_
  refine s_topi (b := r.2.2.2.2.1) (show zI (rdM M r) 941 13 = _ from rd_wr) ?_
  refine s_if_ne 145 (zdk hX9_readsFile_1 9 rfl) (by decide) (fun c127 => ?_) (fun c127 => ?_)
  · have e6 : (if r.2.2.2.2.1 = 0 ∧ gt g nv.toNatClampNeg 0 - zfull g nv (gN g 3) < s then rFl r (-6) else r) = r := if_neg (fun q => c127 q.1)
    refine s_mem (M' := (zsL (rdM M r6) 942 g)) (by rw [← h6, e6]) ?_
    exact kk
  · obtain ⟨hb, d, hd, rfl⟩ := hw c127
    have hd4 := hb.2.1.2
    refine s_aload_n (zdk hX9_readsFile_1 10 rfl) rfl ?_
    refine s_iload_n (zdk hX9_readsFile_1 11 rfl) rfl ?_
    refine s_callV0 (ci := 9) [.int (nI d)] (zdk hX9_readsFile_1 12 rfl) cw_X9_188 (hm.1) (by decide) rfl rfl rfl (Nat.le_of_ble_eq_true rfl) (by decide) (c_X9_freeOn hl (M := rdM M r) (g := g) hm hb (t := d) (by omega)) ?_
    refine s_iload_n (zdk hX9_readsFile_1 13 rfl) rfl ?_
    refine s_icmp_ge 145 (zdk hX9_readsFile_1 14 rfl) (by decide) (fun c136 => ?_) (fun c136 => ?_)
    · have e6 : (if r.2.2.2.2.1 = 0 ∧ gt g (nI d).toNatClampNeg 0 - zfull g (nI d) (gN g 3) < s then rFl r (-6) else r) = r := if_neg (fun q => by rw [nI_clamp (by omega)] at q; exact Int32.not_lt.mpr c136 q.2)
      refine s_mem (M' := (zsL (rdM M r6) 942 g)) (by rw [← h6, e6]) ?_
      exact kk
    · have e6 : (if r.2.2.2.2.1 = 0 ∧ gt g (nI d).toNatClampNeg 0 - zfull g (nI d) (gN g 3) < s then rFl r (-6) else r) = rFl r (-6) := if_pos ⟨c127, by rw [nI_clamp (by omega)]; exact Int32.not_le.mp c136⟩
      refine s_aload_n (zdk hX9_readsFile_1 15 rfl) rfl ?_
      refine s_bipushv (v := (-6)) (zdk hX9_readsFile_1 16 rfl) zc_bipush_m6 ?_
      refine s_callV0 (ci := 9) [.int ((-6))] (zdk hX9_readsFile_1 17 rfl) cw_X9_143 (hm.1) (by decide) rfl rfl rfl (Nat.le_of_ble_eq_true rfl) (by decide) (c_X9_fails hl hm (g := g) (r := r) (-6)) ?_
      refine s_mem (M' := (zsL (rdM M r6) 942 g)) (by rw [← h6, e6]) ?_
      exact kk
end
