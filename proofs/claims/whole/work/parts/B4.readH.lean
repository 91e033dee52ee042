/-! ===== the reference reads: the text's end ===== -/
section
variable {l : Launch} {G : zG}
theorem w_X9_load_131 (hl : l.stackTraces = false) {M : zMem} (hm : mSh M) {g : Nat → Int64} {u : Nat → Int32} (hu : zI M 947 = u) {n : Nat} (hn : zI M 941 8 = nI n) (hn6 : n ≤ 600) {r : rRd} (ho : rOk n r) {r6 : rRd} (h6 : (if r.2.2.2.2.1 = 0 ∧ ¬ r.2.2.1 = 3 then rFl r (-2) else r) = r6) {Q : zOut → zMem → Prop} (kk : zS l G mX9_load 7 240 0 0 152 [some (.ref 941)] [] (zsL (rdM M r6) 942 g) Q) : zS l G mX9_load 7 240 0 0 131 [some (.ref 941)] [] (zsL (rdM M r) 942 g) Q := by
  have ho3 := ho.2.2
  refine s_aload_n (zdk hX9_load_1 9 rfl) rfl ?_
  refine s_getI (zdk hX9_load_1 10 rfl) fw_X9_127 rfl (hm.1) ?_
  refine s_topi (b := r.2.2.2.2.1) (show zI (rdM M r) 941 13 = _ from rd_wr) ?_
  refine s_if_ne 152 (zdk hX9_load_1 11 rfl) (by decide) (fun c135 => ?_) (fun c135 => ?_)
  · have e6 : (if r.2.2.2.2.1 = 0 ∧ ¬ r.2.2.1 = 3 then rFl r (-2) else r) = r := if_neg (fun q => c135 q.1)
    refine s_mem (M' := (zsL (rdM M r6) 942 g)) (by rw [← h6, e6]) ?_
    exact kk
  · refine s_aload_n (zdk hX9_load_1 12 rfl) rfl ?_
    refine s_getI (zdk hX9_load_1 13 rfl) fw_X9_110 rfl (hm.1) ?_
    refine s_topi (b := nI r.2.2.1) (show zI (rdM M r) 941 11 = _ from rd_ki) ?_
    refine s_iconstv (v := nI 3) (zdk hX9_load_1 14 rfl) zc_iconst_3 ?_
    refine s_icmp_eq 152 (zdk hX9_load_1 15 rfl) (by decide) (fun c143 => ?_) (fun c143 => ?_)
    · have n143 : r.2.2.1 = 3 := neq c143 (by omega) (by omega)
      have e6 : (if r.2.2.2.2.1 = 0 ∧ ¬ r.2.2.1 = 3 then rFl r (-2) else r) = r := if_neg (fun q => q.2 n143)
      refine s_mem (M' := (zsL (rdM M r6) 942 g)) (by rw [← h6, e6]) ?_
      exact kk
    · have n143 : ¬ (r.2.2.1) = 3 := nne c143
      have e6 : (if r.2.2.2.2.1 = 0 ∧ ¬ r.2.2.1 = 3 then rFl r (-2) else r) = rFl r (-2) := if_pos ⟨c135, n143⟩
      refine s_aload_n (zdk hX9_load_1 16 rfl) rfl ?_
      refine s_bipushv (v := (-2)) (zdk hX9_load_1 17 rfl) zc_bipush_m2 ?_
      refine s_callV0 (ci := 9) [.int ((-2))] (zdk hX9_load_1 18 rfl) cw_X9_143 (hm.1) (by decide) rfl rfl rfl (Nat.le_of_ble_eq_true rfl) (by decide) (c_X9_fails hl hm (g := g) (r := r) (-2)) ?_
      refine s_mem (M' := (zsL (rdM M r6) 942 g)) (by rw [← h6, e6]) ?_
      exact kk
theorem w_X9_load_152 (hl : l.stackTraces = false) {M : zMem} (hm : mSh M) {g : Nat → Int64} {r6 : rRd} {e : Int32} (he : (if r6.2.2.2.2.1 = 0 then -1 else r6.2.2.2.2.2) = e) {Q : zOut → zMem → Prop} (kk : zS l G mX9_load 7 240 0 0 171 [some (.ref 941)] [] (zsL (zsI (rdM M r6) 941 15 e) 942 g) Q) : zS l G mX9_load 7 240 0 0 152 [some (.ref 941)] [] (zsL (rdM M r6) 942 g) Q := by
  refine s_aload_n (zdk hX9_load_1 19 rfl) rfl ?_
  refine s_aload_n (zdk hX9_load_1 20 rfl) rfl ?_
  refine s_getI (zdk hX9_load_1 21 rfl) fw_X9_127 rfl (hm.1) ?_
  refine s_topi (b := r6.2.2.2.2.1) (show zI (rdM M r6) 941 13 = _ from rd_wr) ?_
  refine s_if_ne 164 (zdk hX9_load_1 22 rfl) (by decide) (fun c157 => ?_) (fun c157 => ?_)
  · rw [if_neg c157] at he
    refine s_aload_n (zdk hX9_load_1 25 rfl) rfl ?_
    refine s_getI (zdk hX9_load_1 26 rfl) fw_X9_140 rfl (hm.1) ?_
    refine s_topi (b := e) ((show zI (rdM M r6) 941 14 = _ from rd_wa).trans he) ?_
    refine s_putI (zdk hX9_load_1 27 rfl) fw_X9_30 rfl pw_9_15 (hm.1) ?_
    refine s_mem (M' := (zsL (zsI (rdM M r6) 941 15 (e)) 942 g)) rfl ?_
    exact kk
  · rw [if_pos c157] at he
    refine s_iconstv (v := (-1)) (zdk hX9_load_1 23 rfl) zc_iconst_m1 ?_
    refine s_goto 168 (zdk hX9_load_1 24 rfl) (by decide) ?_
    refine s_topi (b := e) he ?_
    refine s_putI (zdk hX9_load_1 27 rfl) fw_X9_30 rfl pw_9_15 (hm.1) ?_
    refine s_mem (M' := (zsL (zsI (rdM M r6) 941 15 (e)) 942 g)) rfl ?_
    exact kk
end
