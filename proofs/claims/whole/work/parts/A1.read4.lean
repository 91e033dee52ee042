/-! ===== the reference reads: isWord ===== -/
section
variable {l : Launch} {G : zG}
theorem w_X9_isWord_34 (hl : l.stackTraces = false) {M : zMem} (hm : mSh M) {g : Nat → Int64} {u : Nat → Int32} (hu : zI M 947 = u) {n : Nat} (hn : zI M 941 8 = nI n) (hn6 : n ≤ 600) {r : rRd} (ho : rOk n r) {w : Nat} (hw : w < 6) (hlen : r.2.1 - r.1 = (zLl.getD w 0)) : ∀ (k : Nat) (i : Nat), i ≤ (zLl.getD w 0) → (zLl.getD w 0) - i < k → zS l G mX9_isWord 5 130 0 0 34 [some (.ref 941), some (.ref (1000000 + w)), some (.int (nI i))] [] (zsL (rdM M r) 942 g) (zD (some (.int (zwd u w r.1 ((zLl.getD w 0) - i) i))) (zsL (rdM M r) 942 g)) := by
  intro k
  induction k with
  | zero => intros; omega
  | succ k ih =>
    intro i hi hk
    have h6 := zLl_6 hw
    have ho1 := ho.1
    have ho2 := ho.2.1
    refine s_iload_n (zdk hX9_isWord 18 rfl) rfl ?_
    refine s_aload_n (zdk hX9_isWord 19 rfl) rfl ?_
    refine s_callVs (mc := 0) (ms := 0) (bc := 0) (bs := 0) (as := []) (zdk hX9_isWord 20 rfl) cw_X9_130 hw rfl rfl (Nat.le_of_ble_eq_true rfl) (by decide) (c_slength hl _ hw) ?_
    intro v9 M9 q9
    obtain ⟨q8, rfl⟩ := q9
    cases q8
    refine s_icmp_ge 69 (zdk hX9_isWord 21 rfl) (by decide) (fun c39 => ?_) (fun c39 => ?_)
    · have n39 : (zLl.getD w 0) ≤ i := nle c39 (by omega) (by omega)
      obtain rfl : i = (zLl.getD w 0) := by omega
      refine s_iconstv (v := nI 1) (zdk hX9_isWord 37 rfl) zc_iconst_1 ?_
      refine s_ireturn (zdk hX9_isWord 38 rfl) rfl rfl ?_
      exact ⟨by rw [Nat.sub_self]; rfl, rfl⟩
    · have n39 : i < (zLl.getD w 0) := nlt c39 (by omega) (by omega)
      refine s_aload_n (zdk hX9_isWord 22 rfl) rfl ?_
      refine s_getR (zdk hX9_isWord 23 rfl) fw_X9_26 rfl (hm.1) (show _ = some 947 from (hm.r (i := 5) rfl).1) ?_
      refine s_aload_n (zdk hX9_isWord 24 rfl) rfl ?_
      refine s_getI (zdk hX9_isWord 25 rfl) fw_X9_104 rfl (hm.1) ?_
      refine s_topi (b := nI r.1) (show zI (rdM M r) 941 9 = _ from rd_at) ?_
      refine s_iload_n (zdk hX9_isWord 26 rfl) rfl ?_
      refine s_iadd (zdk hX9_isWord 27 rfl) ?_
      refine s_topi (b := nI (r.1 + i)) (nI_add _ _) ?_
      refine s_ialoadN (N := 600) (j := r.1 + i) (zdk hX9_isWord 28 rfl) ((hm.r (i := 5) rfl).2.1) ((hm.r (i := 5) rfl).2.2) (by omega) (by decide) ?_
      refine s_topi (b := u (r.1 + i)) ((show zI (rdM M r) 947 (r.1 + i) = _ from congrFun (rd_n (by decide)) _).trans (congrFun hu _)) ?_
      refine s_aload_n (zdk hX9_isWord 29 rfl) rfl ?_
      refine s_iload_n (zdk hX9_isWord 30 rfl) rfl ?_
      refine s_callVs (mc := 0) (ms := 0) (bc := 0) (bs := 0) (as := [.int (nI i)]) (zdk hX9_isWord 31 rfl) cw_X9_136 hw rfl rfl (Nat.le_of_ble_eq_true rfl) (by decide) (c_schr hl _ hw n39) ?_
      intro v9 M9 q9
      obtain ⟨q8, rfl⟩ := q9
      cases q8
      refine s_icmp_eq 63 (zdk hX9_isWord 32 rfl) (by decide) (fun c58 => ?_) (fun c58 => ?_)
      · rw [zwd_y (u := u) n39 c58]
        refine s_iinc (r := nI (i + 1)) (zdk hX9_isWord 35 rfl) (Nat.le_of_ble_eq_true rfl) rfl (nI_1 _) ?_
        refine s_ls (ls' := [some (.ref 941), some (.ref (1000000 + w)), some (.int (nI (i + 1)))]) rfl ?_
        refine s_goto 34 (zdk hX9_isWord 36 rfl) (by decide) ?_
        exact ih (i + 1) (by omega) (by omega)
      · rw [zwd_n (u := u) n39 c58]
        refine s_iconstv (v := nI 0) (zdk hX9_isWord 33 rfl) zc_iconst_0 ?_
        refine s_ireturn (zdk hX9_isWord 34 rfl) rfl rfl ?_
        exact ⟨rfl, rfl⟩
theorem c_X9_isWord (hl : l.stackTraces = false) {M : zMem} (hm : mSh M) {g : Nat → Int64} {u : Nat → Int32} (hu : zI M 947 = u) {n : Nat} (hn : zI M 941 8 = nI n) (hn6 : n ≤ 600) {r : rRd} (ho : rOk n r) {w : Nat} (hw : w < 6) : zCm l G mX9_isWord 5 130 0 0 [.ref 941, .ref (1000000 + w)] (zsL (rdM M r) 942 g) (zD (some (.int (rIw u w r))) (zsL (rdM M r) 942 g)) := by
  refine zCd.of (ls0 := [some (.ref 941), some (.ref (1000000 + w)), none]) (by decide +kernel) rfl hl rfl (Nat.le_of_ble_eq_true rfl) rfl ?_
  have ho1 := ho.1
  have ho2 := ho.2.1
  have ho3 := ho.2.2
  have h6 := zLl_6 hw
  refine s_aload_n (zdk hX9_isWord 0 rfl) rfl ?_
  refine s_getI (zdk hX9_isWord 1 rfl) fw_X9_127 rfl (hm.1) ?_
  refine s_topi (b := r.2.2.2.2.1) (show zI (rdM M r) 941 13 = _ from rd_wr) ?_
  refine s_if_ne 30 (zdk hX9_isWord 2 rfl) (by decide) (fun c4 => ?_) (fun c4 => ?_)
  · have e : (rIw u w r) = nI 0 := if_neg (fun q => c4 q.1)
    rw [e]
    refine s_iconstv (v := nI 0) (zdk hX9_isWord 14 rfl) zc_iconst_0 ?_
    refine s_ireturn (zdk hX9_isWord 15 rfl) rfl rfl ?_
    exact ⟨rfl, rfl⟩
  · refine s_aload_n (zdk hX9_isWord 3 rfl) rfl ?_
    refine s_getI (zdk hX9_isWord 4 rfl) fw_X9_110 rfl (hm.1) ?_
    refine s_topi (b := nI r.2.2.1) (show zI (rdM M r) 941 11 = _ from rd_ki) ?_
    refine s_if_ne 30 (zdk hX9_isWord 5 rfl) (by decide) (fun c11 => ?_) (fun c11 => ?_)
    · have n11 : ¬ r.2.2.1 = 0 := fun q => c11 (by rw [q]; rfl)
      have e : (rIw u w r) = nI 0 := if_neg (fun q => n11 q.2.1)
      rw [e]
      refine s_iconstv (v := nI 0) (zdk hX9_isWord 14 rfl) zc_iconst_0 ?_
      refine s_ireturn (zdk hX9_isWord 15 rfl) rfl rfl ?_
      exact ⟨rfl, rfl⟩
    · have n11 : r.2.2.1 = 0 := neq (show nI r.2.2.1 = nI 0 from c11) (by omega) (by omega)
      refine s_aload_n (zdk hX9_isWord 6 rfl) rfl ?_
      refine s_getI (zdk hX9_isWord 7 rfl) fw_X9_101 rfl (hm.1) ?_
      refine s_topi (b := nI r.2.1) (show zI (rdM M r) 941 10 = _ from rd_be) ?_
      refine s_aload_n (zdk hX9_isWord 8 rfl) rfl ?_
      refine s_getI (zdk hX9_isWord 9 rfl) fw_X9_104 rfl (hm.1) ?_
      refine s_topi (b := nI r.1) (show zI (rdM M r) 941 9 = _ from rd_at) ?_
      refine s_isub (zdk hX9_isWord 10 rfl) ?_
      refine s_topi (b := nI (r.2.1 - r.1)) (pk_sub ho1) ?_
      refine s_aload_n (zdk hX9_isWord 11 rfl) rfl ?_
      refine s_callVs (mc := 0) (ms := 0) (bc := 0) (bs := 0) (as := []) (zdk hX9_isWord 12 rfl) cw_X9_130 hw rfl rfl (Nat.le_of_ble_eq_true rfl) (by decide) (c_slength hl _ hw) ?_
      intro v9 M9 q9
      obtain ⟨q8, rfl⟩ := q9
      cases q8
      refine s_icmp_eq 32 (zdk hX9_isWord 13 rfl) (by decide) (fun c27 => ?_) (fun c27 => ?_)
      · have n27 : r.2.1 - r.1 = (zLl.getD w 0) := neq c27 (by omega) (by omega)
        have e : (rIw u w r) = zwd u w r.1 (zLl.getD w 0) 0 := if_pos ⟨c4, n11, n27⟩
        rw [e]
        refine s_iconstv (v := nI 0) (zdk hX9_isWord 16 rfl) zc_iconst_0 ?_
        refine s_istore_n (zdk hX9_isWord 17 rfl) (Nat.le_of_ble_eq_true rfl) ?_
        refine s_ls (ls' := [some (.ref 941), some (.ref (1000000 + w)), some (.int (nI 0))]) rfl ?_
        exact w_X9_isWord_34 hl hm hu hn hn6 ho hw n27 ((zLl.getD w 0) + 1) 0 (by omega) (by omega)
      · have n27 : ¬ (r.2.1 - r.1) = (zLl.getD w 0) := nne c27
        have e : (rIw u w r) = nI 0 := if_neg (fun q => n27 q.2.2)
        rw [e]
        refine s_iconstv (v := nI 0) (zdk hX9_isWord 14 rfl) zc_iconst_0 ?_
        refine s_ireturn (zdk hX9_isWord 15 rfl) rfl rfl ?_
        exact ⟨rfl, rfl⟩
end
