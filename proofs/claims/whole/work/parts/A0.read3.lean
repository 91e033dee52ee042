/-! ===== the reference reads: takes, isWord ===== -/
section
variable {l : Launch} {G : zG}
theorem c_X9_takes_w (hl : l.stackTraces = false) {M : zMem} (hm : mSh M) {g : Nat → Int64} {u : Nat → Int32} (hu : zI M 947 = u) {n : Nat} (hn : zI M 941 8 = nI n) (hn6 : n ≤ 600) {r : rRd} (ho : rOk n r) (c0 : ¬ r.2.2.2.2.1 = 0) (lo hi : Int32) : zCm l G mX9_takes 4 130 0 0 [.ref 941, .int lo, .int hi] (zsL (rdM M r) 942 g) (zD (some (.int 0)) (zsL (rdM M r) 942 g)) := by
  refine zCd.of (ls0 := [some (.ref 941), some (.int (lo)), some (.int (hi)), none]) (by decide +kernel) rfl hl rfl (Nat.le_of_ble_eq_true rfl) rfl ?_
  have ho1 := ho.1
  have ho2 := ho.2.1
  have ho3 := ho.2.2
  refine s_aload_n (zdk hX9_takes 0 rfl) rfl ?_
  refine s_getI (zdk hX9_takes 1 rfl) fw_X9_127 rfl (hm.1) ?_
  refine s_topi (b := r.2.2.2.2.1) (show zI (rdM M r) 941 13 = _ from rd_wr) ?_
  refine s_if_ne 21 (zdk hX9_takes 2 rfl) (by decide) (fun c4 => ?_) (fun c4 => ?_)
  · refine s_aload_n (zdk hX9_takes 10 rfl) rfl ?_
    refine s_getI (zdk hX9_takes 11 rfl) fw_X9_127 rfl (hm.1) ?_
    refine s_topi (b := r.2.2.2.2.1) (show zI (rdM M r) 941 13 = _ from rd_wr) ?_
    refine s_if_ne 46 (zdk hX9_takes 12 rfl) (by decide) (fun c25 => ?_) (fun c25 => ?_)
    · refine s_aload_n (zdk hX9_takes 22 rfl) rfl ?_
      refine s_getI (zdk hX9_takes 23 rfl) fw_X9_127 rfl (hm.1) ?_
      refine s_topi (b := r.2.2.2.2.1) (show zI (rdM M r) 941 13 = _ from rd_wr) ?_
      refine s_if_ne 60 (zdk hX9_takes 24 rfl) (by decide) (fun c50 => ?_) (fun c50 => ?_)
      · refine s_iconstv (v := nI 0) (zdk hX9_takes 28 rfl) zc_iconst_0 ?_
        refine s_istore_n (zdk hX9_takes 29 rfl) (Nat.le_of_ble_eq_true rfl) ?_
        refine s_ls (ls' := [some (.ref 941), some (.int (lo)), some (.int (hi)), some (.int (nI 0))]) rfl ?_
        refine s_aload_n (zdk hX9_takes 30 rfl) rfl ?_
        refine s_getI (zdk hX9_takes 31 rfl) fw_X9_127 rfl (hm.1) ?_
        refine s_topi (b := r.2.2.2.2.1) (show zI (rdM M r) 941 13 = _ from rd_wr) ?_
        refine s_if_ne 73 (zdk hX9_takes 32 rfl) (by decide) (fun c66 => ?_) (fun c66 => ?_)
        · refine s_iload_n (zdk hX9_takes 35 rfl) rfl ?_
          refine s_ireturn (zdk hX9_takes 36 rfl) rfl rfl ?_
          exact ⟨rfl, rfl⟩
        · exact absurd c66 c0
      · exact absurd c50 c0
    · exact absurd c25 c0
  · exact absurd c4 c0
theorem c_X9_takes_y (hl : l.stackTraces = false) {M : zMem} (hm : mSh M) {g : Nat → Int64} {u : Nat → Int32} (hu : zI M 947 = u) {n : Nat} (hn : zI M 941 8 = nI n) (hn6 : n ≤ 600) {r : rRd} (ho : rOk n r) (w0 : r.2.2.2.2.1 = 0) (lo hi : Int32) : zCm l G mX9_takes 4 130 0 0 [.ref 941, .int lo, .int hi] (zsL (rdM M r) 942 g) (zD (some (.int (rTa u n lo hi r).1)) (zsL (rdM M (rTa u n lo hi r).2) 942 g)) := by
  refine zCd.of (ls0 := [some (.ref 941), some (.int (lo)), some (.int (hi)), none]) (by decide +kernel) rfl hl rfl (Nat.le_of_ble_eq_true rfl) rfl ?_
  have ho1 := ho.1
  have ho2 := ho.2.1
  have ho3 := ho.2.2
  refine s_aload_n (zdk hX9_takes 0 rfl) rfl ?_
  refine s_getI (zdk hX9_takes 1 rfl) fw_X9_127 rfl (hm.1) ?_
  refine s_topi (b := r.2.2.2.2.1) (show zI (rdM M r) 941 13 = _ from rd_wr) ?_
  refine s_if_ne 21 (zdk hX9_takes 2 rfl) (by decide) (fun c4 => ?_) (fun c4 => ?_)
  · exact absurd w0 c4
  · refine s_aload_n (zdk hX9_takes 3 rfl) rfl ?_
    refine s_getI (zdk hX9_takes 4 rfl) fw_X9_110 rfl (hm.1) ?_
    refine s_topi (b := nI r.2.2.1) (show zI (rdM M r) 941 11 = _ from rd_ki) ?_
    refine s_iconstv (v := nI 1) (zdk hX9_takes 5 rfl) zc_iconst_1 ?_
    refine s_icmp_eq 21 (zdk hX9_takes 6 rfl) (by decide) (fun c12 => ?_) (fun c12 => ?_)
    · have n12 : r.2.2.1 = 1 := neq c12 (by omega) (by omega)
      have k1 : r.2.2.1 = 1 := n12
      refine s_aload_n (zdk hX9_takes 10 rfl) rfl ?_
      refine s_getI (zdk hX9_takes 11 rfl) fw_X9_127 rfl (hm.1) ?_
      refine s_topi (b := r.2.2.2.2.1) (show zI (rdM M r) 941 13 = _ from rd_wr) ?_
      refine s_if_ne 46 (zdk hX9_takes 12 rfl) (by decide) (fun c25 => ?_) (fun c25 => ?_)
      · exact absurd w0 c25
      · refine s_aload_n (zdk hX9_takes 13 rfl) rfl ?_
        refine s_getI (zdk hX9_takes 14 rfl) fw_X9_107 rfl (hm.1) ?_
        refine s_topi (b := r.2.2.2.1) (show zI (rdM M r) 941 12 = _ from rd_nu) ?_
        refine s_iload_n (zdk hX9_takes 15 rfl) rfl ?_
        refine s_iload_n (zdk hX9_takes 16 rfl) rfl ?_
        refine s_callS0 [.int (r.2.2.2.1), .int (lo), .int (hi)] (zdk hX9_takes 17 rfl) cw_X9_79 rfl (Nat.le_of_ble_eq_true rfl) (by decide) (c_X9_isIn hl (zsL (rdM M r) 942 g) (r.2.2.2.1) (lo) (hi)) ?_
        refine s_if_ne 46 (zdk hX9_takes 18 rfl) (by decide) (fun c37 => ?_) (fun c37 => ?_)
        · have b37 : lo ≤ r.2.2.2.1 ∧ r.2.2.2.1 ≤ hi := b01_ne c37
          have e : (rTa u n lo hi r) = (r.2.2.2.1, rNx u n r) := (if_neg (fun q => q w0)).trans ((if_neg (fun q => q k1)).trans (if_neg (fun q => q b37)))
          rw [e]
          refine s_aload_n (zdk hX9_takes 22 rfl) rfl ?_
          refine s_getI (zdk hX9_takes 23 rfl) fw_X9_127 rfl (hm.1) ?_
          refine s_topi (b := r.2.2.2.2.1) (show zI (rdM M r) 941 13 = _ from rd_wr) ?_
          refine s_if_ne 60 (zdk hX9_takes 24 rfl) (by decide) (fun c50 => ?_) (fun c50 => ?_)
          · exact absurd w0 c50
          · refine s_aload_n (zdk hX9_takes 25 rfl) rfl ?_
            refine s_getI (zdk hX9_takes 26 rfl) fw_X9_107 rfl (hm.1) ?_
            refine s_topi (b := r.2.2.2.1) (show zI (rdM M r) 941 12 = _ from rd_nu) ?_
            refine s_goto 61 (zdk hX9_takes 27 rfl) (by decide) ?_
            refine s_istore_n (zdk hX9_takes 29 rfl) (Nat.le_of_ble_eq_true rfl) ?_
            refine s_ls (ls' := [some (.ref 941), some (.int (lo)), some (.int (hi)), some (.int (r.2.2.2.1))]) rfl ?_
            refine s_aload_n (zdk hX9_takes 30 rfl) rfl ?_
            refine s_getI (zdk hX9_takes 31 rfl) fw_X9_127 rfl (hm.1) ?_
            refine s_topi (b := r.2.2.2.2.1) (show zI (rdM M r) 941 13 = _ from rd_wr) ?_
            refine s_if_ne 73 (zdk hX9_takes 32 rfl) (by decide) (fun c66 => ?_) (fun c66 => ?_)
            · exact absurd w0 c66
            · refine s_aload_n (zdk hX9_takes 33 rfl) rfl ?_
              refine s_callV0 (ci := 9) [] (zdk hX9_takes 34 rfl) cw_X9_147 (hm.1) (by decide) rfl rfl rfl (Nat.le_of_ble_eq_true rfl) (by decide) (c_X9_next hl hm hu hn hn6 (i := r.1) (b := r.2.1) (k0 := r.2.2.1) ho2 r.2.2.2.1 r.2.2.2.2.1 r.2.2.2.2.2) ?_
              refine s_iload_n (zdk hX9_takes 35 rfl) rfl ?_
              refine s_ireturn (zdk hX9_takes 36 rfl) rfl rfl ?_
              exact ⟨rfl, rfl⟩
        · have b37 : ¬ (lo ≤ r.2.2.2.1 ∧ r.2.2.2.1 ≤ hi) := b01_eq c37
          have e : (rTa u n lo hi r) = (0, (rFl r (-3))) := (if_neg (fun q => q w0)).trans ((if_neg (fun q => q k1)).trans (if_pos b37))
          rw [e]
          refine s_aload_n (zdk hX9_takes 19 rfl) rfl ?_
          refine s_bipushv (v := (-3)) (zdk hX9_takes 20 rfl) zc_bipush_m3 ?_
          refine s_callV0 (ci := 9) [.int ((-3))] (zdk hX9_takes 21 rfl) cw_X9_143 (hm.1) (by decide) rfl rfl rfl (Nat.le_of_ble_eq_true rfl) (by decide) (c_X9_fails hl hm (r := r) (-3)) ?_
          refine s_aload_n (zdk hX9_takes 22 rfl) rfl ?_
          refine s_getI (zdk hX9_takes 23 rfl) fw_X9_127 rfl (hm.1) ?_
          refine s_topi (b := (rFl r (-3)).2.2.2.2.1) (show zI (rdM M (rFl r (-3))) 941 13 = _ from rd_wr) ?_
          refine s_if_ne 60 (zdk hX9_takes 24 rfl) (by decide) (fun c50 => ?_) (fun c50 => ?_)
          · refine s_iconstv (v := nI 0) (zdk hX9_takes 28 rfl) zc_iconst_0 ?_
            refine s_istore_n (zdk hX9_takes 29 rfl) (Nat.le_of_ble_eq_true rfl) ?_
            refine s_ls (ls' := [some (.ref 941), some (.int (lo)), some (.int (hi)), some (.int (nI 0))]) rfl ?_
            refine s_aload_n (zdk hX9_takes 30 rfl) rfl ?_
            refine s_getI (zdk hX9_takes 31 rfl) fw_X9_127 rfl (hm.1) ?_
            refine s_topi (b := (rFl r (-3)).2.2.2.2.1) (show zI (rdM M (rFl r (-3))) 941 13 = _ from rd_wr) ?_
            refine s_if_ne 73 (zdk hX9_takes 32 rfl) (by decide) (fun c66 => ?_) (fun c66 => ?_)
            · refine s_iload_n (zdk hX9_takes 35 rfl) rfl ?_
              refine s_ireturn (zdk hX9_takes 36 rfl) rfl rfl ?_
              exact ⟨rfl, rfl⟩
            · exact absurd ((rFl_w w0).symm.trans c66) (by decide)
          · exact absurd ((rFl_w w0).symm.trans c50) (by decide)
    · have n12 : ¬ (r.2.2.1) = 1 := nne c12
      have e : (rTa u n lo hi r) = (0, (rFl r (-2))) := (if_neg (fun q => q w0)).trans (if_pos n12)
      rw [e]
      refine s_aload_n (zdk hX9_takes 7 rfl) rfl ?_
      refine s_bipushv (v := (-2)) (zdk hX9_takes 8 rfl) zc_bipush_m2 ?_
      refine s_callV0 (ci := 9) [.int ((-2))] (zdk hX9_takes 9 rfl) cw_X9_143 (hm.1) (by decide) rfl rfl rfl (Nat.le_of_ble_eq_true rfl) (by decide) (c_X9_fails hl hm (r := r) (-2)) ?_
      refine s_aload_n (zdk hX9_takes 10 rfl) rfl ?_
      refine s_getI (zdk hX9_takes 11 rfl) fw_X9_127 rfl (hm.1) ?_
      refine s_topi (b := (rFl r (-2)).2.2.2.2.1) (show zI (rdM M (rFl r (-2))) 941 13 = _ from rd_wr) ?_
      refine s_if_ne 46 (zdk hX9_takes 12 rfl) (by decide) (fun c25 => ?_) (fun c25 => ?_)
      · refine s_aload_n (zdk hX9_takes 22 rfl) rfl ?_
        refine s_getI (zdk hX9_takes 23 rfl) fw_X9_127 rfl (hm.1) ?_
        refine s_topi (b := (rFl r (-2)).2.2.2.2.1) (show zI (rdM M (rFl r (-2))) 941 13 = _ from rd_wr) ?_
        refine s_if_ne 60 (zdk hX9_takes 24 rfl) (by decide) (fun c50 => ?_) (fun c50 => ?_)
        · refine s_iconstv (v := nI 0) (zdk hX9_takes 28 rfl) zc_iconst_0 ?_
          refine s_istore_n (zdk hX9_takes 29 rfl) (Nat.le_of_ble_eq_true rfl) ?_
          refine s_ls (ls' := [some (.ref 941), some (.int (lo)), some (.int (hi)), some (.int (nI 0))]) rfl ?_
          refine s_aload_n (zdk hX9_takes 30 rfl) rfl ?_
          refine s_getI (zdk hX9_takes 31 rfl) fw_X9_127 rfl (hm.1) ?_
          refine s_topi (b := (rFl r (-2)).2.2.2.2.1) (show zI (rdM M (rFl r (-2))) 941 13 = _ from rd_wr) ?_
          refine s_if_ne 73 (zdk hX9_takes 32 rfl) (by decide) (fun c66 => ?_) (fun c66 => ?_)
          · refine s_iload_n (zdk hX9_takes 35 rfl) rfl ?_
            refine s_ireturn (zdk hX9_takes 36 rfl) rfl rfl ?_
            exact ⟨rfl, rfl⟩
          · exact absurd ((rFl_w w0).symm.trans c66) (by decide)
        · exact absurd ((rFl_w w0).symm.trans c50) (by decide)
      · exact absurd ((rFl_w w0).symm.trans c25) (by decide)
theorem c_X9_takes (hl : l.stackTraces = false) {M : zMem} (hm : mSh M) {g : Nat → Int64} {u : Nat → Int32} (hu : zI M 947 = u) {n : Nat} (hn : zI M 941 8 = nI n) (hn6 : n ≤ 600) {r : rRd} (ho : rOk n r) (lo hi : Int32) : zCm l G mX9_takes 4 130 0 0 [.ref 941, .int lo, .int hi] (zsL (rdM M r) 942 g) (zD (some (.int (rTa u n lo hi r).1)) (zsL (rdM M (rTa u n lo hi r).2) 942 g)) := by
  by_cases c0 : r.2.2.2.2.1 = 0
  · exact c_X9_takes_y hl hm hu hn hn6 ho c0 lo hi
  · rw [show (rTa u n lo hi r) = (0, r) from if_pos c0]
    exact c_X9_takes_w hl hm hu hn hn6 ho c0 lo hi
end
