/-! ===== the face: its questions ===== -/
theorem inN_out {w : Int32} {n m : Nat} (h : ¬ inN w n) (hn : n < 100000) (hm : n = m + 1) : w.toInt < 0 ∨ (m : Int) < w.toInt := by
  subst hm
  rcases Classical.em (0 ≤ w) with h1 | h1
  · right
    have h2 : ¬ w < nI (m + 1) := fun q => h ⟨h1, q⟩
    rw [Int32.lt_iff_toInt_lt, nI_toInt (by omega)] at h2
    omega
  · left
    rw [Int32.le_iff_toInt_le] at h1
    have : (0 : Int32).toInt = 0 := rfl
    omega
def vCnt (g : Nat → Int64) (k : Nat) : Int32 := if k = 0 then nI (gN g 0) else if k = 1 then its g 1 else if k = 2 then nI (gN g 2) else if k = 3 then nI (gN g 3) else if k = 4 then nI (gN g 4) else if k = 5 then zpin g (gN g 3) else if k = 6 then nI (gN g 5) else zsza g (gN g 3)
def vTir (g : Nat → Int64) (t w : Nat) : Int32 := if w < 5 then gt g t w else if w = 5 then zfull g (nI t) (gN g 3) else if w = 6 then zfo g (nI t) (gN g 3) else (zmu g (nI t) (zph g 0) (gN g 3)).1
def vFil (g : Nat → Int64) (f w : Nat) : Int32 := if w = 0 then gf g f 0 else if w = 1 then gf g f 1 else if w = 2 then gf g f 2 else if w = 3 then gf g f 3 else if w = 4 then (if nI (gN g 4) < gf g f 3 then nI 1 else nI 0) else if w = 5 then gf g f 4 else if w = 6 then gf g f 5 else if w = 7 then zkn (gs g f) 12 else if w = 8 then (zbp (gs g f) 12).1 else zspr (gs g f)
def vOwn (g : Nat → Int64) (f : Nat) : Int32 := (zoc (gu g f) (gN g (58 + 51 * f + 4)) (zon (gN g (58 + 51 * f + 4)))).1
section
variable {l : Launch} {G : zG}
theorem c_X8_count (hl : l.stackTraces = false) {M : zMem} {g : Nat → Int64} {p : Nat → Nat} (hx : xSh M) (h : rSt M 630 g p) (hf : zF M = 1) (w : Int32) : zCx2 l G mX8_count 10 400 5 30 [.ref 0, .int (w)] M (zXr (eo (inN w 8) 1 none) M (zP1 (some (.int (vCnt g (w).toNatClampNeg))) M)) := by
  refine zCxr.of (ls0 := [some (.ref 0), some (.int (w))]) (by decide +kernel) rfl hl rfl (Nat.le_of_ble_eq_true rfl) hf (fun v9 M9 q9 => by rw [q9.2]) ?_
  have h20 := h.b.2.2.1.2
  have h4 := h.b.2.1.2
  have hcy := h.b.1.2.2
  have hcy2 := h.b.1.2.1
  have hpe := h.b.2.2.2.1.2
  refine s_iload_n (zdk hX8_count 0 rfl) rfl ?_
  by_cases hW : inN w 8
  · obtain ⟨wn, rfl, hwn⟩ := inN_nat hW (by omega)
    rw [nI_clamp (show wn < 2 ^ 31 by omega)]
    rcases (by omega : wn = 0 ∨ wn = 1 ∨ wn = 2 ∨ wn = 3 ∨ wn = 4 ∨ wn = 5 ∨ wn = 6 ∨ wn = 7) with rfl | rfl | rfl | rfl | rfl | rfl | rfl | rfl
    · refine s_tableIn 48 (zdk hX8_count 1 rfl) (by decide) (by decide) rfl (by decide) ?_
      refine s_aload_n (zdk hX8_count 2 rfl) rfl ?_
      refine s_getR (zdk hX8_count 3 rfl) fw_X8_40 rfl (hx.K) (show _ = some 630 from (hx.r (i := 4) rfl)) ?_
      refine s_getI (zdk hX8_count 4 rfl) fw_X8_91 rfl (h.K) ?_
      refine s_topi (b := nI (gN g 0)) (h.v0) ?_
      refine s_ireturn (zdk hX8_count 5 rfl) rfl rfl ?_
      exact ⟨eo_p hW, rfl, rfl⟩
    · refine s_tableIn 56 (zdk hX8_count 1 rfl) (by decide) (by decide) rfl (by decide) ?_
      refine s_aload_n (zdk hX8_count 6 rfl) rfl ?_
      refine s_getR (zdk hX8_count 7 rfl) fw_X8_40 rfl (hx.K) (show _ = some 630 from (hx.r (i := 4) rfl)) ?_
      refine s_getI (zdk hX8_count 8 rfl) fw_X8_94 rfl (h.K) ?_
      refine s_topi (b := its g 1) (h.v1) ?_
      refine s_ireturn (zdk hX8_count 9 rfl) rfl rfl ?_
      exact ⟨eo_p hW, rfl, rfl⟩
    · refine s_tableIn 64 (zdk hX8_count 1 rfl) (by decide) (by decide) rfl (by decide) ?_
      refine s_aload_n (zdk hX8_count 10 rfl) rfl ?_
      refine s_getR (zdk hX8_count 11 rfl) fw_X8_40 rfl (hx.K) (show _ = some 630 from (hx.r (i := 4) rfl)) ?_
      refine s_getI (zdk hX8_count 12 rfl) fw_X8_97 rfl (h.K) ?_
      refine s_topi (b := nI (gN g 2)) (h.v3) ?_
      refine s_ireturn (zdk hX8_count 13 rfl) rfl rfl ?_
      exact ⟨eo_p hW, rfl, rfl⟩
    · refine s_tableIn 72 (zdk hX8_count 1 rfl) (by decide) (by decide) rfl (by decide) ?_
      refine s_aload_n (zdk hX8_count 14 rfl) rfl ?_
      refine s_getR (zdk hX8_count 15 rfl) fw_X8_40 rfl (hx.K) (show _ = some 630 from (hx.r (i := 4) rfl)) ?_
      refine s_getI (zdk hX8_count 16 rfl) fw_X8_100 rfl (h.K) ?_
      refine s_topi (b := nI (gN g 3)) (h.v4) ?_
      refine s_ireturn (zdk hX8_count 17 rfl) rfl rfl ?_
      exact ⟨eo_p hW, rfl, rfl⟩
    · refine s_tableIn 80 (zdk hX8_count 1 rfl) (by decide) (by decide) rfl (by decide) ?_
      refine s_aload_n (zdk hX8_count 18 rfl) rfl ?_
      refine s_getR (zdk hX8_count 19 rfl) fw_X8_40 rfl (hx.K) (show _ = some 630 from (hx.r (i := 4) rfl)) ?_
      refine s_getI (zdk hX8_count 20 rfl) fw_X8_103 rfl (h.K) ?_
      refine s_topi (b := nI (gN g 4)) (h.v2) ?_
      refine s_ireturn (zdk hX8_count 21 rfl) rfl rfl ?_
      exact ⟨eo_p hW, rfl, rfl⟩
    · refine s_tableIn 88 (zdk hX8_count 1 rfl) (by decide) (by decide) rfl (by decide) ?_
      refine s_aload_n (zdk hX8_count 22 rfl) rfl ?_
      refine s_getR (zdk hX8_count 23 rfl) fw_X8_40 rfl (hx.K) (show _ = some 630 from (hx.r (i := 4) rfl)) ?_
      refine s_callV0 (ci := 5) [] (zdk hX8_count 24 rfl) cw_X8_106 (h.K) (by decide) rfl rfl rfl (Nat.le_of_ble_eq_true rfl) (by decide) (c_X5_pinnedFiles hl h) ?_
      refine s_ireturn (zdk hX8_count 25 rfl) rfl rfl ?_
      exact ⟨eo_p hW, rfl, rfl⟩
    · refine s_tableIn 96 (zdk hX8_count 1 rfl) (by decide) (by decide) rfl (by decide) ?_
      refine s_aload_n (zdk hX8_count 26 rfl) rfl ?_
      refine s_getR (zdk hX8_count 27 rfl) fw_X8_40 rfl (hx.K) (show _ = some 630 from (hx.r (i := 4) rfl)) ?_
      refine s_getR (zdk hX8_count 28 rfl) fw_X8_110 rfl (h.K) (h.r7) ?_
      refine s_getI (zdk hX8_count 29 rfl) fw_X8_114 rfl (h.mS.1) ?_
      refine s_topi (b := nI (gN g 5)) (h.mv0) ?_
      refine s_ireturn (zdk hX8_count 30 rfl) rfl rfl ?_
      exact ⟨eo_p hW, rfl, rfl⟩
    · refine s_tableIn 107 (zdk hX8_count 1 rfl) (by decide) (by decide) rfl (by decide) ?_
      refine s_aload_n (zdk hX8_count 31 rfl) rfl ?_
      refine s_getR (zdk hX8_count 32 rfl) fw_X8_40 rfl (hx.K) (show _ = some 630 from (hx.r (i := 4) rfl)) ?_
      refine s_callV0 (ci := 5) [] (zdk hX8_count 33 rfl) cw_X8_119 (h.K) (by decide) rfl rfl rfl (Nat.le_of_ble_eq_true rfl) (by decide) (c_X5_sizeOfAll hl h) ?_
      refine s_ireturn (zdk hX8_count 34 rfl) rfl rfl ?_
      exact ⟨eo_p hW, rfl, rfl⟩
  · refine s_tableOut 115 (zdk hX8_count 1 rfl) ((inN_out hW (by omega) rfl).imp (fun q => by omega) (fun q => by omega)) (by decide) ?_
    refine s_throw (x := 1) ⟨122, 124, (zdk hX8_count 35 rfl), (zdk hX8_count 36 rfl), (zdk hX8_count 37 rfl), (zdk hX8_count 38 rfl), clw_X8_122, xi_1, rfl, (by decide), (by decide), (by decide), xw_1⟩ ?_ (by decide)
    rw [zth_id hf]
    exact ⟨eo_n (hW), rfl⟩
theorem c_X8_tier (hl : l.stackTraces = false) {M : zMem} {g : Nat → Int64} {p : Nat → Nat} (hx : xSh M) (h : rSt M 630 g p) (hf : zF M = 1) (t w : Int32) : zCx2 l G mX8_tier 10 400 5 30 [.ref 0, .int (t), .int (w)] M (zXr (eo (inN t (gN g 2)) 2 (eo (inN w 8) 1 none)) M (zP1 (some (.int (vTir g (t).toNatClampNeg (w).toNatClampNeg))) M)) := by
  refine zCxr.of (ls0 := [some (.ref 0), some (.int (t)), some (.int (w))]) (by decide +kernel) rfl hl rfl (Nat.le_of_ble_eq_true rfl) hf (fun v9 M9 q9 => by rw [q9.2]) ?_
  have h20 := h.b.2.2.1.2
  have h4 := h.b.2.1.2
  have hcy := h.b.1.2.2
  have hcy2 := h.b.1.2.1
  have hpe := h.b.2.2.2.1.2
  refine s_aload_n (zdk hX8_tier 0 rfl) rfl ?_
  refine s_iload_n (zdk hX8_tier 1 rfl) rfl ?_
  refine s_callVXa (ci := 8) [.int (t)] (zdk hX8_tier 2 rfl) cw_X8_125 (hx.K) (by decide) rfl rfl rfl (Nat.le_of_ble_eq_true rfl) (by decide) (c_X8_requireTier hl hx h hf (t)) rfl (fun x9 M9 q9 => ?_) (fun v9 M9 q9 => ?_)
  · obtain ⟨e9, rfl⟩ := q9
    obtain ⟨e7, rfl⟩ := eo_x e9
    exact ⟨eo_n e7, rfl⟩
  obtain ⟨e9, r9, rfl⟩ := q9
  cases r9
  have h1 := eo_r e9
  obtain ⟨tn, rfl, htn⟩ := inN_nat h1 (by omega)
  rw [nI_clamp (show tn < 2 ^ 31 by omega)]
  refine s_iload_n (zdk hX8_tier 3 rfl) rfl ?_
  refine s_if_lt 29 (zdk hX8_tier 4 rfl) (by decide) (fun c6 => ?_) (fun c6 => ?_)
  · refine s_iload_n (zdk hX8_tier 17 rfl) rfl ?_
    by_cases hW : inN w 8
    · obtain ⟨wn, rfl, hwn⟩ := inN_nat hW (by omega)
      rw [nI_clamp (show wn < 2 ^ 31 by omega)]
      have h5 : 5 ≤ wn := by
        first | exact nle c11 (by omega) (by omega) | exact absurd hW.1 (Int32.not_le.mpr c6)
      rcases (by omega : wn = 5 ∨ wn = 6 ∨ wn = 7) with rfl | rfl | rfl
      · refine s_tableIn 56 (zdk hX8_tier 18 rfl) (by decide) (by decide) rfl (by decide) ?_
        refine s_aload_n (zdk hX8_tier 19 rfl) rfl ?_
        refine s_getR (zdk hX8_tier 20 rfl) fw_X8_40 rfl (hx.K) (show _ = some 630 from (hx.r (i := 4) rfl)) ?_
        refine s_iload_n (zdk hX8_tier 21 rfl) rfl ?_
        refine s_callV0 (ci := 5) [.int (nI tn)] (zdk hX8_tier 22 rfl) cw_X8_137 (h.K) (by decide) rfl rfl rfl (Nat.le_of_ble_eq_true rfl) (by decide) (c_X5_sizeOn hl h (nI tn)) ?_
        refine s_ireturn (zdk hX8_tier 23 rfl) rfl rfl ?_
        exact ⟨(eo_p h1).trans ((eo_p hW).trans (rfl)), rfl, rfl⟩
      · refine s_tableIn 65 (zdk hX8_tier 18 rfl) (by decide) (by decide) rfl (by decide) ?_
        refine s_aload_n (zdk hX8_tier 24 rfl) rfl ?_
        refine s_getR (zdk hX8_tier 25 rfl) fw_X8_40 rfl (hx.K) (show _ = some 630 from (hx.r (i := 4) rfl)) ?_
        refine s_iload_n (zdk hX8_tier 26 rfl) rfl ?_
        refine s_callV0 (ci := 5) [.int (nI tn)] (zdk hX8_tier 27 rfl) cw_X8_140 (h.K) (by decide) rfl rfl rfl (Nat.le_of_ble_eq_true rfl) (by decide) (c_X5_filesOn hl h (nI tn)) ?_
        refine s_ireturn (zdk hX8_tier 28 rfl) rfl rfl ?_
        exact ⟨(eo_p h1).trans ((eo_p hW).trans (rfl)), rfl, rfl⟩
      · refine s_tableIn 74 (zdk hX8_tier 18 rfl) (by decide) (by decide) rfl (by decide) ?_
        refine s_aload_n (zdk hX8_tier 29 rfl) rfl ?_
        refine s_getR (zdk hX8_tier 30 rfl) fw_X8_40 rfl (hx.K) (show _ = some 630 from (hx.r (i := 4) rfl)) ?_
        refine s_iload_n (zdk hX8_tier 31 rfl) rfl ?_
        refine s_callV0 (ci := 5) [.int (nI tn)] (zdk hX8_tier 32 rfl) cw_X8_143 (h.K) (by decide) rfl rfl rfl (Nat.le_of_ble_eq_true rfl) (by decide) (c_X5_mostUsedOn hl h (nI tn)) ?_
        refine s_ireturn (zdk hX8_tier 33 rfl) rfl rfl ?_
        exact ⟨(eo_p h1).trans ((eo_p hW).trans (rfl)), rfl, rfl⟩
    · refine s_tableOut 83 (zdk hX8_tier 18 rfl) ((inN_out hW (by omega) rfl).imp (fun q => by omega) (fun q => by omega)) (by decide) ?_
      refine s_throw (x := 1) ⟨122, 124, (zdk hX8_tier 34 rfl), (zdk hX8_tier 35 rfl), (zdk hX8_tier 36 rfl), (zdk hX8_tier 37 rfl), clw_X8_122, xi_1, rfl, (by decide), (by decide), (by decide), xw_1⟩ ?_ (by decide)
      rw [zth_id hf]
      exact ⟨(eo_p h1).trans (eo_n (hW)), rfl⟩
  · refine s_iload_n (zdk hX8_tier 5 rfl) rfl ?_
    refine s_iconstv (v := nI 5) (zdk hX8_tier 6 rfl) zc_iconst_5 ?_
    refine s_icmp_ge 29 (zdk hX8_tier 7 rfl) (by decide) (fun c11 => ?_) (fun c11 => ?_)
    · refine s_iload_n (zdk hX8_tier 17 rfl) rfl ?_
      by_cases hW : inN w 8
      · obtain ⟨wn, rfl, hwn⟩ := inN_nat hW (by omega)
        rw [nI_clamp (show wn < 2 ^ 31 by omega)]
        have h5 : 5 ≤ wn := by
          first | exact nle c11 (by omega) (by omega) | exact absurd hW.1 (Int32.not_le.mpr c6)
        rcases (by omega : wn = 5 ∨ wn = 6 ∨ wn = 7) with rfl | rfl | rfl
        · refine s_tableIn 56 (zdk hX8_tier 18 rfl) (by decide) (by decide) rfl (by decide) ?_
          refine s_aload_n (zdk hX8_tier 19 rfl) rfl ?_
          refine s_getR (zdk hX8_tier 20 rfl) fw_X8_40 rfl (hx.K) (show _ = some 630 from (hx.r (i := 4) rfl)) ?_
          refine s_iload_n (zdk hX8_tier 21 rfl) rfl ?_
          refine s_callV0 (ci := 5) [.int (nI tn)] (zdk hX8_tier 22 rfl) cw_X8_137 (h.K) (by decide) rfl rfl rfl (Nat.le_of_ble_eq_true rfl) (by decide) (c_X5_sizeOn hl h (nI tn)) ?_
          refine s_ireturn (zdk hX8_tier 23 rfl) rfl rfl ?_
          exact ⟨(eo_p h1).trans ((eo_p hW).trans (rfl)), rfl, rfl⟩
        · refine s_tableIn 65 (zdk hX8_tier 18 rfl) (by decide) (by decide) rfl (by decide) ?_
          refine s_aload_n (zdk hX8_tier 24 rfl) rfl ?_
          refine s_getR (zdk hX8_tier 25 rfl) fw_X8_40 rfl (hx.K) (show _ = some 630 from (hx.r (i := 4) rfl)) ?_
          refine s_iload_n (zdk hX8_tier 26 rfl) rfl ?_
          refine s_callV0 (ci := 5) [.int (nI tn)] (zdk hX8_tier 27 rfl) cw_X8_140 (h.K) (by decide) rfl rfl rfl (Nat.le_of_ble_eq_true rfl) (by decide) (c_X5_filesOn hl h (nI tn)) ?_
          refine s_ireturn (zdk hX8_tier 28 rfl) rfl rfl ?_
          exact ⟨(eo_p h1).trans ((eo_p hW).trans (rfl)), rfl, rfl⟩
        · refine s_tableIn 74 (zdk hX8_tier 18 rfl) (by decide) (by decide) rfl (by decide) ?_
          refine s_aload_n (zdk hX8_tier 29 rfl) rfl ?_
          refine s_getR (zdk hX8_tier 30 rfl) fw_X8_40 rfl (hx.K) (show _ = some 630 from (hx.r (i := 4) rfl)) ?_
          refine s_iload_n (zdk hX8_tier 31 rfl) rfl ?_
          refine s_callV0 (ci := 5) [.int (nI tn)] (zdk hX8_tier 32 rfl) cw_X8_143 (h.K) (by decide) rfl rfl rfl (Nat.le_of_ble_eq_true rfl) (by decide) (c_X5_mostUsedOn hl h (nI tn)) ?_
          refine s_ireturn (zdk hX8_tier 33 rfl) rfl rfl ?_
          exact ⟨(eo_p h1).trans ((eo_p hW).trans (rfl)), rfl, rfl⟩
      · refine s_tableOut 83 (zdk hX8_tier 18 rfl) ((inN_out hW (by omega) rfl).imp (fun q => by omega) (fun q => by omega)) (by decide) ?_
        refine s_throw (x := 1) ⟨122, 124, (zdk hX8_tier 34 rfl), (zdk hX8_tier 35 rfl), (zdk hX8_tier 36 rfl), (zdk hX8_tier 37 rfl), clw_X8_122, xi_1, rfl, (by decide), (by decide), (by decide), xw_1⟩ ?_ (by decide)
        rw [zth_id hf]
        exact ⟨(eo_p h1).trans (eo_n (hW)), rfl⟩
    · have hW5 : inN w 5 := ⟨Int32.not_lt.mp c6, Int32.not_le.mp c11⟩
      obtain ⟨wn, rfl, hwn⟩ := inN_nat hW5 (by omega)
      rw [nI_clamp (show wn < 2 ^ 31 by omega)]
      have hW : inN (nI wn) 8 := inN_of (by omega) (by omega)
      refine s_aload_n (zdk hX8_tier 8 rfl) rfl ?_
      refine s_getR (zdk hX8_tier 9 rfl) fw_X8_40 rfl (hx.K) (show _ = some 630 from (hx.r (i := 4) rfl)) ?_
      refine s_getR (zdk hX8_tier 10 rfl) fw_X8_128 rfl (h.K) (h.r5) ?_
      refine s_iload_n (zdk hX8_tier 11 rfl) rfl ?_
      refine s_aaloadN (N := 4) (j := tn) (zdk hX8_tier 12 rfl) (h.tK) (by decide) (h.tN) (h.tL htn) (by decide) (h.tR htn) ?_
      refine s_getR (zdk hX8_tier 13 rfl) fw_X8_132 rfl ((h.tS htn).1) ((h.tS htn).2.1) ?_
      refine s_iload_n (zdk hX8_tier 14 rfl) rfl ?_
      refine s_ialoadN (N := 5) (j := wn) (zdk hX8_tier 15 rfl) ((h.tS htn).2.2.2.1) ((h.tS htn).2.2.2.2.1) (hwn) (by decide) ?_
      refine s_topi (b := gt g tn (wn)) (h.tk htn _ (hwn)) ?_
      refine s_ireturn (zdk hX8_tier 16 rfl) rfl rfl ?_
      (unfold vTir; rw [if_pos hwn]; exact ⟨(eo_p h1).trans ((eo_p hW).trans (rfl)), rfl, rfl⟩)
theorem c_X8_file (hl : l.stackTraces = false) {M : zMem} {g : Nat → Int64} {p : Nat → Nat} (hx : xSh M) (h : rSt M 630 g p) (hf : zF M = 1) (f w : Int32) : zCx2 l G mX8_file 10 400 5 30 [.ref 0, .int (f), .int (w)] M (zXr (eo (inN f (gN g 3)) 2 (eo (inN w 10) 1 none)) M (zP1 (some (.int (vFil g (f).toNatClampNeg (w).toNatClampNeg))) M)) := by
  refine zCxr.of (ls0 := [some (.ref 0), some (.int (f)), some (.int (w)), none]) (by decide +kernel) rfl hl rfl (Nat.le_of_ble_eq_true rfl) hf (fun v9 M9 q9 => by rw [q9.2]) ?_
  have h20 := h.b.2.2.1.2
  have h4 := h.b.2.1.2
  have hcy := h.b.1.2.2
  have hcy2 := h.b.1.2.1
  have hpe := h.b.2.2.2.1.2
  refine s_aload_n (zdk hX8_file 0 rfl) rfl ?_
  refine s_iload_n (zdk hX8_file 1 rfl) rfl ?_
  refine s_callVXa (ci := 8) [.int (f)] (zdk hX8_file 2 rfl) cw_X8_146 (hx.K) (by decide) rfl rfl rfl (Nat.le_of_ble_eq_true rfl) (by decide) (c_X8_requireFile hl hx h hf (f)) rfl (fun x9 M9 q9 => ?_) (fun v9 M9 q9 => ?_)
  · obtain ⟨e9, rfl⟩ := q9
    obtain ⟨e7, rfl⟩ := eo_x e9
    exact ⟨eo_n e7, rfl⟩
  obtain ⟨e9, r9, rfl⟩ := q9
  cases r9
  have h1 := eo_r e9
  obtain ⟨fn, rfl, hfn⟩ := inN_nat h1 (by omega)
  rw [nI_clamp (show fn < 2 ^ 31 by omega)]
  refine s_aload_n (zdk hX8_file 3 rfl) rfl ?_
  refine s_getR (zdk hX8_file 4 rfl) fw_X8_40 rfl (hx.K) (show _ = some 630 from (hx.r (i := 4) rfl)) ?_
  refine s_getR (zdk hX8_file 5 rfl) fw_X8_149 rfl (h.K) (h.r6) ?_
  refine s_iload_n (zdk hX8_file 6 rfl) rfl ?_
  refine s_aaloadN (N := 20) (j := fn) (zdk hX8_file 7 rfl) (h.fK) (by decide) (h.fN) (h.fL hfn) (by decide) (h.rR hfn) ?_
  refine s_astore_n (zdk hX8_file 8 rfl) (Nat.le_of_ble_eq_true rfl) ?_
  refine s_ls (ls' := [some (.ref 0), some (.int (nI fn)), some (.int (w)), some (.ref (630 + 17 + 3 * p fn))]) rfl ?_
  refine s_iload_n (zdk hX8_file 9 rfl) rfl ?_
  by_cases hW : inN w 10
  · obtain ⟨wn, rfl, hwn⟩ := inN_nat hW (by omega)
    rw [nI_clamp (show wn < 2 ^ 31 by omega)]
    rcases (by omega : wn = 0 ∨ wn = 1 ∨ wn = 2 ∨ wn = 3 ∨ wn = 4 ∨ wn = 5 ∨ wn = 6 ∨ wn = 7 ∨ wn = 8 ∨ wn = 9) with rfl | rfl | rfl | rfl | rfl | rfl | rfl | rfl | rfl | rfl
    · refine s_tableIn 72 (zdk hX8_file 10 rfl) (by decide) (by decide) rfl (by decide) ?_
      refine s_aload_n (zdk hX8_file 11 rfl) rfl ?_
      refine s_getI (zdk hX8_file 12 rfl) fw_X8_153 rfl ((h.rS hfn).1) ?_
      refine s_topi (b := gf g fn 0) (h.f1 hfn) ?_
      refine s_ireturn (zdk hX8_file 13 rfl) rfl rfl ?_
      exact ⟨(eo_p h1).trans ((eo_p hW).trans (rfl)), rfl, rfl⟩
    · refine s_tableIn 77 (zdk hX8_file 10 rfl) (by decide) (by decide) rfl (by decide) ?_
      refine s_aload_n (zdk hX8_file 14 rfl) rfl ?_
      refine s_getI (zdk hX8_file 15 rfl) fw_X8_156 rfl ((h.rS hfn).1) ?_
      refine s_topi (b := gf g fn 1) (h.f2 hfn) ?_
      refine s_ireturn (zdk hX8_file 16 rfl) rfl rfl ?_
      exact ⟨(eo_p h1).trans ((eo_p hW).trans (rfl)), rfl, rfl⟩
    · refine s_tableIn 82 (zdk hX8_file 10 rfl) (by decide) (by decide) rfl (by decide) ?_
      refine s_aload_n (zdk hX8_file 17 rfl) rfl ?_
      refine s_getI (zdk hX8_file 18 rfl) fw_X8_159 rfl ((h.rS hfn).1) ?_
      refine s_topi (b := gf g fn 2) (h.f3 hfn) ?_
      refine s_ireturn (zdk hX8_file 19 rfl) rfl rfl ?_
      exact ⟨(eo_p h1).trans ((eo_p hW).trans (rfl)), rfl, rfl⟩
    · refine s_tableIn 87 (zdk hX8_file 10 rfl) (by decide) (by decide) rfl (by decide) ?_
      refine s_aload_n (zdk hX8_file 20 rfl) rfl ?_
      refine s_getI (zdk hX8_file 21 rfl) fw_X8_162 rfl ((h.rS hfn).1) ?_
      refine s_topi (b := gf g fn 3) (h.f4 hfn) ?_
      refine s_ireturn (zdk hX8_file 22 rfl) rfl rfl ?_
      exact ⟨(eo_p h1).trans ((eo_p hW).trans (rfl)), rfl, rfl⟩
    · refine s_tableIn 92 (zdk hX8_file 10 rfl) (by decide) (by decide) rfl (by decide) ?_
      refine s_aload_n (zdk hX8_file 23 rfl) rfl ?_
      refine s_aload_n (zdk hX8_file 24 rfl) rfl ?_
      refine s_getR (zdk hX8_file 25 rfl) fw_X8_40 rfl (hx.K) (show _ = some 630 from (hx.r (i := 4) rfl)) ?_
      refine s_getI (zdk hX8_file 26 rfl) fw_X8_103 rfl (h.K) ?_
      refine s_topi (b := nI (gN g 4)) (h.v2) ?_
      refine s_callV0 (ci := 0) [.int (nI (gN g 4))] (zdk hX8_file 27 rfl) cw_X8_165 ((h.rS hfn).1) (by decide) rfl rfl rfl (Nat.le_of_ble_eq_true rfl) (by decide) (c_X0_isPinnedIn hl (h.rS hfn) (nI (gN g 4))) ?_
      refine s_topi (b := if nI (gN g 4) < gf g fn 3 then nI 1 else nI 0) (by rw [h.f4 hfn]) ?_
      refine s_if_eq 110 (zdk hX8_file 28 rfl) (by decide) (fun c103 => ?_) (fun c103 => ?_)
      · have b103 : ¬ (nI (gN g 4) < gf g fn 3) := b01_eq c103
        refine s_iconstv (v := nI 0) (zdk hX8_file 31 rfl) zc_iconst_0 ?_
        refine s_ireturn (zdk hX8_file 32 rfl) rfl rfl ?_
        first | (refine ⟨(eo_p h1).trans ((eo_p hW).trans (rfl)), ?_, rfl⟩; show _ = some (Value.int (if nI (gN g 4) < gf g fn 3 then nI 1 else nI 0)); rw [if_pos b103]) | (refine ⟨(eo_p h1).trans ((eo_p hW).trans (rfl)), ?_, rfl⟩; show _ = some (Value.int (if nI (gN g 4) < gf g fn 3 then nI 1 else nI 0)); rw [if_neg b103])
      · have b103 : nI (gN g 4) < gf g fn 3 := b01_ne c103
        refine s_iconstv (v := nI 1) (zdk hX8_file 29 rfl) zc_iconst_1 ?_
        refine s_goto 111 (zdk hX8_file 30 rfl) (by decide) ?_
        refine s_ireturn (zdk hX8_file 32 rfl) rfl rfl ?_
        first | (refine ⟨(eo_p h1).trans ((eo_p hW).trans (rfl)), ?_, rfl⟩; show _ = some (Value.int (if nI (gN g 4) < gf g fn 3 then nI 1 else nI 0)); rw [if_pos b103]) | (refine ⟨(eo_p h1).trans ((eo_p hW).trans (rfl)), ?_, rfl⟩; show _ = some (Value.int (if nI (gN g 4) < gf g fn 3 then nI 1 else nI 0)); rw [if_neg b103])
    · refine s_tableIn 112 (zdk hX8_file 10 rfl) (by decide) (by decide) rfl (by decide) ?_
      refine s_aload_n (zdk hX8_file 33 rfl) rfl ?_
      refine s_getI (zdk hX8_file 34 rfl) fw_X8_169 rfl ((h.rS hfn).1) ?_
      refine s_topi (b := gf g fn 4) (h.f7 hfn) ?_
      refine s_ireturn (zdk hX8_file 35 rfl) rfl rfl ?_
      exact ⟨(eo_p h1).trans ((eo_p hW).trans (rfl)), rfl, rfl⟩
    · refine s_tableIn 117 (zdk hX8_file 10 rfl) (by decide) (by decide) rfl (by decide) ?_
      refine s_aload_n (zdk hX8_file 36 rfl) rfl ?_
      refine s_getI (zdk hX8_file 37 rfl) fw_X8_172 rfl ((h.rS hfn).1) ?_
      refine s_topi (b := gf g fn 5) (h.f5 hfn) ?_
      refine s_ireturn (zdk hX8_file 38 rfl) rfl rfl ?_
      exact ⟨(eo_p h1).trans ((eo_p hW).trans (rfl)), rfl, rfl⟩
    · refine s_tableIn 122 (zdk hX8_file 10 rfl) (by decide) (by decide) rfl (by decide) ?_
      refine s_aload_n (zdk hX8_file 39 rfl) rfl ?_
      refine s_callV0 (ci := 0) [] (zdk hX8_file 40 rfl) cw_X8_175 ((h.rS hfn).1) (by decide) rfl rfl rfl (Nat.le_of_ble_eq_true rfl) (by decide) (c_X0_knownSeasons hl (h.rS hfn)) ?_
      refine s_topi (b := zkn (gs g fn) 12) (zkn_eq 12 (h.fs hfn)) ?_
      refine s_ireturn (zdk hX8_file 41 rfl) rfl rfl ?_
      exact ⟨(eo_p h1).trans ((eo_p hW).trans (rfl)), rfl, rfl⟩
    · refine s_tableIn 127 (zdk hX8_file 10 rfl) (by decide) (by decide) rfl (by decide) ?_
      refine s_aload_n (zdk hX8_file 42 rfl) rfl ?_
      refine s_callV0 (ci := 0) [] (zdk hX8_file 43 rfl) cw_X8_178 ((h.rS hfn).1) (by decide) rfl rfl rfl (Nat.le_of_ble_eq_true rfl) (by decide) (c_X0_busiestPhase hl (h.rS hfn)) ?_
      refine s_topi (b := (zbp (gs g fn) 12).1) (congrArg Prod.fst (zbp_eq 12 (h.fs hfn))) ?_
      refine s_ireturn (zdk hX8_file 44 rfl) rfl rfl ?_
      exact ⟨(eo_p h1).trans ((eo_p hW).trans (rfl)), rfl, rfl⟩
    · refine s_tableIn 132 (zdk hX8_file 10 rfl) (by decide) (by decide) rfl (by decide) ?_
      refine s_aload_n (zdk hX8_file 45 rfl) rfl ?_
      refine s_callV0 (ci := 0) [] (zdk hX8_file 46 rfl) cw_X8_181 ((h.rS hfn).1) (by decide) rfl rfl rfl (Nat.le_of_ble_eq_true rfl) (by decide) (c_X0_seasonSpread hl (h.rS hfn)) ?_
      refine s_topi (b := zspr (gs g fn)) (zspr_eq (h.fs hfn)) ?_
      refine s_ireturn (zdk hX8_file 47 rfl) rfl rfl ?_
      exact ⟨(eo_p h1).trans ((eo_p hW).trans (rfl)), congrArg (fun q => some (Value.int q)) (show _ = vFil g fn 9 from by unfold vFil; rw [if_neg (by decide), if_neg (by decide), if_neg (by decide), if_neg (by decide), if_neg (by decide), if_neg (by decide), if_neg (by decide), if_neg (by decide), if_neg (by decide)]), rfl⟩
  · refine s_tableOut 137 (zdk hX8_file 10 rfl) ((inN_out hW (by omega) rfl).imp (fun q => by omega) (fun q => by omega)) (by decide) ?_
    refine s_throw (x := 1) ⟨122, 124, (zdk hX8_file 48 rfl), (zdk hX8_file 49 rfl), (zdk hX8_file 50 rfl), (zdk hX8_file 51 rfl), clw_X8_122, xi_1, rfl, (by decide), (by decide), (by decide), xw_1⟩ ?_ (by decide)
    rw [zth_id hf]
    exact ⟨(eo_p h1).trans (eo_n (hW)), rfl⟩
theorem c_X8_season (hl : l.stackTraces = false) {M : zMem} {g : Nat → Int64} {p : Nat → Nat} (hx : xSh M) (h : rSt M 630 g p) (hf : zF M = 1) (f ph : Int32) : zCx2 l G mX8_season 10 400 5 30 [.ref 0, .int (f), .int (ph)] M (zXr (eo (inN f (gN g 3)) 2 (eo (inN ph (gN g 0)) 2 none)) M (zP1 (some (.int (gs g (f).toNatClampNeg (ph).toNatClampNeg))) M)) := by
  refine zCxr.of (ls0 := [some (.ref 0), some (.int (f)), some (.int (ph))]) (by decide +kernel) rfl hl rfl (Nat.le_of_ble_eq_true rfl) hf (fun v9 M9 q9 => by rw [q9.2]) ?_
  have h20 := h.b.2.2.1.2
  have h4 := h.b.2.1.2
  have hcy := h.b.1.2.2
  have hcy2 := h.b.1.2.1
  have hpe := h.b.2.2.2.1.2
  refine s_aload_n (zdk hX8_season 0 rfl) rfl ?_
  refine s_iload_n (zdk hX8_season 1 rfl) rfl ?_
  refine s_callVXa (ci := 8) [.int (f)] (zdk hX8_season 2 rfl) cw_X8_146 (hx.K) (by decide) rfl rfl rfl (Nat.le_of_ble_eq_true rfl) (by decide) (c_X8_requireFile hl hx h hf (f)) rfl (fun x9 M9 q9 => ?_) (fun v9 M9 q9 => ?_)
  · obtain ⟨e9, rfl⟩ := q9
    obtain ⟨e7, rfl⟩ := eo_x e9
    exact ⟨eo_n e7, rfl⟩
  obtain ⟨e9, r9, rfl⟩ := q9
  cases r9
  have h1 := eo_r e9
  obtain ⟨fn, rfl, hfn⟩ := inN_nat h1 (by omega)
  rw [nI_clamp (show fn < 2 ^ 31 by omega)]
  refine s_iload_n (zdk hX8_season 3 rfl) rfl ?_
  refine s_if_lt 20 (zdk hX8_season 4 rfl) (by decide) (fun c6 => ?_) (fun c6 => ?_)
  · refine s_throw (x := 2) ⟨184, 186, (zdk hX8_season 10 rfl), (zdk hX8_season 11 rfl), (zdk hX8_season 12 rfl), (zdk hX8_season 13 rfl), clw_X8_184, xi_2, rfl, (by decide), (by decide), (by decide), xw_2⟩ ?_ (by decide)
    rw [zth_id hf]
    exact ⟨(eo_p h1).trans (eo_n (fun q => by first | exact absurd q.1 (Int32.not_le.mpr c6) | exact c17 q.2)), rfl⟩
  · refine s_iload_n (zdk hX8_season 5 rfl) rfl ?_
    refine s_aload_n (zdk hX8_season 6 rfl) rfl ?_
    refine s_getR (zdk hX8_season 7 rfl) fw_X8_40 rfl (hx.K) (show _ = some 630 from (hx.r (i := 4) rfl)) ?_
    refine s_getI (zdk hX8_season 8 rfl) fw_X8_91 rfl (h.K) ?_
    refine s_topi (b := nI (gN g 0)) (h.v0) ?_
    refine s_icmp_lt 28 (zdk hX8_season 9 rfl) (by decide) (fun c17 => ?_) (fun c17 => ?_)
    · have h2 : inN ph (gN g 0) := ⟨Int32.not_lt.mp c6, c17⟩
      obtain ⟨pn, rfl, hpn⟩ := inN_nat h2 (by omega)
      rw [nI_clamp (show pn < 2 ^ 31 by omega)]
      have hp12 : pn < 12 := by omega
      refine s_aload_n (zdk hX8_season 14 rfl) rfl ?_
      refine s_getR (zdk hX8_season 15 rfl) fw_X8_40 rfl (hx.K) (show _ = some 630 from (hx.r (i := 4) rfl)) ?_
      refine s_getR (zdk hX8_season 16 rfl) fw_X8_149 rfl (h.K) (h.r6) ?_
      refine s_iload_n (zdk hX8_season 17 rfl) rfl ?_
      refine s_aaloadN (N := 20) (j := fn) (zdk hX8_season 18 rfl) (h.fK) (by decide) (h.fN) (h.fL hfn) (by decide) (h.rR hfn) ?_
      refine s_getR (zdk hX8_season 19 rfl) fw_X8_187 rfl ((h.rS hfn).1) ((h.rS hfn).2.2.1) ?_
      refine s_iload_n (zdk hX8_season 20 rfl) rfl ?_
      refine s_ialoadN (N := 12) (j := pn) (zdk hX8_season 21 rfl) ((h.rS hfn).2.2.2.2.2.1) ((h.rS hfn).2.2.2.2.2.2) (hp12) (by decide) ?_
      refine s_topi (b := gs g fn (pn)) (h.fs hfn _ (hp12)) ?_
      refine s_ireturn (zdk hX8_season 22 rfl) rfl rfl ?_
      exact ⟨(eo_p h1).trans ((eo_p h2).trans (rfl)), rfl, rfl⟩
    · refine s_throw (x := 2) ⟨184, 186, (zdk hX8_season 10 rfl), (zdk hX8_season 11 rfl), (zdk hX8_season 12 rfl), (zdk hX8_season 13 rfl), clw_X8_184, xi_2, rfl, (by decide), (by decide), (by decide), xw_2⟩ ?_ (by decide)
      rw [zth_id hf]
      exact ⟨(eo_p h1).trans (eo_n (fun q => by first | exact absurd q.1 (Int32.not_le.mpr c6) | exact c17 q.2)), rfl⟩
theorem c_X8_kept (hl : l.stackTraces = false) {M : zMem} {g : Nat → Int64} {p : Nat → Nat} (hx : xSh M) (h : rSt M 630 g p) (hf : zF M = 1) (f w : Int32) : zCx2 l G mX8_kept 10 400 5 30 [.ref 0, .int (f), .int (w)] M (zXr (eo (inN f (gN g 3)) 2 (eo (inN w (gN g (58 + 51 * (f).toNatClampNeg + 4))) 2 none)) M (zP1 (some (.int (gu g (f).toNatClampNeg (w).toNatClampNeg))) M)) := by
  refine zCxr.of (ls0 := [some (.ref 0), some (.int (f)), some (.int (w))]) (by decide +kernel) rfl hl rfl (Nat.le_of_ble_eq_true rfl) hf (fun v9 M9 q9 => by rw [q9.2]) ?_
  have h20 := h.b.2.2.1.2
  have h4 := h.b.2.1.2
  have hcy := h.b.1.2.2
  have hcy2 := h.b.1.2.1
  have hpe := h.b.2.2.2.1.2
  refine s_aload_n (zdk hX8_kept 0 rfl) rfl ?_
  refine s_iload_n (zdk hX8_kept 1 rfl) rfl ?_
  refine s_callVXa (ci := 8) [.int (f)] (zdk hX8_kept 2 rfl) cw_X8_146 (hx.K) (by decide) rfl rfl rfl (Nat.le_of_ble_eq_true rfl) (by decide) (c_X8_requireFile hl hx h hf (f)) rfl (fun x9 M9 q9 => ?_) (fun v9 M9 q9 => ?_)
  · obtain ⟨e9, rfl⟩ := q9
    obtain ⟨e7, rfl⟩ := eo_x e9
    exact ⟨eo_n e7, rfl⟩
  obtain ⟨e9, r9, rfl⟩ := q9
  cases r9
  have h1 := eo_r e9
  obtain ⟨fn, rfl, hfn⟩ := inN_nat h1 (by omega)
  rw [nI_clamp (show fn < 2 ^ 31 by omega)]
  refine s_iload_n (zdk hX8_kept 3 rfl) rfl ?_
  refine s_if_lt 25 (zdk hX8_kept 4 rfl) (by decide) (fun c6 => ?_) (fun c6 => ?_)
  · refine s_throw (x := 2) ⟨184, 186, (zdk hX8_kept 13 rfl), (zdk hX8_kept 14 rfl), (zdk hX8_kept 15 rfl), (zdk hX8_kept 16 rfl), clw_X8_184, xi_2, rfl, (by decide), (by decide), (by decide), xw_2⟩ ?_ (by decide)
    rw [zth_id hf]
    exact ⟨(eo_p h1).trans (eo_n (fun q => by first | exact absurd q.1 (Int32.not_le.mpr c6) | exact c22 q.2)), rfl⟩
  · refine s_iload_n (zdk hX8_kept 5 rfl) rfl ?_
    refine s_aload_n (zdk hX8_kept 6 rfl) rfl ?_
    refine s_getR (zdk hX8_kept 7 rfl) fw_X8_40 rfl (hx.K) (show _ = some 630 from (hx.r (i := 4) rfl)) ?_
    refine s_getR (zdk hX8_kept 8 rfl) fw_X8_149 rfl (h.K) (h.r6) ?_
    refine s_iload_n (zdk hX8_kept 9 rfl) rfl ?_
    refine s_aaloadN (N := 20) (j := fn) (zdk hX8_kept 10 rfl) (h.fK) (by decide) (h.fN) (h.fL hfn) (by decide) (h.rR hfn) ?_
    refine s_getI (zdk hX8_kept 11 rfl) fw_X8_169 rfl ((h.rS hfn).1) ?_
    refine s_topi (b := nI (gN g (58 + 51 * fn + 4))) ((h.f7 hfn).trans (h.b.ke hfn)) ?_
    refine s_icmp_lt 33 (zdk hX8_kept 12 rfl) (by decide) (fun c22 => ?_) (fun c22 => ?_)
    · have h2 : inN w (gN g (58 + 51 * fn + 4)) := ⟨Int32.not_lt.mp c6, c22⟩
      have hk24 := h.b.keL hfn
      obtain ⟨wn, rfl, hwn⟩ := inN_nat h2 (by omega)
      rw [nI_clamp (show wn < 2 ^ 31 by omega)]
      refine s_aload_n (zdk hX8_kept 17 rfl) rfl ?_
      refine s_getR (zdk hX8_kept 18 rfl) fw_X8_40 rfl (hx.K) (show _ = some 630 from (hx.r (i := 4) rfl)) ?_
      refine s_getR (zdk hX8_kept 19 rfl) fw_X8_149 rfl (h.K) (h.r6) ?_
      refine s_iload_n (zdk hX8_kept 20 rfl) rfl ?_
      refine s_aaloadN (N := 20) (j := fn) (zdk hX8_kept 21 rfl) (h.fK) (by decide) (h.fN) (h.fL hfn) (by decide) (h.rR hfn) ?_
      refine s_getR (zdk hX8_kept 22 rfl) fw_X8_190 rfl ((h.rS hfn).1) ((h.rS hfn).2.1) ?_
      refine s_iload_n (zdk hX8_kept 23 rfl) rfl ?_
      refine s_ialoadN (N := 24) (j := wn) (zdk hX8_kept 24 rfl) ((h.rS hfn).2.2.2.1) ((h.rS hfn).2.2.2.2.1) (by omega) (by decide) ?_
      refine s_topi (b := gu g fn (wn)) (h.fu hfn _ (by omega)) ?_
      refine s_ireturn (zdk hX8_kept 25 rfl) rfl rfl ?_
      exact ⟨(eo_p h1).trans ((eo_p h2).trans (rfl)), rfl, rfl⟩
    · refine s_throw (x := 2) ⟨184, 186, (zdk hX8_kept 13 rfl), (zdk hX8_kept 14 rfl), (zdk hX8_kept 15 rfl), (zdk hX8_kept 16 rfl), clw_X8_184, xi_2, rfl, (by decide), (by decide), (by decide), xw_2⟩ ?_ (by decide)
      rw [zth_id hf]
      exact ⟨(eo_p h1).trans (eo_n (fun q => by first | exact absurd q.1 (Int32.not_le.mpr c6) | exact c22 q.2)), rfl⟩
theorem c_X8_forecast (hl : l.stackTraces = false) {M : zMem} {g : Nat → Int64} {p : Nat → Nat} (hx : xSh M) (h : rSt M 630 g p) (hf : zF M = 1) (f w : Int32) : zCx2 l G mX8_forecast 10 400 5 30 [.ref 0, .int (f), .int (w)] M (zXr (eo (inN f (gN g 3)) 2 (eo (inN w 25) 1 none)) M (zP1 (some (.int (zfc (gs g (f).toNatClampNeg) (zph g (w).toNatClampNeg)))) M)) := by
  refine zCxr.of (ls0 := [some (.ref 0), some (.int (f)), some (.int (w))]) (by decide +kernel) rfl hl rfl (Nat.le_of_ble_eq_true rfl) hf (fun v9 M9 q9 => by rw [q9.2]) ?_
  have h20 := h.b.2.2.1.2
  have h4 := h.b.2.1.2
  have hcy := h.b.1.2.2
  have hcy2 := h.b.1.2.1
  have hpe := h.b.2.2.2.1.2
  refine s_aload_n (zdk hX8_forecast 0 rfl) rfl ?_
  refine s_iload_n (zdk hX8_forecast 1 rfl) rfl ?_
  refine s_callVXa (ci := 8) [.int (f)] (zdk hX8_forecast 2 rfl) cw_X8_146 (hx.K) (by decide) rfl rfl rfl (Nat.le_of_ble_eq_true rfl) (by decide) (c_X8_requireFile hl hx h hf (f)) rfl (fun x9 M9 q9 => ?_) (fun v9 M9 q9 => ?_)
  · obtain ⟨e9, rfl⟩ := q9
    obtain ⟨e7, rfl⟩ := eo_x e9
    exact ⟨eo_n e7, rfl⟩
  obtain ⟨e9, r9, rfl⟩ := q9
  cases r9
  have h1 := eo_r e9
  obtain ⟨fn, rfl, hfn⟩ := inN_nat h1 (by omega)
  rw [nI_clamp (show fn < 2 ^ 31 by omega)]
  refine s_iload_n (zdk hX8_forecast 3 rfl) rfl ?_
  refine s_if_lt 15 (zdk hX8_forecast 4 rfl) (by decide) (fun c6 => ?_) (fun c6 => ?_)
  · refine s_throw (x := 1) ⟨122, 124, (zdk hX8_forecast 8 rfl), (zdk hX8_forecast 9 rfl), (zdk hX8_forecast 10 rfl), (zdk hX8_forecast 11 rfl), clw_X8_122, xi_1, rfl, (by decide), (by decide), (by decide), xw_1⟩ ?_ (by decide)
    rw [zth_id hf]
    exact ⟨(eo_p h1).trans (eo_n (fun q => by have q2 := (inN_in (n := 25) (m := 24) rfl (by omega)).mpr q; first | exact absurd q2.1 (Int32.not_le.mpr c6) | exact c12 q2.2)), rfl⟩
  · refine s_iload_n (zdk hX8_forecast 5 rfl) rfl ?_
    refine s_bipushv (v := nI 24) (zdk hX8_forecast 6 rfl) zc_bipush_24 ?_
    refine s_icmp_le 23 (zdk hX8_forecast 7 rfl) (by decide) (fun c12 => ?_) (fun c12 => ?_)
    · have h2 : inN w 25 := (inN_in (n := 25) (m := 24) rfl (by omega)).mp ⟨Int32.not_lt.mp c6, c12⟩
      obtain ⟨wn, rfl, hwn⟩ := inN_nat h2 (by omega)
      rw [nI_clamp (show wn < 2 ^ 31 by omega)]
      refine s_aload_n (zdk hX8_forecast 12 rfl) rfl ?_
      refine s_getR (zdk hX8_forecast 13 rfl) fw_X8_40 rfl (hx.K) (show _ = some 630 from (hx.r (i := 4) rfl)) ?_
      refine s_getR (zdk hX8_forecast 14 rfl) fw_X8_149 rfl (h.K) (h.r6) ?_
      refine s_iload_n (zdk hX8_forecast 15 rfl) rfl ?_
      refine s_aaloadN (N := 20) (j := fn) (zdk hX8_forecast 16 rfl) (h.fK) (by decide) (h.fN) (h.fL hfn) (by decide) (h.rR hfn) ?_
      refine s_aload_n (zdk hX8_forecast 17 rfl) rfl ?_
      refine s_getR (zdk hX8_forecast 18 rfl) fw_X8_40 rfl (hx.K) (show _ = some 630 from (hx.r (i := 4) rfl)) ?_
      refine s_iload_n (zdk hX8_forecast 19 rfl) rfl ?_
      refine s_callV0 (ci := 5) [.int (nI wn)] (zdk hX8_forecast 20 rfl) cw_X8_193 (h.K) (by decide) rfl rfl rfl (Nat.le_of_ble_eq_true rfl) (by decide) (c_X5_phaseAhead hl h (k := wn) (by omega)) ?_
      refine s_callV0 (ci := 0) [.int (nI (zph g wn))] (zdk hX8_forecast 21 rfl) cw_X8_196 ((h.rS hfn).1) (by decide) rfl rfl rfl (Nat.le_of_ble_eq_true rfl) (by decide) (c_X0_forecastFor hl (h.rS hfn) (ph := zph g wn) (h.ph wn)) ?_
      refine s_topi (b := zfc (gs g fn) (zph g wn)) (zfc_eq (h.ph wn) (h.fs hfn)) ?_
      refine s_ireturn (zdk hX8_forecast 22 rfl) rfl rfl ?_
      exact ⟨(eo_p h1).trans ((eo_p h2).trans (rfl)), rfl, rfl⟩
    · refine s_throw (x := 1) ⟨122, 124, (zdk hX8_forecast 8 rfl), (zdk hX8_forecast 9 rfl), (zdk hX8_forecast 10 rfl), (zdk hX8_forecast 11 rfl), clw_X8_122, xi_1, rfl, (by decide), (by decide), (by decide), xw_1⟩ ?_ (by decide)
      rw [zth_id hf]
      exact ⟨(eo_p h1).trans (eo_n (fun q => by have q2 := (inN_in (n := 25) (m := 24) rfl (by omega)).mpr q; first | exact absurd q2.1 (Int32.not_le.mpr c6) | exact c12 q2.2)), rfl⟩
theorem c_X8_off (hl : l.stackTraces = false) {M : zMem} {g : Nat → Int64} {p : Nat → Nat} (hx : xSh M) (h : rSt M 630 g p) (hf : zF M = 1) (f : Int32) : zCx2 l G mX8_off 10 400 5 30 [.ref 0, .int (f)] M (zXr (eo (inN f (gN g 3)) 2 none) M (zP1 (some (.long (go g (f).toNatClampNeg))) M)) := by
  refine zCxr.of (ls0 := [some (.ref 0), some (.int (f))]) (by decide +kernel) rfl hl rfl (Nat.le_of_ble_eq_true rfl) hf (fun v9 M9 q9 => by rw [q9.2]) ?_
  have h20 := h.b.2.2.1.2
  have h4 := h.b.2.1.2
  have hcy := h.b.1.2.2
  have hcy2 := h.b.1.2.1
  have hpe := h.b.2.2.2.1.2
  refine s_aload_n (zdk hX8_off 0 rfl) rfl ?_
  refine s_iload_n (zdk hX8_off 1 rfl) rfl ?_
  refine s_callVXa (ci := 8) [.int (f)] (zdk hX8_off 2 rfl) cw_X8_146 (hx.K) (by decide) rfl rfl rfl (Nat.le_of_ble_eq_true rfl) (by decide) (c_X8_requireFile hl hx h hf (f)) rfl (fun x9 M9 q9 => ?_) (fun v9 M9 q9 => ?_)
  · obtain ⟨e9, rfl⟩ := q9
    obtain ⟨e7, rfl⟩ := eo_x e9
    exact ⟨eo_n e7, rfl⟩
  obtain ⟨e9, r9, rfl⟩ := q9
  cases r9
  have h1 := eo_r e9
  obtain ⟨fn, rfl, hfn⟩ := inN_nat h1 (by omega)
  rw [nI_clamp (show fn < 2 ^ 31 by omega)]
  refine s_aload_n (zdk hX8_off 3 rfl) rfl ?_
  refine s_getR (zdk hX8_off 4 rfl) fw_X8_40 rfl (hx.K) (show _ = some 630 from (hx.r (i := 4) rfl)) ?_
  refine s_getR (zdk hX8_off 5 rfl) fw_X8_149 rfl (h.K) (h.r6) ?_
  refine s_iload_n (zdk hX8_off 6 rfl) rfl ?_
  refine s_aaloadN (N := 20) (j := fn) (zdk hX8_off 7 rfl) (h.fK) (by decide) (h.fN) (h.fL hfn) (by decide) (h.rR hfn) ?_
  refine s_getJ (zdk hX8_off 8 rfl) fw_X8_199 rfl ((h.rS hfn).1) ?_
  refine s_topl (b := go g fn) (h.f6 hfn) ?_
  refine s_lreturn (zdk hX8_off 9 rfl) rfl  ?_
  exact ⟨(eo_p h1).trans (rfl), rfl, rfl⟩
theorem c_X8_cycleOf (hl : l.stackTraces = false) {M : zMem} {g : Nat → Int64} {p : Nat → Nat} (hx : xSh M) (h : rSt M 630 g p) (hf : zF M = 1) (f : Int32) : zCx2 l G mX8_cycleOf 10 400 5 30 [.ref 0, .int (f)] M (zXr (eo (inN f (gN g 3)) 2 none) M (zP1 (some (.int (vOwn g (f).toNatClampNeg))) M)) := by
  refine zCxr.of (ls0 := [some (.ref 0), some (.int (f))]) (by decide +kernel) rfl hl rfl (Nat.le_of_ble_eq_true rfl) hf (fun v9 M9 q9 => by rw [q9.2]) ?_
  have h20 := h.b.2.2.1.2
  have h4 := h.b.2.1.2
  have hcy := h.b.1.2.2
  have hcy2 := h.b.1.2.1
  have hpe := h.b.2.2.2.1.2
  refine s_aload_n (zdk hX8_cycleOf 0 rfl) rfl ?_
  refine s_iload_n (zdk hX8_cycleOf 1 rfl) rfl ?_
  refine s_callVXa (ci := 8) [.int (f)] (zdk hX8_cycleOf 2 rfl) cw_X8_146 (hx.K) (by decide) rfl rfl rfl (Nat.le_of_ble_eq_true rfl) (by decide) (c_X8_requireFile hl hx h hf (f)) rfl (fun x9 M9 q9 => ?_) (fun v9 M9 q9 => ?_)
  · obtain ⟨e9, rfl⟩ := q9
    obtain ⟨e7, rfl⟩ := eo_x e9
    exact ⟨eo_n e7, rfl⟩
  obtain ⟨e9, r9, rfl⟩ := q9
  cases r9
  have h1 := eo_r e9
  obtain ⟨fn, rfl, hfn⟩ := inN_nat h1 (by omega)
  rw [nI_clamp (show fn < 2 ^ 31 by omega)]
  refine s_aload_n (zdk hX8_cycleOf 3 rfl) rfl ?_
  refine s_getR (zdk hX8_cycleOf 4 rfl) fw_X8_40 rfl (hx.K) (show _ = some 630 from (hx.r (i := 4) rfl)) ?_
  refine s_getR (zdk hX8_cycleOf 5 rfl) fw_X8_149 rfl (h.K) (h.r6) ?_
  refine s_iload_n (zdk hX8_cycleOf 6 rfl) rfl ?_
  refine s_aaloadN (N := 20) (j := fn) (zdk hX8_cycleOf 7 rfl) (h.fK) (by decide) (h.fN) (h.fL hfn) (by decide) (h.rR hfn) ?_
  refine s_callV0 (ci := 0) [] (zdk hX8_cycleOf 8 rfl) cw_X8_203 ((h.rS hfn).1) (by decide) rfl rfl rfl (Nat.le_of_ble_eq_true rfl) (by decide) (c_X0_ownCycle hl (h.rS hfn) ((h.f7 hfn).trans (h.b.ke hfn)) (h.b.keL hfn)) ?_
  refine s_topi (b := vOwn g fn) (congrArg Prod.fst (zoc_eq (h.fu hfn) _ (Nat.le_refl _))) ?_
  refine s_ireturn (zdk hX8_cycleOf 9 rfl) rfl rfl ?_
  exact ⟨(eo_p h1).trans (rfl), rfl, rfl⟩
theorem c_X8_account (hl : l.stackTraces = false) {M : zMem} {g : Nat → Int64} {p : Nat → Nat} (hx : xSh M) (h : rSt M 630 g p) (hf : zF M = 1) (x w : Int32) : zCx2 l G mX8_account 10 400 5 30 [.ref 0, .int (x), .int (w)] M (zXr (eo (x = (-1) ∨ inN x (gN g 2)) 2 (eo (inN w 4) 1 none)) M (zP1 (some (.long (if x = (-1) then zpa g (w).toNatClampNeg (gN g 2) else zpd (gp g (x).toNatClampNeg) (w).toNatClampNeg))) M)) := by
  refine zCxr.of (ls0 := [some (.ref 0), some (.int (x)), some (.int (w))]) (by decide +kernel) rfl hl rfl (Nat.le_of_ble_eq_true rfl) hf (fun v9 M9 q9 => by rw [q9.2]) ?_
  have h20 := h.b.2.2.1.2
  have h4 := h.b.2.1.2
  have hcy := h.b.1.2.2
  have hcy2 := h.b.1.2.1
  have hpe := h.b.2.2.2.1.2
  refine s_iload_n (zdk hX8_account 0 rfl) rfl ?_
  refine s_iconstv (v := (-1)) (zdk hX8_account 1 rfl) zc_iconst_m1 ?_
  refine s_icmp_eq 10 (zdk hX8_account 2 rfl) (by decide) (fun c2 => ?_) (fun c2 => ?_)
  · have h1 : x = (-1) ∨ inN x (gN g 2) := Or.inl c2
    refine s_iload_n (zdk hX8_account 6 rfl) rfl ?_
    refine s_iconstv (v := nI 0) (zdk hX8_account 7 rfl) zc_iconst_0 ?_
    refine s_iconstv (v := nI 3) (zdk hX8_account 8 rfl) zc_iconst_3 ?_
    refine s_callSXa [.int (w), .int (nI 0), .int (nI 3)] (zdk hX8_account 9 rfl) cw_X8_206 rfl (Nat.le_of_ble_eq_true rfl) (by decide) (c_X8_requireWithin hl hf w (nI 0) (nI 3)) rfl (fun x9 M9 q9 => ?_) (fun v9 M9 q9 => ?_)
    · obtain ⟨e9, rfl⟩ := q9
      obtain ⟨e7, rfl⟩ := eo_x e9
      exact ⟨(eo_p h1).trans (eo_n (fun q => e7 ((inN_in (n := 4) (m := 3) rfl (by omega)).mpr q))), rfl⟩
    obtain ⟨e9, r9, rfl⟩ := q9
    cases r9
    have h2 : inN w 4 := (inN_in (n := 4) (m := 3) rfl (by omega)).mp (eo_r e9)
    obtain ⟨wn, rfl, hwn⟩ := inN_nat h2 (by omega)
    rw [nI_clamp (show wn < 2 ^ 31 by omega)]
    refine s_iload_n (zdk hX8_account 10 rfl) rfl ?_
    refine s_iconstv (v := (-1)) (zdk hX8_account 11 rfl) zc_iconst_m1 ?_
    refine s_icmp_ne 32 (zdk hX8_account 12 rfl) (by decide) (fun d18 => ?_) (fun d18 => ?_)
    · obtain ⟨tn, rfl, htn⟩ := inN_nat (h1.resolve_left d18) (by omega)
      rw [nI_clamp (show tn < 2 ^ 31 by omega)]
      refine s_aload_n (zdk hX8_account 18 rfl) rfl ?_
      refine s_getR (zdk hX8_account 19 rfl) fw_X8_40 rfl (hx.K) (show _ = some 630 from (hx.r (i := 4) rfl)) ?_
      refine s_getR (zdk hX8_account 20 rfl) fw_X8_128 rfl (h.K) (h.r5) ?_
      refine s_iload_n (zdk hX8_account 21 rfl) rfl ?_
      refine s_aaloadN (N := 4) (j := tn) (zdk hX8_account 22 rfl) (h.tK) (by decide) (h.tN) (h.tL htn) (by decide) (h.tR htn) ?_
      refine s_iload_n (zdk hX8_account 23 rfl) rfl ?_
      refine s_callV0 (ci := 6) [.int (nI wn)] (zdk hX8_account 24 rfl) cw_X8_214 ((h.tS htn).1) (by decide) rfl rfl rfl (Nat.le_of_ble_eq_true rfl) (by decide) (c_X6_paidFor hl (h.tS htn) (k := wn) (by omega)) ?_
      refine s_topl (b := zpd (gp g tn) wn) (zpd_eq (by omega) (fun j hj => h.tp htn j hj)) ?_
      refine s_lreturn (zdk hX8_account 25 rfl) rfl  ?_
      first | (rw [if_pos d18]; exact ⟨(eo_p h1).trans ((eo_p h2).trans (rfl)), rfl, rfl⟩) | (rw [if_neg d18]; exact ⟨(eo_p h1).trans ((eo_p h2).trans (rfl)), rfl, rfl⟩)
    · refine s_aload_n (zdk hX8_account 13 rfl) rfl ?_
      refine s_getR (zdk hX8_account 14 rfl) fw_X8_40 rfl (hx.K) (show _ = some 630 from (hx.r (i := 4) rfl)) ?_
      refine s_iload_n (zdk hX8_account 15 rfl) rfl ?_
      refine s_callV0 (ci := 5) [.int (nI wn)] (zdk hX8_account 16 rfl) cw_X8_210 (h.K) (by decide) rfl rfl rfl (Nat.le_of_ble_eq_true rfl) (by decide) (c_X5_paidOnAll hl h (k9 := wn) (by omega)) ?_
      refine s_goto 45 (zdk hX8_account 17 rfl) (by decide) ?_
      refine s_lreturn (zdk hX8_account 25 rfl) rfl  ?_
      first | (rw [if_pos d18]; exact ⟨(eo_p h1).trans ((eo_p h2).trans (rfl)), rfl, rfl⟩) | (rw [if_neg d18]; exact ⟨(eo_p h1).trans ((eo_p h2).trans (rfl)), rfl, rfl⟩)
  · refine s_aload_n (zdk hX8_account 3 rfl) rfl ?_
    refine s_iload_n (zdk hX8_account 4 rfl) rfl ?_
    refine s_callVXa (ci := 8) [.int (x)] (zdk hX8_account 5 rfl) cw_X8_125 (hx.K) (by decide) rfl rfl rfl (Nat.le_of_ble_eq_true rfl) (by decide) (c_X8_requireTier hl hx h hf x) rfl (fun x9 M9 q9 => ?_) (fun v9 M9 q9 => ?_)
    · obtain ⟨e9, rfl⟩ := q9
      obtain ⟨e7, rfl⟩ := eo_x e9
      exact ⟨eo_n (fun q => by rcases q with q | q; exact c2 q; exact e7 q), rfl⟩
    obtain ⟨e9, r9, rfl⟩ := q9
    cases r9
    have h1 : x = (-1) ∨ inN x (gN g 2) := Or.inr (eo_r e9)
    refine s_iload_n (zdk hX8_account 6 rfl) rfl ?_
    refine s_iconstv (v := nI 0) (zdk hX8_account 7 rfl) zc_iconst_0 ?_
    refine s_iconstv (v := nI 3) (zdk hX8_account 8 rfl) zc_iconst_3 ?_
    refine s_callSXa [.int (w), .int (nI 0), .int (nI 3)] (zdk hX8_account 9 rfl) cw_X8_206 rfl (Nat.le_of_ble_eq_true rfl) (by decide) (c_X8_requireWithin hl hf w (nI 0) (nI 3)) rfl (fun x9 M9 q9 => ?_) (fun v9 M9 q9 => ?_)
    · obtain ⟨e9, rfl⟩ := q9
      obtain ⟨e7, rfl⟩ := eo_x e9
      exact ⟨(eo_p h1).trans (eo_n (fun q => e7 ((inN_in (n := 4) (m := 3) rfl (by omega)).mpr q))), rfl⟩
    obtain ⟨e9, r9, rfl⟩ := q9
    cases r9
    have h2 : inN w 4 := (inN_in (n := 4) (m := 3) rfl (by omega)).mp (eo_r e9)
    obtain ⟨wn, rfl, hwn⟩ := inN_nat h2 (by omega)
    rw [nI_clamp (show wn < 2 ^ 31 by omega)]
    refine s_iload_n (zdk hX8_account 10 rfl) rfl ?_
    refine s_iconstv (v := (-1)) (zdk hX8_account 11 rfl) zc_iconst_m1 ?_
    refine s_icmp_ne 32 (zdk hX8_account 12 rfl) (by decide) (fun d18 => ?_) (fun d18 => ?_)
    · obtain ⟨tn, rfl, htn⟩ := inN_nat (h1.resolve_left d18) (by omega)
      rw [nI_clamp (show tn < 2 ^ 31 by omega)]
      refine s_aload_n (zdk hX8_account 18 rfl) rfl ?_
      refine s_getR (zdk hX8_account 19 rfl) fw_X8_40 rfl (hx.K) (show _ = some 630 from (hx.r (i := 4) rfl)) ?_
      refine s_getR (zdk hX8_account 20 rfl) fw_X8_128 rfl (h.K) (h.r5) ?_
      refine s_iload_n (zdk hX8_account 21 rfl) rfl ?_
      refine s_aaloadN (N := 4) (j := tn) (zdk hX8_account 22 rfl) (h.tK) (by decide) (h.tN) (h.tL htn) (by decide) (h.tR htn) ?_
      refine s_iload_n (zdk hX8_account 23 rfl) rfl ?_
      refine s_callV0 (ci := 6) [.int (nI wn)] (zdk hX8_account 24 rfl) cw_X8_214 ((h.tS htn).1) (by decide) rfl rfl rfl (Nat.le_of_ble_eq_true rfl) (by decide) (c_X6_paidFor hl (h.tS htn) (k := wn) (by omega)) ?_
      refine s_topl (b := zpd (gp g tn) wn) (zpd_eq (by omega) (fun j hj => h.tp htn j hj)) ?_
      refine s_lreturn (zdk hX8_account 25 rfl) rfl  ?_
      first | (rw [if_pos d18]; exact ⟨(eo_p h1).trans ((eo_p h2).trans (rfl)), rfl, rfl⟩) | (rw [if_neg d18]; exact ⟨(eo_p h1).trans ((eo_p h2).trans (rfl)), rfl, rfl⟩)
    · refine s_aload_n (zdk hX8_account 13 rfl) rfl ?_
      refine s_getR (zdk hX8_account 14 rfl) fw_X8_40 rfl (hx.K) (show _ = some 630 from (hx.r (i := 4) rfl)) ?_
      refine s_iload_n (zdk hX8_account 15 rfl) rfl ?_
      refine s_callV0 (ci := 5) [.int (nI wn)] (zdk hX8_account 16 rfl) cw_X8_210 (h.K) (by decide) rfl rfl rfl (Nat.le_of_ble_eq_true rfl) (by decide) (c_X5_paidOnAll hl h (k9 := wn) (by omega)) ?_
      refine s_goto 45 (zdk hX8_account 17 rfl) (by decide) ?_
      refine s_lreturn (zdk hX8_account 25 rfl) rfl  ?_
      first | (rw [if_pos d18]; exact ⟨(eo_p h1).trans ((eo_p h2).trans (rfl)), rfl, rfl⟩) | (rw [if_neg d18]; exact ⟨(eo_p h1).trans ((eo_p h2).trans (rfl)), rfl, rfl⟩)
theorem c_X8_cost (hl : l.stackTraces = false) {M : zMem} {g : Nat → Int64} {p : Nat → Nat} (hx : xSh M) (h : rSt M 630 g p) (hf : zF M = 1) (f t n : Int32) : zCx2 l G mX8_cost 10 400 5 30 [.ref 0, .int (f), .int (t), .int (n)] M (zXr (eo (inN f (gN g 3)) 2 (eo (inN t (gN g 2)) 2 (eo (nI 1 ≤ n ∧ n ≤ nI 24) 1 none))) M (zP1 (some (.long (zco g (f).toNatClampNeg (t).toNatClampNeg (nI (n).toNatClampNeg) (zfsum g (f).toNatClampNeg (n).toNatClampNeg)))) M)) := by
  refine zCxr.of (ls0 := [some (.ref 0), some (.int (f)), some (.int (t)), some (.int (n))]) (by decide +kernel) rfl hl rfl (Nat.le_of_ble_eq_true rfl) hf (fun v9 M9 q9 => by rw [q9.2]) ?_
  have h20 := h.b.2.2.1.2
  have h4 := h.b.2.1.2
  have hcy := h.b.1.2.2
  have hcy2 := h.b.1.2.1
  have hpe := h.b.2.2.2.1.2
  refine s_aload_n (zdk hX8_cost 0 rfl) rfl ?_
  refine s_iload_n (zdk hX8_cost 1 rfl) rfl ?_
  refine s_callVXa (ci := 8) [.int (f)] (zdk hX8_cost 2 rfl) cw_X8_146 (hx.K) (by decide) rfl rfl rfl (Nat.le_of_ble_eq_true rfl) (by decide) (c_X8_requireFile hl hx h hf (f)) rfl (fun x9 M9 q9 => ?_) (fun v9 M9 q9 => ?_)
  · obtain ⟨e9, rfl⟩ := q9
    obtain ⟨e7, rfl⟩ := eo_x e9
    exact ⟨eo_n e7, rfl⟩
  obtain ⟨e9, r9, rfl⟩ := q9
  cases r9
  have h1 := eo_r e9
  obtain ⟨fn, rfl, hfn⟩ := inN_nat h1 (by omega)
  rw [nI_clamp (show fn < 2 ^ 31 by omega)]
  refine s_aload_n (zdk hX8_cost 3 rfl) rfl ?_
  refine s_iload_n (zdk hX8_cost 4 rfl) rfl ?_
  refine s_callVXa (ci := 8) [.int (t)] (zdk hX8_cost 5 rfl) cw_X8_125 (hx.K) (by decide) rfl rfl rfl (Nat.le_of_ble_eq_true rfl) (by decide) (c_X8_requireTier hl hx h hf (t)) rfl (fun x9 M9 q9 => ?_) (fun v9 M9 q9 => ?_)
  · obtain ⟨e9, rfl⟩ := q9
    obtain ⟨e7, rfl⟩ := eo_x e9
    exact ⟨(eo_p h1).trans (eo_n e7), rfl⟩
  obtain ⟨e9, r9, rfl⟩ := q9
  cases r9
  have h2 := eo_r e9
  obtain ⟨tn, rfl, htn⟩ := inN_nat h2 (by omega)
  rw [nI_clamp (show tn < 2 ^ 31 by omega)]
  refine s_iload_n (zdk hX8_cost 6 rfl) rfl ?_
  refine s_callSXa [.int (n)] (zdk hX8_cost 7 rfl) cw_X8_217 rfl (Nat.le_of_ble_eq_true rfl) (by decide) (c_X8_requirePeriods hl hf (n)) rfl (fun x9 M9 q9 => ?_) (fun v9 M9 q9 => ?_)
  · obtain ⟨e9, rfl⟩ := q9
    obtain ⟨e7, rfl⟩ := eo_x e9
    exact ⟨(eo_p h1).trans ((eo_p h2).trans (eo_n e7)), rfl⟩
  obtain ⟨e9, r9, rfl⟩ := q9
  cases r9
  have h3 := eo_r e9
  have hN : inN n 25 := ⟨Int32.le_trans (by decide) h3.1, Int32.lt_of_le_of_lt h3.2 (by decide)⟩
  obtain ⟨nn, rfl, hnn⟩ := inN_nat hN (by omega)
  rw [nI_clamp (show nn < 2 ^ 31 by omega)]
  refine s_aload_n (zdk hX8_cost 8 rfl) rfl ?_
  refine s_getR (zdk hX8_cost 9 rfl) fw_X8_40 rfl (hx.K) (show _ = some 630 from (hx.r (i := 4) rfl)) ?_
  refine s_iload_n (zdk hX8_cost 10 rfl) rfl ?_
  refine s_iload_n (zdk hX8_cost 11 rfl) rfl ?_
  refine s_iload_n (zdk hX8_cost 12 rfl) rfl ?_
  refine s_aload_n (zdk hX8_cost 13 rfl) rfl ?_
  refine s_getR (zdk hX8_cost 14 rfl) fw_X8_40 rfl (hx.K) (show _ = some 630 from (hx.r (i := 4) rfl)) ?_
  refine s_iload_n (zdk hX8_cost 15 rfl) rfl ?_
  refine s_iload_n (zdk hX8_cost 16 rfl) rfl ?_
  refine s_callV0 (ci := 5) [.int (nI fn), .int (nI nn)] (zdk hX8_cost 17 rfl) cw_X8_220 (h.K) (by decide) rfl rfl rfl (Nat.le_of_ble_eq_true rfl) (by decide) (c_X5_forecastSum hl h hfn (n := nn) (by omega)) ?_
  refine s_callV0 (ci := 5) [.int (nI fn), .int (nI tn), .int (nI nn), .long (zfsum g fn nn)] (zdk hX8_cost 18 rfl) cw_X8_224 (h.K) (by decide) rfl rfl rfl (Nat.le_of_ble_eq_true rfl) (by decide) (c_X5_costOn hl h hfn htn (nI nn) (zfsum g fn nn)) ?_
  refine s_lreturn (zdk hX8_cost 19 rfl) rfl  ?_
  exact ⟨(eo_p h1).trans ((eo_p h2).trans ((eo_p h3).trans (rfl))), rfl, rfl⟩
end
