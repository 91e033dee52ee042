theorem zc_bipush_m10 : (Int8.ofInt (-10)).toInt32 = (-10) := by decide
theorem zc_sipush_999 : (Int16.ofInt 999).toInt32 = nI 999 := by decide
theorem zc_sipush_9999 : (Int16.ofInt 9999).toInt32 = nI 9999 := by decide
/-! ===== the reference: its public changes ===== -/
/-- behind keeps(a): what is kept -/
def KP (M : zMem) (c : Nat) (g : Nat → Int64) : zMem := zsL (zsI (zsI M 941 6 (nI 0)) 941 5 (nI (min 8 (c + 1)))) 944 (kQ c (zJ M 944) g)
section
variable {l : Launch} {G : zG}
theorem c_keeps0 (hl : l.stackTraces = false) {M : zMem} (hm : mSh M) {g : Nat → Int64} {c : Nat} (hc : zI M 941 5 = nI c) (hc8 : c ≤ 8) : zCm l G mX9_keeps 1 30 0 0 [.ref 941, .ref 942] (zsL (zsI M 941 6 (nI 0)) 942 g) (zD none (zsL (KP M c g) 942 g)) :=
  c_X9_keepsA hl (M := zsI M 941 6 (nI 0)) hm ((congrFun (zI_Ie (M := M) (a := 941) (k := 6) (v := nI 0)) 5).trans ((zw1_n (by decide)).trans hc)) hc8
theorem c_X9_refused (hl : l.stackTraces = false) (M : zMem) (k : Int32) : zCm l G mX9_refused 0 0 0 0 [.int k] M (zD (some (.int ((-10) - k))) M) := by
  refine zCd.of (ls0 := [some (.int k)]) (by decide +kernel) rfl hl rfl (Nat.le_of_ble_eq_true rfl) rfl ?_
  refine s_bipushv (v := (-10)) (zdk hX9_refused 0 rfl) zc_bipush_m10 ?_
  refine s_iload_n (zdk hX9_refused 1 rfl) rfl ?_
  refine s_isub (zdk hX9_refused 2 rfl) ?_
  refine s_ireturn (zdk hX9_refused 3 rfl) rfl rfl ?_
  exact ⟨rfl, rfl⟩
theorem c_X9_isSpan (hl : l.stackTraces = false) (M : zMem) (v : Int32) : zCm l G mX9_isSpan 1 22 0 0 [.int v] M (zD (some (.int (if nI 1 ≤ v ∧ v ≤ nI 24 then nI 1 else nI 0))) M) := by
  refine zCd.of (ls0 := [some (.int v)]) (by decide +kernel) rfl hl rfl (Nat.le_of_ble_eq_true rfl) rfl ?_
  refine s_iload_n (zdk hX9_isSpan 0 rfl) rfl ?_
  refine s_iconstv (v := nI 1) (zdk hX9_isSpan 1 rfl) zc_iconst_1 ?_
  refine s_bipushv (v := nI 24) (zdk hX9_isSpan 2 rfl) zc_bipush_24 ?_
  refine s_callS0 [.int (v), .int (nI 1), .int (nI 24)] (zdk hX9_isSpan 3 rfl) cw_X9_79 rfl (Nat.le_of_ble_eq_true rfl) (by decide) (c_X9_isIn hl M (v) (nI 1) (nI 24)) ?_
  refine s_ireturn (zdk hX9_isSpan 4 rfl) rfl nar01 ?_
  exact ⟨rfl, rfl⟩
theorem c_X9_use_x (hl : l.stackTraces = false) {M : zMem} (hm : mSh M) {g : Nat → Int64} (hb : gBd g) (f u : Int32) (hx : ¬ (inN f (gN g 3) ∧ (nI 1 ≤ u ∧ u ≤ nI 9999))) : zCm l G mX9_use 3 70 0 0 [.ref 941, .int (f), .int (u)] (zsL M 942 g) (zD (some (.int (nI 0))) (zsL (zsI M 941 6 (nI (t2 (inN f (gN g 3)) (nI 1 ≤ u ∧ u ≤ nI 9999) 1 2))) 942 g)) := by
  refine zCd.of (ls0 := [some (.ref 941), some (.int (f)), some (.int (u))]) (by decide +kernel) rfl hl rfl (Nat.le_of_ble_eq_true rfl) rfl ?_
  have hn2 := hb.2.2.1.2
  have ht4 := hb.2.1.2
  have hcy := hb.1.2.2
  have hpe := hb.2.2.2.1.2
  refine s_aload_n (zdk hX9_use 0 rfl) rfl ?_
  refine s_aload_n (zdk hX9_use 1 rfl) rfl ?_
  refine s_iload_n (zdk hX9_use 2 rfl) rfl ?_
  refine s_callV0 (ci := 9) [.int (f)] (zdk hX9_use 3 rfl) cw_X9_254 (hm.1) (by decide) rfl rfl rfl (Nat.le_of_ble_eq_true rfl) (by decide) (c_X9_isFile hl (M := M) (g := g) hm hb (f)) ?_
  refine s_if_ne 13 (zdk hX9_use 4 rfl) (by decide) (fun c6 => ?_) (fun c6 => ?_)
  · have b6 : inN (f) (gN g 3) := b01_ne c6
    refine s_iload_n (zdk hX9_use 7 rfl) rfl ?_
    refine s_iconstv (v := nI 1) (zdk hX9_use 8 rfl) zc_iconst_1 ?_
    refine s_sipushv (v := nI 9999) (zdk hX9_use 9 rfl) zc_sipush_9999 ?_
    refine s_callS0 [.int (u), .int (nI 1), .int (nI 9999)] (zdk hX9_use 10 rfl) cw_X9_79 rfl (Nat.le_of_ble_eq_true rfl) (by decide) (c_X9_isIn hl (zsL M 942 g) (u) (nI 1) (nI 9999)) ?_
    refine s_if_eq 28 (zdk hX9_use 11 rfl) (by decide) (fun c21 => ?_) (fun c21 => ?_)
    · have b21 : ¬ (nI 1 ≤ u ∧ u ≤ nI 9999) := b01_eq c21
      refine s_iconstv (v := nI 2) (zdk hX9_use 14 rfl) zc_iconst_2 ?_
      refine s_putI (zdk hX9_use 15 rfl) fw_X9_69 rfl pw_9_6 (hm.1) ?_
      refine s_mem (M' := (zsL (zsI M 941 6 (nI 2)) 942 g)) rfl ?_
      refine s_aload_n (zdk hX9_use 16 rfl) rfl ?_
      refine s_getI (zdk hX9_use 17 rfl) fw_X9_69 rfl (hm.1) ?_
      refine s_topi (b := nI 2) ((congrFun (zI_Ie (M := M) (a := 941) (k := 6) (v := (nI 2))) 6).trans zw1_e) ?_
      refine s_if_le 41 (zdk hX9_use 18 rfl) (by decide) (fun c36 => ?_) (fun c36 => ?_)
      · exact absurd c36 (by decide)
      · refine s_iconstv (v := nI 0) (zdk hX9_use 19 rfl) zc_iconst_0 ?_
        refine s_ireturn (zdk hX9_use 20 rfl) rfl rfl ?_
        first | (rw [t2_2 b6 b21]; exact ⟨rfl, rfl⟩) | (rw [t2_1 b6]; exact ⟨rfl, rfl⟩)
    · have b21 : nI 1 ≤ u ∧ u ≤ nI 9999 := b01_ne c21
      refine s_iconstv (v := nI 0) (zdk hX9_use 12 rfl) zc_iconst_0 ?_
      refine s_goto 29 (zdk hX9_use 13 rfl) (by decide) ?_
      refine s_putI (zdk hX9_use 15 rfl) fw_X9_69 rfl pw_9_6 (hm.1) ?_
      refine s_mem (M' := (zsL (zsI M 941 6 (nI 0)) 942 g)) rfl ?_
      refine s_aload_n (zdk hX9_use 16 rfl) rfl ?_
      refine s_getI (zdk hX9_use 17 rfl) fw_X9_69 rfl (hm.1) ?_
      refine s_topi (b := nI 0) ((congrFun (zI_Ie (M := M) (a := 941) (k := 6) (v := (nI 0))) 6).trans zw1_e) ?_
      refine s_if_le 41 (zdk hX9_use 18 rfl) (by decide) (fun c36 => ?_) (fun c36 => ?_)
      · exact absurd ⟨b6, b21⟩ hx
      · exact absurd (by decide) c36
  · have b6 : ¬ (inN (f) (gN g 3)) := b01_eq c6
    refine s_iconstv (v := nI 1) (zdk hX9_use 5 rfl) zc_iconst_1 ?_
    refine s_goto 29 (zdk hX9_use 6 rfl) (by decide) ?_
    refine s_putI (zdk hX9_use 15 rfl) fw_X9_69 rfl pw_9_6 (hm.1) ?_
    refine s_mem (M' := (zsL (zsI M 941 6 (nI 1)) 942 g)) rfl ?_
    refine s_aload_n (zdk hX9_use 16 rfl) rfl ?_
    refine s_getI (zdk hX9_use 17 rfl) fw_X9_69 rfl (hm.1) ?_
    refine s_topi (b := nI 1) ((congrFun (zI_Ie (M := M) (a := 941) (k := 6) (v := (nI 1))) 6).trans zw1_e) ?_
    refine s_if_le 41 (zdk hX9_use 18 rfl) (by decide) (fun c36 => ?_) (fun c36 => ?_)
    · exact absurd c36 (by decide)
    · refine s_iconstv (v := nI 0) (zdk hX9_use 19 rfl) zc_iconst_0 ?_
      refine s_ireturn (zdk hX9_use 20 rfl) rfl rfl ?_
      first | (rw [t2_2 b6 b21]; exact ⟨rfl, rfl⟩) | (rw [t2_1 b6]; exact ⟨rfl, rfl⟩)
theorem c_X9_use_r (hl : l.stackTraces = false) {M : zMem} (hm : mSh M) {g : Nat → Int64} (hb : gBd g) {f : Nat} (hf : f < gN g 3) {u : Int32} (hu : nI 1 ≤ u ∧ u ≤ nI 9999) (hr : ¬ gf g f 2 + u ≤ nI 9999) : zCm l G mX9_use 3 70 0 0 [.ref 941, .int (nI f), .int (u)] (zsL M 942 g) (zD (some (.int (-18))) (zsL (zsI M 941 6 (nI 0)) 942 g)) := by
  refine zCd.of (ls0 := [some (.ref 941), some (.int (nI f)), some (.int (u))]) (by decide +kernel) rfl hl rfl (Nat.le_of_ble_eq_true rfl) rfl ?_
  have hn2 := hb.2.2.1.2
  have ht4 := hb.2.1.2
  have hcy := hb.1.2.2
  have hpe := hb.2.2.2.1.2
  refine s_aload_n (zdk hX9_use 0 rfl) rfl ?_
  refine s_aload_n (zdk hX9_use 1 rfl) rfl ?_
  refine s_iload_n (zdk hX9_use 2 rfl) rfl ?_
  refine s_callV0 (ci := 9) [.int (nI f)] (zdk hX9_use 3 rfl) cw_X9_254 (hm.1) (by decide) rfl rfl rfl (Nat.le_of_ble_eq_true rfl) (by decide) (c_X9_isFile hl (M := M) (g := g) hm hb (nI f)) ?_
  refine s_if_ne 13 (zdk hX9_use 4 rfl) (by decide) (fun c6 => ?_) (fun c6 => ?_)
  · have b6 : inN (nI f) (gN g 3) := b01_ne c6
    refine s_iload_n (zdk hX9_use 7 rfl) rfl ?_
    refine s_iconstv (v := nI 1) (zdk hX9_use 8 rfl) zc_iconst_1 ?_
    refine s_sipushv (v := nI 9999) (zdk hX9_use 9 rfl) zc_sipush_9999 ?_
    refine s_callS0 [.int (u), .int (nI 1), .int (nI 9999)] (zdk hX9_use 10 rfl) cw_X9_79 rfl (Nat.le_of_ble_eq_true rfl) (by decide) (c_X9_isIn hl (zsL M 942 g) (u) (nI 1) (nI 9999)) ?_
    refine s_if_eq 28 (zdk hX9_use 11 rfl) (by decide) (fun c21 => ?_) (fun c21 => ?_)
    · have b21 : ¬ (nI 1 ≤ u ∧ u ≤ nI 9999) := b01_eq c21
      exact absurd hu b21
    · have b21 : nI 1 ≤ u ∧ u ≤ nI 9999 := b01_ne c21
      refine s_iconstv (v := nI 0) (zdk hX9_use 12 rfl) zc_iconst_0 ?_
      refine s_goto 29 (zdk hX9_use 13 rfl) (by decide) ?_
      refine s_putI (zdk hX9_use 15 rfl) fw_X9_69 rfl pw_9_6 (hm.1) ?_
      refine s_mem (M' := (zsL (zsI M 941 6 (nI 0)) 942 g)) rfl ?_
      refine s_aload_n (zdk hX9_use 16 rfl) rfl ?_
      refine s_getI (zdk hX9_use 17 rfl) fw_X9_69 rfl (hm.1) ?_
      refine s_topi (b := nI 0) ((congrFun (zI_Ie (M := M) (a := 941) (k := 6) (v := (nI 0))) 6).trans zw1_e) ?_
      refine s_if_le 41 (zdk hX9_use 18 rfl) (by decide) (fun c36 => ?_) (fun c36 => ?_)
      · refine s_aload_n (zdk hX9_use 21 rfl) rfl ?_
        refine s_iload_n (zdk hX9_use 22 rfl) rfl ?_
        refine s_iconstv (v := nI 2) (zdk hX9_use 23 rfl) zc_iconst_2 ?_
        refine s_callV0 (ci := 9) [.int (nI f), .int (nI 2)] (zdk hX9_use 24 rfl) cw_X9_211 (hm.1) (by decide) rfl rfl rfl (Nat.le_of_ble_eq_true rfl) (by decide) (c_X9_of hl (M := (zsI M 941 6 (nI 0))) (g := g) hm (f := f) (k := 2) (by omega)) ?_
        refine s_iload_n (zdk hX9_use 25 rfl) rfl ?_
        refine s_iadd (zdk hX9_use 26 rfl) ?_
        refine s_sipushv (v := nI 9999) (zdk hX9_use 27 rfl) zc_sipush_9999 ?_
        refine s_icmp_le 61 (zdk hX9_use 28 rfl) (by decide) (fun c52 => ?_) (fun c52 => ?_)
        · exact absurd c52 hr
        · refine s_bipushv (v := nI 8) (zdk hX9_use 29 rfl) zc_bipush_8 ?_
          refine s_callS0 [.int (nI 8)] (zdk hX9_use 30 rfl) cw_X9_326 rfl (Nat.le_of_ble_eq_true rfl) (by decide) (c_X9_refused hl (zsL (zsI M 941 6 (nI 0)) 942 g) (nI 8)) ?_
          refine s_topi (b := (-18)) (by decide) ?_
          refine s_ireturn (zdk hX9_use 31 rfl) rfl rfl ?_
          exact ⟨rfl, rfl⟩
      · exact absurd (by decide) c36
  · have b6 : ¬ (inN (nI f) (gN g 3)) := b01_eq c6
    exact absurd (inN_of hf (by omega)) b6
theorem c_X9_use (hl : l.stackTraces = false) {M : zMem} (hm : mSh M) {g : Nat → Int64} (hb : gBd g) {f : Nat} (hf : f < gN g 3) {u : Int32} (hu : nI 1 ≤ u ∧ u ≤ nI 9999) {c : Nat} (hc : zI M 941 5 = nI c) (hc8 : c ≤ 8) (hr : gf g f 2 + u ≤ nI 9999) : zCm l G mX9_use 3 70 0 0 [.ref 941, .int (nI f), .int (u)] (zsL M 942 g) (zD (some (.int (gf g f 2 + u))) (zsL (KP M c g) 942 (zwL g (58 + 51 * f + 2) (gf g f 2 + u).toInt64))) := by
  refine zCd.of (ls0 := [some (.ref 941), some (.int (nI f)), some (.int (u))]) (by decide +kernel) rfl hl rfl (Nat.le_of_ble_eq_true rfl) rfl ?_
  have hn2 := hb.2.2.1.2
  have ht4 := hb.2.1.2
  have hcy := hb.1.2.2
  have hpe := hb.2.2.2.1.2
  refine s_aload_n (zdk hX9_use 0 rfl) rfl ?_
  refine s_aload_n (zdk hX9_use 1 rfl) rfl ?_
  refine s_iload_n (zdk hX9_use 2 rfl) rfl ?_
  refine s_callV0 (ci := 9) [.int (nI f)] (zdk hX9_use 3 rfl) cw_X9_254 (hm.1) (by decide) rfl rfl rfl (Nat.le_of_ble_eq_true rfl) (by decide) (c_X9_isFile hl (M := M) (g := g) hm hb (nI f)) ?_
  refine s_if_ne 13 (zdk hX9_use 4 rfl) (by decide) (fun c6 => ?_) (fun c6 => ?_)
  · have b6 : inN (nI f) (gN g 3) := b01_ne c6
    refine s_iload_n (zdk hX9_use 7 rfl) rfl ?_
    refine s_iconstv (v := nI 1) (zdk hX9_use 8 rfl) zc_iconst_1 ?_
    refine s_sipushv (v := nI 9999) (zdk hX9_use 9 rfl) zc_sipush_9999 ?_
    refine s_callS0 [.int (u), .int (nI 1), .int (nI 9999)] (zdk hX9_use 10 rfl) cw_X9_79 rfl (Nat.le_of_ble_eq_true rfl) (by decide) (c_X9_isIn hl (zsL M 942 g) (u) (nI 1) (nI 9999)) ?_
    refine s_if_eq 28 (zdk hX9_use 11 rfl) (by decide) (fun c21 => ?_) (fun c21 => ?_)
    · have b21 : ¬ (nI 1 ≤ u ∧ u ≤ nI 9999) := b01_eq c21
      exact absurd hu b21
    · have b21 : nI 1 ≤ u ∧ u ≤ nI 9999 := b01_ne c21
      refine s_iconstv (v := nI 0) (zdk hX9_use 12 rfl) zc_iconst_0 ?_
      refine s_goto 29 (zdk hX9_use 13 rfl) (by decide) ?_
      refine s_putI (zdk hX9_use 15 rfl) fw_X9_69 rfl pw_9_6 (hm.1) ?_
      refine s_mem (M' := (zsL (zsI M 941 6 (nI 0)) 942 g)) rfl ?_
      refine s_aload_n (zdk hX9_use 16 rfl) rfl ?_
      refine s_getI (zdk hX9_use 17 rfl) fw_X9_69 rfl (hm.1) ?_
      refine s_topi (b := nI 0) ((congrFun (zI_Ie (M := M) (a := 941) (k := 6) (v := (nI 0))) 6).trans zw1_e) ?_
      refine s_if_le 41 (zdk hX9_use 18 rfl) (by decide) (fun c36 => ?_) (fun c36 => ?_)
      · refine s_aload_n (zdk hX9_use 21 rfl) rfl ?_
        refine s_iload_n (zdk hX9_use 22 rfl) rfl ?_
        refine s_iconstv (v := nI 2) (zdk hX9_use 23 rfl) zc_iconst_2 ?_
        refine s_callV0 (ci := 9) [.int (nI f), .int (nI 2)] (zdk hX9_use 24 rfl) cw_X9_211 (hm.1) (by decide) rfl rfl rfl (Nat.le_of_ble_eq_true rfl) (by decide) (c_X9_of hl (M := (zsI M 941 6 (nI 0))) (g := g) hm (f := f) (k := 2) (by omega)) ?_
        refine s_iload_n (zdk hX9_use 25 rfl) rfl ?_
        refine s_iadd (zdk hX9_use 26 rfl) ?_
        refine s_sipushv (v := nI 9999) (zdk hX9_use 27 rfl) zc_sipush_9999 ?_
        refine s_icmp_le 61 (zdk hX9_use 28 rfl) (by decide) (fun c52 => ?_) (fun c52 => ?_)
        · refine s_aload_n (zdk hX9_use 32 rfl) rfl ?_
          refine s_aload_n (zdk hX9_use 33 rfl) rfl ?_
          refine s_getR (zdk hX9_use 34 rfl) fw_X9_7 rfl (hm.1) (show _ = some 942 from (hm.r (i := 0) rfl).1) ?_
          refine s_callV0 (ci := 9) [.ref 942] (zdk hX9_use 35 rfl) cw_X9_83 (hm.1) (by decide) rfl rfl rfl (Nat.le_of_ble_eq_true rfl) (by decide) (c_keeps0 hl hm hc hc8) ?_
          refine s_aload_n (zdk hX9_use 36 rfl) rfl ?_
          refine s_iload_n (zdk hX9_use 37 rfl) rfl ?_
          refine s_iconstv (v := nI 2) (zdk hX9_use 38 rfl) zc_iconst_2 ?_
          refine s_aload_n (zdk hX9_use 39 rfl) rfl ?_
          refine s_iload_n (zdk hX9_use 40 rfl) rfl ?_
          refine s_iconstv (v := nI 2) (zdk hX9_use 41 rfl) zc_iconst_2 ?_
          refine s_callV0 (ci := 9) [.int (nI f), .int (nI 2)] (zdk hX9_use 42 rfl) cw_X9_211 (hm.1) (by decide) rfl rfl rfl (Nat.le_of_ble_eq_true rfl) (by decide) (c_X9_of hl (M := (KP M c g)) (g := g) hm (f := f) (k := 2) (by omega)) ?_
          refine s_iload_n (zdk hX9_use 43 rfl) rfl ?_
          refine s_iadd (zdk hX9_use 44 rfl) ?_
          refine s_i2l (zdk hX9_use 45 rfl) ?_
          refine s_callV0 (ci := 9) [.int (nI f), .int (nI 2), .long (((gf g f 2) + (u)).toInt64)] (zdk hX9_use 46 rfl) cw_X9_193 (hm.1) (by decide) rfl rfl rfl (Nat.le_of_ble_eq_true rfl) (by decide) (c_X9_sets hl (M := (KP M c g)) (g := g) hm (f := f) (k := 2) (E := 58 + 51 * f + 2) (by omega) (by omega) (((gf g f 2) + (u)).toInt64)) ?_
          refine s_aload_n (zdk hX9_use 47 rfl) rfl ?_
          refine s_iload_n (zdk hX9_use 48 rfl) rfl ?_
          refine s_iconstv (v := nI 2) (zdk hX9_use 49 rfl) zc_iconst_2 ?_
          refine s_callV0 (ci := 9) [.int (nI f), .int (nI 2)] (zdk hX9_use 50 rfl) cw_X9_211 (hm.1) (by decide) rfl rfl rfl (Nat.le_of_ble_eq_true rfl) (by decide) (c_X9_of hl (M := (KP M c g)) (g := (zwL g (58 + 51 * f + 2) (((gf g f 2) + (u)).toInt64))) hm (f := f) (k := 2) (by omega)) ?_
          refine s_topi (b := gf g f 2 + u) (its_e.trans (i64 _)) ?_
          refine s_ireturn (zdk hX9_use 51 rfl) rfl rfl ?_
          exact ⟨rfl, rfl⟩
        · exact absurd hr c52
      · exact absurd (by decide) c36
  · have b6 : ¬ (inN (nI f) (gN g 3)) := b01_eq c6
    exact absurd (inN_of hf (by omega)) b6
theorem c_X9_pin_x (hl : l.stackTraces = false) {M : zMem} (hm : mSh M) {g : Nat → Int64} (hb : gBd g) (f u : Int32) (hx : ¬ (inN f (gN g 3) ∧ (nI 0 ≤ u ∧ u ≤ nI 9999))) : zCm l G mX9_pin 3 70 0 0 [.ref 941, .int (f), .int (u)] (zsL M 942 g) (zD (some (.int (nI 0))) (zsL (zsI M 941 6 (nI (t2 (inN f (gN g 3)) (nI 0 ≤ u ∧ u ≤ nI 9999) 1 2))) 942 g)) := by
  refine zCd.of (ls0 := [some (.ref 941), some (.int (f)), some (.int (u)), none]) (by decide +kernel) rfl hl rfl (Nat.le_of_ble_eq_true rfl) rfl ?_
  have hn2 := hb.2.2.1.2
  have ht4 := hb.2.1.2
  have hcy := hb.1.2.2
  have hpe := hb.2.2.2.1.2
  refine s_aload_n (zdk hX9_pin 0 rfl) rfl ?_
  refine s_aload_n (zdk hX9_pin 1 rfl) rfl ?_
  refine s_iload_n (zdk hX9_pin 2 rfl) rfl ?_
  refine s_callV0 (ci := 9) [.int (f)] (zdk hX9_pin 3 rfl) cw_X9_254 (hm.1) (by decide) rfl rfl rfl (Nat.le_of_ble_eq_true rfl) (by decide) (c_X9_isFile hl (M := M) (g := g) hm hb (f)) ?_
  refine s_if_ne 13 (zdk hX9_pin 4 rfl) (by decide) (fun c6 => ?_) (fun c6 => ?_)
  · have b6 : inN (f) (gN g 3) := b01_ne c6
    refine s_iload_n (zdk hX9_pin 7 rfl) rfl ?_
    refine s_iconstv (v := nI 0) (zdk hX9_pin 8 rfl) zc_iconst_0 ?_
    refine s_sipushv (v := nI 9999) (zdk hX9_pin 9 rfl) zc_sipush_9999 ?_
    refine s_callS0 [.int (u), .int (nI 0), .int (nI 9999)] (zdk hX9_pin 10 rfl) cw_X9_79 rfl (Nat.le_of_ble_eq_true rfl) (by decide) (c_X9_isIn hl (zsL M 942 g) (u) (nI 0) (nI 9999)) ?_
    refine s_if_eq 28 (zdk hX9_pin 11 rfl) (by decide) (fun c21 => ?_) (fun c21 => ?_)
    · have b21 : ¬ (nI 0 ≤ u ∧ u ≤ nI 9999) := b01_eq c21
      refine s_iconstv (v := nI 2) (zdk hX9_pin 14 rfl) zc_iconst_2 ?_
      refine s_putI (zdk hX9_pin 15 rfl) fw_X9_69 rfl pw_9_6 (hm.1) ?_
      refine s_mem (M' := (zsL (zsI M 941 6 (nI 2)) 942 g)) rfl ?_
      refine s_aload_n (zdk hX9_pin 16 rfl) rfl ?_
      refine s_getI (zdk hX9_pin 17 rfl) fw_X9_69 rfl (hm.1) ?_
      refine s_topi (b := nI 2) ((congrFun (zI_Ie (M := M) (a := 941) (k := 6) (v := (nI 2))) 6).trans zw1_e) ?_
      refine s_if_le 41 (zdk hX9_pin 18 rfl) (by decide) (fun c36 => ?_) (fun c36 => ?_)
      · exact absurd c36 (by decide)
      · refine s_iconstv (v := nI 0) (zdk hX9_pin 19 rfl) zc_iconst_0 ?_
        refine s_ireturn (zdk hX9_pin 20 rfl) rfl rfl ?_
        first | (rw [t2_2 b6 b21]; exact ⟨rfl, rfl⟩) | (rw [t2_1 b6]; exact ⟨rfl, rfl⟩)
    · have b21 : nI 0 ≤ u ∧ u ≤ nI 9999 := b01_ne c21
      refine s_iconstv (v := nI 0) (zdk hX9_pin 12 rfl) zc_iconst_0 ?_
      refine s_goto 29 (zdk hX9_pin 13 rfl) (by decide) ?_
      refine s_putI (zdk hX9_pin 15 rfl) fw_X9_69 rfl pw_9_6 (hm.1) ?_
      refine s_mem (M' := (zsL (zsI M 941 6 (nI 0)) 942 g)) rfl ?_
      refine s_aload_n (zdk hX9_pin 16 rfl) rfl ?_
      refine s_getI (zdk hX9_pin 17 rfl) fw_X9_69 rfl (hm.1) ?_
      refine s_topi (b := nI 0) ((congrFun (zI_Ie (M := M) (a := 941) (k := 6) (v := (nI 0))) 6).trans zw1_e) ?_
      refine s_if_le 41 (zdk hX9_pin 18 rfl) (by decide) (fun c36 => ?_) (fun c36 => ?_)
      · exact absurd ⟨b6, b21⟩ hx
      · exact absurd (by decide) c36
  · have b6 : ¬ (inN (f) (gN g 3)) := b01_eq c6
    refine s_iconstv (v := nI 1) (zdk hX9_pin 5 rfl) zc_iconst_1 ?_
    refine s_goto 29 (zdk hX9_pin 6 rfl) (by decide) ?_
    refine s_putI (zdk hX9_pin 15 rfl) fw_X9_69 rfl pw_9_6 (hm.1) ?_
    refine s_mem (M' := (zsL (zsI M 941 6 (nI 1)) 942 g)) rfl ?_
    refine s_aload_n (zdk hX9_pin 16 rfl) rfl ?_
    refine s_getI (zdk hX9_pin 17 rfl) fw_X9_69 rfl (hm.1) ?_
    refine s_topi (b := nI 1) ((congrFun (zI_Ie (M := M) (a := 941) (k := 6) (v := (nI 1))) 6).trans zw1_e) ?_
    refine s_if_le 41 (zdk hX9_pin 18 rfl) (by decide) (fun c36 => ?_) (fun c36 => ?_)
    · exact absurd c36 (by decide)
    · refine s_iconstv (v := nI 0) (zdk hX9_pin 19 rfl) zc_iconst_0 ?_
      refine s_ireturn (zdk hX9_pin 20 rfl) rfl rfl ?_
      first | (rw [t2_2 b6 b21]; exact ⟨rfl, rfl⟩) | (rw [t2_1 b6]; exact ⟨rfl, rfl⟩)
theorem c_X9_pin (hl : l.stackTraces = false) {M : zMem} (hm : mSh M) {g : Nat → Int64} (hb : gBd g) {f : Nat} (hf : f < gN g 3) {u : Int32} (hu : nI 0 ≤ u ∧ u ≤ nI 9999) {c : Nat} (hc : zI M 941 5 = nI c) (hc8 : c ≤ 8) : zCm l G mX9_pin 3 70 0 0 [.ref 941, .int (nI f), .int (u)] (zsL M 942 g) (zD (some (.int (gf g f 3))) (zsL (KP M c g) 942 (zwL g (58 + 51 * f + 3) u.toInt64))) := by
  refine zCd.of (ls0 := [some (.ref 941), some (.int (nI f)), some (.int (u)), none]) (by decide +kernel) rfl hl rfl (Nat.le_of_ble_eq_true rfl) rfl ?_
  have hn2 := hb.2.2.1.2
  have ht4 := hb.2.1.2
  have hcy := hb.1.2.2
  have hpe := hb.2.2.2.1.2
  refine s_aload_n (zdk hX9_pin 0 rfl) rfl ?_
  refine s_aload_n (zdk hX9_pin 1 rfl) rfl ?_
  refine s_iload_n (zdk hX9_pin 2 rfl) rfl ?_
  refine s_callV0 (ci := 9) [.int (nI f)] (zdk hX9_pin 3 rfl) cw_X9_254 (hm.1) (by decide) rfl rfl rfl (Nat.le_of_ble_eq_true rfl) (by decide) (c_X9_isFile hl (M := M) (g := g) hm hb (nI f)) ?_
  refine s_if_ne 13 (zdk hX9_pin 4 rfl) (by decide) (fun c6 => ?_) (fun c6 => ?_)
  · have b6 : inN (nI f) (gN g 3) := b01_ne c6
    refine s_iload_n (zdk hX9_pin 7 rfl) rfl ?_
    refine s_iconstv (v := nI 0) (zdk hX9_pin 8 rfl) zc_iconst_0 ?_
    refine s_sipushv (v := nI 9999) (zdk hX9_pin 9 rfl) zc_sipush_9999 ?_
    refine s_callS0 [.int (u), .int (nI 0), .int (nI 9999)] (zdk hX9_pin 10 rfl) cw_X9_79 rfl (Nat.le_of_ble_eq_true rfl) (by decide) (c_X9_isIn hl (zsL M 942 g) (u) (nI 0) (nI 9999)) ?_
    refine s_if_eq 28 (zdk hX9_pin 11 rfl) (by decide) (fun c21 => ?_) (fun c21 => ?_)
    · have b21 : ¬ (nI 0 ≤ u ∧ u ≤ nI 9999) := b01_eq c21
      exact absurd hu b21
    · have b21 : nI 0 ≤ u ∧ u ≤ nI 9999 := b01_ne c21
      refine s_iconstv (v := nI 0) (zdk hX9_pin 12 rfl) zc_iconst_0 ?_
      refine s_goto 29 (zdk hX9_pin 13 rfl) (by decide) ?_
      refine s_putI (zdk hX9_pin 15 rfl) fw_X9_69 rfl pw_9_6 (hm.1) ?_
      refine s_mem (M' := (zsL (zsI M 941 6 (nI 0)) 942 g)) rfl ?_
      refine s_aload_n (zdk hX9_pin 16 rfl) rfl ?_
      refine s_getI (zdk hX9_pin 17 rfl) fw_X9_69 rfl (hm.1) ?_
      refine s_topi (b := nI 0) ((congrFun (zI_Ie (M := M) (a := 941) (k := 6) (v := (nI 0))) 6).trans zw1_e) ?_
      refine s_if_le 41 (zdk hX9_pin 18 rfl) (by decide) (fun c36 => ?_) (fun c36 => ?_)
      · refine s_aload_n (zdk hX9_pin 21 rfl) rfl ?_
        refine s_aload_n (zdk hX9_pin 22 rfl) rfl ?_
        refine s_getR (zdk hX9_pin 23 rfl) fw_X9_7 rfl (hm.1) (show _ = some 942 from (hm.r (i := 0) rfl).1) ?_
        refine s_callV0 (ci := 9) [.ref 942] (zdk hX9_pin 24 rfl) cw_X9_83 (hm.1) (by decide) rfl rfl rfl (Nat.le_of_ble_eq_true rfl) (by decide) (c_keeps0 hl hm hc hc8) ?_
        refine s_aload_n (zdk hX9_pin 25 rfl) rfl ?_
        refine s_iload_n (zdk hX9_pin 26 rfl) rfl ?_
        refine s_iconstv (v := nI 3) (zdk hX9_pin 27 rfl) zc_iconst_3 ?_
        refine s_callV0 (ci := 9) [.int (nI f), .int (nI 3)] (zdk hX9_pin 28 rfl) cw_X9_211 (hm.1) (by decide) rfl rfl rfl (Nat.le_of_ble_eq_true rfl) (by decide) (c_X9_of hl (M := (KP M c g)) (g := g) hm (f := f) (k := 3) (by omega)) ?_
        refine s_istore_n (zdk hX9_pin 29 rfl) (Nat.le_of_ble_eq_true rfl) ?_
        refine s_ls (ls' := [some (.ref 941), some (.int (nI f)), some (.int (u)), some (.int (gf g f 3))]) rfl ?_
        refine s_aload_n (zdk hX9_pin 30 rfl) rfl ?_
        refine s_iload_n (zdk hX9_pin 31 rfl) rfl ?_
        refine s_iconstv (v := nI 3) (zdk hX9_pin 32 rfl) zc_iconst_3 ?_
        refine s_iload_n (zdk hX9_pin 33 rfl) rfl ?_
        refine s_i2l (zdk hX9_pin 34 rfl) ?_
        refine s_callV0 (ci := 9) [.int (nI f), .int (nI 3), .long ((u).toInt64)] (zdk hX9_pin 35 rfl) cw_X9_193 (hm.1) (by decide) rfl rfl rfl (Nat.le_of_ble_eq_true rfl) (by decide) (c_X9_sets hl (M := (KP M c g)) (g := g) hm (f := f) (k := 3) (E := 58 + 51 * f + 3) (by omega) (by omega) ((u).toInt64)) ?_
        refine s_iload_n (zdk hX9_pin 36 rfl) rfl ?_
        refine s_ireturn (zdk hX9_pin 37 rfl) rfl rfl ?_
        exact ⟨rfl, rfl⟩
      · exact absurd (by decide) c36
  · have b6 : ¬ (inN (nI f) (gN g 3)) := b01_eq c6
    exact absurd (inN_of hf (by omega)) b6
theorem c_X9_add_x (hl : l.stackTraces = false) {M : zMem} (hm : mSh M) {g : Nat → Int64} (hb : gBd g) (u t : Int32) (hx : ¬ ((nI 1 ≤ u ∧ u ≤ nI 999) ∧ inN t (gN g 2))) : zCm l G mX9_add 3 70 0 0 [.ref 941, .int (u), .int (t)] (zsL M 942 g) (zD (some (.int (nI 0))) (zsL (zsI M 941 6 (nI (t2 (nI 1 ≤ u ∧ u ≤ nI 999) (inN t (gN g 2)) 1 2))) 942 g)) := by
  refine zCd.of (ls0 := [some (.ref 941), some (.int (u)), some (.int (t)), none]) (by decide +kernel) rfl hl rfl (Nat.le_of_ble_eq_true rfl) rfl ?_
  have hn2 := hb.2.2.1.2
  have ht4 := hb.2.1.2
  have hcy := hb.1.2.2
  have hpe := hb.2.2.2.1.2
  refine s_aload_n (zdk hX9_add_0 0 rfl) rfl ?_
  refine s_iload_n (zdk hX9_add_0 1 rfl) rfl ?_
  refine s_iconstv (v := nI 1) (zdk hX9_add_0 2 rfl) zc_iconst_1 ?_
  refine s_sipushv (v := nI 999) (zdk hX9_add_0 3 rfl) zc_sipush_999 ?_
  refine s_callS0 [.int (u), .int (nI 1), .int (nI 999)] (zdk hX9_add_0 4 rfl) cw_X9_79 rfl (Nat.le_of_ble_eq_true rfl) (by decide) (c_X9_isIn hl (zsL M 942 g) (u) (nI 1) (nI 999)) ?_
  refine s_if_ne 16 (zdk hX9_add_0 5 rfl) (by decide) (fun c9 => ?_) (fun c9 => ?_)
  · have b9 : nI 1 ≤ u ∧ u ≤ nI 999 := b01_ne c9
    refine s_aload_n (zdk hX9_add_0 8 rfl) rfl ?_
    refine s_iload_n (zdk hX9_add_0 9 rfl) rfl ?_
    refine s_callV0 (ci := 9) [.int (t)] (zdk hX9_add_0 10 rfl) cw_X9_245 (hm.1) (by decide) rfl rfl rfl (Nat.le_of_ble_eq_true rfl) (by decide) (c_X9_isTier hl (M := M) (g := g) hm hb (t)) ?_
    refine s_if_eq 28 (zdk hX9_add_0 11 rfl) (by decide) (fun c21 => ?_) (fun c21 => ?_)
    · have b21 : ¬ (inN (t) (gN g 2)) := b01_eq c21
      refine s_iconstv (v := nI 2) (zdk hX9_add_0 14 rfl) zc_iconst_2 ?_
      refine s_putI (zdk hX9_add_0 15 rfl) fw_X9_69 rfl pw_9_6 (hm.1) ?_
      refine s_mem (M' := (zsL (zsI M 941 6 (nI 2)) 942 g)) rfl ?_
      refine s_aload_n (zdk hX9_add_0 16 rfl) rfl ?_
      refine s_getI (zdk hX9_add_0 17 rfl) fw_X9_69 rfl (hm.1) ?_
      refine s_topi (b := nI 2) ((congrFun (zI_Ie (M := M) (a := 941) (k := 6) (v := (nI 2))) 6).trans zw1_e) ?_
      refine s_if_le 41 (zdk hX9_add_0 18 rfl) (by decide) (fun c36 => ?_) (fun c36 => ?_)
      · exact absurd c36 (by decide)
      · refine s_iconstv (v := nI 0) (zdk hX9_add_0 19 rfl) zc_iconst_0 ?_
        refine s_ireturn (zdk hX9_add_0 20 rfl) rfl rfl ?_
        first | (rw [t2_2 b9 b21]; exact ⟨rfl, rfl⟩) | (rw [t2_1 b9]; exact ⟨rfl, rfl⟩)
    · have b21 : inN (t) (gN g 2) := b01_ne c21
      refine s_iconstv (v := nI 0) (zdk hX9_add_0 12 rfl) zc_iconst_0 ?_
      refine s_goto 29 (zdk hX9_add_0 13 rfl) (by decide) ?_
      refine s_putI (zdk hX9_add_0 15 rfl) fw_X9_69 rfl pw_9_6 (hm.1) ?_
      refine s_mem (M' := (zsL (zsI M 941 6 (nI 0)) 942 g)) rfl ?_
      refine s_aload_n (zdk hX9_add_0 16 rfl) rfl ?_
      refine s_getI (zdk hX9_add_0 17 rfl) fw_X9_69 rfl (hm.1) ?_
      refine s_topi (b := nI 0) ((congrFun (zI_Ie (M := M) (a := 941) (k := 6) (v := (nI 0))) 6).trans zw1_e) ?_
      refine s_if_le 41 (zdk hX9_add_0 18 rfl) (by decide) (fun c36 => ?_) (fun c36 => ?_)
      · exact absurd ⟨b9, b21⟩ hx
      · exact absurd (by decide) c36
  · have b9 : ¬ (nI 1 ≤ u ∧ u ≤ nI 999) := b01_eq c9
    refine s_iconstv (v := nI 1) (zdk hX9_add_0 6 rfl) zc_iconst_1 ?_
    refine s_goto 29 (zdk hX9_add_0 7 rfl) (by decide) ?_
    refine s_putI (zdk hX9_add_0 15 rfl) fw_X9_69 rfl pw_9_6 (hm.1) ?_
    refine s_mem (M' := (zsL (zsI M 941 6 (nI 1)) 942 g)) rfl ?_
    refine s_aload_n (zdk hX9_add_0 16 rfl) rfl ?_
    refine s_getI (zdk hX9_add_0 17 rfl) fw_X9_69 rfl (hm.1) ?_
    refine s_topi (b := nI 1) ((congrFun (zI_Ie (M := M) (a := 941) (k := 6) (v := (nI 1))) 6).trans zw1_e) ?_
    refine s_if_le 41 (zdk hX9_add_0 18 rfl) (by decide) (fun c36 => ?_) (fun c36 => ?_)
    · exact absurd c36 (by decide)
    · refine s_iconstv (v := nI 0) (zdk hX9_add_0 19 rfl) zc_iconst_0 ?_
      refine s_ireturn (zdk hX9_add_0 20 rfl) rfl rfl ?_
      first | (rw [t2_2 b9 b21]; exact ⟨rfl, rfl⟩) | (rw [t2_1 b9]; exact ⟨rfl, rfl⟩)
theorem c_X9_add_f (hl : l.stackTraces = false) {M : zMem} (hm : mSh M) {g : Nat → Int64} (hb : gBd g) {u : Int32} (hu : nI 1 ≤ u ∧ u ≤ nI 999) {t : Nat} (ht : t < gN g 2) (hr : gN g 3 = 20) : zCm l G mX9_add 4 94 0 0 [.ref 941, .int (u), .int (nI t)] (zsL M 942 g) (zD (some (.int (-11))) (zsL (zsI M 941 6 (nI 0)) 942 g)) := by
  refine zCd.of (ls0 := [some (.ref 941), some (.int (u)), some (.int (nI t)), none]) (by decide +kernel) rfl hl rfl (Nat.le_of_ble_eq_true rfl) rfl ?_
  have hn2 := hb.2.2.1.2
  have ht4 := hb.2.1.2
  have hcy := hb.1.2.2
  have hpe := hb.2.2.2.1.2
  refine s_aload_n (zdk hX9_add_0 0 rfl) rfl ?_
  refine s_iload_n (zdk hX9_add_0 1 rfl) rfl ?_
  refine s_iconstv (v := nI 1) (zdk hX9_add_0 2 rfl) zc_iconst_1 ?_
  refine s_sipushv (v := nI 999) (zdk hX9_add_0 3 rfl) zc_sipush_999 ?_
  refine s_callS0 [.int (u), .int (nI 1), .int (nI 999)] (zdk hX9_add_0 4 rfl) cw_X9_79 rfl (Nat.le_of_ble_eq_true rfl) (by decide) (c_X9_isIn hl (zsL M 942 g) (u) (nI 1) (nI 999)) ?_
  refine s_if_ne 16 (zdk hX9_add_0 5 rfl) (by decide) (fun c9 => ?_) (fun c9 => ?_)
  · have b9 : nI 1 ≤ u ∧ u ≤ nI 999 := b01_ne c9
    refine s_aload_n (zdk hX9_add_0 8 rfl) rfl ?_
    refine s_iload_n (zdk hX9_add_0 9 rfl) rfl ?_
    refine s_callV0 (ci := 9) [.int (nI t)] (zdk hX9_add_0 10 rfl) cw_X9_245 (hm.1) (by decide) rfl rfl rfl (Nat.le_of_ble_eq_true rfl) (by decide) (c_X9_isTier hl (M := M) (g := g) hm hb (nI t)) ?_
    refine s_if_eq 28 (zdk hX9_add_0 11 rfl) (by decide) (fun c21 => ?_) (fun c21 => ?_)
    · have b21 : ¬ (inN (nI t) (gN g 2)) := b01_eq c21
      exact absurd (inN_of ht (by omega)) b21
    · have b21 : inN (nI t) (gN g 2) := b01_ne c21
      refine s_iconstv (v := nI 0) (zdk hX9_add_0 12 rfl) zc_iconst_0 ?_
      refine s_goto 29 (zdk hX9_add_0 13 rfl) (by decide) ?_
      refine s_putI (zdk hX9_add_0 15 rfl) fw_X9_69 rfl pw_9_6 (hm.1) ?_
      refine s_mem (M' := (zsL (zsI M 941 6 (nI 0)) 942 g)) rfl ?_
      refine s_aload_n (zdk hX9_add_0 16 rfl) rfl ?_
      refine s_getI (zdk hX9_add_0 17 rfl) fw_X9_69 rfl (hm.1) ?_
      refine s_topi (b := nI 0) ((congrFun (zI_Ie (M := M) (a := 941) (k := 6) (v := (nI 0))) 6).trans zw1_e) ?_
      refine s_if_le 41 (zdk hX9_add_0 18 rfl) (by decide) (fun c36 => ?_) (fun c36 => ?_)
      · refine s_aload_n (zdk hX9_add_0 21 rfl) rfl ?_
        refine s_callV0 (ci := 9) [] (zdk hX9_add_0 22 rfl) cw_X9_180 (hm.1) (by decide) rfl rfl rfl (Nat.le_of_ble_eq_true rfl) (by decide) (c_X9_files hl (M := (zsI M 941 6 (nI 0))) (g := g) hm hb) ?_
        refine s_istore_n (zdk hX9_add_0 23 rfl) (Nat.le_of_ble_eq_true rfl) ?_
        refine s_ls (ls' := [some (.ref 941), some (.int (u)), some (.int (nI t)), some (.int (nI (gN g 3)))]) rfl ?_
        refine s_iload_n (zdk hX9_add_0 24 rfl) rfl ?_
        refine s_bipushv (v := nI 20) (zdk hX9_add_0 25 rfl) zc_bipush_20 ?_
        refine s_icmp_ne 57 (zdk hX9_add_0 26 rfl) (by decide) (fun c49 => ?_) (fun c49 => ?_)
        · have n49 : ¬ (gN g 3) = 20 := nne c49
          exact absurd hr n49
        · have n49 : gN g 3 = 20 := neq c49 (by omega) (by omega)
          refine s_iconstv (v := nI 1) (zdk hX9_add_0 27 rfl) zc_iconst_1 ?_
          refine s_callS0 [.int (nI 1)] (zdk hX9_add_0 28 rfl) cw_X9_326 rfl (Nat.le_of_ble_eq_true rfl) (by decide) (c_X9_refused hl (zsL (zsI M 941 6 (nI 0)) 942 g) (nI 1)) ?_
          refine s_topi (b := (-11)) (by decide) ?_
          refine s_ireturn (zdk hX9_add_0 29 rfl) rfl rfl ?_
          exact ⟨rfl, rfl⟩
      · exact absurd (by decide) c36
  · have b9 : ¬ (nI 1 ≤ u ∧ u ≤ nI 999) := b01_eq c9
    exact absurd hu b9
theorem c_X9_add_r (hl : l.stackTraces = false) {M : zMem} (hm : mSh M) {g : Nat → Int64} (hb : gBd g) {u : Int32} (hu : nI 1 ≤ u ∧ u ≤ nI 999) {t : Nat} (ht : t < gN g 2) (hr : ¬ gN g 3 = 20) (hr2 : gt g t 0 - zfull g (nI t) (gN g 3) < u) : zCm l G mX9_add 4 94 0 0 [.ref 941, .int (u), .int (nI t)] (zsL M 942 g) (zD (some (.int (-15))) (zsL (zsI M 941 6 (nI 0)) 942 g)) := by
  refine zCd.of (ls0 := [some (.ref 941), some (.int (u)), some (.int (nI t)), none]) (by decide +kernel) rfl hl rfl (Nat.le_of_ble_eq_true rfl) rfl ?_
  have hn2 := hb.2.2.1.2
  have ht4 := hb.2.1.2
  have hcy := hb.1.2.2
  have hpe := hb.2.2.2.1.2
  refine s_aload_n (zdk hX9_add_0 0 rfl) rfl ?_
  refine s_iload_n (zdk hX9_add_0 1 rfl) rfl ?_
  refine s_iconstv (v := nI 1) (zdk hX9_add_0 2 rfl) zc_iconst_1 ?_
  refine s_sipushv (v := nI 999) (zdk hX9_add_0 3 rfl) zc_sipush_999 ?_
  refine s_callS0 [.int (u), .int (nI 1), .int (nI 999)] (zdk hX9_add_0 4 rfl) cw_X9_79 rfl (Nat.le_of_ble_eq_true rfl) (by decide) (c_X9_isIn hl (zsL M 942 g) (u) (nI 1) (nI 999)) ?_
  refine s_if_ne 16 (zdk hX9_add_0 5 rfl) (by decide) (fun c9 => ?_) (fun c9 => ?_)
  · have b9 : nI 1 ≤ u ∧ u ≤ nI 999 := b01_ne c9
    refine s_aload_n (zdk hX9_add_0 8 rfl) rfl ?_
    refine s_iload_n (zdk hX9_add_0 9 rfl) rfl ?_
    refine s_callV0 (ci := 9) [.int (nI t)] (zdk hX9_add_0 10 rfl) cw_X9_245 (hm.1) (by decide) rfl rfl rfl (Nat.le_of_ble_eq_true rfl) (by decide) (c_X9_isTier hl (M := M) (g := g) hm hb (nI t)) ?_
    refine s_if_eq 28 (zdk hX9_add_0 11 rfl) (by decide) (fun c21 => ?_) (fun c21 => ?_)
    · have b21 : ¬ (inN (nI t) (gN g 2)) := b01_eq c21
      exact absurd (inN_of ht (by omega)) b21
    · have b21 : inN (nI t) (gN g 2) := b01_ne c21
      refine s_iconstv (v := nI 0) (zdk hX9_add_0 12 rfl) zc_iconst_0 ?_
      refine s_goto 29 (zdk hX9_add_0 13 rfl) (by decide) ?_
      refine s_putI (zdk hX9_add_0 15 rfl) fw_X9_69 rfl pw_9_6 (hm.1) ?_
      refine s_mem (M' := (zsL (zsI M 941 6 (nI 0)) 942 g)) rfl ?_
      refine s_aload_n (zdk hX9_add_0 16 rfl) rfl ?_
      refine s_getI (zdk hX9_add_0 17 rfl) fw_X9_69 rfl (hm.1) ?_
      refine s_topi (b := nI 0) ((congrFun (zI_Ie (M := M) (a := 941) (k := 6) (v := (nI 0))) 6).trans zw1_e) ?_
      refine s_if_le 41 (zdk hX9_add_0 18 rfl) (by decide) (fun c36 => ?_) (fun c36 => ?_)
      · refine s_aload_n (zdk hX9_add_0 21 rfl) rfl ?_
        refine s_callV0 (ci := 9) [] (zdk hX9_add_0 22 rfl) cw_X9_180 (hm.1) (by decide) rfl rfl rfl (Nat.le_of_ble_eq_true rfl) (by decide) (c_X9_files hl (M := (zsI M 941 6 (nI 0))) (g := g) hm hb) ?_
        refine s_istore_n (zdk hX9_add_0 23 rfl) (Nat.le_of_ble_eq_true rfl) ?_
        refine s_ls (ls' := [some (.ref 941), some (.int (u)), some (.int (nI t)), some (.int (nI (gN g 3)))]) rfl ?_
        refine s_iload_n (zdk hX9_add_0 24 rfl) rfl ?_
        refine s_bipushv (v := nI 20) (zdk hX9_add_0 25 rfl) zc_bipush_20 ?_
        refine s_icmp_ne 57 (zdk hX9_add_0 26 rfl) (by decide) (fun c49 => ?_) (fun c49 => ?_)
        · have n49 : ¬ (gN g 3) = 20 := nne c49
          refine s_aload_n (zdk hX9_add_0 30 rfl) rfl ?_
          refine s_iload_n (zdk hX9_add_0 31 rfl) rfl ?_
          refine s_callV0 (ci := 9) [.int (nI t)] (zdk hX9_add_0 32 rfl) cw_X9_188 (hm.1) (by decide) rfl rfl rfl (Nat.le_of_ble_eq_true rfl) (by decide) (c_X9_freeOn hl (M := (zsI M 941 6 (nI 0))) (g := g) hm hb (t := t) (by omega)) ?_
          refine s_iload_n (zdk hX9_add_0 33 rfl) rfl ?_
          refine s_icmp_ge 71 (zdk hX9_add_0 34 rfl) (by decide) (fun c63 => ?_) (fun c63 => ?_)
          · exact absurd hr2 (Int32.not_lt.mpr c63)
          · refine s_iconstv (v := nI 5) (zdk hX9_add_0 35 rfl) zc_iconst_5 ?_
            refine s_callS0 [.int (nI 5)] (zdk hX9_add_0 36 rfl) cw_X9_326 rfl (Nat.le_of_ble_eq_true rfl) (by decide) (c_X9_refused hl (zsL (zsI M 941 6 (nI 0)) 942 g) (nI 5)) ?_
            refine s_topi (b := (-15)) (by decide) ?_
            refine s_ireturn (zdk hX9_add_0 37 rfl) rfl rfl ?_
            exact ⟨rfl, rfl⟩
        · have n49 : gN g 3 = 20 := neq c49 (by omega) (by omega)
          exact absurd n49 hr
      · exact absurd (by decide) c36
  · have b9 : ¬ (nI 1 ≤ u ∧ u ≤ nI 999) := b01_eq c9
    exact absurd hu b9
theorem oB0_n {g : Nat → Int64} {f k : Nat} (h : k < 58 + 51 * f ∨ 58 + 51 * f + 51 ≤ k) : oB0 g f k = g k := by
  unfold oB0 oFoN oZeN
  rw [if_neg (by omega), if_neg (by omega)]
theorem c_X9_add (hl : l.stackTraces = false) {M : zMem} (hm : mSh M) {g : Nat → Int64} (hb : gBd g) {u : Int32} (hu : nI 1 ≤ u ∧ u ≤ nI 999) {t : Nat} (ht : t < gN g 2) {c : Nat} (hc : zI M 941 5 = nI c) (hc8 : c ≤ 8) (hi3 : g 3 = (its g 3).toInt64) (hr : ¬ gN g 3 = 20) (hr2 : ¬ gt g t 0 - zfull g (nI t) (gN g 3) < u) : zCm l G mX9_add 4 94 0 0 [.ref 941, .int (u), .int (nI t)] (zsL M 942 g) (zD (some (.int (nI (gN g 3)))) (zsL (KP M c g) 942 (zwL (zwL (zwL (oB0 g (gN g 3)) (58 + 51 * (gN g 3) + 0) u.toInt64) (58 + 51 * (gN g 3) + 1) (nI t).toInt64) 3 (nI (gN g 3 + 1)).toInt64))) := by
  refine zCd.of (ls0 := [some (.ref 941), some (.int (u)), some (.int (nI t)), none]) (by decide +kernel) rfl hl rfl (Nat.le_of_ble_eq_true rfl) rfl ?_
  have hn2 := hb.2.2.1.2
  have ht4 := hb.2.1.2
  have hcy := hb.1.2.2
  have hpe := hb.2.2.2.1.2
  refine s_aload_n (zdk hX9_add_0 0 rfl) rfl ?_
  refine s_iload_n (zdk hX9_add_0 1 rfl) rfl ?_
  refine s_iconstv (v := nI 1) (zdk hX9_add_0 2 rfl) zc_iconst_1 ?_
  refine s_sipushv (v := nI 999) (zdk hX9_add_0 3 rfl) zc_sipush_999 ?_
  refine s_callS0 [.int (u), .int (nI 1), .int (nI 999)] (zdk hX9_add_0 4 rfl) cw_X9_79 rfl (Nat.le_of_ble_eq_true rfl) (by decide) (c_X9_isIn hl (zsL M 942 g) (u) (nI 1) (nI 999)) ?_
  refine s_if_ne 16 (zdk hX9_add_0 5 rfl) (by decide) (fun c9 => ?_) (fun c9 => ?_)
  · have b9 : nI 1 ≤ u ∧ u ≤ nI 999 := b01_ne c9
    refine s_aload_n (zdk hX9_add_0 8 rfl) rfl ?_
    refine s_iload_n (zdk hX9_add_0 9 rfl) rfl ?_
    refine s_callV0 (ci := 9) [.int (nI t)] (zdk hX9_add_0 10 rfl) cw_X9_245 (hm.1) (by decide) rfl rfl rfl (Nat.le_of_ble_eq_true rfl) (by decide) (c_X9_isTier hl (M := M) (g := g) hm hb (nI t)) ?_
    refine s_if_eq 28 (zdk hX9_add_0 11 rfl) (by decide) (fun c21 => ?_) (fun c21 => ?_)
    · have b21 : ¬ (inN (nI t) (gN g 2)) := b01_eq c21
      exact absurd (inN_of ht (by omega)) b21
    · have b21 : inN (nI t) (gN g 2) := b01_ne c21
      refine s_iconstv (v := nI 0) (zdk hX9_add_0 12 rfl) zc_iconst_0 ?_
      refine s_goto 29 (zdk hX9_add_0 13 rfl) (by decide) ?_
      refine s_putI (zdk hX9_add_0 15 rfl) fw_X9_69 rfl pw_9_6 (hm.1) ?_
      refine s_mem (M' := (zsL (zsI M 941 6 (nI 0)) 942 g)) rfl ?_
      refine s_aload_n (zdk hX9_add_0 16 rfl) rfl ?_
      refine s_getI (zdk hX9_add_0 17 rfl) fw_X9_69 rfl (hm.1) ?_
      refine s_topi (b := nI 0) ((congrFun (zI_Ie (M := M) (a := 941) (k := 6) (v := (nI 0))) 6).trans zw1_e) ?_
      refine s_if_le 41 (zdk hX9_add_0 18 rfl) (by decide) (fun c36 => ?_) (fun c36 => ?_)
      · refine s_aload_n (zdk hX9_add_0 21 rfl) rfl ?_
        refine s_callV0 (ci := 9) [] (zdk hX9_add_0 22 rfl) cw_X9_180 (hm.1) (by decide) rfl rfl rfl (Nat.le_of_ble_eq_true rfl) (by decide) (c_X9_files hl (M := (zsI M 941 6 (nI 0))) (g := g) hm hb) ?_
        refine s_istore_n (zdk hX9_add_0 23 rfl) (Nat.le_of_ble_eq_true rfl) ?_
        refine s_ls (ls' := [some (.ref 941), some (.int (u)), some (.int (nI t)), some (.int (nI (gN g 3)))]) rfl ?_
        refine s_iload_n (zdk hX9_add_0 24 rfl) rfl ?_
        refine s_bipushv (v := nI 20) (zdk hX9_add_0 25 rfl) zc_bipush_20 ?_
        refine s_icmp_ne 57 (zdk hX9_add_0 26 rfl) (by decide) (fun c49 => ?_) (fun c49 => ?_)
        · have n49 : ¬ (gN g 3) = 20 := nne c49
          refine s_aload_n (zdk hX9_add_0 30 rfl) rfl ?_
          refine s_iload_n (zdk hX9_add_0 31 rfl) rfl ?_
          refine s_callV0 (ci := 9) [.int (nI t)] (zdk hX9_add_0 32 rfl) cw_X9_188 (hm.1) (by decide) rfl rfl rfl (Nat.le_of_ble_eq_true rfl) (by decide) (c_X9_freeOn hl (M := (zsI M 941 6 (nI 0))) (g := g) hm hb (t := t) (by omega)) ?_
          refine s_iload_n (zdk hX9_add_0 33 rfl) rfl ?_
          refine s_icmp_ge 71 (zdk hX9_add_0 34 rfl) (by decide) (fun c63 => ?_) (fun c63 => ?_)
          · refine s_aload_n (zdk hX9_add_0 38 rfl) rfl ?_
            refine s_aload_n (zdk hX9_add_0 39 rfl) rfl ?_
            refine s_getR (zdk hX9_add_0 40 rfl) fw_X9_7 rfl (hm.1) (show _ = some 942 from (hm.r (i := 0) rfl).1) ?_
            refine s_callV0 (ci := 9) [.ref 942] (zdk hX9_add_0 41 rfl) cw_X9_83 (hm.1) (by decide) rfl rfl rfl (Nat.le_of_ble_eq_true rfl) (by decide) (c_keeps0 hl hm hc hc8) ?_
            refine s_aload_n (zdk hX9_add_0 42 rfl) rfl ?_
            refine s_iload_n (zdk hX9_add_0 43 rfl) rfl ?_
            refine s_callV0 (ci := 9) [.int (nI (gN g 3))] (zdk hX9_add_0 44 rfl) cw_X9_183 (hm.1) (by decide) rfl rfl rfl (Nat.le_of_ble_eq_true rfl) (by decide) (c_X9_begins0 hl (M := (KP M c g)) (g := g) hm (f := (gN g 3)) (by omega)) ?_
            refine s_aload_n (zdk hX9_add_0 45 rfl) rfl ?_
            refine s_iload_n (zdk hX9_add_0 46 rfl) rfl ?_
            refine s_iconstv (v := nI 0) (zdk hX9_add_0 47 rfl) zc_iconst_0 ?_
            refine s_iload_n (zdk hX9_add_0 48 rfl) rfl ?_
            refine s_i2l (zdk hX9_add_0 49 rfl) ?_
            refine s_callV0 (ci := 9) [.int (nI (gN g 3)), .int (nI 0), .long ((u).toInt64)] (zdk hX9_add_0 50 rfl) cw_X9_193 (hm.1) (by decide) rfl rfl rfl (Nat.le_of_ble_eq_true rfl) (by decide) (c_X9_sets hl (M := (KP M c g)) (g := (oB0 g (gN g 3))) hm (f := (gN g 3)) (k := 0) (E := 58 + 51 * (gN g 3) + 0) (by omega) (by omega) ((u).toInt64)) ?_
            refine s_aload_n (zdk hX9_add_0 51 rfl) rfl ?_
            refine s_iload_n (zdk hX9_add_0 52 rfl) rfl ?_
            refine s_iconstv (v := nI 1) (zdk hX9_add_0 53 rfl) zc_iconst_1 ?_
            refine s_iload_n (zdk hX9_add_0 54 rfl) rfl ?_
            refine s_i2l (zdk hX9_add_0 55 rfl) ?_
            refine s_callV0 (ci := 9) [.int (nI (gN g 3)), .int (nI 1), .long ((nI t).toInt64)] (zdk hX9_add_0 56 rfl) cw_X9_193 (hm.1) (by decide) rfl rfl rfl (Nat.le_of_ble_eq_true rfl) (by decide) (c_X9_sets hl (M := (KP M c g)) (g := (zwL (oB0 g (gN g 3)) (58 + 51 * (gN g 3) + 0) ((u).toInt64))) hm (f := (gN g 3)) (k := 1) (E := 58 + 51 * (gN g 3) + 1) (by omega) (by omega) ((nI t).toInt64)) ?_
            refine s_aload_n (zdk hX9_add_0 57 rfl) rfl ?_
            refine s_getR (zdk hX9_add_0 58 rfl) fw_X9_7 rfl (hm.1) (show _ = some 942 from (hm.r (i := 0) rfl).1) ?_
            refine s_iconstv (v := nI 3) (zdk hX9_add_0 59 rfl) zc_iconst_3 ?_
            refine s_dup2ir (zdk hX9_add_1 0 rfl) ?_
            refine s_laloadN (N := 1390) (j := 3) (zdk hX9_add_1 1 rfl) ((hm.r (i := 0) rfl).2.1) ((hm.r (i := 0) rfl).2.2) (by omega) (by decide) ?_
            refine s_topl (b := (zwL (zwL (oB0 g (gN g 3)) (58 + 51 * (gN g 3) + 0) ((u).toInt64)) (58 + 51 * (gN g 3) + 1) ((nI t).toInt64)) 3) (congrFun zJ_Le _) ?_
            refine s_lconstv (v := lN 1) (zdk hX9_add_1 2 rfl) rfl ?_
            refine s_ladd (zdk hX9_add_1 3 rfl) ?_
            refine s_topl (b := (nI (gN g 3 + 1)).toInt64) ((congrArg (fun q : Int64 => q + lN 1) ((zwL_n (by omega)).trans ((zwL_n (by omega)).trans ((oB0_n (by omega)).trans (hi3.trans (congrArg Int32.toInt64 hb.h3)))))).trans (inc64 (by omega))) ?_
            refine s_lastoreN (N := 1390) (j := 3) (zdk hX9_add_1 4 rfl) ((hm.r (i := 0) rfl).2.1) ((hm.r (i := 0) rfl).2.2) (by omega) (by decide) ?_
            refine s_mem (M' := (zsL (KP M c g) 942 (zwL (zwL (zwL (oB0 g (gN g 3)) (58 + 51 * (gN g 3) + 0) ((u).toInt64)) (58 + 51 * (gN g 3) + 1) ((nI t).toInt64)) 3 ((nI (gN g 3 + 1)).toInt64)))) (zsL_1 _ _ _ _ _) ?_
            refine s_iload_n (zdk hX9_add_1 5 rfl) rfl ?_
            refine s_ireturn (zdk hX9_add_1 6 rfl) rfl rfl ?_
            exact ⟨rfl, rfl⟩
          · exact absurd (Int32.not_le.mp c63) hr2
        · have n49 : gN g 3 = 20 := neq c49 (by omega) (by omega)
          exact absurd n49 hr
      · exact absurd (by decide) c36
  · have b9 : ¬ (nI 1 ≤ u ∧ u ≤ nI 999) := b01_eq c9
    exact absurd hu b9
theorem c_X9_move_x (hl : l.stackTraces = false) {M : zMem} (hm : mSh M) {g : Nat → Int64} (hb : gBd g) (f t : Int32) (hx : ¬ (inN f (gN g 3) ∧ inN t (gN g 2))) : zCm l G mX9_move 3 70 0 0 [.ref 941, .int (f), .int (t)] (zsL M 942 g) (zD (some (.int (nI 0))) (zsL (zsI M 941 6 (nI (1))) 942 g)) := by
  refine zCd.of (ls0 := [some (.ref 941), some (.int (f)), some (.int (t))]) (by decide +kernel) rfl hl rfl (Nat.le_of_ble_eq_true rfl) rfl ?_
  have hn2 := hb.2.2.1.2
  have ht4 := hb.2.1.2
  have hcy := hb.1.2.2
  have hpe := hb.2.2.2.1.2
  refine s_aload_n (zdk hX9_move 0 rfl) rfl ?_
  refine s_aload_n (zdk hX9_move 1 rfl) rfl ?_
  refine s_iload_n (zdk hX9_move 2 rfl) rfl ?_
  refine s_callV0 (ci := 9) [.int (f)] (zdk hX9_move 3 rfl) cw_X9_254 (hm.1) (by decide) rfl rfl rfl (Nat.le_of_ble_eq_true rfl) (by decide) (c_X9_isFile hl (M := M) (g := g) hm hb (f)) ?_
  refine s_if_eq 21 (zdk hX9_move 4 rfl) (by decide) (fun c6 => ?_) (fun c6 => ?_)
  · have b6 : ¬ (inN (f) (gN g 3)) := b01_eq c6
    refine s_iconstv (v := nI 1) (zdk hX9_move 11 rfl) zc_iconst_1 ?_
    refine s_putI (zdk hX9_move 12 rfl) fw_X9_69 rfl pw_9_6 (hm.1) ?_
    refine s_mem (M' := (zsL (zsI M 941 6 (nI 1)) 942 g)) rfl ?_
    refine s_aload_n (zdk hX9_move 13 rfl) rfl ?_
    refine s_getI (zdk hX9_move 14 rfl) fw_X9_69 rfl (hm.1) ?_
    refine s_topi (b := nI 1) ((congrFun (zI_Ie (M := M) (a := 941) (k := 6) (v := (nI 1))) 6).trans zw1_e) ?_
    refine s_if_le 34 (zdk hX9_move 15 rfl) (by decide) (fun c29 => ?_) (fun c29 => ?_)
    · exact absurd c29 (by decide)
    · refine s_iconstv (v := nI 0) (zdk hX9_move 16 rfl) zc_iconst_0 ?_
      refine s_ireturn (zdk hX9_move 17 rfl) rfl rfl ?_
      exact ⟨rfl, rfl⟩
  · have b6 : inN (f) (gN g 3) := b01_ne c6
    refine s_aload_n (zdk hX9_move 5 rfl) rfl ?_
    refine s_iload_n (zdk hX9_move 6 rfl) rfl ?_
    refine s_callV0 (ci := 9) [.int (t)] (zdk hX9_move 7 rfl) cw_X9_245 (hm.1) (by decide) rfl rfl rfl (Nat.le_of_ble_eq_true rfl) (by decide) (c_X9_isTier hl (M := M) (g := g) hm hb (t)) ?_
    refine s_if_eq 21 (zdk hX9_move 8 rfl) (by decide) (fun c14 => ?_) (fun c14 => ?_)
    · have b14 : ¬ (inN (t) (gN g 2)) := b01_eq c14
      refine s_iconstv (v := nI 1) (zdk hX9_move 11 rfl) zc_iconst_1 ?_
      refine s_putI (zdk hX9_move 12 rfl) fw_X9_69 rfl pw_9_6 (hm.1) ?_
      refine s_mem (M' := (zsL (zsI M 941 6 (nI 1)) 942 g)) rfl ?_
      refine s_aload_n (zdk hX9_move 13 rfl) rfl ?_
      refine s_getI (zdk hX9_move 14 rfl) fw_X9_69 rfl (hm.1) ?_
      refine s_topi (b := nI 1) ((congrFun (zI_Ie (M := M) (a := 941) (k := 6) (v := (nI 1))) 6).trans zw1_e) ?_
      refine s_if_le 34 (zdk hX9_move 15 rfl) (by decide) (fun c29 => ?_) (fun c29 => ?_)
      · exact absurd c29 (by decide)
      · refine s_iconstv (v := nI 0) (zdk hX9_move 16 rfl) zc_iconst_0 ?_
        refine s_ireturn (zdk hX9_move 17 rfl) rfl rfl ?_
        exact ⟨rfl, rfl⟩
    · have b14 : inN (t) (gN g 2) := b01_ne c14
      refine s_iconstv (v := nI 0) (zdk hX9_move 9 rfl) zc_iconst_0 ?_
      refine s_goto 22 (zdk hX9_move 10 rfl) (by decide) ?_
      refine s_putI (zdk hX9_move 12 rfl) fw_X9_69 rfl pw_9_6 (hm.1) ?_
      refine s_mem (M' := (zsL (zsI M 941 6 (nI 0)) 942 g)) rfl ?_
      refine s_aload_n (zdk hX9_move 13 rfl) rfl ?_
      refine s_getI (zdk hX9_move 14 rfl) fw_X9_69 rfl (hm.1) ?_
      refine s_topi (b := nI 0) ((congrFun (zI_Ie (M := M) (a := 941) (k := 6) (v := (nI 0))) 6).trans zw1_e) ?_
      refine s_if_le 34 (zdk hX9_move 15 rfl) (by decide) (fun c29 => ?_) (fun c29 => ?_)
      · exact absurd ⟨b6, b14⟩ hx
      · exact absurd (by decide) c29
theorem c_X9_move_p (hl : l.stackTraces = false) {M : zMem} (hm : mSh M) {g : Nat → Int64} (hb : gBd g) (hi4 : g 4 = (its g 4).toInt64) {f t : Nat} (hf : f < gN g 3) (ht : t < gN g 2) (hr : nI (gN g 4) < gf g f 3) : zCm l G mX9_move 4 94 0 0 [.ref 941, .int (nI f), .int (nI t)] (zsL M 942 g) (zD (some (.int (-13))) (zsL (zsI M 941 6 (nI 0)) 942 g)) := by
  refine zCd.of (ls0 := [some (.ref 941), some (.int (nI f)), some (.int (nI t))]) (by decide +kernel) rfl hl rfl (Nat.le_of_ble_eq_true rfl) rfl ?_
  have hn2 := hb.2.2.1.2
  have ht4 := hb.2.1.2
  have hcy := hb.1.2.2
  have hpe := hb.2.2.2.1.2
  have hon := hb.onL hf
  refine s_aload_n (zdk hX9_move 0 rfl) rfl ?_
  refine s_aload_n (zdk hX9_move 1 rfl) rfl ?_
  refine s_iload_n (zdk hX9_move 2 rfl) rfl ?_
  refine s_callV0 (ci := 9) [.int (nI f)] (zdk hX9_move 3 rfl) cw_X9_254 (hm.1) (by decide) rfl rfl rfl (Nat.le_of_ble_eq_true rfl) (by decide) (c_X9_isFile hl (M := M) (g := g) hm hb (nI f)) ?_
  refine s_if_eq 21 (zdk hX9_move 4 rfl) (by decide) (fun c6 => ?_) (fun c6 => ?_)
  · have b6 : ¬ (inN (nI f) (gN g 3)) := b01_eq c6
    exact absurd (inN_of hf (by omega)) b6
  · have b6 : inN (nI f) (gN g 3) := b01_ne c6
    refine s_aload_n (zdk hX9_move 5 rfl) rfl ?_
    refine s_iload_n (zdk hX9_move 6 rfl) rfl ?_
    refine s_callV0 (ci := 9) [.int (nI t)] (zdk hX9_move 7 rfl) cw_X9_245 (hm.1) (by decide) rfl rfl rfl (Nat.le_of_ble_eq_true rfl) (by decide) (c_X9_isTier hl (M := M) (g := g) hm hb (nI t)) ?_
    refine s_if_eq 21 (zdk hX9_move 8 rfl) (by decide) (fun c14 => ?_) (fun c14 => ?_)
    · have b14 : ¬ (inN (nI t) (gN g 2)) := b01_eq c14
      exact absurd (inN_of ht (by omega)) b14
    · have b14 : inN (nI t) (gN g 2) := b01_ne c14
      refine s_iconstv (v := nI 0) (zdk hX9_move 9 rfl) zc_iconst_0 ?_
      refine s_goto 22 (zdk hX9_move 10 rfl) (by decide) ?_
      refine s_putI (zdk hX9_move 12 rfl) fw_X9_69 rfl pw_9_6 (hm.1) ?_
      refine s_mem (M' := (zsL (zsI M 941 6 (nI 0)) 942 g)) rfl ?_
      refine s_aload_n (zdk hX9_move 13 rfl) rfl ?_
      refine s_getI (zdk hX9_move 14 rfl) fw_X9_69 rfl (hm.1) ?_
      refine s_topi (b := nI 0) ((congrFun (zI_Ie (M := M) (a := 941) (k := 6) (v := (nI 0))) 6).trans zw1_e) ?_
      refine s_if_le 34 (zdk hX9_move 15 rfl) (by decide) (fun c29 => ?_) (fun c29 => ?_)
      · refine s_aload_n (zdk hX9_move 18 rfl) rfl ?_
        refine s_iload_n (zdk hX9_move 19 rfl) rfl ?_
        refine s_callV0 (ci := 9) [.int (nI f)] (zdk hX9_move 20 rfl) cw_X9_233 (hm.1) (by decide) rfl rfl rfl (Nat.le_of_ble_eq_true rfl) (by decide) (c_X9_isPinned hl (M := (zsI M 941 6 (nI 0))) (g := g) hm hb (h4 := hi4) (f := f) (by omega)) ?_
        refine s_if_eq 47 (zdk hX9_move 21 rfl) (by decide) (fun c39 => ?_) (fun c39 => ?_)
        · have b39 : ¬ (nI (gN g 4) < gf g f 3) := b01_eq c39
          exact absurd hr b39
        · have b39 : nI (gN g 4) < gf g f 3 := b01_ne c39
          refine s_iconstv (v := nI 3) (zdk hX9_move 22 rfl) zc_iconst_3 ?_
          refine s_callS0 [.int (nI 3)] (zdk hX9_move 23 rfl) cw_X9_326 rfl (Nat.le_of_ble_eq_true rfl) (by decide) (c_X9_refused hl (zsL (zsI M 941 6 (nI 0)) 942 g) (nI 3)) ?_
          refine s_topi (b := (-13)) (by decide) ?_
          refine s_ireturn (zdk hX9_move 24 rfl) rfl rfl ?_
          exact ⟨rfl, rfl⟩
      · exact absurd (by decide) c29
theorem c_X9_move_s (hl : l.stackTraces = false) {M : zMem} (hm : mSh M) {g : Nat → Int64} (hb : gBd g) (hi4 : g 4 = (its g 4).toInt64) {f t : Nat} (hf : f < gN g 3) (ht : t < gN g 2) (hr : ¬ nI (gN g 4) < gf g f 3) (hr2 : gN g (58 + 51 * f + 1) = t) : zCm l G mX9_move 4 94 0 0 [.ref 941, .int (nI f), .int (nI t)] (zsL M 942 g) (zD (some (.int (-14))) (zsL (zsI M 941 6 (nI 0)) 942 g)) := by
  refine zCd.of (ls0 := [some (.ref 941), some (.int (nI f)), some (.int (nI t))]) (by decide +kernel) rfl hl rfl (Nat.le_of_ble_eq_true rfl) rfl ?_
  have hn2 := hb.2.2.1.2
  have ht4 := hb.2.1.2
  have hcy := hb.1.2.2
  have hpe := hb.2.2.2.1.2
  have hon := hb.onL hf
  refine s_aload_n (zdk hX9_move 0 rfl) rfl ?_
  refine s_aload_n (zdk hX9_move 1 rfl) rfl ?_
  refine s_iload_n (zdk hX9_move 2 rfl) rfl ?_
  refine s_callV0 (ci := 9) [.int (nI f)] (zdk hX9_move 3 rfl) cw_X9_254 (hm.1) (by decide) rfl rfl rfl (Nat.le_of_ble_eq_true rfl) (by decide) (c_X9_isFile hl (M := M) (g := g) hm hb (nI f)) ?_
  refine s_if_eq 21 (zdk hX9_move 4 rfl) (by decide) (fun c6 => ?_) (fun c6 => ?_)
  · have b6 : ¬ (inN (nI f) (gN g 3)) := b01_eq c6
    exact absurd (inN_of hf (by omega)) b6
  · have b6 : inN (nI f) (gN g 3) := b01_ne c6
    refine s_aload_n (zdk hX9_move 5 rfl) rfl ?_
    refine s_iload_n (zdk hX9_move 6 rfl) rfl ?_
    refine s_callV0 (ci := 9) [.int (nI t)] (zdk hX9_move 7 rfl) cw_X9_245 (hm.1) (by decide) rfl rfl rfl (Nat.le_of_ble_eq_true rfl) (by decide) (c_X9_isTier hl (M := M) (g := g) hm hb (nI t)) ?_
    refine s_if_eq 21 (zdk hX9_move 8 rfl) (by decide) (fun c14 => ?_) (fun c14 => ?_)
    · have b14 : ¬ (inN (nI t) (gN g 2)) := b01_eq c14
      exact absurd (inN_of ht (by omega)) b14
    · have b14 : inN (nI t) (gN g 2) := b01_ne c14
      refine s_iconstv (v := nI 0) (zdk hX9_move 9 rfl) zc_iconst_0 ?_
      refine s_goto 22 (zdk hX9_move 10 rfl) (by decide) ?_
      refine s_putI (zdk hX9_move 12 rfl) fw_X9_69 rfl pw_9_6 (hm.1) ?_
      refine s_mem (M' := (zsL (zsI M 941 6 (nI 0)) 942 g)) rfl ?_
      refine s_aload_n (zdk hX9_move 13 rfl) rfl ?_
      refine s_getI (zdk hX9_move 14 rfl) fw_X9_69 rfl (hm.1) ?_
      refine s_topi (b := nI 0) ((congrFun (zI_Ie (M := M) (a := 941) (k := 6) (v := (nI 0))) 6).trans zw1_e) ?_
      refine s_if_le 34 (zdk hX9_move 15 rfl) (by decide) (fun c29 => ?_) (fun c29 => ?_)
      · refine s_aload_n (zdk hX9_move 18 rfl) rfl ?_
        refine s_iload_n (zdk hX9_move 19 rfl) rfl ?_
        refine s_callV0 (ci := 9) [.int (nI f)] (zdk hX9_move 20 rfl) cw_X9_233 (hm.1) (by decide) rfl rfl rfl (Nat.le_of_ble_eq_true rfl) (by decide) (c_X9_isPinned hl (M := (zsI M 941 6 (nI 0))) (g := g) hm hb (h4 := hi4) (f := f) (by omega)) ?_
        refine s_if_eq 47 (zdk hX9_move 21 rfl) (by decide) (fun c39 => ?_) (fun c39 => ?_)
        · have b39 : ¬ (nI (gN g 4) < gf g f 3) := b01_eq c39
          refine s_aload_n (zdk hX9_move 25 rfl) rfl ?_
          refine s_iload_n (zdk hX9_move 26 rfl) rfl ?_
          refine s_iconstv (v := nI 1) (zdk hX9_move 27 rfl) zc_iconst_1 ?_
          refine s_callV0 (ci := 9) [.int (nI f), .int (nI 1)] (zdk hX9_move 28 rfl) cw_X9_211 (hm.1) (by decide) rfl rfl rfl (Nat.le_of_ble_eq_true rfl) (by decide) (c_X9_of hl (M := (zsI M 941 6 (nI 0))) (g := g) hm (f := f) (k := 1) (by omega)) ?_
          refine s_topi (b := nI (gN g (58 + 51 * f + 1))) (hb.on hf) ?_
          refine s_iload_n (zdk hX9_move 29 rfl) rfl ?_
          refine s_icmp_ne 62 (zdk hX9_move 30 rfl) (by decide) (fun c54 => ?_) (fun c54 => ?_)
          · have n54 : ¬ (gN g (58 + 51 * f + 1)) = t := nne c54
            exact absurd hr2 n54
          · have n54 : gN g (58 + 51 * f + 1) = t := neq c54 (by omega) (by omega)
            refine s_iconstv (v := nI 4) (zdk hX9_move 31 rfl) zc_iconst_4 ?_
            refine s_callS0 [.int (nI 4)] (zdk hX9_move 32 rfl) cw_X9_326 rfl (Nat.le_of_ble_eq_true rfl) (by decide) (c_X9_refused hl (zsL (zsI M 941 6 (nI 0)) 942 g) (nI 4)) ?_
            refine s_topi (b := (-14)) (by decide) ?_
            refine s_ireturn (zdk hX9_move 33 rfl) rfl rfl ?_
            exact ⟨rfl, rfl⟩
        · have b39 : nI (gN g 4) < gf g f 3 := b01_ne c39
          exact absurd b39 hr
      · exact absurd (by decide) c29
theorem c_X9_move_r (hl : l.stackTraces = false) {M : zMem} (hm : mSh M) {g : Nat → Int64} (hb : gBd g) (hi4 : g 4 = (its g 4).toInt64) {f t : Nat} (hf : f < gN g 3) (ht : t < gN g 2) (hr : ¬ nI (gN g 4) < gf g f 3) (hr2 : ¬ gN g (58 + 51 * f + 1) = t) (hr3 : gt g t 0 - zfull g (nI t) (gN g 3) < gf g f 0) : zCm l G mX9_move 4 94 0 0 [.ref 941, .int (nI f), .int (nI t)] (zsL M 942 g) (zD (some (.int (-15))) (zsL (zsI M 941 6 (nI 0)) 942 g)) := by
  refine zCd.of (ls0 := [some (.ref 941), some (.int (nI f)), some (.int (nI t))]) (by decide +kernel) rfl hl rfl (Nat.le_of_ble_eq_true rfl) rfl ?_
  have hn2 := hb.2.2.1.2
  have ht4 := hb.2.1.2
  have hcy := hb.1.2.2
  have hpe := hb.2.2.2.1.2
  have hon := hb.onL hf
  refine s_aload_n (zdk hX9_move 0 rfl) rfl ?_
  refine s_aload_n (zdk hX9_move 1 rfl) rfl ?_
  refine s_iload_n (zdk hX9_move 2 rfl) rfl ?_
  refine s_callV0 (ci := 9) [.int (nI f)] (zdk hX9_move 3 rfl) cw_X9_254 (hm.1) (by decide) rfl rfl rfl (Nat.le_of_ble_eq_true rfl) (by decide) (c_X9_isFile hl (M := M) (g := g) hm hb (nI f)) ?_
  refine s_if_eq 21 (zdk hX9_move 4 rfl) (by decide) (fun c6 => ?_) (fun c6 => ?_)
  · have b6 : ¬ (inN (nI f) (gN g 3)) := b01_eq c6
    exact absurd (inN_of hf (by omega)) b6
  · have b6 : inN (nI f) (gN g 3) := b01_ne c6
    refine s_aload_n (zdk hX9_move 5 rfl) rfl ?_
    refine s_iload_n (zdk hX9_move 6 rfl) rfl ?_
    refine s_callV0 (ci := 9) [.int (nI t)] (zdk hX9_move 7 rfl) cw_X9_245 (hm.1) (by decide) rfl rfl rfl (Nat.le_of_ble_eq_true rfl) (by decide) (c_X9_isTier hl (M := M) (g := g) hm hb (nI t)) ?_
    refine s_if_eq 21 (zdk hX9_move 8 rfl) (by decide) (fun c14 => ?_) (fun c14 => ?_)
    · have b14 : ¬ (inN (nI t) (gN g 2)) := b01_eq c14
      exact absurd (inN_of ht (by omega)) b14
    · have b14 : inN (nI t) (gN g 2) := b01_ne c14
      refine s_iconstv (v := nI 0) (zdk hX9_move 9 rfl) zc_iconst_0 ?_
      refine s_goto 22 (zdk hX9_move 10 rfl) (by decide) ?_
      refine s_putI (zdk hX9_move 12 rfl) fw_X9_69 rfl pw_9_6 (hm.1) ?_
      refine s_mem (M' := (zsL (zsI M 941 6 (nI 0)) 942 g)) rfl ?_
      refine s_aload_n (zdk hX9_move 13 rfl) rfl ?_
      refine s_getI (zdk hX9_move 14 rfl) fw_X9_69 rfl (hm.1) ?_
      refine s_topi (b := nI 0) ((congrFun (zI_Ie (M := M) (a := 941) (k := 6) (v := (nI 0))) 6).trans zw1_e) ?_
      refine s_if_le 34 (zdk hX9_move 15 rfl) (by decide) (fun c29 => ?_) (fun c29 => ?_)
      · refine s_aload_n (zdk hX9_move 18 rfl) rfl ?_
        refine s_iload_n (zdk hX9_move 19 rfl) rfl ?_
        refine s_callV0 (ci := 9) [.int (nI f)] (zdk hX9_move 20 rfl) cw_X9_233 (hm.1) (by decide) rfl rfl rfl (Nat.le_of_ble_eq_true rfl) (by decide) (c_X9_isPinned hl (M := (zsI M 941 6 (nI 0))) (g := g) hm hb (h4 := hi4) (f := f) (by omega)) ?_
        refine s_if_eq 47 (zdk hX9_move 21 rfl) (by decide) (fun c39 => ?_) (fun c39 => ?_)
        · have b39 : ¬ (nI (gN g 4) < gf g f 3) := b01_eq c39
          refine s_aload_n (zdk hX9_move 25 rfl) rfl ?_
          refine s_iload_n (zdk hX9_move 26 rfl) rfl ?_
          refine s_iconstv (v := nI 1) (zdk hX9_move 27 rfl) zc_iconst_1 ?_
          refine s_callV0 (ci := 9) [.int (nI f), .int (nI 1)] (zdk hX9_move 28 rfl) cw_X9_211 (hm.1) (by decide) rfl rfl rfl (Nat.le_of_ble_eq_true rfl) (by decide) (c_X9_of hl (M := (zsI M 941 6 (nI 0))) (g := g) hm (f := f) (k := 1) (by omega)) ?_
          refine s_topi (b := nI (gN g (58 + 51 * f + 1))) (hb.on hf) ?_
          refine s_iload_n (zdk hX9_move 29 rfl) rfl ?_
          refine s_icmp_ne 62 (zdk hX9_move 30 rfl) (by decide) (fun c54 => ?_) (fun c54 => ?_)
          · have n54 : ¬ (gN g (58 + 51 * f + 1)) = t := nne c54
            refine s_aload_n (zdk hX9_move 34 rfl) rfl ?_
            refine s_iload_n (zdk hX9_move 35 rfl) rfl ?_
            refine s_callV0 (ci := 9) [.int (nI t)] (zdk hX9_move 36 rfl) cw_X9_188 (hm.1) (by decide) rfl rfl rfl (Nat.le_of_ble_eq_true rfl) (by decide) (c_X9_freeOn hl (M := (zsI M 941 6 (nI 0))) (g := g) hm hb (t := t) (by omega)) ?_
            refine s_aload_n (zdk hX9_move 37 rfl) rfl ?_
            refine s_iload_n (zdk hX9_move 38 rfl) rfl ?_
            refine s_iconstv (v := nI 0) (zdk hX9_move 39 rfl) zc_iconst_0 ?_
            refine s_callV0 (ci := 9) [.int (nI f), .int (nI 0)] (zdk hX9_move 40 rfl) cw_X9_211 (hm.1) (by decide) rfl rfl rfl (Nat.le_of_ble_eq_true rfl) (by decide) (c_X9_of hl (M := (zsI M 941 6 (nI 0))) (g := g) hm (f := f) (k := 0) (by omega)) ?_
            refine s_icmp_ge 81 (zdk hX9_move 41 rfl) (by decide) (fun c73 => ?_) (fun c73 => ?_)
            · exact absurd hr3 (Int32.not_lt.mpr c73)
            · refine s_iconstv (v := nI 5) (zdk hX9_move 42 rfl) zc_iconst_5 ?_
              refine s_callS0 [.int (nI 5)] (zdk hX9_move 43 rfl) cw_X9_326 rfl (Nat.le_of_ble_eq_true rfl) (by decide) (c_X9_refused hl (zsL (zsI M 941 6 (nI 0)) 942 g) (nI 5)) ?_
              refine s_topi (b := (-15)) (by decide) ?_
              refine s_ireturn (zdk hX9_move 44 rfl) rfl rfl ?_
              exact ⟨rfl, rfl⟩
          · have n54 : gN g (58 + 51 * f + 1) = t := neq c54 (by omega) (by omega)
            exact absurd n54 hr2
        · have b39 : nI (gN g 4) < gf g f 3 := b01_ne c39
          exact absurd b39 hr
      · exact absurd (by decide) c29
theorem c_X9_move (hl : l.stackTraces = false) {M : zMem} (hm : mSh M) {g : Nat → Int64} (hb : gBd g) (hi4 : g 4 = (its g 4).toInt64) {f t : Nat} (hf : f < gN g 3) (ht : t < gN g 2) {c : Nat} (hc : zI M 941 5 = nI c) (hc8 : c ≤ 8) (hi5 : g 5 = (its g 5).toInt64) (hr : ¬ nI (gN g 4) < gf g f 3) (hr2 : ¬ gN g (58 + 51 * f + 1) = t) (hr3 : ¬ gt g t 0 - zfull g (nI t) (gN g 3) < gf g f 0) : zCm l G mX9_move 4 94 0 0 [.ref 941, .int (nI f), .int (nI t)] (zsL M 942 g) (zD (some (.int (oOut g f + oInc g f t))) (zsL (KP M c g) 942 (oGo g f t))) := by
  refine zCd.of (ls0 := [some (.ref 941), some (.int (nI f)), some (.int (nI t))]) (by decide +kernel) rfl hl rfl (Nat.le_of_ble_eq_true rfl) rfl ?_
  have hn2 := hb.2.2.1.2
  have ht4 := hb.2.1.2
  have hcy := hb.1.2.2
  have hpe := hb.2.2.2.1.2
  have hon := hb.onL hf
  refine s_aload_n (zdk hX9_move 0 rfl) rfl ?_
  refine s_aload_n (zdk hX9_move 1 rfl) rfl ?_
  refine s_iload_n (zdk hX9_move 2 rfl) rfl ?_
  refine s_callV0 (ci := 9) [.int (nI f)] (zdk hX9_move 3 rfl) cw_X9_254 (hm.1) (by decide) rfl rfl rfl (Nat.le_of_ble_eq_true rfl) (by decide) (c_X9_isFile hl (M := M) (g := g) hm hb (nI f)) ?_
  refine s_if_eq 21 (zdk hX9_move 4 rfl) (by decide) (fun c6 => ?_) (fun c6 => ?_)
  · have b6 : ¬ (inN (nI f) (gN g 3)) := b01_eq c6
    exact absurd (inN_of hf (by omega)) b6
  · have b6 : inN (nI f) (gN g 3) := b01_ne c6
    refine s_aload_n (zdk hX9_move 5 rfl) rfl ?_
    refine s_iload_n (zdk hX9_move 6 rfl) rfl ?_
    refine s_callV0 (ci := 9) [.int (nI t)] (zdk hX9_move 7 rfl) cw_X9_245 (hm.1) (by decide) rfl rfl rfl (Nat.le_of_ble_eq_true rfl) (by decide) (c_X9_isTier hl (M := M) (g := g) hm hb (nI t)) ?_
    refine s_if_eq 21 (zdk hX9_move 8 rfl) (by decide) (fun c14 => ?_) (fun c14 => ?_)
    · have b14 : ¬ (inN (nI t) (gN g 2)) := b01_eq c14
      exact absurd (inN_of ht (by omega)) b14
    · have b14 : inN (nI t) (gN g 2) := b01_ne c14
      refine s_iconstv (v := nI 0) (zdk hX9_move 9 rfl) zc_iconst_0 ?_
      refine s_goto 22 (zdk hX9_move 10 rfl) (by decide) ?_
      refine s_putI (zdk hX9_move 12 rfl) fw_X9_69 rfl pw_9_6 (hm.1) ?_
      refine s_mem (M' := (zsL (zsI M 941 6 (nI 0)) 942 g)) rfl ?_
      refine s_aload_n (zdk hX9_move 13 rfl) rfl ?_
      refine s_getI (zdk hX9_move 14 rfl) fw_X9_69 rfl (hm.1) ?_
      refine s_topi (b := nI 0) ((congrFun (zI_Ie (M := M) (a := 941) (k := 6) (v := (nI 0))) 6).trans zw1_e) ?_
      refine s_if_le 34 (zdk hX9_move 15 rfl) (by decide) (fun c29 => ?_) (fun c29 => ?_)
      · refine s_aload_n (zdk hX9_move 18 rfl) rfl ?_
        refine s_iload_n (zdk hX9_move 19 rfl) rfl ?_
        refine s_callV0 (ci := 9) [.int (nI f)] (zdk hX9_move 20 rfl) cw_X9_233 (hm.1) (by decide) rfl rfl rfl (Nat.le_of_ble_eq_true rfl) (by decide) (c_X9_isPinned hl (M := (zsI M 941 6 (nI 0))) (g := g) hm hb (h4 := hi4) (f := f) (by omega)) ?_
        refine s_if_eq 47 (zdk hX9_move 21 rfl) (by decide) (fun c39 => ?_) (fun c39 => ?_)
        · have b39 : ¬ (nI (gN g 4) < gf g f 3) := b01_eq c39
          refine s_aload_n (zdk hX9_move 25 rfl) rfl ?_
          refine s_iload_n (zdk hX9_move 26 rfl) rfl ?_
          refine s_iconstv (v := nI 1) (zdk hX9_move 27 rfl) zc_iconst_1 ?_
          refine s_callV0 (ci := 9) [.int (nI f), .int (nI 1)] (zdk hX9_move 28 rfl) cw_X9_211 (hm.1) (by decide) rfl rfl rfl (Nat.le_of_ble_eq_true rfl) (by decide) (c_X9_of hl (M := (zsI M 941 6 (nI 0))) (g := g) hm (f := f) (k := 1) (by omega)) ?_
          refine s_topi (b := nI (gN g (58 + 51 * f + 1))) (hb.on hf) ?_
          refine s_iload_n (zdk hX9_move 29 rfl) rfl ?_
          refine s_icmp_ne 62 (zdk hX9_move 30 rfl) (by decide) (fun c54 => ?_) (fun c54 => ?_)
          · have n54 : ¬ (gN g (58 + 51 * f + 1)) = t := nne c54
            refine s_aload_n (zdk hX9_move 34 rfl) rfl ?_
            refine s_iload_n (zdk hX9_move 35 rfl) rfl ?_
            refine s_callV0 (ci := 9) [.int (nI t)] (zdk hX9_move 36 rfl) cw_X9_188 (hm.1) (by decide) rfl rfl rfl (Nat.le_of_ble_eq_true rfl) (by decide) (c_X9_freeOn hl (M := (zsI M 941 6 (nI 0))) (g := g) hm hb (t := t) (by omega)) ?_
            refine s_aload_n (zdk hX9_move 37 rfl) rfl ?_
            refine s_iload_n (zdk hX9_move 38 rfl) rfl ?_
            refine s_iconstv (v := nI 0) (zdk hX9_move 39 rfl) zc_iconst_0 ?_
            refine s_callV0 (ci := 9) [.int (nI f), .int (nI 0)] (zdk hX9_move 40 rfl) cw_X9_211 (hm.1) (by decide) rfl rfl rfl (Nat.le_of_ble_eq_true rfl) (by decide) (c_X9_of hl (M := (zsI M 941 6 (nI 0))) (g := g) hm (f := f) (k := 0) (by omega)) ?_
            refine s_icmp_ge 81 (zdk hX9_move 41 rfl) (by decide) (fun c73 => ?_) (fun c73 => ?_)
            · refine s_aload_n (zdk hX9_move 45 rfl) rfl ?_
              refine s_aload_n (zdk hX9_move 46 rfl) rfl ?_
              refine s_getR (zdk hX9_move 47 rfl) fw_X9_7 rfl (hm.1) (show _ = some 942 from (hm.r (i := 0) rfl).1) ?_
              refine s_callV0 (ci := 9) [.ref 942] (zdk hX9_move 48 rfl) cw_X9_83 (hm.1) (by decide) rfl rfl rfl (Nat.le_of_ble_eq_true rfl) (by decide) (c_keeps0 hl hm hc hc8) ?_
              refine s_aload_n (zdk hX9_move 49 rfl) rfl ?_
              refine s_iload_n (zdk hX9_move 50 rfl) rfl ?_
              refine s_iload_n (zdk hX9_move 51 rfl) rfl ?_
              refine s_callV0 (ci := 9) [.int (nI f), .int (nI t)] (zdk hX9_move 52 rfl) cw_X9_342 (hm.1) (by decide) rfl rfl rfl (Nat.le_of_ble_eq_true rfl) (by decide) (c_X9_goes hl (M := KP M c g) hm hb hi5 hf ht) ?_
              refine s_ireturn (zdk hX9_move 53 rfl) rfl rfl ?_
              exact ⟨rfl, rfl⟩
            · exact absurd (Int32.not_le.mp c73) hr3
          · have n54 : gN g (58 + 51 * f + 1) = t := neq c54 (by omega) (by omega)
            exact absurd n54 hr2
        · have b39 : nI (gN g 4) < gf g f 3 := b01_ne c39
          exact absurd b39 hr
      · exact absurd (by decide) c29
end
