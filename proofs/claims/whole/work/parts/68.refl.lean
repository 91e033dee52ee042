theorem zc_bipush_99 : (Int8.ofInt 99).toInt32 = nI 99 := by decide
/-! ===== the reference: undo, save, restore, unmove, setTier, learn ===== -/
theorem gBd.re {g : Nat → Int64} {f n i : Nat} (h : gBd g) (hf : f < gN g 3) : gBd (oRe g f n i) :=
  have hc : 0 < gN g 0 ∧ gN g 0 ≤ 12 := ⟨by have := h.1.2.1; omega, h.1.2.2⟩
  h.fk hf (fun k hk => oRe_n (by omega) hc i) (oRe_n (by omega) hc i) (oRe_n (by omega) hc i)
theorem gBd.reA {g : Nat → Int64} (h : gBd g) : ∀ i, i ≤ gN g 3 → gBd (oReA g i)
  | 0, _ => h
  | i + 1, hi => by
    have hc : 0 < gN g 0 ∧ gN g 0 ≤ 12 := ⟨by have := h.1.2.1; omega, h.1.2.2⟩
    have h20 := h.2.2.1.2
    have e3 : gN (oReA g i) 3 = gN g 3 := gN_eq (oReA_n hc i (Or.inl (by omega)) (by omega))
    exact (gBd.reA h i (by omega)).re (by rw [e3]; omega)
theorem oReA_4 {g : Nat → Int64} (h : gBd g) {i f : Nat} (hi : i ≤ 20) (hf : f < 20) : oReA g i (58 + 51 * f + 4) = g (58 + 51 * f + 4) :=
  oReA_n ⟨by have := h.1.2.1; omega, h.1.2.2⟩ i (Or.inr (fun _ f' q h1 h2 h3 => by omega)) hi
section
variable {l : Launch} {G : zG}
theorem c_copiesA (hl : l.stackTraces = false) {X : zMem} (hm : mSh X) {g : Nat → Int64} {B q NB : Nat} (hB : zK X B = 12) (hBn : zN X B = NB) (hne : B ≠ 942) (hq : q + 1390 ≤ NB) (hB9 : NB < 100000) : zCm l G mX9_copies 0 0 0 0 [.ref 942, .int (nI 0), .ref B, .int (nI q)] (zsL X 942 g) (zD none (zsL X 942 (va_cpy (zJ X B) g q 0 1390))) := by
  have h := c_X9_copies (l := l) (G := G) hl (M := zsL X 942 g) (A := 942) (B := B) (p := 0) (q := q) (NA := 1390) (hm.r (i := 0) rfl).2.1 hB (hm.r (i := 0) rfl).2.2 hBn hne (by omega) hq (by omega) hB9
  rw [zJ_Le, zJ_Ln hne, zsL_zsL] at h
  exact h
theorem c_copiesB (hl : l.stackTraces = false) {X : zMem} (hm : mSh X) {g : Nat → Int64} {B p NB : Nat} (hB : zK X B = 12) (hBn : zN X B = NB) (hne : B ≠ 942) (hq : p + 1390 ≤ NB) (hB9 : NB < 100000) : zCm l G mX9_copies 0 0 0 0 [.ref B, .int (nI p), .ref 942, .int (nI 0)] (zsL X 942 g) (zD none (zsL (zsL X B (va_cpy g (zJ X B) 0 p 1390)) 942 g)) := by
  have h := c_X9_copies (l := l) (G := G) hl (M := zsL X 942 g) (A := B) (B := 942) (p := p) (q := 0) (NB := 1390) hB (hm.r (i := 0) rfl).2.1 hBn (hm.r (i := 0) rfl).2.2 (Ne.symm hne) hq (by omega) hB9 (by omega)
  rw [zJ_Le, zJ_Ln hne] at h
  rw [zsL_c hne]
  exact h
theorem c_X9_undo_x (hl : l.stackTraces = false) {M : zMem} (hm : mSh M) {g : Nat → Int64} (hc : zI M 941 5 = nI 0) : zCm l G mX9_undo 1 30 0 0 [.ref 941] (zsL M 942 g) (zD (some (.int (nI 0))) (zsL (zsI M 941 6 (nI (1))) 942 g)) := by
  refine zCd.of (ls0 := [some (.ref 941)]) (by decide +kernel) rfl hl rfl (Nat.le_of_ble_eq_true rfl) rfl ?_
  refine s_aload_n (zdk hX9_undo 0 rfl) rfl ?_
  refine s_aload_n (zdk hX9_undo 1 rfl) rfl ?_
  refine s_getI (zdk hX9_undo 2 rfl) fw_X9_72 rfl (hm.1) ?_
  refine s_topi (b := nI 0) (hc) ?_
  refine s_if_ne 12 (zdk hX9_undo 3 rfl) (by decide) (fun c5 => ?_) (fun c5 => ?_)
  · exact absurd c5 (by decide)
  · refine s_iconstv (v := nI 1) (zdk hX9_undo 4 rfl) zc_iconst_1 ?_
    refine s_goto 13 (zdk hX9_undo 5 rfl) (by decide) ?_
    refine s_putI (zdk hX9_undo 7 rfl) fw_X9_69 rfl pw_9_6 (hm.1) ?_
    refine s_mem (M' := (zsL (zsI M 941 6 (nI 1)) 942 g)) rfl ?_
    refine s_aload_n (zdk hX9_undo 8 rfl) rfl ?_
    refine s_getI (zdk hX9_undo 9 rfl) fw_X9_69 rfl (hm.1) ?_
    refine s_topi (b := nI 1) ((congrFun (zI_Ie (M := M) (a := 941) (k := 6) (v := (nI 1))) 6).trans zw1_e) ?_
    refine s_if_le 25 (zdk hX9_undo 10 rfl) (by decide) (fun c20 => ?_) (fun c20 => ?_)
    · exact absurd c20 (by decide)
    · refine s_iconstv (v := nI 0) (zdk hX9_undo 11 rfl) zc_iconst_0 ?_
      refine s_ireturn (zdk hX9_undo 12 rfl) rfl rfl ?_
      exact ⟨rfl, rfl⟩
theorem c_X9_undo (hl : l.stackTraces = false) {M : zMem} (hm : mSh M) {g : Nat → Int64} {c : Nat} (hc : zI M 941 5 = nI c) (hc8 : c ≤ 8) (h0 : 0 < c) : zCm l G mX9_undo 1 30 0 0 [.ref 941] (zsL M 942 g) (zD (some (.int (nI (c - 1)))) (zsL (zsI (zsI M 941 6 (nI 0)) 941 5 (nI (c - 1))) 942 (va_cpy (zJ M 944) g (1390 * (c - 1)) 0 1390))) := by
  refine zCd.of (ls0 := [some (.ref 941)]) (by decide +kernel) rfl hl rfl (Nat.le_of_ble_eq_true rfl) rfl ?_
  refine s_aload_n (zdk hX9_undo 0 rfl) rfl ?_
  refine s_aload_n (zdk hX9_undo 1 rfl) rfl ?_
  refine s_getI (zdk hX9_undo 2 rfl) fw_X9_72 rfl (hm.1) ?_
  refine s_topi (b := nI c) (hc) ?_
  refine s_if_ne 12 (zdk hX9_undo 3 rfl) (by decide) (fun c5 => ?_) (fun c5 => ?_)
  · refine s_iconstv (v := nI 0) (zdk hX9_undo 6 rfl) zc_iconst_0 ?_
    refine s_putI (zdk hX9_undo 7 rfl) fw_X9_69 rfl pw_9_6 (hm.1) ?_
    refine s_mem (M' := (zsL (zsI M 941 6 (nI 0)) 942 g)) rfl ?_
    refine s_aload_n (zdk hX9_undo 8 rfl) rfl ?_
    refine s_getI (zdk hX9_undo 9 rfl) fw_X9_69 rfl (hm.1) ?_
    refine s_topi (b := nI 0) ((congrFun (zI_Ie (M := M) (a := 941) (k := 6) (v := (nI 0))) 6).trans zw1_e) ?_
    refine s_if_le 25 (zdk hX9_undo 10 rfl) (by decide) (fun c20 => ?_) (fun c20 => ?_)
    · refine s_aload_n (zdk hX9_undo 13 rfl) rfl ?_
      refine s_dupr (zdk hX9_undo 14 rfl) ?_
      refine s_getI (zdk hX9_undo 15 rfl) fw_X9_72 rfl (hm.1) ?_
      refine s_topi (b := nI c) ((congrFun (zI_Ie (M := M) (a := 941) (k := 6) (v := (nI 0))) 5).trans ((zw1_n (by decide)).trans (hc))) ?_
      refine s_iconstv (v := nI 1) (zdk hX9_undo 16 rfl) zc_iconst_1 ?_
      refine s_isub (zdk hX9_undo 17 rfl) ?_
      refine s_topi (b := nI (c - 1)) (pk_sub (by omega)) ?_
      refine s_putI (zdk hX9_undo 18 rfl) fw_X9_72 rfl pw_9_5 (hm.1) ?_
      refine s_mem (M' := (zsL (zsI (zsI M 941 6 (nI 0)) 941 5 (nI (c - 1))) 942 g)) rfl ?_
      refine s_aload_n (zdk hX9_undo 19 rfl) rfl ?_
      refine s_getR (zdk hX9_undo 20 rfl) fw_X9_7 rfl (hm.1) (show _ = some 942 from (hm.r (i := 0) rfl).1) ?_
      refine s_iconstv (v := nI 0) (zdk hX9_undo 21 rfl) zc_iconst_0 ?_
      refine s_aload_n (zdk hX9_undo 22 rfl) rfl ?_
      refine s_getR (zdk hX9_undo 23 rfl) fw_X9_16 rfl (hm.1) (show _ = some 944 from (hm.r (i := 2) rfl).1) ?_
      refine s_sipushv (v := nI 1390) (zdk hX9_undo 24 rfl) zc_sipush_1390 ?_
      refine s_aload_n (zdk hX9_undo 25 rfl) rfl ?_
      refine s_getI (zdk hX9_undo 26 rfl) fw_X9_72 rfl (hm.1) ?_
      refine s_topi (b := nI (c - 1)) ((congrFun (zI_Ie (M := (zsI M 941 6 (nI 0))) (a := 941) (k := 5) (v := (nI (c - 1)))) 5).trans zw1_e) ?_
      refine s_imul (zdk hX9_undo 27 rfl) ?_
      refine s_topi (b := nI (1390 * (c - 1))) (pk_mul _ _) ?_
      refine s_callS0 [.ref 942, .int (nI 0), .ref 944, .int (nI (1390 * (c - 1)))] (zdk hX9_undo 28 rfl) cw_X9_75 rfl (Nat.le_of_ble_eq_true rfl) (by decide) (c_copiesA hl (X := (zsI (zsI M 941 6 (nI 0)) 941 5 (nI (c - 1)))) hm (B := 944) (q := 1390 * (c - 1)) (NB := 11120) (hm.r (i := 2) rfl).2.1 (hm.r (i := 2) rfl).2.2 (by decide) (by omega) (by decide)) ?_
      refine s_aload_n (zdk hX9_undo 29 rfl) rfl ?_
      refine s_getI (zdk hX9_undo 30 rfl) fw_X9_72 rfl (hm.1) ?_
      refine s_topi (b := nI (c - 1)) ((congrFun (zI_Ie (M := (zsI M 941 6 (nI 0))) (a := 941) (k := 5) (v := (nI (c - 1)))) 5).trans zw1_e) ?_
      refine s_ireturn (zdk hX9_undo 31 rfl) rfl rfl ?_
      exact ⟨rfl, rfl⟩
    · exact absurd (by decide) c20
  · exact absurd c5 (nI_ne0 h0 (by omega))
theorem c_X9_save_x (hl : l.stackTraces = false) {M : zMem} (hm : mSh M) {g : Nat → Int64} (s : Int32) (hx : ¬ inN s 2) : zCm l G mX9_save 1 30 0 0 [.ref 941, .int (s)] (zsL M 942 g) (zD none (zsL (zsI M 941 6 (nI (1))) 942 g)) := by
  refine zCd.of (ls0 := [some (.ref 941), some (.int (s))]) (by decide +kernel) rfl hl rfl (Nat.le_of_ble_eq_true rfl) rfl ?_
  refine s_aload_n (zdk hX9_save 0 rfl) rfl ?_
  refine s_iload_n (zdk hX9_save 1 rfl) rfl ?_
  refine s_iconstv (v := nI 0) (zdk hX9_save 2 rfl) zc_iconst_0 ?_
  refine s_iconstv (v := nI 1) (zdk hX9_save 3 rfl) zc_iconst_1 ?_
  refine s_callS0 [.int (s), .int (nI 0), .int (nI 1)] (zdk hX9_save 4 rfl) cw_X9_79 rfl (Nat.le_of_ble_eq_true rfl) (by decide) (c_X9_isIn hl (zsL M 942 g) (s) (nI 0) (nI 1)) ?_
  refine s_topi (b := if inN s 2 then nI 1 else nI 0) (b01 (inN_in rfl (by omega))) ?_
  refine s_if_eq 14 (zdk hX9_save 5 rfl) (by decide) (fun c7 => ?_) (fun c7 => ?_)
  · have b7 : ¬ (inN s 2) := b01_eq c7
    refine s_iconstv (v := nI 1) (zdk hX9_save 8 rfl) zc_iconst_1 ?_
    refine s_putI (zdk hX9_save 9 rfl) fw_X9_69 rfl pw_9_6 (hm.1) ?_
    refine s_mem (M' := (zsL (zsI M 941 6 (nI 1)) 942 g)) rfl ?_
    refine s_aload_n (zdk hX9_save 10 rfl) rfl ?_
    refine s_getI (zdk hX9_save 11 rfl) fw_X9_69 rfl (hm.1) ?_
    refine s_topi (b := nI 1) ((congrFun (zI_Ie (M := M) (a := 941) (k := 6) (v := (nI 1))) 6).trans zw1_e) ?_
    refine s_if_le 26 (zdk hX9_save 12 rfl) (by decide) (fun c22 => ?_) (fun c22 => ?_)
    · exact absurd c22 (by decide)
    · refine s_return (zdk hX9_save 13 rfl) rfl ?_
      exact ⟨rfl, rfl⟩
  · have b7 : inN s 2 := b01_ne c7
    exact absurd b7 hx
theorem c_X9_save (hl : l.stackTraces = false) {M : zMem} (hm : mSh M) {g : Nat → Int64} {s : Nat} (hs : s < 2) : zCm l G mX9_save 1 30 0 0 [.ref 941, .int (nI s)] (zsL M 942 g) (zD none (zsL (zsI (zsL (zsI M 941 6 (nI 0)) 945 (va_cpy g (zJ M 945) 0 (1390 * s) 1390)) 946 s (nI 1)) 942 g)) := by
  refine zCd.of (ls0 := [some (.ref 941), some (.int (nI s))]) (by decide +kernel) rfl hl rfl (Nat.le_of_ble_eq_true rfl) rfl ?_
  refine s_aload_n (zdk hX9_save 0 rfl) rfl ?_
  refine s_iload_n (zdk hX9_save 1 rfl) rfl ?_
  refine s_iconstv (v := nI 0) (zdk hX9_save 2 rfl) zc_iconst_0 ?_
  refine s_iconstv (v := nI 1) (zdk hX9_save 3 rfl) zc_iconst_1 ?_
  refine s_callS0 [.int (nI s), .int (nI 0), .int (nI 1)] (zdk hX9_save 4 rfl) cw_X9_79 rfl (Nat.le_of_ble_eq_true rfl) (by decide) (c_X9_isIn hl (zsL M 942 g) (nI s) (nI 0) (nI 1)) ?_
  refine s_topi (b := if inN (nI s) 2 then nI 1 else nI 0) (b01 (inN_in rfl (by omega))) ?_
  refine s_if_eq 14 (zdk hX9_save 5 rfl) (by decide) (fun c7 => ?_) (fun c7 => ?_)
  · have b7 : ¬ (inN (nI s) 2) := b01_eq c7
    exact absurd (inN_of hs (by omega)) b7
  · have b7 : inN (nI s) 2 := b01_ne c7
    refine s_iconstv (v := nI 0) (zdk hX9_save 6 rfl) zc_iconst_0 ?_
    refine s_goto 15 (zdk hX9_save 7 rfl) (by decide) ?_
    refine s_putI (zdk hX9_save 9 rfl) fw_X9_69 rfl pw_9_6 (hm.1) ?_
    refine s_mem (M' := (zsL (zsI M 941 6 (nI 0)) 942 g)) rfl ?_
    refine s_aload_n (zdk hX9_save 10 rfl) rfl ?_
    refine s_getI (zdk hX9_save 11 rfl) fw_X9_69 rfl (hm.1) ?_
    refine s_topi (b := nI 0) ((congrFun (zI_Ie (M := M) (a := 941) (k := 6) (v := (nI 0))) 6).trans zw1_e) ?_
    refine s_if_le 26 (zdk hX9_save 12 rfl) (by decide) (fun c22 => ?_) (fun c22 => ?_)
    · refine s_aload_n (zdk hX9_save 14 rfl) rfl ?_
      refine s_getR (zdk hX9_save 15 rfl) fw_X9_19 rfl (hm.1) (show _ = some 945 from (hm.r (i := 3) rfl).1) ?_
      refine s_sipushv (v := nI 1390) (zdk hX9_save 16 rfl) zc_sipush_1390 ?_
      refine s_iload_n (zdk hX9_save 17 rfl) rfl ?_
      refine s_imul (zdk hX9_save 18 rfl) ?_
      refine s_topi (b := nI (1390 * s)) (pk_mul _ _) ?_
      refine s_aload_n (zdk hX9_save 19 rfl) rfl ?_
      refine s_getR (zdk hX9_save 20 rfl) fw_X9_7 rfl (hm.1) (show _ = some 942 from (hm.r (i := 0) rfl).1) ?_
      refine s_iconstv (v := nI 0) (zdk hX9_save 21 rfl) zc_iconst_0 ?_
      refine s_callS0 [.ref 945, .int (nI (1390 * s)), .ref 942, .int (nI 0)] (zdk hX9_save 22 rfl) cw_X9_75 rfl (Nat.le_of_ble_eq_true rfl) (by decide) (c_copiesB hl (X := (zsI M 941 6 (nI 0))) hm (B := 945) (p := 1390 * s) (NB := 2780) (hm.r (i := 3) rfl).2.1 (hm.r (i := 3) rfl).2.2 (by decide) (by omega) (by decide)) ?_
      refine s_aload_n (zdk hX9_save 23 rfl) rfl ?_
      refine s_getR (zdk hX9_save 24 rfl) fw_X9_22 rfl (hm.1) (show _ = some 946 from (hm.r (i := 4) rfl).1) ?_
      refine s_iload_n (zdk hX9_save 25 rfl) rfl ?_
      refine s_iconstv (v := nI 1) (zdk hX9_save 26 rfl) zc_iconst_1 ?_
      refine s_bastoreN (N := 2) (j := s) (zdk hX9_save 27 rfl) ((hm.r (i := 4) rfl).2.1) ((hm.r (i := 4) rfl).2.2) (by omega) (by decide) (rfl) ?_
      refine s_mem (M' := (zsL (zsI (zsL (zsI M 941 6 (nI 0)) 945 (va_cpy g (zJ M 945) 0 (1390 * s) 1390)) 946 s (nI 1)) 942 g)) rfl ?_
      refine s_return (zdk hX9_save 28 rfl) rfl ?_
      exact ⟨rfl, rfl⟩
    · exact absurd (by decide) c22
theorem c_X9_restore_x (hl : l.stackTraces = false) {M : zMem} (hm : mSh M) {g : Nat → Int64} (s : Int32) (hx : ¬ inN s 2) : zCm l G mX9_restore 2 50 0 0 [.ref 941, .int (s)] (zsL M 942 g) (zD (some (.int (nI 0))) (zsL (zsI M 941 6 (nI (1))) 942 g)) := by
  refine zCd.of (ls0 := [some (.ref 941), some (.int (s))]) (by decide +kernel) rfl hl rfl (Nat.le_of_ble_eq_true rfl) rfl ?_
  refine s_aload_n (zdk hX9_restore 0 rfl) rfl ?_
  refine s_iload_n (zdk hX9_restore 1 rfl) rfl ?_
  refine s_iconstv (v := nI 0) (zdk hX9_restore 2 rfl) zc_iconst_0 ?_
  refine s_iconstv (v := nI 1) (zdk hX9_restore 3 rfl) zc_iconst_1 ?_
  refine s_callS0 [.int (s), .int (nI 0), .int (nI 1)] (zdk hX9_restore 4 rfl) cw_X9_79 rfl (Nat.le_of_ble_eq_true rfl) (by decide) (c_X9_isIn hl (zsL M 942 g) (s) (nI 0) (nI 1)) ?_
  refine s_topi (b := if inN s 2 then nI 1 else nI 0) (b01 (inN_in rfl (by omega))) ?_
  refine s_if_ne 14 (zdk hX9_restore 5 rfl) (by decide) (fun c7 => ?_) (fun c7 => ?_)
  · have b7 : inN s 2 := b01_ne c7
    exact absurd b7 hx
  · have b7 : ¬ (inN s 2) := b01_eq c7
    refine s_iconstv (v := nI 1) (zdk hX9_restore 6 rfl) zc_iconst_1 ?_
    refine s_goto 28 (zdk hX9_restore 7 rfl) (by decide) ?_
    refine s_putI (zdk hX9_restore 16 rfl) fw_X9_69 rfl pw_9_6 (hm.1) ?_
    refine s_mem (M' := (zsL (zsI M 941 6 (nI 1)) 942 g)) rfl ?_
    refine s_aload_n (zdk hX9_restore 17 rfl) rfl ?_
    refine s_getI (zdk hX9_restore 18 rfl) fw_X9_69 rfl (hm.1) ?_
    refine s_topi (b := nI 1) ((congrFun (zI_Ie (M := M) (a := 941) (k := 6) (v := (nI 1))) 6).trans zw1_e) ?_
    refine s_if_le 40 (zdk hX9_restore 19 rfl) (by decide) (fun c35 => ?_) (fun c35 => ?_)
    · exact absurd c35 (by decide)
    · refine s_iconstv (v := nI 0) (zdk hX9_restore 20 rfl) zc_iconst_0 ?_
      refine s_ireturn (zdk hX9_restore 21 rfl) rfl rfl ?_
      exact ⟨rfl, rfl⟩
theorem c_X9_restore_e (hl : l.stackTraces = false) {M : zMem} (hm : mSh M) {g : Nat → Int64} {s : Nat} (hs : s < 2) (hz : zI M 946 s = 0) : zCm l G mX9_restore 2 50 0 0 [.ref 941, .int (nI s)] (zsL M 942 g) (zD (some (.int (nI 0))) (zsL (zsI M 941 6 (nI (2))) 942 g)) := by
  refine zCd.of (ls0 := [some (.ref 941), some (.int (nI s))]) (by decide +kernel) rfl hl rfl (Nat.le_of_ble_eq_true rfl) rfl ?_
  refine s_aload_n (zdk hX9_restore 0 rfl) rfl ?_
  refine s_iload_n (zdk hX9_restore 1 rfl) rfl ?_
  refine s_iconstv (v := nI 0) (zdk hX9_restore 2 rfl) zc_iconst_0 ?_
  refine s_iconstv (v := nI 1) (zdk hX9_restore 3 rfl) zc_iconst_1 ?_
  refine s_callS0 [.int (nI s), .int (nI 0), .int (nI 1)] (zdk hX9_restore 4 rfl) cw_X9_79 rfl (Nat.le_of_ble_eq_true rfl) (by decide) (c_X9_isIn hl (zsL M 942 g) (nI s) (nI 0) (nI 1)) ?_
  refine s_topi (b := if inN (nI s) 2 then nI 1 else nI 0) (b01 (inN_in rfl (by omega))) ?_
  refine s_if_ne 14 (zdk hX9_restore 5 rfl) (by decide) (fun c7 => ?_) (fun c7 => ?_)
  · have b7 : inN (nI s) 2 := b01_ne c7
    refine s_aload_n (zdk hX9_restore 8 rfl) rfl ?_
    refine s_getR (zdk hX9_restore 9 rfl) fw_X9_22 rfl (hm.1) (show _ = some 946 from (hm.r (i := 4) rfl).1) ?_
    refine s_iload_n (zdk hX9_restore 10 rfl) rfl ?_
    refine s_baloadN (N := 2) (j := s) (zdk hX9_restore 11 rfl) ((hm.r (i := 4) rfl).2.1) ((hm.r (i := 4) rfl).2.2) (by omega) (by decide) ?_
    refine s_if_eq 27 (zdk hX9_restore 12 rfl) (by decide) (fun c20 => ?_) (fun c20 => ?_)
    · refine s_iconstv (v := nI 2) (zdk hX9_restore 15 rfl) zc_iconst_2 ?_
      refine s_putI (zdk hX9_restore 16 rfl) fw_X9_69 rfl pw_9_6 (hm.1) ?_
      refine s_mem (M' := (zsL (zsI M 941 6 (nI 2)) 942 g)) rfl ?_
      refine s_aload_n (zdk hX9_restore 17 rfl) rfl ?_
      refine s_getI (zdk hX9_restore 18 rfl) fw_X9_69 rfl (hm.1) ?_
      refine s_topi (b := nI 2) ((congrFun (zI_Ie (M := M) (a := 941) (k := 6) (v := (nI 2))) 6).trans zw1_e) ?_
      refine s_if_le 40 (zdk hX9_restore 19 rfl) (by decide) (fun c35 => ?_) (fun c35 => ?_)
      · exact absurd c35 (by decide)
      · refine s_iconstv (v := nI 0) (zdk hX9_restore 20 rfl) zc_iconst_0 ?_
        refine s_ireturn (zdk hX9_restore 21 rfl) rfl rfl ?_
        exact ⟨rfl, rfl⟩
    · exact absurd hz c20
  · have b7 : ¬ (inN (nI s) 2) := b01_eq c7
    exact absurd (inN_of hs (by omega)) b7
theorem c_X9_restore (hl : l.stackTraces = false) {M : zMem} (hm : mSh M) {g : Nat → Int64} {c : Nat} (hc : zI M 941 5 = nI c) (hc8 : c ≤ 8) {s : Nat} (hs : s < 2) (hz : ¬ zI M 946 s = 0) : zCm l G mX9_restore 2 52 0 0 [.ref 941, .int (nI s)] (zsL M 942 g) (zD (some (.int (its (va_cpy (zJ M 945) g (1390 * s) 0 1390) 4))) (zsL (KP M c g) 942 (va_cpy (zJ M 945) g (1390 * s) 0 1390))) := by
  refine zCd.of (ls0 := [some (.ref 941), some (.int (nI s))]) (by decide +kernel) rfl hl rfl (Nat.le_of_ble_eq_true rfl) rfl ?_
  refine s_aload_n (zdk hX9_restore 0 rfl) rfl ?_
  refine s_iload_n (zdk hX9_restore 1 rfl) rfl ?_
  refine s_iconstv (v := nI 0) (zdk hX9_restore 2 rfl) zc_iconst_0 ?_
  refine s_iconstv (v := nI 1) (zdk hX9_restore 3 rfl) zc_iconst_1 ?_
  refine s_callS0 [.int (nI s), .int (nI 0), .int (nI 1)] (zdk hX9_restore 4 rfl) cw_X9_79 rfl (Nat.le_of_ble_eq_true rfl) (by decide) (c_X9_isIn hl (zsL M 942 g) (nI s) (nI 0) (nI 1)) ?_
  refine s_topi (b := if inN (nI s) 2 then nI 1 else nI 0) (b01 (inN_in rfl (by omega))) ?_
  refine s_if_ne 14 (zdk hX9_restore 5 rfl) (by decide) (fun c7 => ?_) (fun c7 => ?_)
  · have b7 : inN (nI s) 2 := b01_ne c7
    refine s_aload_n (zdk hX9_restore 8 rfl) rfl ?_
    refine s_getR (zdk hX9_restore 9 rfl) fw_X9_22 rfl (hm.1) (show _ = some 946 from (hm.r (i := 4) rfl).1) ?_
    refine s_iload_n (zdk hX9_restore 10 rfl) rfl ?_
    refine s_baloadN (N := 2) (j := s) (zdk hX9_restore 11 rfl) ((hm.r (i := 4) rfl).2.1) ((hm.r (i := 4) rfl).2.2) (by omega) (by decide) ?_
    refine s_if_eq 27 (zdk hX9_restore 12 rfl) (by decide) (fun c20 => ?_) (fun c20 => ?_)
    · exact absurd c20 hz
    · refine s_iconstv (v := nI 0) (zdk hX9_restore 13 rfl) zc_iconst_0 ?_
      refine s_goto 28 (zdk hX9_restore 14 rfl) (by decide) ?_
      refine s_putI (zdk hX9_restore 16 rfl) fw_X9_69 rfl pw_9_6 (hm.1) ?_
      refine s_mem (M' := (zsL (zsI M 941 6 (nI 0)) 942 g)) rfl ?_
      refine s_aload_n (zdk hX9_restore 17 rfl) rfl ?_
      refine s_getI (zdk hX9_restore 18 rfl) fw_X9_69 rfl (hm.1) ?_
      refine s_topi (b := nI 0) ((congrFun (zI_Ie (M := M) (a := 941) (k := 6) (v := (nI 0))) 6).trans zw1_e) ?_
      refine s_if_le 40 (zdk hX9_restore 19 rfl) (by decide) (fun c35 => ?_) (fun c35 => ?_)
      · refine s_aload_n (zdk hX9_restore 22 rfl) rfl ?_
        refine s_aload_n (zdk hX9_restore 23 rfl) rfl ?_
        refine s_getR (zdk hX9_restore 24 rfl) fw_X9_7 rfl (hm.1) (show _ = some 942 from (hm.r (i := 0) rfl).1) ?_
        refine s_callV0 (ci := 9) [.ref 942] (zdk hX9_restore 25 rfl) cw_X9_83 (hm.1) (by decide) rfl rfl rfl (Nat.le_of_ble_eq_true rfl) (by decide) (c_keeps0 hl hm hc hc8) ?_
        refine s_aload_n (zdk hX9_restore 26 rfl) rfl ?_
        refine s_getR (zdk hX9_restore 27 rfl) fw_X9_7 rfl (hm.1) (show _ = some 942 from (hm.r (i := 0) rfl).1) ?_
        refine s_iconstv (v := nI 0) (zdk hX9_restore 28 rfl) zc_iconst_0 ?_
        refine s_aload_n (zdk hX9_restore 29 rfl) rfl ?_
        refine s_getR (zdk hX9_restore 30 rfl) fw_X9_19 rfl (hm.1) (show _ = some 945 from (hm.r (i := 3) rfl).1) ?_
        refine s_sipushv (v := nI 1390) (zdk hX9_restore 31 rfl) zc_sipush_1390 ?_
        refine s_iload_n (zdk hX9_restore 32 rfl) rfl ?_
        refine s_imul (zdk hX9_restore 33 rfl) ?_
        refine s_topi (b := nI (1390 * s)) (pk_mul _ _) ?_
        refine s_callS0 [.ref 942, .int (nI 0), .ref 945, .int (nI (1390 * s))] (zdk hX9_restore 34 rfl) cw_X9_75 rfl (Nat.le_of_ble_eq_true rfl) (by decide) ((show zCm _ _ _ _ _ _ _ _ _ (zD none (zsL (KP M c g) 942 (va_cpy (zJ (KP M c g) 945) g (1390 * s) 0 1390))) from c_copiesA hl (X := KP M c g) hm (B := 945) (q := 1390 * s) (NB := 2780) (hm.r (i := 3) rfl).2.1 (hm.r (i := 3) rfl).2.2 (by decide) (by omega) (by decide))) ?_
        refine s_mem (M' := (zsL (KP M c g) 942 (va_cpy (zJ M 945) g (1390 * s) 0 1390))) (by rw [show zJ (KP M c g) 945 = zJ M 945 from zJ_Ln (by decide)]) ?_
        refine s_aload_n (zdk hX9_restore 35 rfl) rfl ?_
        refine s_iconstv (v := nI 4) (zdk hX9_restore 36 rfl) zc_iconst_4 ?_
        refine s_callV0 (ci := 9) [.int (nI 4)] (zdk hX9_restore 37 rfl) cw_X9_87 (hm.1) (by decide) rfl rfl rfl (Nat.le_of_ble_eq_true rfl) (by decide) (c_X9_its hl (M := (KP M c g)) (g := (va_cpy (zJ M 945) g (1390 * s) 0 1390)) hm (k := 4) (by omega)) ?_
        refine s_ireturn (zdk hX9_restore 38 rfl) rfl rfl ?_
        exact ⟨rfl, rfl⟩
      · exact absurd (by decide) c35
  · have b7 : ¬ (inN (nI s) 2) := b01_eq c7
    exact absurd (inN_of hs (by omega)) b7
theorem c_X9_unmove_0 (hl : l.stackTraces = false) {M : zMem} (hm : mSh M) {g : Nat → Int64} (hb : gBd g) (hip : gIp g) (h0 : gN g 5 = 0) : zCm l G mX9_unmove 4 94 0 0 [.ref 941] (zsL M 942 g) (zD (some (.int (-16))) (zsL (zsI M 941 6 (nI 0)) 942 g)) := by
  refine zCd.of (ls0 := [some (.ref 941), none, none, none]) (by decide +kernel) rfl hl rfl (Nat.le_of_ble_eq_true rfl) rfl ?_
  have hn2 := hb.2.2.1.2
  have ht4 := hb.2.1.2
  have hcy := hb.1.2.2
  have hpe := hb.2.2.2.1.2
  have hi5 := hip.h (k := 5) (by omega)
  have h60 := hb.2.2.2.2.1.2
  refine s_aload_n (zdk hX9_unmove_0 0 rfl) rfl ?_
  refine s_iconstv (v := nI 0) (zdk hX9_unmove_0 1 rfl) zc_iconst_0 ?_
  refine s_putI (zdk hX9_unmove_0 2 rfl) fw_X9_69 rfl pw_9_6 (hm.1) ?_
  refine s_mem (M' := (zsL (zsI M 941 6 (nI 0)) 942 g)) rfl ?_
  refine s_aload_n (zdk hX9_unmove_0 3 rfl) rfl ?_
  refine s_getR (zdk hX9_unmove_0 4 rfl) fw_X9_7 rfl (hm.1) (show _ = some 942 from (hm.r (i := 0) rfl).1) ?_
  refine s_iconstv (v := nI 5) (zdk hX9_unmove_0 5 rfl) zc_iconst_5 ?_
  refine s_laloadN (N := 1390) (j := 5) (zdk hX9_unmove_0 6 rfl) ((hm.r (i := 0) rfl).2.1) ((hm.r (i := 0) rfl).2.2) (by omega) (by decide) ?_
  refine s_topl (b := g 5) (congrFun zJ_Le _) ?_
  refine s_lconstv (v := (nI 0).toInt64) (zdk hX9_unmove_0 7 rfl) (by decide) ?_
  refine s_lcmp (zdk hX9_unmove_0 8 rfl) ?_
  refine s_if_ne 22 (zdk hX9_unmove_0 9 rfl) (by decide) (fun c13 => ?_) (fun c13 => ?_)
  · exact absurd ((lcmp60 hi5 hb.h5 (by omega) 0 (by omega)).mpr h0) c13
  · refine s_bipushv (v := nI 6) (zdk hX9_unmove_0 10 rfl) zc_bipush_6 ?_
    refine s_callS0 [.int (nI 6)] (zdk hX9_unmove_0 11 rfl) cw_X9_326 rfl (Nat.le_of_ble_eq_true rfl) (by decide) (c_X9_refused hl (zsL (zsI M 941 6 (nI 0)) 942 g) (nI 6)) ?_
    refine s_topi (b := (-16)) (by decide) ?_
    refine s_ireturn (zdk hX9_unmove_0 12 rfl) rfl rfl ?_
    exact ⟨rfl, rfl⟩
theorem c_X9_unmove_r (hl : l.stackTraces = false) {M : zMem} (hm : mSh M) {g : Nat → Int64} (hb : gBd g) (hip : gIp g) (h0 : 0 < gN g 5) (hr : gt g (oLa g) 0 - zfull g (nI (oLa g)) (gN g 3) < gf g (oLf g) 0) : zCm l G mX9_unmove 4 94 0 0 [.ref 941] (zsL M 942 g) (zD (some (.int (-15))) (zsL (zsI M 941 6 (nI 0)) 942 g)) := by
  refine zCd.of (ls0 := [some (.ref 941), none, none, none]) (by decide +kernel) rfl hl rfl (Nat.le_of_ble_eq_true rfl) rfl ?_
  have hn2 := hb.2.2.1.2
  have ht4 := hb.2.1.2
  have hcy := hb.1.2.2
  have hpe := hb.2.2.2.1.2
  have hi5 := hip.h (k := 5) (by omega)
  have h60 := hb.2.2.2.2.1.2
  have hf9 := (hb.mF h0).2
  have ha9 := (hb.mA h0).2
  have hb9 := (hb.mB h0).2
  refine s_aload_n (zdk hX9_unmove_0 0 rfl) rfl ?_
  refine s_iconstv (v := nI 0) (zdk hX9_unmove_0 1 rfl) zc_iconst_0 ?_
  refine s_putI (zdk hX9_unmove_0 2 rfl) fw_X9_69 rfl pw_9_6 (hm.1) ?_
  refine s_mem (M' := (zsL (zsI M 941 6 (nI 0)) 942 g)) rfl ?_
  refine s_aload_n (zdk hX9_unmove_0 3 rfl) rfl ?_
  refine s_getR (zdk hX9_unmove_0 4 rfl) fw_X9_7 rfl (hm.1) (show _ = some 942 from (hm.r (i := 0) rfl).1) ?_
  refine s_iconstv (v := nI 5) (zdk hX9_unmove_0 5 rfl) zc_iconst_5 ?_
  refine s_laloadN (N := 1390) (j := 5) (zdk hX9_unmove_0 6 rfl) ((hm.r (i := 0) rfl).2.1) ((hm.r (i := 0) rfl).2.2) (by omega) (by decide) ?_
  refine s_topl (b := g 5) (congrFun zJ_Le _) ?_
  refine s_lconstv (v := (nI 0).toInt64) (zdk hX9_unmove_0 7 rfl) (by decide) ?_
  refine s_lcmp (zdk hX9_unmove_0 8 rfl) ?_
  refine s_if_ne 22 (zdk hX9_unmove_0 9 rfl) (by decide) (fun c13 => ?_) (fun c13 => ?_)
  · refine s_sipushv (v := nI 1078) (zdk hX9_unmove_0 13 rfl) zc_sipush_1078 ?_
    refine s_iconstv (v := nI 5) (zdk hX9_unmove_0 14 rfl) zc_iconst_5 ?_
    refine s_aload_n (zdk hX9_unmove_0 15 rfl) rfl ?_
    refine s_iconstv (v := nI 5) (zdk hX9_unmove_0 16 rfl) zc_iconst_5 ?_
    refine s_callV0 (ci := 9) [.int (nI 5)] (zdk hX9_unmove_0 17 rfl) cw_X9_87 (hm.1) (by decide) rfl rfl rfl (Nat.le_of_ble_eq_true rfl) (by decide) (c_X9_itsN hl (M := (zsI M 941 6 (nI 0))) (g := g) hm (k := 5) (by decide) (hb.h5)) ?_
    refine s_iconstv (v := nI 1) (zdk hX9_unmove_0 18 rfl) zc_iconst_1 ?_
    refine s_isub (zdk hX9_unmove_0 19 rfl) ?_
    refine s_topi (b := nI (gN g 5 - 1)) (pk_sub (by omega)) ?_
    refine s_imul (zdk hX9_unmove_0 20 rfl) ?_
    refine s_topi (b := nI (5 * (gN g 5 - 1))) (pk_mul _ _) ?_
    refine s_iadd (zdk hX9_unmove_0 21 rfl) ?_
    refine s_topi (b := nI (1078 + 5 * (gN g 5 - 1))) (nI_add _ _) ?_
    refine s_istore_n (zdk hX9_unmove_0 22 rfl) (Nat.le_of_ble_eq_true rfl) ?_
    refine s_ls (ls' := [some (.ref 941), some (.int (nI (1078 + 5 * (gN g 5 - 1)))), none, none]) rfl ?_
    refine s_aload_n (zdk hX9_unmove_0 23 rfl) rfl ?_
    refine s_iload_n (zdk hX9_unmove_0 24 rfl) rfl ?_
    refine s_callV0 (ci := 9) [.int (nI (1078 + 5 * (gN g 5 - 1)))] (zdk hX9_unmove_0 25 rfl) cw_X9_87 (hm.1) (by decide) rfl rfl rfl (Nat.le_of_ble_eq_true rfl) (by decide) (c_X9_its hl (M := (zsI M 941 6 (nI 0))) (g := g) hm (k := (1078 + 5 * (gN g 5 - 1))) (by omega)) ?_
    refine s_topi (b := nI (oLf g)) ((hb.mF h0).1) ?_
    refine s_istore_n (zdk hX9_unmove_0 26 rfl) (Nat.le_of_ble_eq_true rfl) ?_
    refine s_ls (ls' := [some (.ref 941), some (.int (nI (1078 + 5 * (gN g 5 - 1)))), some (.int (nI (oLf g))), none]) rfl ?_
    refine s_aload_n (zdk hX9_unmove_0 27 rfl) rfl ?_
    refine s_iload_n (zdk hX9_unmove_0 28 rfl) rfl ?_
    refine s_iconstv (v := nI 1) (zdk hX9_unmove_0 29 rfl) zc_iconst_1 ?_
    refine s_iadd (zdk hX9_unmove_0 30 rfl) ?_
    refine s_topi (b := nI (1078 + 5 * (gN g 5 - 1) + 1)) (nI_add _ _) ?_
    refine s_callV0 (ci := 9) [.int (nI (1078 + 5 * (gN g 5 - 1) + 1))] (zdk hX9_unmove_0 31 rfl) cw_X9_87 (hm.1) (by decide) rfl rfl rfl (Nat.le_of_ble_eq_true rfl) (by decide) (c_X9_its hl (M := (zsI M 941 6 (nI 0))) (g := g) hm (k := (1078 + 5 * (gN g 5 - 1) + 1)) (by omega)) ?_
    refine s_topi (b := nI (oLa g)) ((hb.mA h0).1) ?_
    refine s_istore_n (zdk hX9_unmove_0 32 rfl) (Nat.le_of_ble_eq_true rfl) ?_
    refine s_ls (ls' := [some (.ref 941), some (.int (nI (1078 + 5 * (gN g 5 - 1)))), some (.int (nI (oLf g))), some (.int (nI (oLa g)))]) rfl ?_
    refine s_aload_n (zdk hX9_unmove_0 33 rfl) rfl ?_
    refine s_iload_n (zdk hX9_unmove_0 34 rfl) rfl ?_
    refine s_callV0 (ci := 9) [.int (nI (oLa g))] (zdk hX9_unmove_0 35 rfl) cw_X9_188 (hm.1) (by decide) rfl rfl rfl (Nat.le_of_ble_eq_true rfl) (by decide) (c_X9_freeOn hl (M := (zsI M 941 6 (nI 0))) (g := g) hm hb (t := (oLa g)) (by omega)) ?_
    refine s_aload_n (zdk hX9_unmove_0 36 rfl) rfl ?_
    refine s_iload_n (zdk hX9_unmove_0 37 rfl) rfl ?_
    refine s_iconstv (v := nI 0) (zdk hX9_unmove_0 38 rfl) zc_iconst_0 ?_
    refine s_callV0 (ci := 9) [.int (nI (oLf g)), .int (nI 0)] (zdk hX9_unmove_0 39 rfl) cw_X9_211 (hm.1) (by decide) rfl rfl rfl (Nat.le_of_ble_eq_true rfl) (by decide) (c_X9_of hl (M := (zsI M 941 6 (nI 0))) (g := g) hm (f := (oLf g)) (k := 0) (by omega)) ?_
    refine s_icmp_ge 69 (zdk hX9_unmove_0 40 rfl) (by decide) (fun c61 => ?_) (fun c61 => ?_)
    · exact absurd hr (Int32.not_lt.mpr c61)
    · refine s_iconstv (v := nI 5) (zdk hX9_unmove_0 41 rfl) zc_iconst_5 ?_
      refine s_callS0 [.int (nI 5)] (zdk hX9_unmove_0 42 rfl) cw_X9_326 rfl (Nat.le_of_ble_eq_true rfl) (by decide) (c_X9_refused hl (zsL (zsI M 941 6 (nI 0)) 942 g) (nI 5)) ?_
      refine s_topi (b := (-15)) (by decide) ?_
      refine s_ireturn (zdk hX9_unmove_0 43 rfl) rfl rfl ?_
      exact ⟨rfl, rfl⟩
  · exact absurd ((lcmp60 hi5 hb.h5 (by omega) 0 (by omega)).mp c13) (by omega)
theorem c_X9_unmove (hl : l.stackTraces = false) {M : zMem} (hm : mSh M) {g : Nat → Int64} (hb : gBd g) (hip : gIp g) {c : Nat} (hc : zI M 941 5 = nI c) (hc8 : c ≤ 8) (h0 : 0 < gN g 5) (hr : ¬ gt g (oLa g) 0 - zfull g (nI (oLa g)) (gN g 3) < gf g (oLf g) 0) : zCm l G mX9_unmove 4 94 0 0 [.ref 941] (zsL M 942 g) (zD (some (.int (nI (oLf g)))) (zsL (KP M c g) 942 (oBk g))) := by
  refine zCd.of (ls0 := [some (.ref 941), none, none, none]) (by decide +kernel) rfl hl rfl (Nat.le_of_ble_eq_true rfl) rfl ?_
  have hn2 := hb.2.2.1.2
  have ht4 := hb.2.1.2
  have hcy := hb.1.2.2
  have hpe := hb.2.2.2.1.2
  have hi5 := hip.h (k := 5) (by omega)
  have h60 := hb.2.2.2.2.1.2
  have hf9 := (hb.mF h0).2
  have ha9 := (hb.mA h0).2
  have hb9 := (hb.mB h0).2
  refine s_aload_n (zdk hX9_unmove_0 0 rfl) rfl ?_
  refine s_iconstv (v := nI 0) (zdk hX9_unmove_0 1 rfl) zc_iconst_0 ?_
  refine s_putI (zdk hX9_unmove_0 2 rfl) fw_X9_69 rfl pw_9_6 (hm.1) ?_
  refine s_mem (M' := (zsL (zsI M 941 6 (nI 0)) 942 g)) rfl ?_
  refine s_aload_n (zdk hX9_unmove_0 3 rfl) rfl ?_
  refine s_getR (zdk hX9_unmove_0 4 rfl) fw_X9_7 rfl (hm.1) (show _ = some 942 from (hm.r (i := 0) rfl).1) ?_
  refine s_iconstv (v := nI 5) (zdk hX9_unmove_0 5 rfl) zc_iconst_5 ?_
  refine s_laloadN (N := 1390) (j := 5) (zdk hX9_unmove_0 6 rfl) ((hm.r (i := 0) rfl).2.1) ((hm.r (i := 0) rfl).2.2) (by omega) (by decide) ?_
  refine s_topl (b := g 5) (congrFun zJ_Le _) ?_
  refine s_lconstv (v := (nI 0).toInt64) (zdk hX9_unmove_0 7 rfl) (by decide) ?_
  refine s_lcmp (zdk hX9_unmove_0 8 rfl) ?_
  refine s_if_ne 22 (zdk hX9_unmove_0 9 rfl) (by decide) (fun c13 => ?_) (fun c13 => ?_)
  · refine s_sipushv (v := nI 1078) (zdk hX9_unmove_0 13 rfl) zc_sipush_1078 ?_
    refine s_iconstv (v := nI 5) (zdk hX9_unmove_0 14 rfl) zc_iconst_5 ?_
    refine s_aload_n (zdk hX9_unmove_0 15 rfl) rfl ?_
    refine s_iconstv (v := nI 5) (zdk hX9_unmove_0 16 rfl) zc_iconst_5 ?_
    refine s_callV0 (ci := 9) [.int (nI 5)] (zdk hX9_unmove_0 17 rfl) cw_X9_87 (hm.1) (by decide) rfl rfl rfl (Nat.le_of_ble_eq_true rfl) (by decide) (c_X9_itsN hl (M := (zsI M 941 6 (nI 0))) (g := g) hm (k := 5) (by decide) (hb.h5)) ?_
    refine s_iconstv (v := nI 1) (zdk hX9_unmove_0 18 rfl) zc_iconst_1 ?_
    refine s_isub (zdk hX9_unmove_0 19 rfl) ?_
    refine s_topi (b := nI (gN g 5 - 1)) (pk_sub (by omega)) ?_
    refine s_imul (zdk hX9_unmove_0 20 rfl) ?_
    refine s_topi (b := nI (5 * (gN g 5 - 1))) (pk_mul _ _) ?_
    refine s_iadd (zdk hX9_unmove_0 21 rfl) ?_
    refine s_topi (b := nI (1078 + 5 * (gN g 5 - 1))) (nI_add _ _) ?_
    refine s_istore_n (zdk hX9_unmove_0 22 rfl) (Nat.le_of_ble_eq_true rfl) ?_
    refine s_ls (ls' := [some (.ref 941), some (.int (nI (1078 + 5 * (gN g 5 - 1)))), none, none]) rfl ?_
    refine s_aload_n (zdk hX9_unmove_0 23 rfl) rfl ?_
    refine s_iload_n (zdk hX9_unmove_0 24 rfl) rfl ?_
    refine s_callV0 (ci := 9) [.int (nI (1078 + 5 * (gN g 5 - 1)))] (zdk hX9_unmove_0 25 rfl) cw_X9_87 (hm.1) (by decide) rfl rfl rfl (Nat.le_of_ble_eq_true rfl) (by decide) (c_X9_its hl (M := (zsI M 941 6 (nI 0))) (g := g) hm (k := (1078 + 5 * (gN g 5 - 1))) (by omega)) ?_
    refine s_topi (b := nI (oLf g)) ((hb.mF h0).1) ?_
    refine s_istore_n (zdk hX9_unmove_0 26 rfl) (Nat.le_of_ble_eq_true rfl) ?_
    refine s_ls (ls' := [some (.ref 941), some (.int (nI (1078 + 5 * (gN g 5 - 1)))), some (.int (nI (oLf g))), none]) rfl ?_
    refine s_aload_n (zdk hX9_unmove_0 27 rfl) rfl ?_
    refine s_iload_n (zdk hX9_unmove_0 28 rfl) rfl ?_
    refine s_iconstv (v := nI 1) (zdk hX9_unmove_0 29 rfl) zc_iconst_1 ?_
    refine s_iadd (zdk hX9_unmove_0 30 rfl) ?_
    refine s_topi (b := nI (1078 + 5 * (gN g 5 - 1) + 1)) (nI_add _ _) ?_
    refine s_callV0 (ci := 9) [.int (nI (1078 + 5 * (gN g 5 - 1) + 1))] (zdk hX9_unmove_0 31 rfl) cw_X9_87 (hm.1) (by decide) rfl rfl rfl (Nat.le_of_ble_eq_true rfl) (by decide) (c_X9_its hl (M := (zsI M 941 6 (nI 0))) (g := g) hm (k := (1078 + 5 * (gN g 5 - 1) + 1)) (by omega)) ?_
    refine s_topi (b := nI (oLa g)) ((hb.mA h0).1) ?_
    refine s_istore_n (zdk hX9_unmove_0 32 rfl) (Nat.le_of_ble_eq_true rfl) ?_
    refine s_ls (ls' := [some (.ref 941), some (.int (nI (1078 + 5 * (gN g 5 - 1)))), some (.int (nI (oLf g))), some (.int (nI (oLa g)))]) rfl ?_
    refine s_aload_n (zdk hX9_unmove_0 33 rfl) rfl ?_
    refine s_iload_n (zdk hX9_unmove_0 34 rfl) rfl ?_
    refine s_callV0 (ci := 9) [.int (nI (oLa g))] (zdk hX9_unmove_0 35 rfl) cw_X9_188 (hm.1) (by decide) rfl rfl rfl (Nat.le_of_ble_eq_true rfl) (by decide) (c_X9_freeOn hl (M := (zsI M 941 6 (nI 0))) (g := g) hm hb (t := (oLa g)) (by omega)) ?_
    refine s_aload_n (zdk hX9_unmove_0 36 rfl) rfl ?_
    refine s_iload_n (zdk hX9_unmove_0 37 rfl) rfl ?_
    refine s_iconstv (v := nI 0) (zdk hX9_unmove_0 38 rfl) zc_iconst_0 ?_
    refine s_callV0 (ci := 9) [.int (nI (oLf g)), .int (nI 0)] (zdk hX9_unmove_0 39 rfl) cw_X9_211 (hm.1) (by decide) rfl rfl rfl (Nat.le_of_ble_eq_true rfl) (by decide) (c_X9_of hl (M := (zsI M 941 6 (nI 0))) (g := g) hm (f := (oLf g)) (k := 0) (by omega)) ?_
    refine s_icmp_ge 69 (zdk hX9_unmove_0 40 rfl) (by decide) (fun c61 => ?_) (fun c61 => ?_)
    · refine s_aload_n (zdk hX9_unmove_0 44 rfl) rfl ?_
      refine s_aload_n (zdk hX9_unmove_0 45 rfl) rfl ?_
      refine s_getR (zdk hX9_unmove_0 46 rfl) fw_X9_7 rfl (hm.1) (show _ = some 942 from (hm.r (i := 0) rfl).1) ?_
      refine s_callV0 (ci := 9) [.ref 942] (zdk hX9_unmove_0 47 rfl) cw_X9_83 (hm.1) (by decide) rfl rfl rfl (Nat.le_of_ble_eq_true rfl) (by decide) (c_keeps0 hl hm hc hc8) ?_
      refine s_aload_n (zdk hX9_unmove_0 48 rfl) rfl ?_
      refine s_iload_n (zdk hX9_unmove_0 49 rfl) rfl ?_
      refine s_iconstv (v := nI 1) (zdk hX9_unmove_0 50 rfl) zc_iconst_1 ?_
      refine s_iload_n (zdk hX9_unmove_0 51 rfl) rfl ?_
      refine s_i2l (zdk hX9_unmove_0 52 rfl) ?_
      refine s_callV0 (ci := 9) [.int (nI (oLf g)), .int (nI 1), .long ((nI (oLa g)).toInt64)] (zdk hX9_unmove_0 53 rfl) cw_X9_193 (hm.1) (by decide) rfl rfl rfl (Nat.le_of_ble_eq_true rfl) (by decide) (c_X9_sets hl (M := (KP M c g)) (g := g) hm (f := (oLf g)) (k := 1) (E := 58 + 51 * (oLf g) + 1) (by omega) (by omega) ((nI (oLa g)).toInt64)) ?_
      refine s_aload_n (zdk hX9_unmove_0 54 rfl) rfl ?_
      refine s_iload_n (zdk hX9_unmove_0 55 rfl) rfl ?_
      refine s_iconstv (v := nI 2) (zdk hX9_unmove_0 56 rfl) zc_iconst_2 ?_
      refine s_aload_n (zdk hX9_unmove_0 57 rfl) rfl ?_
      refine s_getR (zdk hX9_unmove_0 58 rfl) fw_X9_7 rfl (hm.1) (show _ = some 942 from (hm.r (i := 0) rfl).1) ?_
      refine s_iload_n (zdk hX9_unmove_0 59 rfl) rfl ?_
      refine s_iconstv (v := nI 3) (zdk hX9_unmove_1 0 rfl) zc_iconst_3 ?_
      refine s_iadd (zdk hX9_unmove_1 1 rfl) ?_
      refine s_topi (b := nI (1078 + 5 * (gN g 5 - 1) + 3)) (nI_add _ _) ?_
      refine s_laloadN (N := 1390) (j := 1078 + 5 * (gN g 5 - 1) + 3) (zdk hX9_unmove_1 2 rfl) ((hm.r (i := 0) rfl).2.1) ((hm.r (i := 0) rfl).2.2) (by omega) (by decide) ?_
      refine s_topl (b := (zwL g (58 + 51 * (oLf g) + 1) ((nI (oLa g)).toInt64)) (1078 + 5 * (gN g 5 - 1) + 3)) (congrFun zJ_Le _) ?_
      refine s_lneg (zdk hX9_unmove_1 3 rfl) ?_
      refine s_topl (b := -(gm g (gN g 5 - 1) 3).toInt64) (congrArg (fun q : Int64 => -q) ((zwL_n (by omega)).trans (hip _ (by omega) (fun f hf => by omega)))) ?_
      refine s_callV0 (ci := 9) [.int (nI (oLa g)), .int (nI 2), .long (-(gm g (gN g 5 - 1) 3).toInt64)] (zdk hX9_unmove_1 4 rfl) cw_X9_329 (hm.1) (by decide) rfl rfl rfl (Nat.le_of_ble_eq_true rfl) (by decide) (c_X9_pays hl (M := (KP M c g)) (g := (zwL g (58 + 51 * (oLf g) + 1) ((nI (oLa g)).toInt64))) hm (t := (oLa g)) (k := 2) (by omega) (by omega) (-(gm g (gN g 5 - 1) 3).toInt64)) ?_
      refine s_aload_n (zdk hX9_unmove_1 5 rfl) rfl ?_
      refine s_aload_n (zdk hX9_unmove_1 6 rfl) rfl ?_
      refine s_iload_n (zdk hX9_unmove_1 7 rfl) rfl ?_
      refine s_iconstv (v := nI 2) (zdk hX9_unmove_1 8 rfl) zc_iconst_2 ?_
      refine s_iadd (zdk hX9_unmove_1 9 rfl) ?_
      refine s_topi (b := nI (1078 + 5 * (gN g 5 - 1) + 2)) (nI_add _ _) ?_
      refine s_callV0 (ci := 9) [.int (nI (1078 + 5 * (gN g 5 - 1) + 2))] (zdk hX9_unmove_1 10 rfl) cw_X9_87 (hm.1) (by decide) rfl rfl rfl (Nat.le_of_ble_eq_true rfl) (by decide) (c_X9_its hl (M := (KP M c g)) (g := (oPays (zwL g (58 + 51 * (oLf g) + 1) ((nI (oLa g)).toInt64)) (oLa g) 2 (-(gm g (gN g 5 - 1) 3).toInt64))) hm (k := (1078 + 5 * (gN g 5 - 1) + 2)) (by omega)) ?_
      refine s_topi (b := nI (oLb g)) ((its_eq ((oPays_n (by omega)).trans (zwL_n (by omega)))).trans (hb.mB h0).1) ?_
      refine s_iconstv (v := nI 2) (zdk hX9_unmove_1 11 rfl) zc_iconst_2 ?_
      refine s_aload_n (zdk hX9_unmove_1 12 rfl) rfl ?_
      refine s_getR (zdk hX9_unmove_1 13 rfl) fw_X9_7 rfl (hm.1) (show _ = some 942 from (hm.r (i := 0) rfl).1) ?_
      refine s_iload_n (zdk hX9_unmove_1 14 rfl) rfl ?_
      refine s_iconstv (v := nI 4) (zdk hX9_unmove_1 15 rfl) zc_iconst_4 ?_
      refine s_iadd (zdk hX9_unmove_1 16 rfl) ?_
      refine s_topi (b := nI (1078 + 5 * (gN g 5 - 1) + 4)) (nI_add _ _) ?_
      refine s_laloadN (N := 1390) (j := 1078 + 5 * (gN g 5 - 1) + 4) (zdk hX9_unmove_1 17 rfl) ((hm.r (i := 0) rfl).2.1) ((hm.r (i := 0) rfl).2.2) (by omega) (by decide) ?_
      refine s_topl (b := (oPays (zwL g (58 + 51 * (oLf g) + 1) ((nI (oLa g)).toInt64)) (oLa g) 2 (-(gm g (gN g 5 - 1) 3).toInt64)) (1078 + 5 * (gN g 5 - 1) + 4)) (congrFun zJ_Le _) ?_
      refine s_lneg (zdk hX9_unmove_1 18 rfl) ?_
      refine s_topl (b := -(gm g (gN g 5 - 1) 4).toInt64) (congrArg (fun q : Int64 => -q) ((oPays_n (by omega)).trans ((zwL_n (by omega)).trans (hip _ (by omega) (fun f hf => by omega))))) ?_
      refine s_callV0 (ci := 9) [.int (nI (oLb g)), .int (nI 2), .long (-(gm g (gN g 5 - 1) 4).toInt64)] (zdk hX9_unmove_1 19 rfl) cw_X9_329 (hm.1) (by decide) rfl rfl rfl (Nat.le_of_ble_eq_true rfl) (by decide) (c_X9_pays hl (M := (KP M c g)) (g := (oPays (zwL g (58 + 51 * (oLf g) + 1) ((nI (oLa g)).toInt64)) (oLa g) 2 (-(gm g (gN g 5 - 1) 3).toInt64))) hm (t := (oLb g)) (k := 2) (by omega) (by omega) (-(gm g (gN g 5 - 1) 4).toInt64)) ?_
      refine s_aload_n (zdk hX9_unmove_1 20 rfl) rfl ?_
      refine s_getR (zdk hX9_unmove_1 21 rfl) fw_X9_7 rfl (hm.1) (show _ = some 942 from (hm.r (i := 0) rfl).1) ?_
      refine s_iconstv (v := nI 5) (zdk hX9_unmove_1 22 rfl) zc_iconst_5 ?_
      refine s_dup2ir (zdk hX9_unmove_1 23 rfl) ?_
      refine s_laloadN (N := 1390) (j := 5) (zdk hX9_unmove_1 24 rfl) ((hm.r (i := 0) rfl).2.1) ((hm.r (i := 0) rfl).2.2) (by omega) (by decide) ?_
      refine s_topl (b := (oPays (oPays (zwL g (58 + 51 * (oLf g) + 1) ((nI (oLa g)).toInt64)) (oLa g) 2 (-(gm g (gN g 5 - 1) 3).toInt64)) (oLb g) 2 (-(gm g (gN g 5 - 1) 4).toInt64)) 5) (congrFun zJ_Le _) ?_
      refine s_lconstv (v := lN 1) (zdk hX9_unmove_1 25 rfl) rfl ?_
      refine s_lsub (zdk hX9_unmove_1 26 rfl) ?_
      refine s_topl (b := (nI (gN g 5 - 1)).toInt64) ((congrArg (fun q : Int64 => q - lN 1) ((oPays_n (by omega)).trans ((oPays_n (by omega)).trans ((zwL_n (by omega)).trans (hi5.trans (congrArg Int32.toInt64 hb.h5)))))).trans (dec64 (by omega) h0)) ?_
      refine s_lastoreN (N := 1390) (j := 5) (zdk hX9_unmove_1 27 rfl) ((hm.r (i := 0) rfl).2.1) ((hm.r (i := 0) rfl).2.2) (by omega) (by decide) ?_
      refine s_mem (M' := (zsL (KP M c g) 942 (zwL (oPays (oPays (zwL g (58 + 51 * (oLf g) + 1) ((nI (oLa g)).toInt64)) (oLa g) 2 (-(gm g (gN g 5 - 1) 3).toInt64)) (oLb g) 2 (-(gm g (gN g 5 - 1) 4).toInt64)) 5 ((nI (gN g 5 - 1)).toInt64)))) (zsL_1 _ _ _ _ _) ?_
      refine s_iload_n (zdk hX9_unmove_1 28 rfl) rfl ?_
      refine s_ireturn (zdk hX9_unmove_1 29 rfl) rfl rfl ?_
      exact ⟨rfl, rfl⟩
    · exact absurd (Int32.not_le.mp c61) hr
  · exact absurd ((lcmp60 hi5 hb.h5 (by omega) 0 (by omega)).mp c13) (by omega)
theorem c_X9_setTier_x (hl : l.stackTraces = false) {M : zMem} (hm : mSh M) {g : Nat → Int64} (hb : gBd g) (t w v : Int32) (hx : ¬ (inN t (gN g 2) ∧ (inN (w) 5 ∧ ((if w = 0 then nI 1 else nI 0) ≤ v ∧ v ≤ (if w = 0 then nI 99999 else nI 99))))) : zCm l G mX9_setTier 3 70 0 0 [.ref 941, .int (t), .int (w), .int (v)] (zsL M 942 g) (zD (some (.int (nI 0))) (zsL (zsI M 941 6 (nI (t2 (inN t (gN g 2)) (inN (w) 5 ∧ ((if w = 0 then nI 1 else nI 0) ≤ v ∧ v ≤ (if w = 0 then nI 99999 else nI 99))) 1 2))) 942 g)) := by
  refine zCd.of (ls0 := [some (.ref 941), some (.int (t)), some (.int (w)), some (.int (v)), none, none]) (by decide +kernel) rfl hl rfl (Nat.le_of_ble_eq_true rfl) rfl ?_
  have hn2 := hb.2.2.1.2
  have ht4 := hb.2.1.2
  have hcy := hb.1.2.2
  have hpe := hb.2.2.2.1.2
  refine s_iload_n (zdk hX9_setTier_0 0 rfl) rfl ?_
  refine s_iconstv (v := nI 0) (zdk hX9_setTier_0 1 rfl) zc_iconst_0 ?_
  refine s_iconstv (v := nI 4) (zdk hX9_setTier_0 2 rfl) zc_iconst_4 ?_
  refine s_callS0 [.int (w), .int (nI 0), .int (nI 4)] (zdk hX9_setTier_0 3 rfl) cw_X9_79 rfl (Nat.le_of_ble_eq_true rfl) (by decide) (c_X9_isIn hl (zsL M 942 g) (w) (nI 0) (nI 4)) ?_
  refine s_topi (b := if inN (w) 5 then nI 1 else nI 0) (b01 (inN_in rfl (by omega))) ?_
  refine s_if_eq 40 (zdk hX9_setTier_0 4 rfl) (by decide) (fun c6 => ?_) (fun c6 => ?_)
  · have b6 : ¬ (inN (w) 5) := b01_eq c6
    have hR : ¬ (inN (w) 5 ∧ ((if w = 0 then nI 1 else nI 0) ≤ v ∧ v ≤ (if w = 0 then nI 99999 else nI 99))) := fun q => b6 q.1
    refine s_iconstv (v := nI 0) (zdk hX9_setTier_0 20 rfl) zc_iconst_0 ?_
    refine s_istore (zdk hX9_setTier_0 21 rfl) (Nat.le_of_ble_eq_true rfl) ?_
    refine s_ls (ls' := [some (.ref 941), some (.int (t)), some (.int (w)), some (.int (v)), some (.int (nI 0)), none]) rfl ?_
    refine s_aload_n (zdk hX9_setTier_0 22 rfl) rfl ?_
    refine s_aload_n (zdk hX9_setTier_0 23 rfl) rfl ?_
    refine s_iload_n (zdk hX9_setTier_0 24 rfl) rfl ?_
    refine s_callV0 (ci := 9) [.int (t)] (zdk hX9_setTier_0 25 rfl) cw_X9_245 (hm.1) (by decide) rfl rfl rfl (Nat.le_of_ble_eq_true rfl) (by decide) (c_X9_isTier hl (M := M) (g := g) hm hb (t)) ?_
    refine s_if_ne 56 (zdk hX9_setTier_0 26 rfl) (by decide) (fun c49 => ?_) (fun c49 => ?_)
    · have b49 : inN (t) (gN g 2) := b01_ne c49
      refine s_iload (zdk hX9_setTier_0 29 rfl) rfl ?_
      refine s_if_eq 65 (zdk hX9_setTier_0 30 rfl) (by decide) (fun c58 => ?_) (fun c58 => ?_)
      · refine s_iconstv (v := nI 2) (zdk hX9_setTier_0 33 rfl) zc_iconst_2 ?_
        refine s_putI (zdk hX9_setTier_0 34 rfl) fw_X9_69 rfl pw_9_6 (hm.1) ?_
        refine s_mem (M' := (zsL (zsI M 941 6 (nI 2)) 942 g)) rfl ?_
        refine s_aload_n (zdk hX9_setTier_0 35 rfl) rfl ?_
        refine s_getI (zdk hX9_setTier_0 36 rfl) fw_X9_69 rfl (hm.1) ?_
        refine s_topi (b := nI 2) ((congrFun (zI_Ie (M := M) (a := 941) (k := 6) (v := (nI 2))) 6).trans zw1_e) ?_
        refine s_if_le 78 (zdk hX9_setTier_0 37 rfl) (by decide) (fun c73 => ?_) (fun c73 => ?_)
        · exact absurd c73 (by decide)
        · refine s_iconstv (v := nI 0) (zdk hX9_setTier_0 38 rfl) zc_iconst_0 ?_
          refine s_ireturn (zdk hX9_setTier_0 39 rfl) rfl rfl ?_
          first | (rw [t2_2 b49 hR]; exact ⟨rfl, rfl⟩) | (rw [t2_1 b49]; exact ⟨rfl, rfl⟩)
      · exact absurd (by decide) c58
    · have b49 : ¬ (inN (t) (gN g 2)) := b01_eq c49
      refine s_iconstv (v := nI 1) (zdk hX9_setTier_0 27 rfl) zc_iconst_1 ?_
      refine s_goto 66 (zdk hX9_setTier_0 28 rfl) (by decide) ?_
      refine s_putI (zdk hX9_setTier_0 34 rfl) fw_X9_69 rfl pw_9_6 (hm.1) ?_
      refine s_mem (M' := (zsL (zsI M 941 6 (nI 1)) 942 g)) rfl ?_
      refine s_aload_n (zdk hX9_setTier_0 35 rfl) rfl ?_
      refine s_getI (zdk hX9_setTier_0 36 rfl) fw_X9_69 rfl (hm.1) ?_
      refine s_topi (b := nI 1) ((congrFun (zI_Ie (M := M) (a := 941) (k := 6) (v := (nI 1))) 6).trans zw1_e) ?_
      refine s_if_le 78 (zdk hX9_setTier_0 37 rfl) (by decide) (fun c73 => ?_) (fun c73 => ?_)
      · exact absurd c73 (by decide)
      · refine s_iconstv (v := nI 0) (zdk hX9_setTier_0 38 rfl) zc_iconst_0 ?_
        refine s_ireturn (zdk hX9_setTier_0 39 rfl) rfl rfl ?_
        first | (rw [t2_2 b49 hR]; exact ⟨rfl, rfl⟩) | (rw [t2_1 b49]; exact ⟨rfl, rfl⟩)
  · have b6 : inN (w) 5 := b01_ne c6
    refine s_iload_n (zdk hX9_setTier_0 5 rfl) rfl ?_
    refine s_iload_n (zdk hX9_setTier_0 6 rfl) rfl ?_
    refine s_if_ne 18 (zdk hX9_setTier_0 7 rfl) (by decide) (fun c11 => ?_) (fun c11 => ?_)
    · refine s_iconstv (v := nI 0) (zdk hX9_setTier_0 10 rfl) zc_iconst_0 ?_
      refine s_iload_n (zdk hX9_setTier_0 11 rfl) rfl ?_
      refine s_if_ne 28 (zdk hX9_setTier_0 12 rfl) (by decide) (fun d20 => ?_) (fun d20 => ?_)
      · refine s_bipushv (v := nI 99) (zdk hX9_setTier_0 15 rfl) zc_bipush_99 ?_
        refine s_callS0 [.int (v), .int (nI 0), .int (nI 99)] (zdk hX9_setTier_0 16 rfl) cw_X9_79 rfl (Nat.le_of_ble_eq_true rfl) (by decide) (c_X9_isIn hl (zsL M 942 g) (v) (nI 0) (nI 99)) ?_
        refine s_if_eq 40 (zdk hX9_setTier_0 17 rfl) (by decide) (fun c33 => ?_) (fun c33 => ?_)
        · have b33 : ¬ (nI 0 ≤ v ∧ v ≤ nI 99) := b01_eq c33
          have hR : ¬ (inN (w) 5 ∧ ((if w = 0 then nI 1 else nI 0) ≤ v ∧ v ≤ (if w = 0 then nI 99999 else nI 99))) := fun q => by
            have q2 := q.2
            rw [if_neg c11, if_neg c11] at q2
            exact b33 q2
          refine s_iconstv (v := nI 0) (zdk hX9_setTier_0 20 rfl) zc_iconst_0 ?_
          refine s_istore (zdk hX9_setTier_0 21 rfl) (Nat.le_of_ble_eq_true rfl) ?_
          refine s_ls (ls' := [some (.ref 941), some (.int (t)), some (.int (w)), some (.int (v)), some (.int (nI 0)), none]) rfl ?_
          refine s_aload_n (zdk hX9_setTier_0 22 rfl) rfl ?_
          refine s_aload_n (zdk hX9_setTier_0 23 rfl) rfl ?_
          refine s_iload_n (zdk hX9_setTier_0 24 rfl) rfl ?_
          refine s_callV0 (ci := 9) [.int (t)] (zdk hX9_setTier_0 25 rfl) cw_X9_245 (hm.1) (by decide) rfl rfl rfl (Nat.le_of_ble_eq_true rfl) (by decide) (c_X9_isTier hl (M := M) (g := g) hm hb (t)) ?_
          refine s_if_ne 56 (zdk hX9_setTier_0 26 rfl) (by decide) (fun c49 => ?_) (fun c49 => ?_)
          · have b49 : inN (t) (gN g 2) := b01_ne c49
            refine s_iload (zdk hX9_setTier_0 29 rfl) rfl ?_
            refine s_if_eq 65 (zdk hX9_setTier_0 30 rfl) (by decide) (fun c58 => ?_) (fun c58 => ?_)
            · refine s_iconstv (v := nI 2) (zdk hX9_setTier_0 33 rfl) zc_iconst_2 ?_
              refine s_putI (zdk hX9_setTier_0 34 rfl) fw_X9_69 rfl pw_9_6 (hm.1) ?_
              refine s_mem (M' := (zsL (zsI M 941 6 (nI 2)) 942 g)) rfl ?_
              refine s_aload_n (zdk hX9_setTier_0 35 rfl) rfl ?_
              refine s_getI (zdk hX9_setTier_0 36 rfl) fw_X9_69 rfl (hm.1) ?_
              refine s_topi (b := nI 2) ((congrFun (zI_Ie (M := M) (a := 941) (k := 6) (v := (nI 2))) 6).trans zw1_e) ?_
              refine s_if_le 78 (zdk hX9_setTier_0 37 rfl) (by decide) (fun c73 => ?_) (fun c73 => ?_)
              · exact absurd c73 (by decide)
              · refine s_iconstv (v := nI 0) (zdk hX9_setTier_0 38 rfl) zc_iconst_0 ?_
                refine s_ireturn (zdk hX9_setTier_0 39 rfl) rfl rfl ?_
                first | (rw [t2_2 b49 hR]; exact ⟨rfl, rfl⟩) | (rw [t2_1 b49]; exact ⟨rfl, rfl⟩)
            · exact absurd (by decide) c58
          · have b49 : ¬ (inN (t) (gN g 2)) := b01_eq c49
            refine s_iconstv (v := nI 1) (zdk hX9_setTier_0 27 rfl) zc_iconst_1 ?_
            refine s_goto 66 (zdk hX9_setTier_0 28 rfl) (by decide) ?_
            refine s_putI (zdk hX9_setTier_0 34 rfl) fw_X9_69 rfl pw_9_6 (hm.1) ?_
            refine s_mem (M' := (zsL (zsI M 941 6 (nI 1)) 942 g)) rfl ?_
            refine s_aload_n (zdk hX9_setTier_0 35 rfl) rfl ?_
            refine s_getI (zdk hX9_setTier_0 36 rfl) fw_X9_69 rfl (hm.1) ?_
            refine s_topi (b := nI 1) ((congrFun (zI_Ie (M := M) (a := 941) (k := 6) (v := (nI 1))) 6).trans zw1_e) ?_
            refine s_if_le 78 (zdk hX9_setTier_0 37 rfl) (by decide) (fun c73 => ?_) (fun c73 => ?_)
            · exact absurd c73 (by decide)
            · refine s_iconstv (v := nI 0) (zdk hX9_setTier_0 38 rfl) zc_iconst_0 ?_
              refine s_ireturn (zdk hX9_setTier_0 39 rfl) rfl rfl ?_
              first | (rw [t2_2 b49 hR]; exact ⟨rfl, rfl⟩) | (rw [t2_1 b49]; exact ⟨rfl, rfl⟩)
        · have b33 : nI 0 ≤ v ∧ v ≤ nI 99 := b01_ne c33
          have hR : inN (w) 5 ∧ ((if w = 0 then nI 1 else nI 0) ≤ v ∧ v ≤ (if w = 0 then nI 99999 else nI 99)) := by
            refine ⟨b6, ?_⟩
            rw [if_neg c11, if_neg c11]
            exact b33
          refine s_iconstv (v := nI 1) (zdk hX9_setTier_0 18 rfl) zc_iconst_1 ?_
          refine s_goto 41 (zdk hX9_setTier_0 19 rfl) (by decide) ?_
          refine s_istore (zdk hX9_setTier_0 21 rfl) (Nat.le_of_ble_eq_true rfl) ?_
          refine s_ls (ls' := [some (.ref 941), some (.int (t)), some (.int (w)), some (.int (v)), some (.int (nI 1)), none]) rfl ?_
          refine s_aload_n (zdk hX9_setTier_0 22 rfl) rfl ?_
          refine s_aload_n (zdk hX9_setTier_0 23 rfl) rfl ?_
          refine s_iload_n (zdk hX9_setTier_0 24 rfl) rfl ?_
          refine s_callV0 (ci := 9) [.int (t)] (zdk hX9_setTier_0 25 rfl) cw_X9_245 (hm.1) (by decide) rfl rfl rfl (Nat.le_of_ble_eq_true rfl) (by decide) (c_X9_isTier hl (M := M) (g := g) hm hb (t)) ?_
          refine s_if_ne 56 (zdk hX9_setTier_0 26 rfl) (by decide) (fun c49 => ?_) (fun c49 => ?_)
          · have b49 : inN (t) (gN g 2) := b01_ne c49
            refine s_iload (zdk hX9_setTier_0 29 rfl) rfl ?_
            refine s_if_eq 65 (zdk hX9_setTier_0 30 rfl) (by decide) (fun c58 => ?_) (fun c58 => ?_)
            · exact absurd c58 (by decide)
            · refine s_iconstv (v := nI 0) (zdk hX9_setTier_0 31 rfl) zc_iconst_0 ?_
              refine s_goto 66 (zdk hX9_setTier_0 32 rfl) (by decide) ?_
              refine s_putI (zdk hX9_setTier_0 34 rfl) fw_X9_69 rfl pw_9_6 (hm.1) ?_
              refine s_mem (M' := (zsL (zsI M 941 6 (nI 0)) 942 g)) rfl ?_
              refine s_aload_n (zdk hX9_setTier_0 35 rfl) rfl ?_
              refine s_getI (zdk hX9_setTier_0 36 rfl) fw_X9_69 rfl (hm.1) ?_
              refine s_topi (b := nI 0) ((congrFun (zI_Ie (M := M) (a := 941) (k := 6) (v := (nI 0))) 6).trans zw1_e) ?_
              refine s_if_le 78 (zdk hX9_setTier_0 37 rfl) (by decide) (fun c73 => ?_) (fun c73 => ?_)
              · exact absurd ⟨b49, hR⟩ hx
              · exact absurd (by decide) c73
          · have b49 : ¬ (inN (t) (gN g 2)) := b01_eq c49
            refine s_iconstv (v := nI 1) (zdk hX9_setTier_0 27 rfl) zc_iconst_1 ?_
            refine s_goto 66 (zdk hX9_setTier_0 28 rfl) (by decide) ?_
            refine s_putI (zdk hX9_setTier_0 34 rfl) fw_X9_69 rfl pw_9_6 (hm.1) ?_
            refine s_mem (M' := (zsL (zsI M 941 6 (nI 1)) 942 g)) rfl ?_
            refine s_aload_n (zdk hX9_setTier_0 35 rfl) rfl ?_
            refine s_getI (zdk hX9_setTier_0 36 rfl) fw_X9_69 rfl (hm.1) ?_
            refine s_topi (b := nI 1) ((congrFun (zI_Ie (M := M) (a := 941) (k := 6) (v := (nI 1))) 6).trans zw1_e) ?_
            refine s_if_le 78 (zdk hX9_setTier_0 37 rfl) (by decide) (fun c73 => ?_) (fun c73 => ?_)
            · exact absurd c73 (by decide)
            · refine s_iconstv (v := nI 0) (zdk hX9_setTier_0 38 rfl) zc_iconst_0 ?_
              refine s_ireturn (zdk hX9_setTier_0 39 rfl) rfl rfl ?_
              first | (rw [t2_2 b49 hR]; exact ⟨rfl, rfl⟩) | (rw [t2_1 b49]; exact ⟨rfl, rfl⟩)
      · exact absurd d20 c11
    · refine s_iconstv (v := nI 1) (zdk hX9_setTier_0 8 rfl) zc_iconst_1 ?_
      refine s_goto 19 (zdk hX9_setTier_0 9 rfl) (by decide) ?_
      refine s_iload_n (zdk hX9_setTier_0 11 rfl) rfl ?_
      refine s_if_ne 28 (zdk hX9_setTier_0 12 rfl) (by decide) (fun d20 => ?_) (fun d20 => ?_)
      · exact absurd c11 d20
      · refine s_ldc (zdk hX9_setTier_0 13 rfl) kw_X9_173 ?_
        refine s_topi (b := nI 99999) (by decide) ?_
        refine s_goto 30 (zdk hX9_setTier_0 14 rfl) (by decide) ?_
        refine s_callS0 [.int (v), .int (nI 1), .int (nI 99999)] (zdk hX9_setTier_0 16 rfl) cw_X9_79 rfl (Nat.le_of_ble_eq_true rfl) (by decide) (c_X9_isIn hl (zsL M 942 g) (v) (nI 1) (nI 99999)) ?_
        refine s_if_eq 40 (zdk hX9_setTier_0 17 rfl) (by decide) (fun c33 => ?_) (fun c33 => ?_)
        · have b33 : ¬ (nI 1 ≤ v ∧ v ≤ nI 99999) := b01_eq c33
          have hR : ¬ (inN (w) 5 ∧ ((if w = 0 then nI 1 else nI 0) ≤ v ∧ v ≤ (if w = 0 then nI 99999 else nI 99))) := fun q => by
            have q2 := q.2
            rw [if_pos c11, if_pos c11] at q2
            exact b33 q2
          refine s_iconstv (v := nI 0) (zdk hX9_setTier_0 20 rfl) zc_iconst_0 ?_
          refine s_istore (zdk hX9_setTier_0 21 rfl) (Nat.le_of_ble_eq_true rfl) ?_
          refine s_ls (ls' := [some (.ref 941), some (.int (t)), some (.int (w)), some (.int (v)), some (.int (nI 0)), none]) rfl ?_
          refine s_aload_n (zdk hX9_setTier_0 22 rfl) rfl ?_
          refine s_aload_n (zdk hX9_setTier_0 23 rfl) rfl ?_
          refine s_iload_n (zdk hX9_setTier_0 24 rfl) rfl ?_
          refine s_callV0 (ci := 9) [.int (t)] (zdk hX9_setTier_0 25 rfl) cw_X9_245 (hm.1) (by decide) rfl rfl rfl (Nat.le_of_ble_eq_true rfl) (by decide) (c_X9_isTier hl (M := M) (g := g) hm hb (t)) ?_
          refine s_if_ne 56 (zdk hX9_setTier_0 26 rfl) (by decide) (fun c49 => ?_) (fun c49 => ?_)
          · have b49 : inN (t) (gN g 2) := b01_ne c49
            refine s_iload (zdk hX9_setTier_0 29 rfl) rfl ?_
            refine s_if_eq 65 (zdk hX9_setTier_0 30 rfl) (by decide) (fun c58 => ?_) (fun c58 => ?_)
            · refine s_iconstv (v := nI 2) (zdk hX9_setTier_0 33 rfl) zc_iconst_2 ?_
              refine s_putI (zdk hX9_setTier_0 34 rfl) fw_X9_69 rfl pw_9_6 (hm.1) ?_
              refine s_mem (M' := (zsL (zsI M 941 6 (nI 2)) 942 g)) rfl ?_
              refine s_aload_n (zdk hX9_setTier_0 35 rfl) rfl ?_
              refine s_getI (zdk hX9_setTier_0 36 rfl) fw_X9_69 rfl (hm.1) ?_
              refine s_topi (b := nI 2) ((congrFun (zI_Ie (M := M) (a := 941) (k := 6) (v := (nI 2))) 6).trans zw1_e) ?_
              refine s_if_le 78 (zdk hX9_setTier_0 37 rfl) (by decide) (fun c73 => ?_) (fun c73 => ?_)
              · exact absurd c73 (by decide)
              · refine s_iconstv (v := nI 0) (zdk hX9_setTier_0 38 rfl) zc_iconst_0 ?_
                refine s_ireturn (zdk hX9_setTier_0 39 rfl) rfl rfl ?_
                first | (rw [t2_2 b49 hR]; exact ⟨rfl, rfl⟩) | (rw [t2_1 b49]; exact ⟨rfl, rfl⟩)
            · exact absurd (by decide) c58
          · have b49 : ¬ (inN (t) (gN g 2)) := b01_eq c49
            refine s_iconstv (v := nI 1) (zdk hX9_setTier_0 27 rfl) zc_iconst_1 ?_
            refine s_goto 66 (zdk hX9_setTier_0 28 rfl) (by decide) ?_
            refine s_putI (zdk hX9_setTier_0 34 rfl) fw_X9_69 rfl pw_9_6 (hm.1) ?_
            refine s_mem (M' := (zsL (zsI M 941 6 (nI 1)) 942 g)) rfl ?_
            refine s_aload_n (zdk hX9_setTier_0 35 rfl) rfl ?_
            refine s_getI (zdk hX9_setTier_0 36 rfl) fw_X9_69 rfl (hm.1) ?_
            refine s_topi (b := nI 1) ((congrFun (zI_Ie (M := M) (a := 941) (k := 6) (v := (nI 1))) 6).trans zw1_e) ?_
            refine s_if_le 78 (zdk hX9_setTier_0 37 rfl) (by decide) (fun c73 => ?_) (fun c73 => ?_)
            · exact absurd c73 (by decide)
            · refine s_iconstv (v := nI 0) (zdk hX9_setTier_0 38 rfl) zc_iconst_0 ?_
              refine s_ireturn (zdk hX9_setTier_0 39 rfl) rfl rfl ?_
              first | (rw [t2_2 b49 hR]; exact ⟨rfl, rfl⟩) | (rw [t2_1 b49]; exact ⟨rfl, rfl⟩)
        · have b33 : nI 1 ≤ v ∧ v ≤ nI 99999 := b01_ne c33
          have hR : inN (w) 5 ∧ ((if w = 0 then nI 1 else nI 0) ≤ v ∧ v ≤ (if w = 0 then nI 99999 else nI 99)) := by
            refine ⟨b6, ?_⟩
            rw [if_pos c11, if_pos c11]
            exact b33
          refine s_iconstv (v := nI 1) (zdk hX9_setTier_0 18 rfl) zc_iconst_1 ?_
          refine s_goto 41 (zdk hX9_setTier_0 19 rfl) (by decide) ?_
          refine s_istore (zdk hX9_setTier_0 21 rfl) (Nat.le_of_ble_eq_true rfl) ?_
          refine s_ls (ls' := [some (.ref 941), some (.int (t)), some (.int (w)), some (.int (v)), some (.int (nI 1)), none]) rfl ?_
          refine s_aload_n (zdk hX9_setTier_0 22 rfl) rfl ?_
          refine s_aload_n (zdk hX9_setTier_0 23 rfl) rfl ?_
          refine s_iload_n (zdk hX9_setTier_0 24 rfl) rfl ?_
          refine s_callV0 (ci := 9) [.int (t)] (zdk hX9_setTier_0 25 rfl) cw_X9_245 (hm.1) (by decide) rfl rfl rfl (Nat.le_of_ble_eq_true rfl) (by decide) (c_X9_isTier hl (M := M) (g := g) hm hb (t)) ?_
          refine s_if_ne 56 (zdk hX9_setTier_0 26 rfl) (by decide) (fun c49 => ?_) (fun c49 => ?_)
          · have b49 : inN (t) (gN g 2) := b01_ne c49
            refine s_iload (zdk hX9_setTier_0 29 rfl) rfl ?_
            refine s_if_eq 65 (zdk hX9_setTier_0 30 rfl) (by decide) (fun c58 => ?_) (fun c58 => ?_)
            · exact absurd c58 (by decide)
            · refine s_iconstv (v := nI 0) (zdk hX9_setTier_0 31 rfl) zc_iconst_0 ?_
              refine s_goto 66 (zdk hX9_setTier_0 32 rfl) (by decide) ?_
              refine s_putI (zdk hX9_setTier_0 34 rfl) fw_X9_69 rfl pw_9_6 (hm.1) ?_
              refine s_mem (M' := (zsL (zsI M 941 6 (nI 0)) 942 g)) rfl ?_
              refine s_aload_n (zdk hX9_setTier_0 35 rfl) rfl ?_
              refine s_getI (zdk hX9_setTier_0 36 rfl) fw_X9_69 rfl (hm.1) ?_
              refine s_topi (b := nI 0) ((congrFun (zI_Ie (M := M) (a := 941) (k := 6) (v := (nI 0))) 6).trans zw1_e) ?_
              refine s_if_le 78 (zdk hX9_setTier_0 37 rfl) (by decide) (fun c73 => ?_) (fun c73 => ?_)
              · exact absurd ⟨b49, hR⟩ hx
              · exact absurd (by decide) c73
          · have b49 : ¬ (inN (t) (gN g 2)) := b01_eq c49
            refine s_iconstv (v := nI 1) (zdk hX9_setTier_0 27 rfl) zc_iconst_1 ?_
            refine s_goto 66 (zdk hX9_setTier_0 28 rfl) (by decide) ?_
            refine s_putI (zdk hX9_setTier_0 34 rfl) fw_X9_69 rfl pw_9_6 (hm.1) ?_
            refine s_mem (M' := (zsL (zsI M 941 6 (nI 1)) 942 g)) rfl ?_
            refine s_aload_n (zdk hX9_setTier_0 35 rfl) rfl ?_
            refine s_getI (zdk hX9_setTier_0 36 rfl) fw_X9_69 rfl (hm.1) ?_
            refine s_topi (b := nI 1) ((congrFun (zI_Ie (M := M) (a := 941) (k := 6) (v := (nI 1))) 6).trans zw1_e) ?_
            refine s_if_le 78 (zdk hX9_setTier_0 37 rfl) (by decide) (fun c73 => ?_) (fun c73 => ?_)
            · exact absurd c73 (by decide)
            · refine s_iconstv (v := nI 0) (zdk hX9_setTier_0 38 rfl) zc_iconst_0 ?_
              refine s_ireturn (zdk hX9_setTier_0 39 rfl) rfl rfl ?_
              first | (rw [t2_2 b49 hR]; exact ⟨rfl, rfl⟩) | (rw [t2_1 b49]; exact ⟨rfl, rfl⟩)
theorem c_X9_setTier_r (hl : l.stackTraces = false) {M : zMem} (hm : mSh M) {g : Nat → Int64} (hb : gBd g) {t : Nat} (ht : t < gN g 2) {w : Nat} (hw : w < 5) {v : Int32} (hR : inN (nI w) 5 ∧ ((if nI w = 0 then nI 1 else nI 0) ≤ v ∧ v ≤ (if nI w = 0 then nI 99999 else nI 99))) (hz : w = 0) (hr : v < zfull g (nI t) (gN g 3)) : zCm l G mX9_setTier 4 94 0 0 [.ref 941, .int (nI t), .int (nI w), .int (v)] (zsL M 942 g) (zD (some (.int (-15))) (zsL (zsI M 941 6 (nI 0)) 942 g)) := by
  refine zCd.of (ls0 := [some (.ref 941), some (.int (nI t)), some (.int (nI w)), some (.int (v)), none, none]) (by decide +kernel) rfl hl rfl (Nat.le_of_ble_eq_true rfl) rfl ?_
  have hn2 := hb.2.2.1.2
  have ht4 := hb.2.1.2
  have hcy := hb.1.2.2
  have hpe := hb.2.2.2.1.2
  refine s_iload_n (zdk hX9_setTier_0 0 rfl) rfl ?_
  refine s_iconstv (v := nI 0) (zdk hX9_setTier_0 1 rfl) zc_iconst_0 ?_
  refine s_iconstv (v := nI 4) (zdk hX9_setTier_0 2 rfl) zc_iconst_4 ?_
  refine s_callS0 [.int (nI w), .int (nI 0), .int (nI 4)] (zdk hX9_setTier_0 3 rfl) cw_X9_79 rfl (Nat.le_of_ble_eq_true rfl) (by decide) (c_X9_isIn hl (zsL M 942 g) (nI w) (nI 0) (nI 4)) ?_
  refine s_topi (b := if inN (nI w) 5 then nI 1 else nI 0) (b01 (inN_in rfl (by omega))) ?_
  refine s_if_eq 40 (zdk hX9_setTier_0 4 rfl) (by decide) (fun c6 => ?_) (fun c6 => ?_)
  · have b6 : ¬ (inN (nI w) 5) := b01_eq c6
    exact absurd hR.1 b6
  · have b6 : inN (nI w) 5 := b01_ne c6
    refine s_iload_n (zdk hX9_setTier_0 5 rfl) rfl ?_
    refine s_iload_n (zdk hX9_setTier_0 6 rfl) rfl ?_
    refine s_if_ne 18 (zdk hX9_setTier_0 7 rfl) (by decide) (fun c11 => ?_) (fun c11 => ?_)
    · refine s_iconstv (v := nI 0) (zdk hX9_setTier_0 10 rfl) zc_iconst_0 ?_
      refine s_iload_n (zdk hX9_setTier_0 11 rfl) rfl ?_
      refine s_if_ne 28 (zdk hX9_setTier_0 12 rfl) (by decide) (fun d20 => ?_) (fun d20 => ?_)
      · refine s_bipushv (v := nI 99) (zdk hX9_setTier_0 15 rfl) zc_bipush_99 ?_
        refine s_callS0 [.int (v), .int (nI 0), .int (nI 99)] (zdk hX9_setTier_0 16 rfl) cw_X9_79 rfl (Nat.le_of_ble_eq_true rfl) (by decide) (c_X9_isIn hl (zsL M 942 g) (v) (nI 0) (nI 99)) ?_
        refine s_if_eq 40 (zdk hX9_setTier_0 17 rfl) (by decide) (fun c33 => ?_) (fun c33 => ?_)
        · have b33 : ¬ (nI 0 ≤ v ∧ v ≤ nI 99) := b01_eq c33
          have q2 := hR.2
          rw [if_neg c11, if_neg c11] at q2
          exact absurd q2 b33
        · have b33 : nI 0 ≤ v ∧ v ≤ nI 99 := b01_ne c33
          refine s_iconstv (v := nI 1) (zdk hX9_setTier_0 18 rfl) zc_iconst_1 ?_
          refine s_goto 41 (zdk hX9_setTier_0 19 rfl) (by decide) ?_
          refine s_istore (zdk hX9_setTier_0 21 rfl) (Nat.le_of_ble_eq_true rfl) ?_
          refine s_ls (ls' := [some (.ref 941), some (.int (nI t)), some (.int (nI w)), some (.int (v)), some (.int (nI 1)), none]) rfl ?_
          refine s_aload_n (zdk hX9_setTier_0 22 rfl) rfl ?_
          refine s_aload_n (zdk hX9_setTier_0 23 rfl) rfl ?_
          refine s_iload_n (zdk hX9_setTier_0 24 rfl) rfl ?_
          refine s_callV0 (ci := 9) [.int (nI t)] (zdk hX9_setTier_0 25 rfl) cw_X9_245 (hm.1) (by decide) rfl rfl rfl (Nat.le_of_ble_eq_true rfl) (by decide) (c_X9_isTier hl (M := M) (g := g) hm hb (nI t)) ?_
          refine s_if_ne 56 (zdk hX9_setTier_0 26 rfl) (by decide) (fun c49 => ?_) (fun c49 => ?_)
          · have b49 : inN (nI t) (gN g 2) := b01_ne c49
            refine s_iload (zdk hX9_setTier_0 29 rfl) rfl ?_
            refine s_if_eq 65 (zdk hX9_setTier_0 30 rfl) (by decide) (fun c58 => ?_) (fun c58 => ?_)
            · exact absurd c58 (by decide)
            · refine s_iconstv (v := nI 0) (zdk hX9_setTier_0 31 rfl) zc_iconst_0 ?_
              refine s_goto 66 (zdk hX9_setTier_0 32 rfl) (by decide) ?_
              refine s_putI (zdk hX9_setTier_0 34 rfl) fw_X9_69 rfl pw_9_6 (hm.1) ?_
              refine s_mem (M' := (zsL (zsI M 941 6 (nI 0)) 942 g)) rfl ?_
              refine s_aload_n (zdk hX9_setTier_0 35 rfl) rfl ?_
              refine s_getI (zdk hX9_setTier_0 36 rfl) fw_X9_69 rfl (hm.1) ?_
              refine s_topi (b := nI 0) ((congrFun (zI_Ie (M := M) (a := 941) (k := 6) (v := (nI 0))) 6).trans zw1_e) ?_
              refine s_if_le 78 (zdk hX9_setTier_0 37 rfl) (by decide) (fun c73 => ?_) (fun c73 => ?_)
              · refine s_iload_n (zdk hX9_setTier_0 40 rfl) rfl ?_
                refine s_if_ne 96 (zdk hX9_setTier_0 41 rfl) (by decide) (fun c79 => ?_) (fun c79 => ?_)
                · exact absurd (by rw [hz]; rfl) c79
                · refine s_aload_n (zdk hX9_setTier_0 42 rfl) rfl ?_
                  refine s_iload_n (zdk hX9_setTier_0 43 rfl) rfl ?_
                  refine s_callV0 (ci := 9) [.int (nI t)] (zdk hX9_setTier_0 44 rfl) cw_X9_217 (hm.1) (by decide) rfl rfl rfl (Nat.le_of_ble_eq_true rfl) (by decide) (c_X9_fullOf hl (M := (zsI M 941 6 (nI 0))) (g := g) hm hb (nI t)) ?_
                  refine s_iload_n (zdk hX9_setTier_0 45 rfl) rfl ?_
                  refine s_icmp_le 96 (zdk hX9_setTier_0 46 rfl) (by decide) (fun c88 => ?_) (fun c88 => ?_)
                  · exact absurd hr (Int32.not_lt.mpr c88)
                  · refine s_iconstv (v := nI 5) (zdk hX9_setTier_0 47 rfl) zc_iconst_5 ?_
                    refine s_callS0 [.int (nI 5)] (zdk hX9_setTier_0 48 rfl) cw_X9_326 rfl (Nat.le_of_ble_eq_true rfl) (by decide) (c_X9_refused hl (zsL (zsI M 941 6 (nI 0)) 942 g) (nI 5)) ?_
                    refine s_topi (b := (-15)) (by decide) ?_
                    refine s_ireturn (zdk hX9_setTier_0 49 rfl) rfl rfl ?_
                    exact ⟨rfl, rfl⟩
              · exact absurd (by decide) c73
          · have b49 : ¬ (inN (nI t) (gN g 2)) := b01_eq c49
            exact absurd (inN_of ht (by omega)) b49
      · exact absurd d20 c11
    · refine s_iconstv (v := nI 1) (zdk hX9_setTier_0 8 rfl) zc_iconst_1 ?_
      refine s_goto 19 (zdk hX9_setTier_0 9 rfl) (by decide) ?_
      refine s_iload_n (zdk hX9_setTier_0 11 rfl) rfl ?_
      refine s_if_ne 28 (zdk hX9_setTier_0 12 rfl) (by decide) (fun d20 => ?_) (fun d20 => ?_)
      · exact absurd c11 d20
      · refine s_ldc (zdk hX9_setTier_0 13 rfl) kw_X9_173 ?_
        refine s_topi (b := nI 99999) (by decide) ?_
        refine s_goto 30 (zdk hX9_setTier_0 14 rfl) (by decide) ?_
        refine s_callS0 [.int (v), .int (nI 1), .int (nI 99999)] (zdk hX9_setTier_0 16 rfl) cw_X9_79 rfl (Nat.le_of_ble_eq_true rfl) (by decide) (c_X9_isIn hl (zsL M 942 g) (v) (nI 1) (nI 99999)) ?_
        refine s_if_eq 40 (zdk hX9_setTier_0 17 rfl) (by decide) (fun c33 => ?_) (fun c33 => ?_)
        · have b33 : ¬ (nI 1 ≤ v ∧ v ≤ nI 99999) := b01_eq c33
          have q2 := hR.2
          rw [if_pos c11, if_pos c11] at q2
          exact absurd q2 b33
        · have b33 : nI 1 ≤ v ∧ v ≤ nI 99999 := b01_ne c33
          refine s_iconstv (v := nI 1) (zdk hX9_setTier_0 18 rfl) zc_iconst_1 ?_
          refine s_goto 41 (zdk hX9_setTier_0 19 rfl) (by decide) ?_
          refine s_istore (zdk hX9_setTier_0 21 rfl) (Nat.le_of_ble_eq_true rfl) ?_
          refine s_ls (ls' := [some (.ref 941), some (.int (nI t)), some (.int (nI w)), some (.int (v)), some (.int (nI 1)), none]) rfl ?_
          refine s_aload_n (zdk hX9_setTier_0 22 rfl) rfl ?_
          refine s_aload_n (zdk hX9_setTier_0 23 rfl) rfl ?_
          refine s_iload_n (zdk hX9_setTier_0 24 rfl) rfl ?_
          refine s_callV0 (ci := 9) [.int (nI t)] (zdk hX9_setTier_0 25 rfl) cw_X9_245 (hm.1) (by decide) rfl rfl rfl (Nat.le_of_ble_eq_true rfl) (by decide) (c_X9_isTier hl (M := M) (g := g) hm hb (nI t)) ?_
          refine s_if_ne 56 (zdk hX9_setTier_0 26 rfl) (by decide) (fun c49 => ?_) (fun c49 => ?_)
          · have b49 : inN (nI t) (gN g 2) := b01_ne c49
            refine s_iload (zdk hX9_setTier_0 29 rfl) rfl ?_
            refine s_if_eq 65 (zdk hX9_setTier_0 30 rfl) (by decide) (fun c58 => ?_) (fun c58 => ?_)
            · exact absurd c58 (by decide)
            · refine s_iconstv (v := nI 0) (zdk hX9_setTier_0 31 rfl) zc_iconst_0 ?_
              refine s_goto 66 (zdk hX9_setTier_0 32 rfl) (by decide) ?_
              refine s_putI (zdk hX9_setTier_0 34 rfl) fw_X9_69 rfl pw_9_6 (hm.1) ?_
              refine s_mem (M' := (zsL (zsI M 941 6 (nI 0)) 942 g)) rfl ?_
              refine s_aload_n (zdk hX9_setTier_0 35 rfl) rfl ?_
              refine s_getI (zdk hX9_setTier_0 36 rfl) fw_X9_69 rfl (hm.1) ?_
              refine s_topi (b := nI 0) ((congrFun (zI_Ie (M := M) (a := 941) (k := 6) (v := (nI 0))) 6).trans zw1_e) ?_
              refine s_if_le 78 (zdk hX9_setTier_0 37 rfl) (by decide) (fun c73 => ?_) (fun c73 => ?_)
              · refine s_iload_n (zdk hX9_setTier_0 40 rfl) rfl ?_
                refine s_if_ne 96 (zdk hX9_setTier_0 41 rfl) (by decide) (fun c79 => ?_) (fun c79 => ?_)
                · exact absurd (by rw [hz]; rfl) c79
                · refine s_aload_n (zdk hX9_setTier_0 42 rfl) rfl ?_
                  refine s_iload_n (zdk hX9_setTier_0 43 rfl) rfl ?_
                  refine s_callV0 (ci := 9) [.int (nI t)] (zdk hX9_setTier_0 44 rfl) cw_X9_217 (hm.1) (by decide) rfl rfl rfl (Nat.le_of_ble_eq_true rfl) (by decide) (c_X9_fullOf hl (M := (zsI M 941 6 (nI 0))) (g := g) hm hb (nI t)) ?_
                  refine s_iload_n (zdk hX9_setTier_0 45 rfl) rfl ?_
                  refine s_icmp_le 96 (zdk hX9_setTier_0 46 rfl) (by decide) (fun c88 => ?_) (fun c88 => ?_)
                  · exact absurd hr (Int32.not_lt.mpr c88)
                  · refine s_iconstv (v := nI 5) (zdk hX9_setTier_0 47 rfl) zc_iconst_5 ?_
                    refine s_callS0 [.int (nI 5)] (zdk hX9_setTier_0 48 rfl) cw_X9_326 rfl (Nat.le_of_ble_eq_true rfl) (by decide) (c_X9_refused hl (zsL (zsI M 941 6 (nI 0)) 942 g) (nI 5)) ?_
                    refine s_topi (b := (-15)) (by decide) ?_
                    refine s_ireturn (zdk hX9_setTier_0 49 rfl) rfl rfl ?_
                    exact ⟨rfl, rfl⟩
              · exact absurd (by decide) c73
          · have b49 : ¬ (inN (nI t) (gN g 2)) := b01_eq c49
            exact absurd (inN_of ht (by omega)) b49
theorem c_X9_setTier (hl : l.stackTraces = false) {M : zMem} (hm : mSh M) {g : Nat → Int64} (hb : gBd g) {t : Nat} (ht : t < gN g 2) {w : Nat} (hw : w < 5) {v : Int32} (hR : inN (nI w) 5 ∧ ((if nI w = 0 then nI 1 else nI 0) ≤ v ∧ v ≤ (if nI w = 0 then nI 99999 else nI 99))) {c : Nat} (hc : zI M 941 5 = nI c) (hc8 : c ≤ 8) (hr : w = 0 → ¬ v < zfull g (nI t) (gN g 3)) : zCm l G mX9_setTier 4 94 0 0 [.ref 941, .int (nI t), .int (nI w), .int (v)] (zsL M 942 g) (zD (some (.int (gt g t w))) (zsL (KP M c g) 942 (zwL g (6 + 13 * t + w) v.toInt64))) := by
  refine zCd.of (ls0 := [some (.ref 941), some (.int (nI t)), some (.int (nI w)), some (.int (v)), none, none]) (by decide +kernel) rfl hl rfl (Nat.le_of_ble_eq_true rfl) rfl ?_
  have hn2 := hb.2.2.1.2
  have ht4 := hb.2.1.2
  have hcy := hb.1.2.2
  have hpe := hb.2.2.2.1.2
  refine s_iload_n (zdk hX9_setTier_0 0 rfl) rfl ?_
  refine s_iconstv (v := nI 0) (zdk hX9_setTier_0 1 rfl) zc_iconst_0 ?_
  refine s_iconstv (v := nI 4) (zdk hX9_setTier_0 2 rfl) zc_iconst_4 ?_
  refine s_callS0 [.int (nI w), .int (nI 0), .int (nI 4)] (zdk hX9_setTier_0 3 rfl) cw_X9_79 rfl (Nat.le_of_ble_eq_true rfl) (by decide) (c_X9_isIn hl (zsL M 942 g) (nI w) (nI 0) (nI 4)) ?_
  refine s_topi (b := if inN (nI w) 5 then nI 1 else nI 0) (b01 (inN_in rfl (by omega))) ?_
  refine s_if_eq 40 (zdk hX9_setTier_0 4 rfl) (by decide) (fun c6 => ?_) (fun c6 => ?_)
  · have b6 : ¬ (inN (nI w) 5) := b01_eq c6
    exact absurd hR.1 b6
  · have b6 : inN (nI w) 5 := b01_ne c6
    refine s_iload_n (zdk hX9_setTier_0 5 rfl) rfl ?_
    refine s_iload_n (zdk hX9_setTier_0 6 rfl) rfl ?_
    refine s_if_ne 18 (zdk hX9_setTier_0 7 rfl) (by decide) (fun c11 => ?_) (fun c11 => ?_)
    · refine s_iconstv (v := nI 0) (zdk hX9_setTier_0 10 rfl) zc_iconst_0 ?_
      refine s_iload_n (zdk hX9_setTier_0 11 rfl) rfl ?_
      refine s_if_ne 28 (zdk hX9_setTier_0 12 rfl) (by decide) (fun d20 => ?_) (fun d20 => ?_)
      · refine s_bipushv (v := nI 99) (zdk hX9_setTier_0 15 rfl) zc_bipush_99 ?_
        refine s_callS0 [.int (v), .int (nI 0), .int (nI 99)] (zdk hX9_setTier_0 16 rfl) cw_X9_79 rfl (Nat.le_of_ble_eq_true rfl) (by decide) (c_X9_isIn hl (zsL M 942 g) (v) (nI 0) (nI 99)) ?_
        refine s_if_eq 40 (zdk hX9_setTier_0 17 rfl) (by decide) (fun c33 => ?_) (fun c33 => ?_)
        · have b33 : ¬ (nI 0 ≤ v ∧ v ≤ nI 99) := b01_eq c33
          have q2 := hR.2
          rw [if_neg c11, if_neg c11] at q2
          exact absurd q2 b33
        · have b33 : nI 0 ≤ v ∧ v ≤ nI 99 := b01_ne c33
          refine s_iconstv (v := nI 1) (zdk hX9_setTier_0 18 rfl) zc_iconst_1 ?_
          refine s_goto 41 (zdk hX9_setTier_0 19 rfl) (by decide) ?_
          refine s_istore (zdk hX9_setTier_0 21 rfl) (Nat.le_of_ble_eq_true rfl) ?_
          refine s_ls (ls' := [some (.ref 941), some (.int (nI t)), some (.int (nI w)), some (.int (v)), some (.int (nI 1)), none]) rfl ?_
          refine s_aload_n (zdk hX9_setTier_0 22 rfl) rfl ?_
          refine s_aload_n (zdk hX9_setTier_0 23 rfl) rfl ?_
          refine s_iload_n (zdk hX9_setTier_0 24 rfl) rfl ?_
          refine s_callV0 (ci := 9) [.int (nI t)] (zdk hX9_setTier_0 25 rfl) cw_X9_245 (hm.1) (by decide) rfl rfl rfl (Nat.le_of_ble_eq_true rfl) (by decide) (c_X9_isTier hl (M := M) (g := g) hm hb (nI t)) ?_
          refine s_if_ne 56 (zdk hX9_setTier_0 26 rfl) (by decide) (fun c49 => ?_) (fun c49 => ?_)
          · have b49 : inN (nI t) (gN g 2) := b01_ne c49
            refine s_iload (zdk hX9_setTier_0 29 rfl) rfl ?_
            refine s_if_eq 65 (zdk hX9_setTier_0 30 rfl) (by decide) (fun c58 => ?_) (fun c58 => ?_)
            · exact absurd c58 (by decide)
            · refine s_iconstv (v := nI 0) (zdk hX9_setTier_0 31 rfl) zc_iconst_0 ?_
              refine s_goto 66 (zdk hX9_setTier_0 32 rfl) (by decide) ?_
              refine s_putI (zdk hX9_setTier_0 34 rfl) fw_X9_69 rfl pw_9_6 (hm.1) ?_
              refine s_mem (M' := (zsL (zsI M 941 6 (nI 0)) 942 g)) rfl ?_
              refine s_aload_n (zdk hX9_setTier_0 35 rfl) rfl ?_
              refine s_getI (zdk hX9_setTier_0 36 rfl) fw_X9_69 rfl (hm.1) ?_
              refine s_topi (b := nI 0) ((congrFun (zI_Ie (M := M) (a := 941) (k := 6) (v := (nI 0))) 6).trans zw1_e) ?_
              refine s_if_le 78 (zdk hX9_setTier_0 37 rfl) (by decide) (fun c73 => ?_) (fun c73 => ?_)
              · refine s_iload_n (zdk hX9_setTier_0 40 rfl) rfl ?_
                refine s_if_ne 96 (zdk hX9_setTier_0 41 rfl) (by decide) (fun c79 => ?_) (fun c79 => ?_)
                · refine s_aload_n (zdk hX9_setTier_0 50 rfl) rfl ?_
                  refine s_aload_n (zdk hX9_setTier_0 51 rfl) rfl ?_
                  refine s_getR (zdk hX9_setTier_0 52 rfl) fw_X9_7 rfl (hm.1) (show _ = some 942 from (hm.r (i := 0) rfl).1) ?_
                  refine s_callV0 (ci := 9) [.ref 942] (zdk hX9_setTier_0 53 rfl) cw_X9_83 (hm.1) (by decide) rfl rfl rfl (Nat.le_of_ble_eq_true rfl) (by decide) (c_keeps0 hl hm hc hc8) ?_
                  refine s_aload_n (zdk hX9_setTier_0 54 rfl) rfl ?_
                  refine s_iload_n (zdk hX9_setTier_0 55 rfl) rfl ?_
                  refine s_iload_n (zdk hX9_setTier_0 56 rfl) rfl ?_
                  refine s_callV0 (ci := 9) [.int (nI t), .int (nI w)] (zdk hX9_setTier_0 57 rfl) cw_X9_214 (hm.1) (by decide) rfl rfl rfl (Nat.le_of_ble_eq_true rfl) (by decide) (c_X9_ofTier hl (M := (KP M c g)) (g := g) hm (t := t) (k := w) (by omega)) ?_
                  refine s_istore (zdk hX9_setTier_0 58 rfl) (Nat.le_of_ble_eq_true rfl) ?_
                  refine s_ls (ls' := [some (.ref 941), some (.int (nI t)), some (.int (nI w)), some (.int (v)), some (.int (nI 1)), some (.int (gt g t w))]) rfl ?_
                  refine s_aload_n (zdk hX9_setTier_0 59 rfl) rfl ?_
                  refine s_getR (zdk hX9_setTier_1 0 rfl) fw_X9_7 rfl (hm.1) (show _ = some 942 from (hm.r (i := 0) rfl).1) ?_
                  refine s_bipushv (v := nI 6) (zdk hX9_setTier_1 1 rfl) zc_bipush_6 ?_
                  refine s_bipushv (v := nI 13) (zdk hX9_setTier_1 2 rfl) zc_bipush_13 ?_
                  refine s_iload_n (zdk hX9_setTier_1 3 rfl) rfl ?_
                  refine s_imul (zdk hX9_setTier_1 4 rfl) ?_
                  refine s_topi (b := nI (13 * t)) (pk_mul _ _) ?_
                  refine s_iadd (zdk hX9_setTier_1 5 rfl) ?_
                  refine s_topi (b := nI (6 + 13 * t)) (nI_add _ _) ?_
                  refine s_iload_n (zdk hX9_setTier_1 6 rfl) rfl ?_
                  refine s_iadd (zdk hX9_setTier_1 7 rfl) ?_
                  refine s_topi (b := nI (6 + 13 * t + w)) (nI_add _ _) ?_
                  refine s_iload_n (zdk hX9_setTier_1 8 rfl) rfl ?_
                  refine s_i2l (zdk hX9_setTier_1 9 rfl) ?_
                  refine s_lastoreN (N := 1390) (j := 6 + 13 * t + w) (zdk hX9_setTier_1 10 rfl) ((hm.r (i := 0) rfl).2.1) ((hm.r (i := 0) rfl).2.2) (by omega) (by decide) ?_
                  refine s_mem (M' := (zsL (KP M c g) 942 (zwL g (6 + 13 * t + w) ((v).toInt64)))) (zsL_1 _ _ _ _ _) ?_
                  refine s_iload (zdk hX9_setTier_1 11 rfl) rfl ?_
                  refine s_ireturn (zdk hX9_setTier_1 12 rfl) rfl rfl ?_
                  exact ⟨rfl, rfl⟩
                · refine s_aload_n (zdk hX9_setTier_0 42 rfl) rfl ?_
                  refine s_iload_n (zdk hX9_setTier_0 43 rfl) rfl ?_
                  refine s_callV0 (ci := 9) [.int (nI t)] (zdk hX9_setTier_0 44 rfl) cw_X9_217 (hm.1) (by decide) rfl rfl rfl (Nat.le_of_ble_eq_true rfl) (by decide) (c_X9_fullOf hl (M := (zsI M 941 6 (nI 0))) (g := g) hm hb (nI t)) ?_
                  refine s_iload_n (zdk hX9_setTier_0 45 rfl) rfl ?_
                  refine s_icmp_le 96 (zdk hX9_setTier_0 46 rfl) (by decide) (fun c88 => ?_) (fun c88 => ?_)
                  · refine s_aload_n (zdk hX9_setTier_0 50 rfl) rfl ?_
                    refine s_aload_n (zdk hX9_setTier_0 51 rfl) rfl ?_
                    refine s_getR (zdk hX9_setTier_0 52 rfl) fw_X9_7 rfl (hm.1) (show _ = some 942 from (hm.r (i := 0) rfl).1) ?_
                    refine s_callV0 (ci := 9) [.ref 942] (zdk hX9_setTier_0 53 rfl) cw_X9_83 (hm.1) (by decide) rfl rfl rfl (Nat.le_of_ble_eq_true rfl) (by decide) (c_keeps0 hl hm hc hc8) ?_
                    refine s_aload_n (zdk hX9_setTier_0 54 rfl) rfl ?_
                    refine s_iload_n (zdk hX9_setTier_0 55 rfl) rfl ?_
                    refine s_iload_n (zdk hX9_setTier_0 56 rfl) rfl ?_
                    refine s_callV0 (ci := 9) [.int (nI t), .int (nI w)] (zdk hX9_setTier_0 57 rfl) cw_X9_214 (hm.1) (by decide) rfl rfl rfl (Nat.le_of_ble_eq_true rfl) (by decide) (c_X9_ofTier hl (M := (KP M c g)) (g := g) hm (t := t) (k := w) (by omega)) ?_
                    refine s_istore (zdk hX9_setTier_0 58 rfl) (Nat.le_of_ble_eq_true rfl) ?_
                    refine s_ls (ls' := [some (.ref 941), some (.int (nI t)), some (.int (nI w)), some (.int (v)), some (.int (nI 1)), some (.int (gt g t w))]) rfl ?_
                    refine s_aload_n (zdk hX9_setTier_0 59 rfl) rfl ?_
                    refine s_getR (zdk hX9_setTier_1 0 rfl) fw_X9_7 rfl (hm.1) (show _ = some 942 from (hm.r (i := 0) rfl).1) ?_
                    refine s_bipushv (v := nI 6) (zdk hX9_setTier_1 1 rfl) zc_bipush_6 ?_
                    refine s_bipushv (v := nI 13) (zdk hX9_setTier_1 2 rfl) zc_bipush_13 ?_
                    refine s_iload_n (zdk hX9_setTier_1 3 rfl) rfl ?_
                    refine s_imul (zdk hX9_setTier_1 4 rfl) ?_
                    refine s_topi (b := nI (13 * t)) (pk_mul _ _) ?_
                    refine s_iadd (zdk hX9_setTier_1 5 rfl) ?_
                    refine s_topi (b := nI (6 + 13 * t)) (nI_add _ _) ?_
                    refine s_iload_n (zdk hX9_setTier_1 6 rfl) rfl ?_
                    refine s_iadd (zdk hX9_setTier_1 7 rfl) ?_
                    refine s_topi (b := nI (6 + 13 * t + w)) (nI_add _ _) ?_
                    refine s_iload_n (zdk hX9_setTier_1 8 rfl) rfl ?_
                    refine s_i2l (zdk hX9_setTier_1 9 rfl) ?_
                    refine s_lastoreN (N := 1390) (j := 6 + 13 * t + w) (zdk hX9_setTier_1 10 rfl) ((hm.r (i := 0) rfl).2.1) ((hm.r (i := 0) rfl).2.2) (by omega) (by decide) ?_
                    refine s_mem (M' := (zsL (KP M c g) 942 (zwL g (6 + 13 * t + w) ((v).toInt64)))) (zsL_1 _ _ _ _ _) ?_
                    refine s_iload (zdk hX9_setTier_1 11 rfl) rfl ?_
                    refine s_ireturn (zdk hX9_setTier_1 12 rfl) rfl rfl ?_
                    exact ⟨rfl, rfl⟩
                  · exact absurd (Int32.not_le.mp c88) (hr ((nI_eq (by omega) (by omega)).mp c79))
              · exact absurd (by decide) c73
          · have b49 : ¬ (inN (nI t) (gN g 2)) := b01_eq c49
            exact absurd (inN_of ht (by omega)) b49
      · exact absurd d20 c11
    · refine s_iconstv (v := nI 1) (zdk hX9_setTier_0 8 rfl) zc_iconst_1 ?_
      refine s_goto 19 (zdk hX9_setTier_0 9 rfl) (by decide) ?_
      refine s_iload_n (zdk hX9_setTier_0 11 rfl) rfl ?_
      refine s_if_ne 28 (zdk hX9_setTier_0 12 rfl) (by decide) (fun d20 => ?_) (fun d20 => ?_)
      · exact absurd c11 d20
      · refine s_ldc (zdk hX9_setTier_0 13 rfl) kw_X9_173 ?_
        refine s_topi (b := nI 99999) (by decide) ?_
        refine s_goto 30 (zdk hX9_setTier_0 14 rfl) (by decide) ?_
        refine s_callS0 [.int (v), .int (nI 1), .int (nI 99999)] (zdk hX9_setTier_0 16 rfl) cw_X9_79 rfl (Nat.le_of_ble_eq_true rfl) (by decide) (c_X9_isIn hl (zsL M 942 g) (v) (nI 1) (nI 99999)) ?_
        refine s_if_eq 40 (zdk hX9_setTier_0 17 rfl) (by decide) (fun c33 => ?_) (fun c33 => ?_)
        · have b33 : ¬ (nI 1 ≤ v ∧ v ≤ nI 99999) := b01_eq c33
          have q2 := hR.2
          rw [if_pos c11, if_pos c11] at q2
          exact absurd q2 b33
        · have b33 : nI 1 ≤ v ∧ v ≤ nI 99999 := b01_ne c33
          refine s_iconstv (v := nI 1) (zdk hX9_setTier_0 18 rfl) zc_iconst_1 ?_
          refine s_goto 41 (zdk hX9_setTier_0 19 rfl) (by decide) ?_
          refine s_istore (zdk hX9_setTier_0 21 rfl) (Nat.le_of_ble_eq_true rfl) ?_
          refine s_ls (ls' := [some (.ref 941), some (.int (nI t)), some (.int (nI w)), some (.int (v)), some (.int (nI 1)), none]) rfl ?_
          refine s_aload_n (zdk hX9_setTier_0 22 rfl) rfl ?_
          refine s_aload_n (zdk hX9_setTier_0 23 rfl) rfl ?_
          refine s_iload_n (zdk hX9_setTier_0 24 rfl) rfl ?_
          refine s_callV0 (ci := 9) [.int (nI t)] (zdk hX9_setTier_0 25 rfl) cw_X9_245 (hm.1) (by decide) rfl rfl rfl (Nat.le_of_ble_eq_true rfl) (by decide) (c_X9_isTier hl (M := M) (g := g) hm hb (nI t)) ?_
          refine s_if_ne 56 (zdk hX9_setTier_0 26 rfl) (by decide) (fun c49 => ?_) (fun c49 => ?_)
          · have b49 : inN (nI t) (gN g 2) := b01_ne c49
            refine s_iload (zdk hX9_setTier_0 29 rfl) rfl ?_
            refine s_if_eq 65 (zdk hX9_setTier_0 30 rfl) (by decide) (fun c58 => ?_) (fun c58 => ?_)
            · exact absurd c58 (by decide)
            · refine s_iconstv (v := nI 0) (zdk hX9_setTier_0 31 rfl) zc_iconst_0 ?_
              refine s_goto 66 (zdk hX9_setTier_0 32 rfl) (by decide) ?_
              refine s_putI (zdk hX9_setTier_0 34 rfl) fw_X9_69 rfl pw_9_6 (hm.1) ?_
              refine s_mem (M' := (zsL (zsI M 941 6 (nI 0)) 942 g)) rfl ?_
              refine s_aload_n (zdk hX9_setTier_0 35 rfl) rfl ?_
              refine s_getI (zdk hX9_setTier_0 36 rfl) fw_X9_69 rfl (hm.1) ?_
              refine s_topi (b := nI 0) ((congrFun (zI_Ie (M := M) (a := 941) (k := 6) (v := (nI 0))) 6).trans zw1_e) ?_
              refine s_if_le 78 (zdk hX9_setTier_0 37 rfl) (by decide) (fun c73 => ?_) (fun c73 => ?_)
              · refine s_iload_n (zdk hX9_setTier_0 40 rfl) rfl ?_
                refine s_if_ne 96 (zdk hX9_setTier_0 41 rfl) (by decide) (fun c79 => ?_) (fun c79 => ?_)
                · refine s_aload_n (zdk hX9_setTier_0 50 rfl) rfl ?_
                  refine s_aload_n (zdk hX9_setTier_0 51 rfl) rfl ?_
                  refine s_getR (zdk hX9_setTier_0 52 rfl) fw_X9_7 rfl (hm.1) (show _ = some 942 from (hm.r (i := 0) rfl).1) ?_
                  refine s_callV0 (ci := 9) [.ref 942] (zdk hX9_setTier_0 53 rfl) cw_X9_83 (hm.1) (by decide) rfl rfl rfl (Nat.le_of_ble_eq_true rfl) (by decide) (c_keeps0 hl hm hc hc8) ?_
                  refine s_aload_n (zdk hX9_setTier_0 54 rfl) rfl ?_
                  refine s_iload_n (zdk hX9_setTier_0 55 rfl) rfl ?_
                  refine s_iload_n (zdk hX9_setTier_0 56 rfl) rfl ?_
                  refine s_callV0 (ci := 9) [.int (nI t), .int (nI w)] (zdk hX9_setTier_0 57 rfl) cw_X9_214 (hm.1) (by decide) rfl rfl rfl (Nat.le_of_ble_eq_true rfl) (by decide) (c_X9_ofTier hl (M := (KP M c g)) (g := g) hm (t := t) (k := w) (by omega)) ?_
                  refine s_istore (zdk hX9_setTier_0 58 rfl) (Nat.le_of_ble_eq_true rfl) ?_
                  refine s_ls (ls' := [some (.ref 941), some (.int (nI t)), some (.int (nI w)), some (.int (v)), some (.int (nI 1)), some (.int (gt g t w))]) rfl ?_
                  refine s_aload_n (zdk hX9_setTier_0 59 rfl) rfl ?_
                  refine s_getR (zdk hX9_setTier_1 0 rfl) fw_X9_7 rfl (hm.1) (show _ = some 942 from (hm.r (i := 0) rfl).1) ?_
                  refine s_bipushv (v := nI 6) (zdk hX9_setTier_1 1 rfl) zc_bipush_6 ?_
                  refine s_bipushv (v := nI 13) (zdk hX9_setTier_1 2 rfl) zc_bipush_13 ?_
                  refine s_iload_n (zdk hX9_setTier_1 3 rfl) rfl ?_
                  refine s_imul (zdk hX9_setTier_1 4 rfl) ?_
                  refine s_topi (b := nI (13 * t)) (pk_mul _ _) ?_
                  refine s_iadd (zdk hX9_setTier_1 5 rfl) ?_
                  refine s_topi (b := nI (6 + 13 * t)) (nI_add _ _) ?_
                  refine s_iload_n (zdk hX9_setTier_1 6 rfl) rfl ?_
                  refine s_iadd (zdk hX9_setTier_1 7 rfl) ?_
                  refine s_topi (b := nI (6 + 13 * t + w)) (nI_add _ _) ?_
                  refine s_iload_n (zdk hX9_setTier_1 8 rfl) rfl ?_
                  refine s_i2l (zdk hX9_setTier_1 9 rfl) ?_
                  refine s_lastoreN (N := 1390) (j := 6 + 13 * t + w) (zdk hX9_setTier_1 10 rfl) ((hm.r (i := 0) rfl).2.1) ((hm.r (i := 0) rfl).2.2) (by omega) (by decide) ?_
                  refine s_mem (M' := (zsL (KP M c g) 942 (zwL g (6 + 13 * t + w) ((v).toInt64)))) (zsL_1 _ _ _ _ _) ?_
                  refine s_iload (zdk hX9_setTier_1 11 rfl) rfl ?_
                  refine s_ireturn (zdk hX9_setTier_1 12 rfl) rfl rfl ?_
                  exact ⟨rfl, rfl⟩
                · refine s_aload_n (zdk hX9_setTier_0 42 rfl) rfl ?_
                  refine s_iload_n (zdk hX9_setTier_0 43 rfl) rfl ?_
                  refine s_callV0 (ci := 9) [.int (nI t)] (zdk hX9_setTier_0 44 rfl) cw_X9_217 (hm.1) (by decide) rfl rfl rfl (Nat.le_of_ble_eq_true rfl) (by decide) (c_X9_fullOf hl (M := (zsI M 941 6 (nI 0))) (g := g) hm hb (nI t)) ?_
                  refine s_iload_n (zdk hX9_setTier_0 45 rfl) rfl ?_
                  refine s_icmp_le 96 (zdk hX9_setTier_0 46 rfl) (by decide) (fun c88 => ?_) (fun c88 => ?_)
                  · refine s_aload_n (zdk hX9_setTier_0 50 rfl) rfl ?_
                    refine s_aload_n (zdk hX9_setTier_0 51 rfl) rfl ?_
                    refine s_getR (zdk hX9_setTier_0 52 rfl) fw_X9_7 rfl (hm.1) (show _ = some 942 from (hm.r (i := 0) rfl).1) ?_
                    refine s_callV0 (ci := 9) [.ref 942] (zdk hX9_setTier_0 53 rfl) cw_X9_83 (hm.1) (by decide) rfl rfl rfl (Nat.le_of_ble_eq_true rfl) (by decide) (c_keeps0 hl hm hc hc8) ?_
                    refine s_aload_n (zdk hX9_setTier_0 54 rfl) rfl ?_
                    refine s_iload_n (zdk hX9_setTier_0 55 rfl) rfl ?_
                    refine s_iload_n (zdk hX9_setTier_0 56 rfl) rfl ?_
                    refine s_callV0 (ci := 9) [.int (nI t), .int (nI w)] (zdk hX9_setTier_0 57 rfl) cw_X9_214 (hm.1) (by decide) rfl rfl rfl (Nat.le_of_ble_eq_true rfl) (by decide) (c_X9_ofTier hl (M := (KP M c g)) (g := g) hm (t := t) (k := w) (by omega)) ?_
                    refine s_istore (zdk hX9_setTier_0 58 rfl) (Nat.le_of_ble_eq_true rfl) ?_
                    refine s_ls (ls' := [some (.ref 941), some (.int (nI t)), some (.int (nI w)), some (.int (v)), some (.int (nI 1)), some (.int (gt g t w))]) rfl ?_
                    refine s_aload_n (zdk hX9_setTier_0 59 rfl) rfl ?_
                    refine s_getR (zdk hX9_setTier_1 0 rfl) fw_X9_7 rfl (hm.1) (show _ = some 942 from (hm.r (i := 0) rfl).1) ?_
                    refine s_bipushv (v := nI 6) (zdk hX9_setTier_1 1 rfl) zc_bipush_6 ?_
                    refine s_bipushv (v := nI 13) (zdk hX9_setTier_1 2 rfl) zc_bipush_13 ?_
                    refine s_iload_n (zdk hX9_setTier_1 3 rfl) rfl ?_
                    refine s_imul (zdk hX9_setTier_1 4 rfl) ?_
                    refine s_topi (b := nI (13 * t)) (pk_mul _ _) ?_
                    refine s_iadd (zdk hX9_setTier_1 5 rfl) ?_
                    refine s_topi (b := nI (6 + 13 * t)) (nI_add _ _) ?_
                    refine s_iload_n (zdk hX9_setTier_1 6 rfl) rfl ?_
                    refine s_iadd (zdk hX9_setTier_1 7 rfl) ?_
                    refine s_topi (b := nI (6 + 13 * t + w)) (nI_add _ _) ?_
                    refine s_iload_n (zdk hX9_setTier_1 8 rfl) rfl ?_
                    refine s_i2l (zdk hX9_setTier_1 9 rfl) ?_
                    refine s_lastoreN (N := 1390) (j := 6 + 13 * t + w) (zdk hX9_setTier_1 10 rfl) ((hm.r (i := 0) rfl).2.1) ((hm.r (i := 0) rfl).2.2) (by omega) (by decide) ?_
                    refine s_mem (M' := (zsL (KP M c g) 942 (zwL g (6 + 13 * t + w) ((v).toInt64)))) (zsL_1 _ _ _ _ _) ?_
                    refine s_iload (zdk hX9_setTier_1 11 rfl) rfl ?_
                    refine s_ireturn (zdk hX9_setTier_1 12 rfl) rfl rfl ?_
                    exact ⟨rfl, rfl⟩
                  · exact absurd (Int32.not_le.mp c88) (hr ((nI_eq (by omega) (by omega)).mp c79))
              · exact absurd (by decide) c73
          · have b49 : ¬ (inN (nI t) (gN g 2)) := b01_eq c49
            exact absurd (inN_of ht (by omega)) b49
theorem c_X9_learn_x (hl : l.stackTraces = false) {M : zMem} (hm : mSh M) {g : Nat → Int64} (hb : gBd g) (u r : Int32) (hx : ¬ ((nI 2 ≤ u ∧ u ≤ nI 12) ∧ (nI 1 ≤ r ∧ r ≤ nI 8))) : zCm l G mX9_learn 3 70 0 0 [.ref 941, .int (u), .int (r)] (zsL M 942 g) (zD (some (.int (nI 0))) (zsL (zsI M 941 6 (nI (1))) 942 g)) := by
  refine zCd.of (ls0 := [some (.ref 941), some (.int (u)), some (.int (r)), none, none]) (by decide +kernel) rfl hl rfl (Nat.le_of_ble_eq_true rfl) rfl ?_
  have hn2 := hb.2.2.1.2
  have ht4 := hb.2.1.2
  have hcy := hb.1.2.2
  have hpe := hb.2.2.2.1.2
  refine s_aload_n (zdk hX9_learn 0 rfl) rfl ?_
  refine s_iload_n (zdk hX9_learn 1 rfl) rfl ?_
  refine s_iconstv (v := nI 2) (zdk hX9_learn 2 rfl) zc_iconst_2 ?_
  refine s_bipushv (v := nI 12) (zdk hX9_learn 3 rfl) zc_bipush_12 ?_
  refine s_callS0 [.int (u), .int (nI 2), .int (nI 12)] (zdk hX9_learn 4 rfl) cw_X9_79 rfl (Nat.le_of_ble_eq_true rfl) (by decide) (c_X9_isIn hl (zsL M 942 g) (u) (nI 2) (nI 12)) ?_
  refine s_if_eq 25 (zdk hX9_learn 5 rfl) (by decide) (fun c8 => ?_) (fun c8 => ?_)
  · have b8 : ¬ (nI 2 ≤ u ∧ u ≤ nI 12) := b01_eq c8
    refine s_iconstv (v := nI 1) (zdk hX9_learn 13 rfl) zc_iconst_1 ?_
    refine s_putI (zdk hX9_learn 14 rfl) fw_X9_69 rfl pw_9_6 (hm.1) ?_
    refine s_mem (M' := (zsL (zsI M 941 6 (nI 1)) 942 g)) rfl ?_
    refine s_aload_n (zdk hX9_learn 15 rfl) rfl ?_
    refine s_getI (zdk hX9_learn 16 rfl) fw_X9_69 rfl (hm.1) ?_
    refine s_topi (b := nI 1) ((congrFun (zI_Ie (M := M) (a := 941) (k := 6) (v := (nI 1))) 6).trans zw1_e) ?_
    refine s_if_le 38 (zdk hX9_learn 17 rfl) (by decide) (fun c33 => ?_) (fun c33 => ?_)
    · exact absurd c33 (by decide)
    · refine s_iconstv (v := nI 0) (zdk hX9_learn 18 rfl) zc_iconst_0 ?_
      refine s_ireturn (zdk hX9_learn 19 rfl) rfl rfl ?_
      exact ⟨rfl, rfl⟩
  · have b8 : nI 2 ≤ u ∧ u ≤ nI 12 := b01_ne c8
    refine s_iload_n (zdk hX9_learn 6 rfl) rfl ?_
    refine s_iconstv (v := nI 1) (zdk hX9_learn 7 rfl) zc_iconst_1 ?_
    refine s_bipushv (v := nI 8) (zdk hX9_learn 8 rfl) zc_bipush_8 ?_
    refine s_callS0 [.int (r), .int (nI 1), .int (nI 8)] (zdk hX9_learn 9 rfl) cw_X9_79 rfl (Nat.le_of_ble_eq_true rfl) (by decide) (c_X9_isIn hl (zsL M 942 g) (r) (nI 1) (nI 8)) ?_
    refine s_if_eq 25 (zdk hX9_learn 10 rfl) (by decide) (fun c18 => ?_) (fun c18 => ?_)
    · have b18 : ¬ (nI 1 ≤ r ∧ r ≤ nI 8) := b01_eq c18
      refine s_iconstv (v := nI 1) (zdk hX9_learn 13 rfl) zc_iconst_1 ?_
      refine s_putI (zdk hX9_learn 14 rfl) fw_X9_69 rfl pw_9_6 (hm.1) ?_
      refine s_mem (M' := (zsL (zsI M 941 6 (nI 1)) 942 g)) rfl ?_
      refine s_aload_n (zdk hX9_learn 15 rfl) rfl ?_
      refine s_getI (zdk hX9_learn 16 rfl) fw_X9_69 rfl (hm.1) ?_
      refine s_topi (b := nI 1) ((congrFun (zI_Ie (M := M) (a := 941) (k := 6) (v := (nI 1))) 6).trans zw1_e) ?_
      refine s_if_le 38 (zdk hX9_learn 17 rfl) (by decide) (fun c33 => ?_) (fun c33 => ?_)
      · exact absurd c33 (by decide)
      · refine s_iconstv (v := nI 0) (zdk hX9_learn 18 rfl) zc_iconst_0 ?_
        refine s_ireturn (zdk hX9_learn 19 rfl) rfl rfl ?_
        exact ⟨rfl, rfl⟩
    · have b18 : nI 1 ≤ r ∧ r ≤ nI 8 := b01_ne c18
      refine s_iconstv (v := nI 0) (zdk hX9_learn 11 rfl) zc_iconst_0 ?_
      refine s_goto 26 (zdk hX9_learn 12 rfl) (by decide) ?_
      refine s_putI (zdk hX9_learn 14 rfl) fw_X9_69 rfl pw_9_6 (hm.1) ?_
      refine s_mem (M' := (zsL (zsI M 941 6 (nI 0)) 942 g)) rfl ?_
      refine s_aload_n (zdk hX9_learn 15 rfl) rfl ?_
      refine s_getI (zdk hX9_learn 16 rfl) fw_X9_69 rfl (hm.1) ?_
      refine s_topi (b := nI 0) ((congrFun (zI_Ie (M := M) (a := 941) (k := 6) (v := (nI 0))) 6).trans zw1_e) ?_
      refine s_if_le 38 (zdk hX9_learn 17 rfl) (by decide) (fun c33 => ?_) (fun c33 => ?_)
      · exact absurd ⟨b8, b18⟩ hx
      · exact absurd (by decide) c33
theorem w_X9_learn_71 (hl : l.stackTraces = false) {M : zMem} (hm : mSh M) {g : Nat → Int64} (hb : gBd g) {c : Nat} (hc : zI M 941 5 = nI c) (hc8 : c ≤ 8) {y : Nat} (hy : 2 ≤ y ∧ y ≤ 12) {r : Int32} (hr : nI 1 ≤ r ∧ r ≤ nI 8) (hK : ∀ f, f < gN g 3 → gN g (58 + 51 * f + 4) ≤ gN g 4) : ∀ (k : Nat) (i : Nat), i ≤ gN g 3 → gN g 3 - i < k → zS l G mX9_learn 4 100 0 0 71 [some (.ref 941), some (.int (nI y)), some (.int (r)), some (.int (nI (gN g 0))), some (.int (nI i))] [] (zsL (KP M c g) 942 (oReA (zwL (zwL g 0 (nI y).toInt64) 1 r.toInt64) i)) (zD (some (.int (nI (gN g 0)))) (zsL (KP M c g) 942 (oReA (zwL (zwL g 0 (nI y).toInt64) 1 r.toInt64) (gN g 3)))) := by
  intro k
  induction k with
  | zero => intros; omega
  | succ k ih =>
    intro i hi hk9
    have h20 := hb.2.2.1.2
    have hg0 : gBd (zwL g 0 (nI y).toInt64) := hb.cyc hy
    have hg1 : gBd (zwL (zwL g 0 (nI y).toInt64) 1 r.toInt64) := hg0.rat
    have e3 : gN (zwL (zwL g 0 (nI y).toInt64) 1 r.toInt64) 3 = gN g 3 := gN_eq ((zwL_n (by decide)).trans (zwL_n (by decide)))
    have hbi := hg1.reA i (by omega)
    have ei3 : gN (oReA (zwL (zwL g 0 (nI y).toInt64) 1 r.toInt64) i) 3 = gN g 3 := (gN_eq (oReA_n ⟨by have := hg1.1.2.1; omega, hg1.1.2.2⟩ i (Or.inl (by omega)) (by omega))).trans e3
    refine s_iload (zdk hX9_learn 42 rfl) rfl ?_
    refine s_aload_n (zdk hX9_learn 43 rfl) rfl ?_
    refine s_callV0 (ci := 9) [] (zdk hX9_learn 44 rfl) cw_X9_180 (hm.1) (by decide) rfl rfl rfl (Nat.le_of_ble_eq_true rfl) (by decide) (c_X9_files hl (M := (KP M c g)) (g := (oReA (zwL (zwL g 0 (nI y).toInt64) 1 r.toInt64) i)) hm hbi) ?_
    refine s_icmp_ge 92 (zdk hX9_learn 45 rfl) (by decide) (fun c77 => ?_) (fun c77 => ?_)
    · have n77 : gN (oReA (zwL (zwL g 0 (nI y).toInt64) 1 r.toInt64) i) 3 ≤ i := nle c77 (by omega) (by omega)
      have hie : i = gN g 3 := by omega
      subst hie
      refine s_iload_n (zdk hX9_learn 51 rfl) rfl ?_
      refine s_ireturn (zdk hX9_learn 52 rfl) rfl rfl ?_
      exact ⟨rfl, rfl⟩
    · have n77 : i < gN (oReA (zwL (zwL g 0 (nI y).toInt64) 1 r.toInt64) i) 3 := nlt c77 (by omega) (by omega)
      have e4 : (oReA (zwL (zwL g 0 (nI y).toInt64) 1 r.toInt64) i) (58 + 51 * i + 4) = g (58 + 51 * i + 4) := (oReA_4 hg1 (by omega) (by omega)).trans ((zwL_n (by omega)).trans (zwL_n (by omega)))
      have eP : gN (oReA (zwL (zwL g 0 (nI y).toInt64) 1 r.toInt64) i) 4 = gN g 4 := gN_eq ((oReA_n ⟨by have := hg1.1.2.1; omega, hg1.1.2.2⟩ i (Or.inl (by omega)) (by omega)).trans ((zwL_n (by omega)).trans (zwL_n (by omega))))
      refine s_aload_n (zdk hX9_learn 46 rfl) rfl ?_
      refine s_iload (zdk hX9_learn 47 rfl) rfl ?_
      refine s_callV0 (ci := 9) [.int (nI i)] (zdk hX9_learn 48 rfl) cw_X9_348 (hm.1) (by decide) rfl rfl rfl (Nat.le_of_ble_eq_true rfl) (by decide) (c_X9_relearns hl (M := KP M c g) (g := (oReA (zwL (zwL g 0 (nI y).toInt64) 1 r.toInt64) i)) hm hbi (f := i) (by omega) ((its_eq e4).trans ((hb.ke (by omega)).trans (congrArg nI (gN_eq e4).symm))) (by rw [gN_eq e4]; exact hb.keL (by omega)) (by rw [gN_eq e4, eP]; exact hK i (by omega))) ?_
      refine s_iinc (r := nI (i + 1)) (zdk hX9_learn 49 rfl) (Nat.le_of_ble_eq_true rfl) rfl (nI_1 _) ?_
      refine s_ls (ls' := [some (.ref 941), some (.int (nI y)), some (.int (r)), some (.int (nI (gN g 0))), some (.int (nI (i + 1)))]) rfl ?_
      refine s_goto 71 (zdk hX9_learn 50 rfl) (by decide) ?_
      exact ih (i + 1) (by omega) (by omega)
theorem c_X9_learn (hl : l.stackTraces = false) {M : zMem} (hm : mSh M) {g : Nat → Int64} (hb : gBd g) {c : Nat} (hc : zI M 941 5 = nI c) (hc8 : c ≤ 8) {y : Nat} (hy : 2 ≤ y ∧ y ≤ 12) {r : Int32} (hr : nI 1 ≤ r ∧ r ≤ nI 8) (hK : ∀ f, f < gN g 3 → gN g (58 + 51 * f + 4) ≤ gN g 4) : zCm l G mX9_learn 4 100 0 0 [.ref 941, .int (nI y), .int (r)] (zsL M 942 g) (zD (some (.int (nI (gN g 0)))) (zsL (KP M c g) 942 (oReA (zwL (zwL g 0 (nI y).toInt64) 1 r.toInt64) (gN g 3)))) := by
  refine zCd.of (ls0 := [some (.ref 941), some (.int (nI y)), some (.int (r)), none, none]) (by decide +kernel) rfl hl rfl (Nat.le_of_ble_eq_true rfl) rfl ?_
  have hn2 := hb.2.2.1.2
  have ht4 := hb.2.1.2
  have hcy := hb.1.2.2
  have hpe := hb.2.2.2.1.2
  refine s_aload_n (zdk hX9_learn 0 rfl) rfl ?_
  refine s_iload_n (zdk hX9_learn 1 rfl) rfl ?_
  refine s_iconstv (v := nI 2) (zdk hX9_learn 2 rfl) zc_iconst_2 ?_
  refine s_bipushv (v := nI 12) (zdk hX9_learn 3 rfl) zc_bipush_12 ?_
  refine s_callS0 [.int (nI y), .int (nI 2), .int (nI 12)] (zdk hX9_learn 4 rfl) cw_X9_79 rfl (Nat.le_of_ble_eq_true rfl) (by decide) (c_X9_isIn hl (zsL M 942 g) (nI y) (nI 2) (nI 12)) ?_
  refine s_if_eq 25 (zdk hX9_learn 5 rfl) (by decide) (fun c8 => ?_) (fun c8 => ?_)
  · have b8 : ¬ (nI 2 ≤ nI y ∧ nI y ≤ nI 12) := b01_eq c8
    exact absurd ⟨nI_le hy.1 (by omega), nI_le hy.2 (by omega)⟩ b8
  · have b8 : nI 2 ≤ nI y ∧ nI y ≤ nI 12 := b01_ne c8
    refine s_iload_n (zdk hX9_learn 6 rfl) rfl ?_
    refine s_iconstv (v := nI 1) (zdk hX9_learn 7 rfl) zc_iconst_1 ?_
    refine s_bipushv (v := nI 8) (zdk hX9_learn 8 rfl) zc_bipush_8 ?_
    refine s_callS0 [.int (r), .int (nI 1), .int (nI 8)] (zdk hX9_learn 9 rfl) cw_X9_79 rfl (Nat.le_of_ble_eq_true rfl) (by decide) (c_X9_isIn hl (zsL M 942 g) (r) (nI 1) (nI 8)) ?_
    refine s_if_eq 25 (zdk hX9_learn 10 rfl) (by decide) (fun c18 => ?_) (fun c18 => ?_)
    · have b18 : ¬ (nI 1 ≤ r ∧ r ≤ nI 8) := b01_eq c18
      exact absurd hr b18
    · have b18 : nI 1 ≤ r ∧ r ≤ nI 8 := b01_ne c18
      refine s_iconstv (v := nI 0) (zdk hX9_learn 11 rfl) zc_iconst_0 ?_
      refine s_goto 26 (zdk hX9_learn 12 rfl) (by decide) ?_
      refine s_putI (zdk hX9_learn 14 rfl) fw_X9_69 rfl pw_9_6 (hm.1) ?_
      refine s_mem (M' := (zsL (zsI M 941 6 (nI 0)) 942 g)) rfl ?_
      refine s_aload_n (zdk hX9_learn 15 rfl) rfl ?_
      refine s_getI (zdk hX9_learn 16 rfl) fw_X9_69 rfl (hm.1) ?_
      refine s_topi (b := nI 0) ((congrFun (zI_Ie (M := M) (a := 941) (k := 6) (v := (nI 0))) 6).trans zw1_e) ?_
      refine s_if_le 38 (zdk hX9_learn 17 rfl) (by decide) (fun c33 => ?_) (fun c33 => ?_)
      · refine s_aload_n (zdk hX9_learn 20 rfl) rfl ?_
        refine s_aload_n (zdk hX9_learn 21 rfl) rfl ?_
        refine s_getR (zdk hX9_learn 22 rfl) fw_X9_7 rfl (hm.1) (show _ = some 942 from (hm.r (i := 0) rfl).1) ?_
        refine s_callV0 (ci := 9) [.ref 942] (zdk hX9_learn 23 rfl) cw_X9_83 (hm.1) (by decide) rfl rfl rfl (Nat.le_of_ble_eq_true rfl) (by decide) (c_keeps0 hl hm hc hc8) ?_
        refine s_aload_n (zdk hX9_learn 24 rfl) rfl ?_
        refine s_iconstv (v := nI 0) (zdk hX9_learn 25 rfl) zc_iconst_0 ?_
        refine s_callV0 (ci := 9) [.int (nI 0)] (zdk hX9_learn 26 rfl) cw_X9_87 (hm.1) (by decide) rfl rfl rfl (Nat.le_of_ble_eq_true rfl) (by decide) (c_X9_itsN hl (M := (KP M c g)) (g := g) hm (k := 0) (by decide) (hb.h0)) ?_
        refine s_istore_n (zdk hX9_learn 27 rfl) (Nat.le_of_ble_eq_true rfl) ?_
        refine s_ls (ls' := [some (.ref 941), some (.int (nI y)), some (.int (r)), some (.int (nI (gN g 0))), none]) rfl ?_
        refine s_aload_n (zdk hX9_learn 28 rfl) rfl ?_
        refine s_getR (zdk hX9_learn 29 rfl) fw_X9_7 rfl (hm.1) (show _ = some 942 from (hm.r (i := 0) rfl).1) ?_
        refine s_iconstv (v := nI 0) (zdk hX9_learn 30 rfl) zc_iconst_0 ?_
        refine s_iload_n (zdk hX9_learn 31 rfl) rfl ?_
        refine s_i2l (zdk hX9_learn 32 rfl) ?_
        refine s_lastoreN (N := 1390) (j := 0) (zdk hX9_learn 33 rfl) ((hm.r (i := 0) rfl).2.1) ((hm.r (i := 0) rfl).2.2) (by omega) (by decide) ?_
        refine s_mem (M' := (zsL (KP M c g) 942 (zwL g 0 ((nI y).toInt64)))) (zsL_1 _ _ _ _ _) ?_
        refine s_aload_n (zdk hX9_learn 34 rfl) rfl ?_
        refine s_getR (zdk hX9_learn 35 rfl) fw_X9_7 rfl (hm.1) (show _ = some 942 from (hm.r (i := 0) rfl).1) ?_
        refine s_iconstv (v := nI 1) (zdk hX9_learn 36 rfl) zc_iconst_1 ?_
        refine s_iload_n (zdk hX9_learn 37 rfl) rfl ?_
        refine s_i2l (zdk hX9_learn 38 rfl) ?_
        refine s_lastoreN (N := 1390) (j := 1) (zdk hX9_learn 39 rfl) ((hm.r (i := 0) rfl).2.1) ((hm.r (i := 0) rfl).2.2) (by omega) (by decide) ?_
        refine s_mem (M' := (zsL (KP M c g) 942 (zwL (zwL g 0 ((nI y).toInt64)) 1 ((r).toInt64)))) (zsL_1 _ _ _ _ _) ?_
        refine s_iconstv (v := nI 0) (zdk hX9_learn 40 rfl) zc_iconst_0 ?_
        refine s_istore (zdk hX9_learn 41 rfl) (Nat.le_of_ble_eq_true rfl) ?_
        refine s_ls (ls' := [some (.ref 941), some (.int (nI y)), some (.int (r)), some (.int (nI (gN g 0))), some (.int (nI 0))]) rfl ?_
        exact w_X9_learn_71 hl hm hb hc hc8 hy hr hK (gN g 3 + 1) 0 (by omega) (by omega)
      · exact absurd (by decide) c33
end
