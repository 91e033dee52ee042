theorem zc_sipush_2780 : (Int16.ofInt 2780).toInt32 = nI 2780 := by decide
theorem zc_sipush_11120 : (Int16.ofInt 11120).toInt32 = nI 11120 := by decide
/-! ===== the reference's constructor ===== -/
/-- a row is made and named by the reference's object -/
def zOs (M M' : zMem) (kd n k a : Nat) : Prop := zT M' = a + 1 ∧ zF M' = 0 ∧ (∀ b, b < a → b ≠ 941 → zK M' b = zK M b ∧ zN M' b = zN M b ∧ zI M' b = zI M b ∧ zJ M' b = zJ M b ∧ zR M' b = zR M b) ∧ zK M' 941 = zK M 941 ∧ zI M' 941 = zI M 941 ∧ zR M' 941 k = some a ∧ (∀ j, j ≠ k → zR M' 941 j = zR M 941 j) ∧ zK M' a = kd ∧ zN M' a = n ∧ (∀ j, zI M' a j = 0) ∧ (∀ j, zJ M' a j = 0)
theorem nw_J {M : zMem} {kd n b j : Nat} : zJ (znw M kd n) b j = if b = zT M then 0 else zJ M b j := by
  show zur M.2.1 (zT M) (fun _ => 0) b j = _
  unfold zur
  split <;> rfl
theorem zOs_mk {M : zMem} {kd n k a : Nat} (hT : zT M = a) (h0 : 941 < a) (hF : zF M = 0) : zOs M (zsR (znw M kd n) 941 k (some a)) kd n k a := by
  have F := zEq_n (M := M) (kd := kd) (n := n) (a := a) (by omega)
  refine ⟨by show zT M + 1 = _; omega, hF, fun b h1 h2 => ?_, (F 941 h0).1, (F 941 h0).2.2.1, by rw [sr_R, if_pos rfl, if_pos rfl], fun j hj => ?_, if_pos hT.symm, if_pos hT.symm, fun j => ?_, fun j => ?_⟩
  · obtain ⟨f1, f2, f3, f4, f5⟩ := F b h1
    exact ⟨f1, f2, f3, f4, (show zR (zsR (znw M kd n) 941 k (some a)) b = zR (znw M kd n) b from if_neg h2).trans f5⟩
  · rw [sr_R, if_pos rfl, if_neg hj]
    exact congrFun (F 941 h0).2.2.2.2 j
  · rw [sr_I, nw_I, if_pos hT.symm]
  · show zJ (znw M kd n) a j = 0
    rw [nw_J, if_pos hT.symm]
/-- cells that came to be before are kept -/
def zOk (M M' : zMem) (a : Nat) : Prop := ∀ b, b < a → b ≠ 941 → zK M' b = zK M b ∧ zN M' b = zN M b ∧ zI M' b = zI M b ∧ zJ M' b = zJ M b ∧ zR M' b = zR M b
theorem zOk.trans {M M1 M2 : zMem} {a c : Nat} (h : zOk M M1 a) (h2 : zOk M1 M2 c) (hc : a ≤ c) : zOk M M2 a := fun b q1 q2 => by
  obtain ⟨a1, a2, a3, a4, a5⟩ := h b q1 q2
  obtain ⟨b1, b2, b3, b4, b5⟩ := h2 b (by omega) q2
  exact ⟨b1.trans a1, b2.trans a2, b3.trans a3, b4.trans a4, b5.trans a5⟩
/-- the reference's row behind i tiers -/
def mNT : Nat → Nat → Int64
  | 0 => zwL (zwL (oBeg (fun _ => 0)) 0 2) 2 2
  | i + 1 => zwL (zwL (zwL (zwL (zwL (zwL (mNT i) (6 + 13 * i) (nI 10).toInt64) (6 + 13 * i + 1) (nI 1).toInt64) (6 + 13 * i + 2) (nI 1).toInt64) (6 + 13 * i + 3) (nI 1).toInt64) (6 + 13 * i + 4) (nI 1).toInt64) (6 + 13 * i + 5) (nI 97 + nI i).toInt64
theorem zwL_beyond {g : Nat → Int64} {k i : Nat} {v : Int64} (h : 1390 ≤ i) (hk : k < 1390) (e : g i = 0) : zwL g k v i = 0 := (zwL_n (by omega)).trans e
theorem mNT_oNT : mNT 2 = oNT 2 := by
  have h1 : ((List.range 1390).all fun k => mNT 2 k == oNT 2 k) = true := by decide +kernel
  funext k
  by_cases q : k < 1390
  · exact eq_of_beq (List.all_eq_true.mp h1 k (List.mem_range.mpr q))
  · have e1 : mNT 2 k = 0 := by
      unfold mNT mNT mNT oBeg
      refine zwL_beyond (by omega) (by omega) (zwL_beyond (by omega) (by omega) (zwL_beyond (by omega) (by omega) (zwL_beyond (by omega) (by omega) (zwL_beyond (by omega) (by omega) (zwL_beyond (by omega) (by omega) (zwL_beyond (by omega) (by omega) (zwL_beyond (by omega) (by omega) (zwL_beyond (by omega) (by omega) (zwL_beyond (by omega) (by omega) (zwL_beyond (by omega) (by omega) (zwL_beyond (by omega) (by omega) (zwL_beyond (by omega) (by omega) (zwL_beyond (by omega) (by omega) (zwL_beyond (by omega) (by omega) (if_neg (by omega))))))))))))))))
    have e2 : oNT 2 k = 0 := by
      unfold oNT oNT oNT oNw oTier zwL
      simp only []
      rw [if_neg (by omega), if_neg (by omega), if_neg (by omega), if_neg (by omega), if_neg (by omega), if_neg (by omega), if_neg (by omega), if_neg (by omega), if_neg (by omega), if_neg (by omega), if_neg (by omega), if_neg (by omega)]
    rw [e1, e2]
/-- the reference as it begins -/
def mNew (M : zMem) : Prop := mSh M ∧ zJ M 942 = oNT 2 ∧ (∀ j, zI M 946 j = 0) ∧ zI M 941 15 = (-1) ∧ (∀ j, j ≠ 15 → zI M 941 j = 0) ∧ ∀ j, zI M 947 j = 0
section
variable {l : Launch} {G : zG}
theorem c_X9_init (hl : l.stackTraces = false) {M : zMem} (hK : zK M 941 = 10) (hT : zT M = 942) (hF : zF M = 0) (hI : ∀ j, zI M 941 j = 0) : zCm l G mX9_init 2 60 14 17766 [.ref 941] M (zNq M 941 15 mNew) := by
  refine zNq.of (ls0 := [some (.ref 941), none]) (by decide +kernel) rfl hl rfl (Nat.le_of_ble_eq_true rfl) hT hF rfl ?_
  refine s_aload_n (zdk hX9_init_0 0 rfl) rfl ?_
  refine s_objInit (zdk hX9_init_0 1 rfl) ow_X9_1 ow_ins ow_code (by decide) (by decide) ?_
  refine s_aload_n (zdk hX9_init_0 2 rfl) rfl ?_
  refine s_sipushv (v := nI 1390) (zdk hX9_init_0 3 rfl) zc_sipush_1390 ?_
  refine s_newJ (bc := 13) (bs := 16376) (N := 1390) (zdk hX9_init_0 4 rfl) aw_long (by decide) (by decide) (by decide) hF (show zT M < 1000000 from by rw [show zT M = 942 from hT]; decide) ?_
  refine s_topr (b := 942) hT ?_
  refine s_putRF (zdk hX9_init_0 5 rfl) fw_X9_7 rfl pw_9_0 rfl rfl (fun _ => rfl) (fun _ => rfl) ((if_neg (by rw [show zT M = 942 from hT]; decide)).trans hK) ?_
  refine s_to (P := fun Mx => zOs M Mx 12 1390 0 942) (zOs_mk (M := M) (kd := 12) (n := 1390) (k := 0) (a := 942) hT (by decide) hF) (fun M1 h1 => ?_)
  obtain ⟨T1, F1, O1, K1, I1, R1, S1, k1, n1, i1, j1⟩ := h1
  replace K1 := K1.trans hK
  refine s_aload_n (zdk hX9_init_0 6 rfl) rfl ?_
  refine s_sipushv (v := nI 1390) (zdk hX9_init_0 7 rfl) zc_sipush_1390 ?_
  refine s_newJ (bc := 12) (bs := 14986) (N := 1390) (zdk hX9_init_0 8 rfl) aw_long (by decide) (by decide) (by decide) F1 (show zT M1 < 1000000 from by rw [show zT M1 = 943 from T1]; decide) ?_
  refine s_topr (b := 943) T1 ?_
  refine s_putRF (zdk hX9_init_0 9 rfl) fw_X9_13 rfl pw_9_1 rfl rfl (fun _ => rfl) (fun _ => rfl) ((if_neg (by rw [show zT M1 = 943 from T1]; decide)).trans K1) ?_
  refine s_to (P := fun Mx => zOs M1 Mx 12 1390 1 943) (zOs_mk (M := M1) (kd := 12) (n := 1390) (k := 1) (a := 943) T1 (by decide) F1) (fun M2 h2 => ?_)
  obtain ⟨T2, F2, O2, K2, I2, R2, S2, k2, n2, i2, j2⟩ := h2
  replace K2 := K2.trans K1
  refine s_aload_n (zdk hX9_init_0 10 rfl) rfl ?_
  refine s_sipushv (v := nI 11120) (zdk hX9_init_0 11 rfl) zc_sipush_11120 ?_
  refine s_newJ (bc := 11) (bs := 3866) (N := 11120) (zdk hX9_init_0 12 rfl) aw_long (by decide) (by decide) (by decide) F2 (show zT M2 < 1000000 from by rw [show zT M2 = 944 from T2]; decide) ?_
  refine s_topr (b := 944) T2 ?_
  refine s_putRF (zdk hX9_init_0 13 rfl) fw_X9_16 rfl pw_9_2 rfl rfl (fun _ => rfl) (fun _ => rfl) ((if_neg (by rw [show zT M2 = 944 from T2]; decide)).trans K2) ?_
  refine s_to (P := fun Mx => zOs M2 Mx 12 11120 2 944) (zOs_mk (M := M2) (kd := 12) (n := 11120) (k := 2) (a := 944) T2 (by decide) F2) (fun M3 h3 => ?_)
  obtain ⟨T3, F3, O3, K3, I3, R3, S3, k3, n3, i3, j3⟩ := h3
  replace K3 := K3.trans K2
  refine s_aload_n (zdk hX9_init_0 14 rfl) rfl ?_
  refine s_sipushv (v := nI 2780) (zdk hX9_init_0 15 rfl) zc_sipush_2780 ?_
  refine s_newJ (bc := 10) (bs := 1086) (N := 2780) (zdk hX9_init_0 16 rfl) aw_long (by decide) (by decide) (by decide) F3 (show zT M3 < 1000000 from by rw [show zT M3 = 945 from T3]; decide) ?_
  refine s_topr (b := 945) T3 ?_
  refine s_putRF (zdk hX9_init_0 17 rfl) fw_X9_19 rfl pw_9_3 rfl rfl (fun _ => rfl) (fun _ => rfl) ((if_neg (by rw [show zT M3 = 945 from T3]; decide)).trans K3) ?_
  refine s_to (P := fun Mx => zOs M3 Mx 12 2780 3 945) (zOs_mk (M := M3) (kd := 12) (n := 2780) (k := 3) (a := 945) T3 (by decide) F3) (fun M4 h4 => ?_)
  obtain ⟨T4, F4, O4, K4, I4, R4, S4, k4, n4, i4, j4⟩ := h4
  replace K4 := K4.trans K3
  refine s_aload_n (zdk hX9_init_0 18 rfl) rfl ?_
  refine s_iconstv (v := nI 2) (zdk hX9_init_0 19 rfl) zc_iconst_2 ?_
  refine s_newZ (bc := 9) (bs := 1084) (N := 2) (zdk hX9_init_0 20 rfl) aw_boolean (by decide) (by decide) (by decide) F4 (show zT M4 < 1000000 from by rw [show zT M4 = 946 from T4]; decide) ?_
  refine s_topr (b := 946) T4 ?_
  refine s_putRF (zdk hX9_init_0 21 rfl) fw_X9_22 rfl pw_9_4 rfl rfl (fun _ => rfl) (fun _ => rfl) ((if_neg (by rw [show zT M4 = 946 from T4]; decide)).trans K4) ?_
  refine s_to (P := fun Mx => zOs M4 Mx 13 2 4 946) (zOs_mk (M := M4) (kd := 13) (n := 2) (k := 4) (a := 946) T4 (by decide) F4) (fun M5 h5 => ?_)
  obtain ⟨T5, F5, O5, K5, I5, R5, S5, k5, n5, i5, j5⟩ := h5
  replace K5 := K5.trans K4
  refine s_aload_n (zdk hX9_init_0 22 rfl) rfl ?_
  refine s_sipushv (v := nI 600) (zdk hX9_init_0 23 rfl) zc_sipush_600 ?_
  refine s_newI (bc := 8) (bs := 484) (N := 600) (zdk hX9_init_0 24 rfl) aw_int (by decide) (by decide) (by decide) F5 (show zT M5 < 1000000 from by rw [show zT M5 = 947 from T5]; decide) ?_
  refine s_topr (b := 947) T5 ?_
  refine s_putRF (zdk hX9_init_0 25 rfl) fw_X9_26 rfl pw_9_7 rfl rfl (fun _ => rfl) (fun _ => rfl) ((if_neg (by rw [show zT M5 = 947 from T5]; decide)).trans K5) ?_
  refine s_to (P := fun Mx => zOs M5 Mx 11 600 7 947) (zOs_mk (M := M5) (kd := 11) (n := 600) (k := 7) (a := 947) T5 (by decide) F5) (fun M6 h6 => ?_)
  obtain ⟨T6, F6, O6, K6, I6, R6, S6, k6, n6, i6, j6⟩ := h6
  replace K6 := K6.trans K5
  refine s_aload_n (zdk hX9_init_0 26 rfl) rfl ?_
  refine s_iconstv (v := -1) (zdk hX9_init_0 27 rfl) zc_iconst_m1 ?_
  refine s_putI (zdk hX9_init_0 28 rfl) fw_X9_30 rfl pw_9_15 K6 ?_
  refine s_aload_n (zdk hX9_init_0 29 rfl) rfl ?_
  refine s_bipushv (v := nI 20) (zdk hX9_init_0 30 rfl) zc_bipush_20 ?_
  refine s_newI (bc := 7) (bs := 464) (N := 20) (zdk hX9_init_0 31 rfl) aw_int (by decide) (by decide) (by decide) F6 (show zT (zsI M6 941 15 (-1)) < 1000000 from by rw [show zT (zsI M6 941 15 (-1)) = 948 from T6]; decide) ?_
  refine s_topr (b := 948) T6 ?_
  refine s_putRF (zdk hX9_init_0 32 rfl) fw_X9_34 rfl pw_9_16 rfl rfl (fun _ => rfl) (fun _ => rfl) ((if_neg (by rw [show zT (zsI M6 941 15 (-1)) = 948 from T6]; decide)).trans K6) ?_
  refine s_to (P := fun Mx => zOs (zsI M6 941 15 (-1)) Mx 11 20 16 948) (zOs_mk (M := (zsI M6 941 15 (-1))) (kd := 11) (n := 20) (k := 16) (a := 948) T6 (by decide) F6) (fun M7 h7 => ?_)
  obtain ⟨T7, F7, O7, K7, I7, R7, S7, k7, n7, i7, j7⟩ := h7
  replace K7 := K7.trans K6
  refine s_aload_n (zdk hX9_init_0 33 rfl) rfl ?_
  refine s_bipushv (v := nI 20) (zdk hX9_init_0 34 rfl) zc_bipush_20 ?_
  refine s_newI (bc := 6) (bs := 444) (N := 20) (zdk hX9_init_0 35 rfl) aw_int (by decide) (by decide) (by decide) F7 (show zT M7 < 1000000 from by rw [show zT M7 = 949 from T7]; decide) ?_
  refine s_topr (b := 949) T7 ?_
  refine s_putRF (zdk hX9_init_0 36 rfl) fw_X9_37 rfl pw_9_17 rfl rfl (fun _ => rfl) (fun _ => rfl) ((if_neg (by rw [show zT M7 = 949 from T7]; decide)).trans K7) ?_
  refine s_to (P := fun Mx => zOs M7 Mx 11 20 17 949) (zOs_mk (M := M7) (kd := 11) (n := 20) (k := 17) (a := 949) T7 (by decide) F7) (fun M8 h8 => ?_)
  obtain ⟨T8, F8, O8, K8, I8, R8, S8, k8, n8, i8, j8⟩ := h8
  replace K8 := K8.trans K7
  refine s_aload_n (zdk hX9_init_0 37 rfl) rfl ?_
  refine s_bipushv (v := nI 20) (zdk hX9_init_0 38 rfl) zc_bipush_20 ?_
  refine s_newI (bc := 5) (bs := 424) (N := 20) (zdk hX9_init_0 39 rfl) aw_int (by decide) (by decide) (by decide) F8 (show zT M8 < 1000000 from by rw [show zT M8 = 950 from T8]; decide) ?_
  refine s_topr (b := 950) T8 ?_
  refine s_putRF (zdk hX9_init_0 40 rfl) fw_X9_40 rfl pw_9_18 rfl rfl (fun _ => rfl) (fun _ => rfl) ((if_neg (by rw [show zT M8 = 950 from T8]; decide)).trans K8) ?_
  refine s_to (P := fun Mx => zOs M8 Mx 11 20 18 950) (zOs_mk (M := M8) (kd := 11) (n := 20) (k := 18) (a := 950) T8 (by decide) F8) (fun M9 h9 => ?_)
  obtain ⟨T9, F9, O9, K9, I9, R9, S9, k9, n9, i9, j9⟩ := h9
  replace K9 := K9.trans K8
  refine s_aload_n (zdk hX9_init_0 41 rfl) rfl ?_
  refine s_bipushv (v := nI 20) (zdk hX9_init_0 42 rfl) zc_bipush_20 ?_
  refine s_newI (bc := 4) (bs := 404) (N := 20) (zdk hX9_init_0 43 rfl) aw_int (by decide) (by decide) (by decide) F9 (show zT M9 < 1000000 from by rw [show zT M9 = 951 from T9]; decide) ?_
  refine s_topr (b := 951) T9 ?_
  refine s_putRF (zdk hX9_init_0 44 rfl) fw_X9_43 rfl pw_9_19 rfl rfl (fun _ => rfl) (fun _ => rfl) ((if_neg (by rw [show zT M9 = 951 from T9]; decide)).trans K9) ?_
  refine s_to (P := fun Mx => zOs M9 Mx 11 20 19 951) (zOs_mk (M := M9) (kd := 11) (n := 20) (k := 19) (a := 951) T9 (by decide) F9) (fun M10 h10 => ?_)
  obtain ⟨T10, F10, O10, K10, I10, R10, S10, k10, n10, i10, j10⟩ := h10
  replace K10 := K10.trans K9
  refine s_aload_n (zdk hX9_init_0 45 rfl) rfl ?_
  refine s_bipushv (v := nI 20) (zdk hX9_init_0 46 rfl) zc_bipush_20 ?_
  refine s_newZ (bc := 3) (bs := 384) (N := 20) (zdk hX9_init_0 47 rfl) aw_boolean (by decide) (by decide) (by decide) F10 (show zT M10 < 1000000 from by rw [show zT M10 = 952 from T10]; decide) ?_
  refine s_topr (b := 952) T10 ?_
  refine s_putRF (zdk hX9_init_0 48 rfl) fw_X9_46 rfl pw_9_20 rfl rfl (fun _ => rfl) (fun _ => rfl) ((if_neg (by rw [show zT M10 = 952 from T10]; decide)).trans K10) ?_
  refine s_to (P := fun Mx => zOs M10 Mx 13 20 20 952) (zOs_mk (M := M10) (kd := 13) (n := 20) (k := 20) (a := 952) T10 (by decide) F10) (fun M11 h11 => ?_)
  obtain ⟨T11, F11, O11, K11, I11, R11, S11, k11, n11, i11, j11⟩ := h11
  replace K11 := K11.trans K10
  refine s_aload_n (zdk hX9_init_0 49 rfl) rfl ?_
  refine s_iconstv (v := nI 4) (zdk hX9_init_0 50 rfl) zc_iconst_4 ?_
  refine s_newI (bc := 2) (bs := 380) (N := 4) (zdk hX9_init_0 51 rfl) aw_int (by decide) (by decide) (by decide) F11 (show zT M11 < 1000000 from by rw [show zT M11 = 953 from T11]; decide) ?_
  refine s_topr (b := 953) T11 ?_
  refine s_putRF (zdk hX9_init_0 52 rfl) fw_X9_49 rfl pw_9_21 rfl rfl (fun _ => rfl) (fun _ => rfl) ((if_neg (by rw [show zT M11 = 953 from T11]; decide)).trans K11) ?_
  refine s_to (P := fun Mx => zOs M11 Mx 11 4 21 953) (zOs_mk (M := M11) (kd := 11) (n := 4) (k := 21) (a := 953) T11 (by decide) F11) (fun M12 h12 => ?_)
  obtain ⟨T12, F12, O12, K12, I12, R12, S12, k12, n12, i12, j12⟩ := h12
  replace K12 := K12.trans K11
  refine s_aload_n (zdk hX9_init_0 53 rfl) rfl ?_
  refine s_bipushv (v := nI 80) (zdk hX9_init_0 54 rfl) zc_bipush_80 ?_
  refine s_newJ (bc := 1) (bs := 300) (N := 80) (zdk hX9_init_0 55 rfl) aw_long (by decide) (by decide) (by decide) F12 (show zT M12 < 1000000 from by rw [show zT M12 = 954 from T12]; decide) ?_
  refine s_topr (b := 954) T12 ?_
  refine s_putRF (zdk hX9_init_0 56 rfl) fw_X9_52 rfl pw_9_22 rfl rfl (fun _ => rfl) (fun _ => rfl) ((if_neg (by rw [show zT M12 = 954 from T12]; decide)).trans K12) ?_
  refine s_to (P := fun Mx => zOs M12 Mx 12 80 22 954) (zOs_mk (M := M12) (kd := 12) (n := 80) (k := 22) (a := 954) T12 (by decide) F12) (fun M13 h13 => ?_)
  obtain ⟨T13, F13, O13, K13, I13, R13, S13, k13, n13, i13, j13⟩ := h13
  replace K13 := K13.trans K12
  refine s_aload_n (zdk hX9_init_0 57 rfl) rfl ?_
  refine s_sipushv (v := nI 300) (zdk hX9_init_0 58 rfl) zc_sipush_300 ?_
  refine s_newI (bc := 0) (bs := 0) (N := 300) (zdk hX9_init_0 59 rfl) aw_int (by decide) (by decide) (by decide) F13 (show zT M13 < 1000000 from by rw [show zT M13 = 955 from T13]; decide) ?_
  refine s_topr (b := 955) T13 ?_
  refine s_putRF (zdk hX9_init_1 0 rfl) fw_X9_55 rfl pw_9_30 rfl rfl (fun _ => rfl) (fun _ => rfl) ((if_neg (by rw [show zT M13 = 955 from T13]; decide)).trans K13) ?_
  refine s_to (P := fun Mx => zOs M13 Mx 11 300 30 955) (zOs_mk (M := M13) (kd := 11) (n := 300) (k := 30) (a := 955) T13 (by decide) F13) (fun M14 h14 => ?_)
  obtain ⟨T14, F14, O14, K14, I14, R14, S14, k14, n14, i14, j14⟩ := h14
  replace K14 := K14.trans K13
  have W14 : zOk M14 M14 956 := fun b _ _ => ⟨rfl, rfl, rfl, rfl, rfl⟩
  have W13 : zOk M13 M14 955 := zOk.trans O14 W14 (by decide)
  have W12 : zOk M12 M14 954 := zOk.trans O13 W13 (by decide)
  have W11 : zOk M11 M14 953 := zOk.trans O12 W12 (by decide)
  have W10 : zOk M10 M14 952 := zOk.trans O11 W11 (by decide)
  have W9 : zOk M9 M14 951 := zOk.trans O10 W10 (by decide)
  have W8 : zOk M8 M14 950 := zOk.trans O9 W9 (by decide)
  have W7 : zOk M7 M14 949 := zOk.trans O8 W8 (by decide)
  have o7 : zOk M6 M7 948 := fun b q1 q2 => by have h := O7 b q1 q2; exact ⟨h.1, h.2.1, h.2.2.1.trans (zI_In q2), h.2.2.2.1, h.2.2.2.2⟩
  have W6 : zOk M6 M14 948 := zOk.trans o7 W7 (by decide)
  have W5 : zOk M5 M14 947 := zOk.trans O6 W6 (by decide)
  have W4 : zOk M4 M14 946 := zOk.trans O5 W5 (by decide)
  have W3 : zOk M3 M14 945 := zOk.trans O4 W4 (by decide)
  have W2 : zOk M2 M14 944 := zOk.trans O3 W3 (by decide)
  have W1 : zOk M1 M14 943 := zOk.trans O2 W2 (by decide)
  have W0 : zOk M M14 942 := zOk.trans O1 W1 (by decide)
  have iA : zI M6 941 = zI M 941 := I6.trans (I5.trans (I4.trans (I3.trans (I2.trans I1))))
  have iB : zI M14 941 = zI (zsI M6 941 15 (-1)) 941 := I14.trans (I13.trans (I12.trans (I11.trans (I10.trans (I9.trans (I8.trans (I7)))))))
  have hm : mSh M14 := by
    refine ⟨K14, fun q hq => ?_⟩
    simp only [mL, List.mem_cons, List.not_mem_nil, or_false] at hq
    rcases hq with rfl | rfl | rfl | rfl | rfl | rfl | rfl | rfl | rfl | rfl | rfl | rfl | rfl | rfl
    · exact ⟨((((((((((((((S14 0 (by decide)).trans (S13 0 (by decide))).trans (S12 0 (by decide))).trans (S11 0 (by decide))).trans (S10 0 (by decide))).trans (S9 0 (by decide))).trans (S8 0 (by decide))).trans (S7 0 (by decide))).trans (S6 0 (by decide))).trans (S5 0 (by decide))).trans (S4 0 (by decide))).trans (S3 0 (by decide))).trans (S2 0 (by decide))).trans R1), (W1 942 (by decide) (by decide)).1.trans k1, (W1 942 (by decide) (by decide)).2.1.trans n1⟩
    · exact ⟨(((((((((((((S14 1 (by decide)).trans (S13 1 (by decide))).trans (S12 1 (by decide))).trans (S11 1 (by decide))).trans (S10 1 (by decide))).trans (S9 1 (by decide))).trans (S8 1 (by decide))).trans (S7 1 (by decide))).trans (S6 1 (by decide))).trans (S5 1 (by decide))).trans (S4 1 (by decide))).trans (S3 1 (by decide))).trans R2), (W2 943 (by decide) (by decide)).1.trans k2, (W2 943 (by decide) (by decide)).2.1.trans n2⟩
    · exact ⟨((((((((((((S14 2 (by decide)).trans (S13 2 (by decide))).trans (S12 2 (by decide))).trans (S11 2 (by decide))).trans (S10 2 (by decide))).trans (S9 2 (by decide))).trans (S8 2 (by decide))).trans (S7 2 (by decide))).trans (S6 2 (by decide))).trans (S5 2 (by decide))).trans (S4 2 (by decide))).trans R3), (W3 944 (by decide) (by decide)).1.trans k3, (W3 944 (by decide) (by decide)).2.1.trans n3⟩
    · exact ⟨(((((((((((S14 3 (by decide)).trans (S13 3 (by decide))).trans (S12 3 (by decide))).trans (S11 3 (by decide))).trans (S10 3 (by decide))).trans (S9 3 (by decide))).trans (S8 3 (by decide))).trans (S7 3 (by decide))).trans (S6 3 (by decide))).trans (S5 3 (by decide))).trans R4), (W4 945 (by decide) (by decide)).1.trans k4, (W4 945 (by decide) (by decide)).2.1.trans n4⟩
    · exact ⟨((((((((((S14 4 (by decide)).trans (S13 4 (by decide))).trans (S12 4 (by decide))).trans (S11 4 (by decide))).trans (S10 4 (by decide))).trans (S9 4 (by decide))).trans (S8 4 (by decide))).trans (S7 4 (by decide))).trans (S6 4 (by decide))).trans R5), (W5 946 (by decide) (by decide)).1.trans k5, (W5 946 (by decide) (by decide)).2.1.trans n5⟩
    · exact ⟨(((((((((S14 7 (by decide)).trans (S13 7 (by decide))).trans (S12 7 (by decide))).trans (S11 7 (by decide))).trans (S10 7 (by decide))).trans (S9 7 (by decide))).trans (S8 7 (by decide))).trans (S7 7 (by decide))).trans R6), (W6 947 (by decide) (by decide)).1.trans k6, (W6 947 (by decide) (by decide)).2.1.trans n6⟩
    · exact ⟨((((((((S14 16 (by decide)).trans (S13 16 (by decide))).trans (S12 16 (by decide))).trans (S11 16 (by decide))).trans (S10 16 (by decide))).trans (S9 16 (by decide))).trans (S8 16 (by decide))).trans R7), (W7 948 (by decide) (by decide)).1.trans k7, (W7 948 (by decide) (by decide)).2.1.trans n7⟩
    · exact ⟨(((((((S14 17 (by decide)).trans (S13 17 (by decide))).trans (S12 17 (by decide))).trans (S11 17 (by decide))).trans (S10 17 (by decide))).trans (S9 17 (by decide))).trans R8), (W8 949 (by decide) (by decide)).1.trans k8, (W8 949 (by decide) (by decide)).2.1.trans n8⟩
    · exact ⟨((((((S14 18 (by decide)).trans (S13 18 (by decide))).trans (S12 18 (by decide))).trans (S11 18 (by decide))).trans (S10 18 (by decide))).trans R9), (W9 950 (by decide) (by decide)).1.trans k9, (W9 950 (by decide) (by decide)).2.1.trans n9⟩
    · exact ⟨(((((S14 19 (by decide)).trans (S13 19 (by decide))).trans (S12 19 (by decide))).trans (S11 19 (by decide))).trans R10), (W10 951 (by decide) (by decide)).1.trans k10, (W10 951 (by decide) (by decide)).2.1.trans n10⟩
    · exact ⟨((((S14 20 (by decide)).trans (S13 20 (by decide))).trans (S12 20 (by decide))).trans R11), (W11 952 (by decide) (by decide)).1.trans k11, (W11 952 (by decide) (by decide)).2.1.trans n11⟩
    · exact ⟨(((S14 21 (by decide)).trans (S13 21 (by decide))).trans R12), (W12 953 (by decide) (by decide)).1.trans k12, (W12 953 (by decide) (by decide)).2.1.trans n12⟩
    · exact ⟨((S14 22 (by decide)).trans R13), (W13 954 (by decide) (by decide)).1.trans k13, (W13 954 (by decide) (by decide)).2.1.trans n13⟩
    · exact ⟨R14, (W14 955 (by decide) (by decide)).1.trans k14, (W14 955 (by decide) (by decide)).2.1.trans n14⟩
  have z0 : ∀ i, zJ M14 942 i = 0 := fun i => (congrFun (W1 942 (by decide) (by decide)).2.2.2.1 i).trans (j1 i)
  have z4 : ∀ i, zI M14 946 i = 0 := fun i => (congrFun (W5 946 (by decide) (by decide)).2.2.1 i).trans (i5 i)
  have z5 : ∀ i, zI M14 947 i = 0 := fun i => (congrFun (W6 947 (by decide) (by decide)).2.2.1 i).trans (i6 i)
  have i15 : zI M14 941 15 = (-1) := by rw [iB, si_I, if_pos rfl, if_pos rfl]
  have iO : ∀ j, j ≠ 15 → zI M14 941 j = 0 := fun j hj => by rw [iB, si_I, if_pos rfl, if_neg hj, iA]; exact hI j
  have W0c := W0
  clear W0
  have e0 : zsL M14 942 (fun _ => 0) = M14 := (zsL_g (funext fun i => (z0 i).symm)).trans (zsL_id M14 942)
  refine s_mem (M' := zsL M14 942 (fun _ => 0)) e0.symm ?_
  refine s_aload_n (zdk hX9_init_1 1 rfl) rfl ?_
  refine s_callV0 (ci := 9) [] (zdk hX9_init_1 2 rfl) cw_X9_58 hm.1 (by decide) rfl rfl rfl (Nat.le_of_ble_eq_true rfl) (by decide) (c_X9_begins hl hm) ?_
  refine s_aload_n (zdk hX9_init_1 3 rfl) rfl ?_
  refine s_getR (zdk hX9_init_1 4 rfl) fw_X9_7 rfl hm.1 ((hm.r (i := 0) rfl).1) ?_
  refine s_iconstv (v := nI 0) (zdk hX9_init_1 5 rfl) zc_iconst_0 ?_
  refine s_ldc2 (v := 2) (zdk hX9_init_1 6 rfl) kw_X9_61 ?_
  refine s_lastoreN (N := 1390) (j := 0) (zdk hX9_init_1 7 rfl) ((hm.r (i := 0) rfl).2.1) ((hm.r (i := 0) rfl).2.2) (by decide) (by decide) ?_
  refine s_mem (zsL_1 _ _ _ _ _) ?_
  refine s_aload_n (zdk hX9_init_1 8 rfl) rfl ?_
  refine s_getR (zdk hX9_init_1 9 rfl) fw_X9_7 rfl hm.1 ((hm.r (i := 0) rfl).1) ?_
  refine s_iconstv (v := nI 2) (zdk hX9_init_1 10 rfl) zc_iconst_2 ?_
  refine s_ldc2 (v := 2) (zdk hX9_init_1 11 rfl) kw_X9_61 ?_
  refine s_lastoreN (N := 1390) (j := 2) (zdk hX9_init_1 12 rfl) ((hm.r (i := 0) rfl).2.1) ((hm.r (i := 0) rfl).2.2) (by decide) (by decide) ?_
  refine s_mem (zsL_1 _ _ _ _ _) ?_
  refine s_iconstv (v := nI 0) (zdk hX9_init_1 13 rfl) zc_iconst_0 ?_
  refine s_istore_n (zdk hX9_init_1 14 rfl) (Nat.le_of_ble_eq_true rfl) ?_
  refine s_ls (ls' := [some (.ref 941), some (.int (nI 0))]) rfl ?_
  suffices lp : ∀ (k i : Nat), i ≤ 2 → 2 - i < k → zS l G mX9_init 2 60 0 0 149 [some (.ref 941), some (.int (nI i))] [] (zsL M14 942 (mNT i)) (zNq M 941 15 mNew) from lp 3 0 (by omega) (by omega)
  intro k
  induction k with
  | zero => intros; omega
  | succ k ih =>
    intro i hi hk
    refine s_iload_n (zdk hX9_init_1 15 rfl) rfl ?_
    refine s_iconstv (v := nI 2) (zdk hX9_init_1 16 rfl) zc_iconst_2 ?_
    refine s_icmp_ge 196 (zdk hX9_init_1 17 rfl) (by decide) (fun c => ?_) (fun c => ?_)
    · have n1 : 2 ≤ i := nle c (by omega) (by omega)
      obtain rfl : i = 2 := by omega
      refine s_return (zdk hX9_init_1 46 rfl) rfl ⟨rfl, T14, F14, fun b hb => ?_, (hm.keep rfl rfl), ?_, z4, i15, iO, z5⟩
      · have h := W0c b (by omega) (by omega)
        exact ⟨h.1, h.2.1, h.2.2.1, (zJ_Ln (by omega)).trans h.2.2.2.1, h.2.2.2.2⟩
      · exact (show zJ (zsL M14 942 (mNT 2)) 942 = mNT 2 from zJ_Le).trans mNT_oNT
    · have n1 : i < 2 := nlt c (by omega) (by omega)
      refine s_aload_n (zdk hX9_init_1 18 rfl) rfl ?_
      refine s_bipushv (v := nI 6) (zdk hX9_init_1 19 rfl) zc_bipush_6 ?_
      refine s_bipushv (v := nI 13) (zdk hX9_init_1 20 rfl) zc_bipush_13 ?_
      refine s_iload_n (zdk hX9_init_1 21 rfl) rfl ?_
      refine s_imul (zdk hX9_init_1 22 rfl) ?_
      refine s_iadd (zdk hX9_init_1 23 rfl) ?_
      refine s_topi (b := nI (6 + 13 * i)) ((congrArg (nI 6 + ·) (pk_mul _ _)).trans (nI_add _ _)) ?_
      refine s_bipushv (v := nI 10) (zdk hX9_init_1 24 rfl) zc_bipush_10 ?_
      refine s_iconstv (v := nI 1) (zdk hX9_init_1 25 rfl) zc_iconst_1 ?_
      refine s_iconstv (v := nI 1) (zdk hX9_init_1 26 rfl) zc_iconst_1 ?_
      refine s_iconstv (v := nI 1) (zdk hX9_init_1 27 rfl) zc_iconst_1 ?_
      refine s_iconstv (v := nI 1) (zdk hX9_init_1 28 rfl) zc_iconst_1 ?_
      refine s_callV0 (ci := 9) [.int (nI (6 + 13 * i)), .int (nI 10), .int (nI 1), .int (nI 1), .int (nI 1), .int (nI 1)] (zdk hX9_init_1 29 rfl) cw_X9_63 hm.1 (by decide) rfl rfl rfl (Nat.le_of_ble_eq_true rfl) (by decide) (c_X9_puts hl hm (t := 6 + 13 * i) (by omega) _ _ _ _ _) ?_
      refine s_aload_n (zdk hX9_init_1 30 rfl) rfl ?_
      refine s_getR (zdk hX9_init_1 31 rfl) fw_X9_7 rfl hm.1 ((hm.r (i := 0) rfl).1) ?_
      refine s_bipushv (v := nI 6) (zdk hX9_init_1 32 rfl) zc_bipush_6 ?_
      refine s_bipushv (v := nI 13) (zdk hX9_init_1 33 rfl) zc_bipush_13 ?_
      refine s_iload_n (zdk hX9_init_1 34 rfl) rfl ?_
      refine s_imul (zdk hX9_init_1 35 rfl) ?_
      refine s_iadd (zdk hX9_init_1 36 rfl) ?_
      refine s_iconstv (v := nI 5) (zdk hX9_init_1 37 rfl) zc_iconst_5 ?_
      refine s_iadd (zdk hX9_init_1 38 rfl) ?_
      refine s_topi (b := nI (6 + 13 * i + 5)) ((congrArg (fun x => nI 6 + x + nI 5) (pk_mul _ _)).trans ((congrArg (· + nI 5) (nI_add _ _)).trans (nI_add _ _))) ?_
      refine s_bipushv (v := nI 97) (zdk hX9_init_1 39 rfl) zc_bipush_97 ?_
      refine s_iload_n (zdk hX9_init_1 40 rfl) rfl ?_
      refine s_iadd (zdk hX9_init_1 41 rfl) ?_
      refine s_i2l (zdk hX9_init_1 42 rfl) ?_
      refine s_lastoreN (N := 1390) (j := 6 + 13 * i + 5) (zdk hX9_init_1 43 rfl) ((hm.r (i := 0) rfl).2.1) ((hm.r (i := 0) rfl).2.2) (by omega) (by decide) ?_
      refine s_mem (zsL_1 _ _ _ _ _) ?_
      refine s_iinc (r := nI (i + 1)) (zdk hX9_init_1 44 rfl) (Nat.le_of_ble_eq_true rfl) rfl (nI_1 _) ?_
      refine s_ls (ls' := [some (.ref 941), some (.int (nI (i + 1)))]) rfl ?_
      refine s_goto 149 (zdk hX9_init_1 45 rfl) (by decide) ?_
      exact ih (i + 1) (by omega) (by omega)
end
