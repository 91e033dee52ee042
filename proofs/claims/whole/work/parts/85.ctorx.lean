/-! ===== the class's constructor ===== -/
def zEw (M M' : zMem) (lo hi : Nat) : Prop := ∀ b, lo ≤ b → b < hi → zK M' b = zK M b ∧ zN M' b = zN M b ∧ zI M' b = zI M b ∧ zJ M' b = zJ M b ∧ zR M' b = zR M b
theorem zEw.trans {M M1 M2 : zMem} {a c : Nat} (h : zEw M M1 a c) (h2 : zEw M1 M2 a c) : zEw M M2 a c := fun b q1 q2 => by
  obtain ⟨a1, a2, a3, a4, a5⟩ := h b q1 q2
  obtain ⟨b1, b2, b3, b4, b5⟩ := h2 b q1 q2
  exact ⟨b1.trans a1, b2.trans a2, b3.trans a3, b4.trans a4, b5.trans a5⟩
theorem zEw.le {M M' : zMem} {a c a' c' : Nat} (h : zEw M M' a c) (h1 : a ≤ a') (h2 : c' ≤ c) : zEw M M' a' c' := fun b q1 q2 => h b (by omega) (by omega)
theorem zEz_step {M M2 : zMem} {kd n a k : Nat} (hT : zT M = a) (h0 : 0 < a) (e : zEq (znw M kd n) M2 a) (hK : zK M 0 = 9) : zEw M (zsR M2 0 k (some a)) 1 a ∧ zK (zsR M2 0 k (some a)) 0 = 9 ∧ zR (zsR M2 0 k (some a)) 0 k = some a ∧ (∀ j, j ≠ k → zR (zsR M2 0 k (some a)) 0 j = zR M 0 j) ∧ zK M2 0 = 9 := by
  have E := e.trans (zEq.refl _ _)
  have F := (zEq_n (M := M) (kd := kd) (n := n) (a := a) (by omega)).trans E
  refine ⟨fun b h1 h2 => ?_, (F 0 h0).1.trans hK, by rw [sr_R, if_pos rfl, if_pos rfl], fun j hj => ?_, (F 0 h0).1.trans hK⟩
  · obtain ⟨f1, f2, f3, f4, f5⟩ := F b h2
    exact ⟨f1, f2, f3, f4, (show zR (zsR M2 0 k (some a)) b = zR M2 b from if_neg (by omega)).trans f5⟩
  · rw [sr_R, if_pos rfl, if_neg hj]
    exact congrFun (F 0 h0).2.2.2.2 j
theorem eSh.cells {M M' : zMem} {a : Nat} (h : eSh M a) (e : zEw M M' a (a + 2)) : eSh M' a := by
  have e0 := e a (by omega) (by omega)
  have e1 := e (a + 1) (by omega) (by omega)
  unfold eSh at *
  rw [e0.1, e0.2.2.2.2, e1.1, e1.2.1]
  exact h
theorem wSh.cells {M M' : zMem} {a : Nat} (h : wSh M a) (e : zEw M M' a (a + 2)) : wSh M' a := by
  have e0 := e a (by omega) (by omega)
  have e1 := e (a + 1) (by omega) (by omega)
  unfold wSh at *
  rw [e0.1, e0.2.2.2.2, e1.1, e1.2.1]
  exact h
theorem nSh.cells {M M' : zMem} {a : Nat} (h : nSh M a) (e : zEw M M' a (a + 7)) : nSh M' a := by
  have e0 := e a (by omega) (by omega)
  have e1 := e (a + 1) (by omega) (by omega)
  have e2 := e (a + 2) (by omega) (by omega)
  have e3 := e (a + 3) (by omega) (by omega)
  have e4 := e (a + 4) (by omega) (by omega)
  have e5 := e (a + 5) (by omega) (by omega)
  have e6 := e (a + 6) (by omega) (by omega)
  unfold nSh at *
  rw [e0.1, e0.2.2.2.2, e1.1, e1.2.1, e2.1, e2.2.1, e3.1, e3.2.1, e4.1, e4.2.1, e5.1, e5.2.1, e6.1, e6.2.1]
  exact h
/-- the class is being made: i slots stand -/
def xB (M M' : zMem) (i : Nat) : Prop := zT M' = 787 + 77 * i ∧ zF M' = 0 ∧ zEw M M' 0 784 ∧ zEw M M' 785 787 ∧ zK M' 784 = 14 + 1 ∧ zN M' 784 = 2 ∧ ∀ j, j < i → zR M' 784 j = some (787 + 77 * j) ∧ rSt M' (787 + 77 * j) gI0 (fun q => q)
theorem xB.next {M0 M M2 : zMem} {i : Nat} (h : xB M0 M i) (T2 : zT M2 = 787 + 77 * i + 77) (F2 : zF M2 = 0) (E2 : zEq (znw M 6 0) M2 (787 + 77 * i)) (P2 : rSt M2 (787 + 77 * i) gI0 (fun q => q)) : xB M0 (zsR M2 784 i (some (787 + 77 * i))) (i + 1) := by
  obtain ⟨h1, h2, h3, h4, h5, h6, h7⟩ := h
  have S := stepR (k := i) (n := 0) (show zT M = 787 + 77 * i by omega) E2 (show 784 < 787 + 77 * i by omega)
  refine ⟨by show zT M2 = _; omega, F2, fun b hb hb2 => ?_, fun b hb hb2 => ?_, ?_, ?_, fun j q => ?_⟩
  · obtain ⟨q1, q2, q3, q4, -, q6⟩ := S b (by omega)
    obtain ⟨r1, r2, r3, r4, r5⟩ := h3 b hb hb2
    exact ⟨q1.trans r1, q2.trans r2, q3.trans r3, q6.trans r4, (q4 (by omega)).trans r5⟩
  · obtain ⟨q1, q2, q3, q4, -, q6⟩ := S b (by omega)
    obtain ⟨r1, r2, r3, r4, r5⟩ := h4 b hb hb2
    exact ⟨q1.trans r1, q2.trans r2, q3.trans r3, q6.trans r4, (q4 (by omega)).trans r5⟩
  · exact (S 784 (by omega)).1.trans h5
  · exact (S 784 (by omega)).2.1.trans h6
  · by_cases q2 : j = i
    · subst q2
      refine ⟨by rw [sr_R, if_pos rfl, if_pos rfl], P2.cells fun b q1 q2 => ⟨rfl, rfl, rfl, rfl, if_neg (by omega)⟩⟩
    · obtain ⟨q3, q4⟩ := h7 j (by omega)
      refine ⟨by rw [(S 784 (by omega)).2.2.2.2.1 j q2]; exact q3, q4.cells fun b q1 q2 => ?_⟩
      obtain ⟨z1, z2, z3, z4, -, z6⟩ := S b (by omega)
      exact ⟨z1, z2, z3, z6, z4 (by omega)⟩
/-- the class as it begins -/
def xNew (M : zMem) : Prop := xSh M ∧ rW M (zup (fun _ => gI0) 630 (oNT 2)) ∧ zI M 12 0 = nI 0 ∧ zI M 12 1 = nI 0 ∧ (∀ j, zI M 785 j = 0) ∧ zI M 3 0 = nI 0 ∧ zI M 1 0 = nI 0 ∧ zI M 1 1 = (-1) ∧ ∀ j, zI M 2 j = 0
section
variable {l : Launch} {G : zG} {y : zMD} {fr lo bc bs pc i n : Nat} {ls : List (Option Value)} {st : List Value} {M : zMem} {Q : zOut → zMem → Prop}
theorem s_newk {i ci : Nat} (nf : Nat) (hd : decode (yC y) pc = .ok (.new i, 3)) (hw : znk (yN y).cls i ci) (hf : zF M = 0) (ht : zT M < 1000000) (hn : znf ci = nf)
    (kk : zS l G y fr lo bc bs (pc + 3) ls (.ref (zT M) :: st) (znw M (ci + 1) 0) Q) : zS l G y fr lo (bc + 1) (bs + nf) pc ls st M Q := by
  rw [← hn]
  exact s_new hd hw hf ht kk
end
section
variable {l : Launch} {G : zG}
theorem w_X8_init_95 (hl : l.stackTraces = false) {M9 : zMem} (K9 : zK M9 0 = 9) (R9 : zR M9 0 6 = some 784) {Q : zOut → zMem → Prop} (kk : ∀ M, xB M9 M 2 → zS l G mX8_init 6 160 0 0 119 [some (.ref 0), some (.int (nI 2))] [] M Q) : ∀ (k i : Nat) (M : zMem), xB M9 M i → i ≤ 2 → 2 - i < k → zS l G mX8_init 6 160 (77 * (2 - i)) (1298 * (2 - i)) 95 [some (.ref 0), some (.int (nI i))] [] M Q := by
  intro k
  induction k with
  | zero => intros; omega
  | succ k ih =>
    intro i M hB1 hi hk
    refine s_iload_n (zdk hX8_init_0 46 rfl) rfl ?_
    refine s_iconstv (v := nI 2) (zdk hX8_init_0 47 rfl) zc_iconst_2 ?_
    refine s_icmp_ge 119 (zdk hX8_init_0 48 rfl) (by decide) (fun c => ?_) (fun c => ?_)
    · have n1 : 2 ≤ i := nle c (by omega) (by omega)
      obtain rfl : i = 2 := by omega
      exact kk M hB1
    · have n1 : i < 2 := nlt c (by omega) (by omega)
      have hT9 := hB1.1
      have k0 := hB1.2.2.1 0 (by omega) (by omega)
      refine s_aload_n (zdk hX8_init_0 49 rfl) rfl ?_
      refine s_getR (zdk hX8_init_0 50 rfl) fw_X8_47 rfl (k0.1.trans K9) ((congrFun k0.2.2.2.2 6).trans R9) ?_
      refine s_iload_n (zdk hX8_init_0 51 rfl) rfl ?_
      refine zS.le (fr' := 0) (lo' := 0) (bc' := 77 * (2 - (i + 1)) + 76 + 1) (bs' := 1298 * (2 - (i + 1)) + 1290 + 8) (by omega) (by omega) ?_
      refine s_new (bc := 77 * (2 - (i + 1)) + 76) (bs := 1298 * (2 - (i + 1)) + 1290) (ci := 5) (zdk hX8_init_0 52 rfl) nk_X8_37 hB1.2.1 (by omega) ?_
      refine s_topr (b := 787 + 77 * i) (by omega) ?_
      refine s_dupr (zdk hX8_init_0 53 rfl) ?_
      refine s_callIb (bc := 77 * (2 - (i + 1))) (bs := 1298 * (2 - (i + 1))) (mc := 76) (ms := 1290) [] (zdk hX8_init_0 54 rfl) cw_X8_39 rfl (Nat.le_of_ble_eq_true rfl) (by decide) (c_X5_init hl (M := znw M 6 0) (s := 787 + 77 * i) (if_pos (by omega)) (by show zT M + 1 = _; omega) hB1.2.1 (by omega)) (fun v M2 q2 => ?_)
      obtain ⟨q3, T2, F2, E2, P2⟩ := q2
      cases q3
      have eO := E2 784 (by omega)
      have eN := zEq_n (M := M) (kd := 6) (n := 0) (a := 787 + 77 * i) (by omega) 784 (by omega)
      refine s_aastoreN (N := 2) (j := i) (q := 1) (ci := 5) (zdk hX8_init_0 55 rfl) ((eO.1.trans eN.1).trans hB1.2.2.2.2.1) P2.K (by decide) rfl (fun _ => rfl) ((eO.2.1.trans eN.2.1).trans hB1.2.2.2.2.2.1) n1 (by decide) ?_
      refine s_iinc (r := nI (i + 1)) (zdk hX8_init_0 56 rfl) (Nat.le_of_ble_eq_true rfl) rfl (nI_1 _) ?_
      refine s_ls (ls' := [some (.ref 0), some (.int (nI (i + 1)))]) rfl ?_
      refine s_goto 95 (zdk hX8_init_0 57 rfl) (by decide) ?_
      exact ih (i + 1) _ (hB1.next T2 F2 E2 P2) (by omega) (by omega)
theorem c_X8_init (hl : l.stackTraces = false) {M : zMem} (hK : zK M 0 = 9) (hT : zT M = 1) (hF : zF M = 0) : zCm l G mX8_init 6 160 940 16646 [.ref 0] M (zNq M 0 941 xNew) := by
  refine zNq.of (ls0 := [some (.ref 0), none]) (by decide +kernel) rfl hl rfl (Nat.le_of_ble_eq_true rfl) hT hF rfl ?_
  refine s_aload_n (zdk hX8_init_0 0 rfl) rfl ?_
  refine s_objInit (zdk hX8_init_0 1 rfl) ow_X8_1 ow_ins ow_code (by decide) (by decide) ?_
  refine s_aload_n (zdk hX8_init_0 2 rfl) rfl ?_
  refine zS.le (fr' := 0) (lo' := 0) (bc' := 939 + 1) (bs' := 16638 + 8) (by omega) (by omega) ?_
  refine s_newk (bc := 939) (bs := 16638) (ci := 4) 8 (zdk hX8_init_0 3 rfl) nk_X8_7 hF (by omega) rfl ?_
  refine s_topr (b := 1) hT ?_
  refine s_dupr (zdk hX8_init_0 4 rfl) ?_
  refine s_callINb (bc := 938) (bs := 16038) (mc := 1) (ms := 600) [] (zdk hX8_init_0 5 rfl) cw_X8_9 rfl (Nat.le_of_ble_eq_true rfl) (by decide) (c_X4_init hl (M := znw M 5 0) (a := 1) (if_pos hT.symm) (by show zT M + 1 = _; omega) hF (by omega)) (fun v M1 q2 => ?_)
  obtain ⟨q3, T1, F1, E1, P1⟩ := q2
  cases q3
  obtain ⟨W1, K1, A1, B1, C1⟩ := zEz_step (k := 0) hT (by decide) E1 hK
  refine s_putRF (zdk hX8_init_0 6 rfl) fw_X8_10 rfl pw_8_0 rfl rfl (fun _ => rfl) (fun _ => rfl) C1 ?_
  have hT1 : zT (zsR M1 0 0 (some 1)) = 3 := T1
  refine s_aload_n (zdk hX8_init_0 7 rfl) rfl ?_
  refine zS.le (fr' := 0) (lo' := 0) (bc' := 937 + 1) (bs' := 16036 + 2) (by omega) (by omega) ?_
  refine s_newk (bc := 937) (bs := 16036) (ci := 7) 2 (zdk hX8_init_0 8 rfl) nk_X8_16 F1 (by omega) rfl ?_
  refine s_topr (b := 3) hT1 ?_
  refine s_dupr (zdk hX8_init_0 9 rfl) ?_
  refine s_callINb (bc := 936) (bs := 15780) (mc := 1) (ms := 256) [] (zdk hX8_init_0 10 rfl) cw_X8_18 rfl (Nat.le_of_ble_eq_true rfl) (by decide) (c_X7_init hl (M := znw (zsR M1 0 0 (some 1)) 8 0) (a := 3) (if_pos hT1.symm) (by show zT (zsR M1 0 0 (some 1)) + 1 = _; omega) F1 (by omega)) (fun v M2 q2 => ?_)
  obtain ⟨q3, T2, F2, E2, P2⟩ := q2
  cases q3
  obtain ⟨W2, K2, A2, B2, C2⟩ := zEz_step (k := 1) hT1 (by decide) E2 K1
  refine s_putRF (zdk hX8_init_0 11 rfl) fw_X8_19 rfl pw_8_1 rfl rfl (fun _ => rfl) (fun _ => rfl) C2 ?_
  have hT2 : zT (zsR M2 0 1 (some 3)) = 5 := T2
  refine s_aload_n (zdk hX8_init_0 12 rfl) rfl ?_
  refine zS.le (fr' := 0) (lo' := 0) (bc' := 935 + 1) (bs' := 15768 + 12) (by omega) (by omega) ?_
  refine s_newk (bc := 935) (bs := 15768) (ci := 3) 12 (zdk hX8_init_0 13 rfl) nk_X8_23 F2 (by omega) rfl ?_
  refine s_topr (b := 5) hT2 ?_
  refine s_dupr (zdk hX8_init_0 14 rfl) ?_
  refine s_callINb (bc := 929) (bs := 15604) (mc := 6) (ms := 164) [] (zdk hX8_init_0 15 rfl) cw_X8_25 rfl (Nat.le_of_ble_eq_true rfl) (by decide) (c_X3_init hl (M := znw (zsR M2 0 1 (some 3)) 4 0) (a := 5) (if_pos hT2.symm) (by show zT (zsR M2 0 1 (some 3)) + 1 = _; omega) F2 (by omega)) (fun v M3 q2 => ?_)
  obtain ⟨q3, T3, F3, E3, P3⟩ := q2
  cases q3
  obtain ⟨W3, K3, A3, B3, C3⟩ := zEz_step (k := 2) hT2 (by decide) E3 K2
  refine s_putRF (zdk hX8_init_0 16 rfl) fw_X8_26 rfl pw_8_2 rfl rfl (fun _ => rfl) (fun _ => rfl) C3 ?_
  have hT3 : zT (zsR M3 0 2 (some 5)) = 12 := T3
  refine s_aload_n (zdk hX8_init_0 17 rfl) rfl ?_
  refine zS.le (fr' := 0) (lo' := 0) (bc' := 928 + 1) (bs' := 15601 + 3) (by omega) (by omega) ?_
  refine s_newk (bc := 928) (bs := 15601) (ci := 1) 3 (zdk hX8_init_0 18 rfl) nk_X8_30 F3 (by omega) rfl ?_
  refine s_topr (b := 12) hT3 ?_
  refine s_dupr (zdk hX8_init_0 19 rfl) ?_
  refine s_callIb (bc := 311) (bs := 5209) (mc := 617) (ms := 10392) [] (zdk hX8_init_0 20 rfl) cw_X8_32 rfl (Nat.le_of_ble_eq_true rfl) (by decide) (c_X1_init hl (M := znw (zsR M3 0 2 (some 5)) 2 0) (if_pos hT3.symm) (by show zT (zsR M3 0 2 (some 5)) + 1 = _; omega) F3) (fun v M4 q2 => ?_)
  obtain ⟨q3, T4, F4, E4, P4⟩ := q2
  cases q3
  obtain ⟨W4, K4, A4, B4, C4⟩ := zEz_step (k := 3) hT3 (by decide) E4 K3
  refine s_putRF (zdk hX8_init_0 21 rfl) fw_X8_33 rfl pw_8_3 rfl rfl (fun _ => rfl) (fun _ => rfl) C4 ?_
  have hT4 : zT (zsR M4 0 3 (some 12)) = 630 := T4
  refine s_aload_n (zdk hX8_init_0 22 rfl) rfl ?_
  refine zS.le (fr' := 0) (lo' := 0) (bc' := 310 + 1) (bs' := 5201 + 8) (by omega) (by omega) ?_
  refine s_newk (bc := 310) (bs := 5201) (ci := 5) 8 (zdk hX8_init_0 23 rfl) nk_X8_37 F4 (by omega) rfl ?_
  refine s_topr (b := 630) hT4 ?_
  refine s_dupr (zdk hX8_init_0 24 rfl) ?_
  refine s_callIb (bc := 234) (bs := 3911) (mc := 76) (ms := 1290) [] (zdk hX8_init_0 25 rfl) cw_X8_39 rfl (Nat.le_of_ble_eq_true rfl) (by decide) (c_X5_init hl (M := znw (zsR M4 0 3 (some 12)) 6 0) (s := 630) (if_pos hT4.symm) (by show zT (zsR M4 0 3 (some 12)) + 1 = _; omega) F4 (by omega)) (fun v M5 q2 => ?_)
  obtain ⟨q3, T5, F5, E5, P5⟩ := q2
  cases q3
  obtain ⟨W5, K5, A5, B5, C5⟩ := zEz_step (k := 4) hT4 (by decide) E5 K4
  refine s_putRF (zdk hX8_init_0 26 rfl) fw_X8_40 rfl pw_8_4 rfl rfl (fun _ => rfl) (fun _ => rfl) C5 ?_
  have hT5 : zT (zsR M5 0 4 (some 630)) = 707 := T5
  refine s_aload_n (zdk hX8_init_0 27 rfl) rfl ?_
  refine zS.le (fr' := 0) (lo' := 0) (bc' := 233 + 1) (bs' := 3903 + 8) (by omega) (by omega) ?_
  refine s_newk (bc := 233) (bs := 3903) (ci := 5) 8 (zdk hX8_init_0 28 rfl) nk_X8_37 F5 (by omega) rfl ?_
  refine s_topr (b := 707) hT5 ?_
  refine s_dupr (zdk hX8_init_0 29 rfl) ?_
  refine s_callIb (bc := 157) (bs := 2613) (mc := 76) (ms := 1290) [] (zdk hX8_init_0 30 rfl) cw_X8_39 rfl (Nat.le_of_ble_eq_true rfl) (by decide) (c_X5_init hl (M := znw (zsR M5 0 4 (some 630)) 6 0) (s := 707) (if_pos hT5.symm) (by show zT (zsR M5 0 4 (some 630)) + 1 = _; omega) F5 (by omega)) (fun v M6 q2 => ?_)
  obtain ⟨q3, T6, F6, E6, P6⟩ := q2
  cases q3
  obtain ⟨W6, K6, A6, B6, C6⟩ := zEz_step (k := 5) hT5 (by decide) E6 K5
  refine s_putRF (zdk hX8_init_0 31 rfl) fw_X8_44 rfl pw_8_5 rfl rfl (fun _ => rfl) (fun _ => rfl) C6 ?_
  have hT6 : zT (zsR M6 0 5 (some 707)) = 784 := T6
  refine s_aload_n (zdk hX8_init_0 32 rfl) rfl ?_
  refine s_iconstv (v := nI 2) (zdk hX8_init_0 33 rfl) zc_iconst_2 ?_
  refine s_anew (bc := 156) (bs := 2611) (N := 2) (j := 1) (C := RX5) (zdk hX8_init_0 34 rfl) clw_X8_37 ao_5 (fun _ => rfl) (by decide) (by decide) (by decide) F6 (show zT (zsR M6 0 5 (some 707)) < 1000000 from by rw [hT6]; decide) ?_
  refine s_topr (b := 784) hT6 ?_
  obtain ⟨W7, K7, A7, B7, C7⟩ := zEz_step (M2 := (znw (zsR M6 0 5 (some 707)) 15 2)) (kd := 15) (n := 2) (k := 6) hT6 (by decide) (zEq.refl _ _) K6
  refine s_putRF (zdk hX8_init_0 35 rfl) fw_X8_47 rfl pw_8_6 rfl rfl (fun _ => rfl) (fun _ => rfl) C7 ?_
  have X7 : zK (znw (zsR M6 0 5 (some 707)) 15 2) 784 = 15 ∧ zN (znw (zsR M6 0 5 (some 707)) 15 2) 784 = 2 := ⟨if_pos hT6.symm, if_pos hT6.symm⟩
  have hT7 : zT (zsR (znw (zsR M6 0 5 (some 707)) 15 2) 0 6 (some 784)) = 785 := congrArg (· + 1) hT6
  have F7 : zF (zsR (znw (zsR M6 0 5 (some 707)) 15 2) 0 6 (some 784)) = 0 := F6
  refine s_aload_n (zdk hX8_init_0 36 rfl) rfl ?_
  refine s_iconstv (v := nI 2) (zdk hX8_init_0 37 rfl) zc_iconst_2 ?_
  refine s_newZ (bc := 155) (bs := 2609) (N := 2) (zdk hX8_init_0 38 rfl) aw_boolean (by decide) (by decide) (by decide) F7 (show zT (zsR (znw (zsR M6 0 5 (some 707)) 15 2) 0 6 (some 784)) < 1000000 from by rw [hT7]; decide) ?_
  refine s_topr (b := 785) hT7 ?_
  obtain ⟨W8, K8, A8, B8, C8⟩ := zEz_step (M2 := (znw (zsR (znw (zsR M6 0 5 (some 707)) 15 2) 0 6 (some 784)) 13 2)) (kd := 13) (n := 2) (k := 7) hT7 (by decide) (zEq.refl _ _) K7
  refine s_putRF (zdk hX8_init_0 39 rfl) fw_X8_51 rfl pw_8_7 rfl rfl (fun _ => rfl) (fun _ => rfl) C8 ?_
  have X8 : zK (znw (zsR (znw (zsR M6 0 5 (some 707)) 15 2) 0 6 (some 784)) 13 2) 785 = 13 ∧ zN (znw (zsR (znw (zsR M6 0 5 (some 707)) 15 2) 0 6 (some 784)) 13 2) 785 = 2 := ⟨if_pos hT7.symm, if_pos hT7.symm⟩
  have Y8 : ∀ j, zI (znw (zsR (znw (zsR M6 0 5 (some 707)) 15 2) 0 6 (some 784)) 13 2) 785 j = 0 := fun j => by rw [nw_I, if_pos hT7.symm]
  have hT8 : zT (zsR (znw (zsR (znw (zsR M6 0 5 (some 707)) 15 2) 0 6 (some 784)) 13 2) 0 7 (some 785)) = 786 := congrArg (· + 1) hT7
  have F8 : zF (zsR (znw (zsR (znw (zsR M6 0 5 (some 707)) 15 2) 0 6 (some 784)) 13 2) 0 7 (some 785)) = 0 := F7
  refine s_aload_n (zdk hX8_init_0 40 rfl) rfl ?_
  refine s_bipushv (v := nI 13) (zdk hX8_init_0 41 rfl) zc_bipush_13 ?_
  refine s_newI (bc := 154) (bs := 2596) (N := 13) (zdk hX8_init_0 42 rfl) aw_int (by decide) (by decide) (by decide) F8 (show zT (zsR (znw (zsR (znw (zsR M6 0 5 (some 707)) 15 2) 0 6 (some 784)) 13 2) 0 7 (some 785)) < 1000000 from by rw [hT8]; decide) ?_
  refine s_topr (b := 786) hT8 ?_
  obtain ⟨W9, K9, A9, B9, C9⟩ := zEz_step (M2 := (znw (zsR (znw (zsR (znw (zsR M6 0 5 (some 707)) 15 2) 0 6 (some 784)) 13 2) 0 7 (some 785)) 11 13)) (kd := 11) (n := 13) (k := 8) hT8 (by decide) (zEq.refl _ _) K8
  refine s_putRF (zdk hX8_init_0 43 rfl) fw_X8_55 rfl pw_8_8 rfl rfl (fun _ => rfl) (fun _ => rfl) C9 ?_
  have X9 : zK (znw (zsR (znw (zsR (znw (zsR M6 0 5 (some 707)) 15 2) 0 6 (some 784)) 13 2) 0 7 (some 785)) 11 13) 786 = 11 ∧ zN (znw (zsR (znw (zsR (znw (zsR M6 0 5 (some 707)) 15 2) 0 6 (some 784)) 13 2) 0 7 (some 785)) 11 13) 786 = 13 := ⟨if_pos hT8.symm, if_pos hT8.symm⟩
  have hT9 : zT (zsR (znw (zsR (znw (zsR (znw (zsR M6 0 5 (some 707)) 15 2) 0 6 (some 784)) 13 2) 0 7 (some 785)) 11 13) 0 8 (some 786)) = 787 := congrArg (· + 1) hT8
  have F9 : zF (zsR (znw (zsR (znw (zsR (znw (zsR M6 0 5 (some 707)) 15 2) 0 6 (some 784)) 13 2) 0 7 (some 785)) 11 13) 0 8 (some 786)) = 0 := F8
  generalize h9 : (zsR (znw (zsR (znw (zsR (znw (zsR M6 0 5 (some 707)) 15 2) 0 6 (some 784)) 13 2) 0 7 (some 785)) 11 13) 0 8 (some 786)) = M9 at W9 K9 A9 B9 hT9 F9 ⊢
  have V1 := ((((((((W2.le (Nat.le_refl 1) (show 3 ≤ 3 by decide)).trans (W3.le (Nat.le_refl 1) (show 3 ≤ 5 by decide))).trans (W4.le (Nat.le_refl 1) (show 3 ≤ 12 by decide))).trans (W5.le (Nat.le_refl 1) (show 3 ≤ 630 by decide))).trans (W6.le (Nat.le_refl 1) (show 3 ≤ 707 by decide))).trans (W7.le (Nat.le_refl 1) (show 3 ≤ 784 by decide))).trans (W8.le (Nat.le_refl 1) (show 3 ≤ 785 by decide))).trans (W9.le (Nat.le_refl 1) (show 3 ≤ 786 by decide)))
  have V2 := (((((((W3.le (Nat.le_refl 1) (show 5 ≤ 5 by decide)).trans (W4.le (Nat.le_refl 1) (show 5 ≤ 12 by decide))).trans (W5.le (Nat.le_refl 1) (show 5 ≤ 630 by decide))).trans (W6.le (Nat.le_refl 1) (show 5 ≤ 707 by decide))).trans (W7.le (Nat.le_refl 1) (show 5 ≤ 784 by decide))).trans (W8.le (Nat.le_refl 1) (show 5 ≤ 785 by decide))).trans (W9.le (Nat.le_refl 1) (show 5 ≤ 786 by decide)))
  have V3 := ((((((W4.le (Nat.le_refl 1) (show 12 ≤ 12 by decide)).trans (W5.le (Nat.le_refl 1) (show 12 ≤ 630 by decide))).trans (W6.le (Nat.le_refl 1) (show 12 ≤ 707 by decide))).trans (W7.le (Nat.le_refl 1) (show 12 ≤ 784 by decide))).trans (W8.le (Nat.le_refl 1) (show 12 ≤ 785 by decide))).trans (W9.le (Nat.le_refl 1) (show 12 ≤ 786 by decide)))
  have V4 := (((((W5.le (Nat.le_refl 1) (show 630 ≤ 630 by decide)).trans (W6.le (Nat.le_refl 1) (show 630 ≤ 707 by decide))).trans (W7.le (Nat.le_refl 1) (show 630 ≤ 784 by decide))).trans (W8.le (Nat.le_refl 1) (show 630 ≤ 785 by decide))).trans (W9.le (Nat.le_refl 1) (show 630 ≤ 786 by decide)))
  have V5 := ((((W6.le (Nat.le_refl 1) (show 707 ≤ 707 by decide)).trans (W7.le (Nat.le_refl 1) (show 707 ≤ 784 by decide))).trans (W8.le (Nat.le_refl 1) (show 707 ≤ 785 by decide))).trans (W9.le (Nat.le_refl 1) (show 707 ≤ 786 by decide)))
  have V6 := (((W7.le (Nat.le_refl 1) (show 784 ≤ 784 by decide)).trans (W8.le (Nat.le_refl 1) (show 784 ≤ 785 by decide))).trans (W9.le (Nat.le_refl 1) (show 784 ≤ 786 by decide)))
  have V7 := ((W8.le (Nat.le_refl 1) (show 785 ≤ 785 by decide)).trans (W9.le (Nat.le_refl 1) (show 785 ≤ 786 by decide)))
  have V8 := (W9.le (Nat.le_refl 1) (show 786 ≤ 786 by decide))
  have R9 : ∀ q ∈ xL, zR M9 0 q.1 = some q.2 := by
    intro q hq
    simp only [xL, List.mem_cons, List.not_mem_nil, or_false] at hq
    rcases hq with rfl | rfl | rfl | rfl | rfl | rfl | rfl | rfl | rfl
    · exact (((((((((B9 0 (by decide)).trans (B8 0 (by decide))).trans (B7 0 (by decide))).trans (B6 0 (by decide))).trans (B5 0 (by decide))).trans (B4 0 (by decide))).trans (B3 0 (by decide))).trans (B2 0 (by decide))).trans A1)
    · exact ((((((((B9 1 (by decide)).trans (B8 1 (by decide))).trans (B7 1 (by decide))).trans (B6 1 (by decide))).trans (B5 1 (by decide))).trans (B4 1 (by decide))).trans (B3 1 (by decide))).trans A2)
    · exact (((((((B9 2 (by decide)).trans (B8 2 (by decide))).trans (B7 2 (by decide))).trans (B6 2 (by decide))).trans (B5 2 (by decide))).trans (B4 2 (by decide))).trans A3)
    · exact ((((((B9 3 (by decide)).trans (B8 3 (by decide))).trans (B7 3 (by decide))).trans (B6 3 (by decide))).trans (B5 3 (by decide))).trans A4)
    · exact (((((B9 4 (by decide)).trans (B8 4 (by decide))).trans (B7 4 (by decide))).trans (B6 4 (by decide))).trans A5)
    · exact ((((B9 5 (by decide)).trans (B8 5 (by decide))).trans (B7 5 (by decide))).trans A6)
    · exact (((B9 6 (by decide)).trans (B8 6 (by decide))).trans A7)
    · exact ((B9 7 (by decide)).trans A8)
    · exact A9
  refine s_iconstv (v := nI 0) (zdk hX8_init_0 44 rfl) zc_iconst_0 ?_
  refine s_istore_n (zdk hX8_init_0 45 rfl) (Nat.le_of_ble_eq_true rfl) ?_
  refine s_ls (ls' := [some (.ref 0), some (.int (nI 0))]) rfl ?_
  have hb0 : xB M9 M9 0 := ⟨hT9, F9, fun b _ _ => ⟨rfl, rfl, rfl, rfl, rfl⟩, fun b _ _ => ⟨rfl, rfl, rfl, rfl, rfl⟩, ((V7 784 (by decide) (by decide)).1).trans X7.1, ((V7 784 (by decide) (by decide)).2.1).trans X7.2, fun j h => by omega⟩
  refine w_X8_init_95 hl K9 ((((B9 6 (by decide)).trans (B8 6 (by decide))).trans A7)) (fun M10 hb => ?_) 3 0 _ hb0 (by omega) (by omega)
  obtain ⟨t1, t2, t3, t4, t5, t6, t7⟩ := hb
  have U : ∀ {Mk : zMem} {a c : Nat}, zEw Mk M9 1 c → 1 ≤ a → c ≤ 784 → zEw Mk M10 a c := fun h q1 q2 => (h.le q1 (Nat.le_refl _)).trans (t3.le (by omega) q2)
  have L1 : eSh M10 1 := (show eSh (zsR M1 0 0 (some 1)) 1 from P1.1).cells (U V1 (a := 1) (by decide) (by decide))
  have L3 : wSh M10 3 := (show wSh (zsR M2 0 1 (some 3)) 3 from P2.1).cells (U V2 (a := 3) (by decide) (by decide))
  have L5 : nSh M10 5 := (show nSh (zsR M3 0 2 (some 5)) 5 from P3).cells (U V3 (a := 5) (by decide) (by decide))
  have L12 : zEw (zsR M4 0 3 (some 12)) M10 12 630 := (U V4 (by decide) (by decide))
  have Q4 := P4.2.2.2
  obtain ⟨-, -, -, g1, g2, g3, g4, g5, g6, g7⟩ := P4
  have L0 := t3 0 (by decide) (by decide)
  have e12 := L12 12 (by decide) (by decide)
  have e13 := L12 13 (by decide) (by decide)
  have s630 : rSt M10 630 gI0 (fun q => q) := (P5.cells (M' := zsR M5 0 4 (some 630)) fun b q1 q2 => ⟨rfl, rfl, rfl, rfl, if_neg (by omega)⟩).cells ((U V5 (a := 630) (by decide) (by decide)))
  have s707 : rSt M10 707 gI0 (fun q => q) := (P6.cells (M' := zsR M6 0 5 (some 707)) fun b q1 q2 => ⟨rfl, rfl, rfl, rfl, if_neg (by omega)⟩).cells ((U V6 (a := 707) (by decide) (by decide)))
  have xs : xSh M10 := ⟨⟨L0.1.trans K9, fun q hq => (congrFun L0.2.2.2.2 _).trans (R9 q hq)⟩, L1, L3, L5, ⟨e12.1.trans g1, (congrFun e12.2.2.2.2 2).trans g2, e13.1.trans g3, e13.2.1.trans g4, fun i hi => (congrFun e13.2.2.2.2 i).trans (g7 i hi).1⟩, ⟨t5, t6, fun i hi => (t7 i hi).1⟩, ⟨((t4 785 (by decide) (by decide)).1.trans (V8 785 (by decide) (by decide)).1).trans X8.1, ((t4 785 (by decide) (by decide)).2.1.trans (V8 785 (by decide) (by decide)).2.1).trans X8.2⟩, (t4 786 (by decide) (by decide)).1.trans (by rw [← h9]; exact X9.1), (t4 786 (by decide) (by decide)).2.1.trans (by rw [← h9]; exact X9.2)⟩
  have rw0 : rW M10 (fun _ => gI0) := by
    intro s hs
    rcases hs with ⟨i, hi, rfl⟩ | ⟨i, hi, rfl⟩
    · by_cases q8 : i < 8
      · exact ⟨_, ((g7 i q8).2.cells (M' := zsR M4 0 3 (some 12)) fun b q1 q2 => ⟨rfl, rfl, rfl, rfl, if_neg (by omega)⟩).cells fun b q1 q2 => L12 b (by omega) (by omega)⟩
      · by_cases q9 : i = 8
        · subst q9; exact ⟨_, s630⟩
        · obtain rfl : i = 9 := by omega
          exact ⟨_, s707⟩
    · exact ⟨_, (t7 i hi).2⟩
  have e785 : ∀ j, zI M10 785 j = 0 := fun j => by rw [(t4 785 (by decide) (by decide)).2.2.1, (V8 785 (by decide) (by decide)).2.2.1]; exact Y8 j
  have e3 : zI M10 3 0 = nI 0 := (congrFun (U V2 (a := 3) (by decide) (by decide) 3 (by decide) (by decide)).2.2.1 0).trans P2.2
  have e10 : zI M10 1 0 = nI 0 := (congrFun (U V1 (a := 1) (by decide) (by decide) 1 (by decide) (by decide)).2.2.1 0).trans P1.2.1
  have e11 : zI M10 1 1 = (-1) := (congrFun (U V1 (a := 1) (by decide) (by decide) 1 (by decide) (by decide)).2.2.1 1).trans P1.2.2.1
  have e12t : ∀ j, zI M10 2 j = 0 := fun j => (congrFun (U V1 (a := 1) (by decide) (by decide) 2 (by decide) (by decide)).2.2.1 j).trans (P1.2.2.2 j)
  refine s_aload_n (zdk hX8_init_0 58 rfl) rfl ?_
  refine s_getR (zdk hX8_init_0 59 rfl) fw_X8_40 rfl xs.K (xs.r (i := 4) rfl) ?_
  refine s_callV1 (ci := 5) [] (zdk hX8_init_1 0 rfl) cw_X8_59 s630.K (by decide) rfl rfl rfl (Nat.le_of_ble_eq_true rfl) (by decide) (c_X5_startAsNew hl s630) (fun v M11 q => ?_)
  obtain ⟨q1, a11, r11⟩ := q
  cases q1
  refine s_return (zdk hX8_init_1 1 rfl) rfl ?_
  have eT : zT M11 = 941 := (congrArg (fun x => x.2.2.1) a11.1).trans t1
  have eF : zF M11 = 0 := (congrArg (fun x => x.2.2.2) a11.1).trans t2
  refine ⟨rfl, eT, eF, fun b hb => by omega, ?_, rw0.up (Or.inl ⟨8, by decide, rfl⟩) a11 r11, ?_, ?_, fun j => ?_, ?_, ?_, ?_, fun j => ?_⟩
  · exact xs.keep a11.1 fun b hb => (a11.2 b (by omega)).2.2
  · exact (congrFun (a11.2 12 (by decide)).1 0).trans ((congrFun e12.2.2.1 0).trans g5)
  · exact (congrFun (a11.2 12 (by decide)).1 1).trans ((congrFun e12.2.2.1 1).trans g6)
  · exact (congrFun (a11.2 785 (by decide)).1 j).trans (e785 j)
  · exact (congrFun (a11.2 3 (by decide)).1 0).trans e3
  · exact (congrFun (a11.2 1 (by decide)).1 0).trans e10
  · exact (congrFun (a11.2 1 (by decide)).1 1).trans e11
  · exact (congrFun (a11.2 2 (by decide)).1 j).trans (e12t j)
end
