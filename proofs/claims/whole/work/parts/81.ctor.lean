theorem zc_bipush_80 : (Int8.ofInt 80).toInt32 = nI 80 := by decide
theorem zc_sipush_300 : (Int16.ofInt 300).toInt32 = nI 300 := by decide
/-! ===== constructors: the small ones ===== -/
/-- cells below a are as they were -/
def zEq (M M' : zMem) (a : Nat) : Prop := ∀ b, b < a → zK M' b = zK M b ∧ zN M' b = zN M b ∧ zI M' b = zI M b ∧ zJ M' b = zJ M b ∧ zR M' b = zR M b
theorem zEq.refl (M : zMem) (a : Nat) : zEq M M a := fun _ _ => ⟨rfl, rfl, rfl, rfl, rfl⟩
theorem zEq.trans {M M1 M2 : zMem} {a : Nat} (h : zEq M M1 a) (h2 : zEq M1 M2 a) : zEq M M2 a := fun b hb => by
  obtain ⟨a1, a2, a3, a4, a5⟩ := h b hb
  obtain ⟨b1, b2, b3, b4, b5⟩ := h2 b hb
  exact ⟨b1.trans a1, b2.trans a2, b3.trans a3, b4.trans a4, b5.trans a5⟩
theorem zEq.le {M M' : zMem} {a c : Nat} (h : zEq M M' a) (hc : c ≤ a) : zEq M M' c := fun b hb => h b (by omega)
theorem zEq_I {M : zMem} {a c k : Nat} {v : Int32} (h : a ≤ c) : zEq M (zsI M c k v) a := fun b hb => ⟨rfl, rfl, zI_In (by omega), rfl, rfl⟩
theorem zEq_J {M : zMem} {a c k : Nat} {v : Int64} (h : a ≤ c) : zEq M (zsJ M c k v) a := fun b hb => ⟨rfl, rfl, rfl, zJ_Jn (by omega), rfl⟩
theorem zEq_R {M : zMem} {a c k : Nat} {v : Option Nat} (h : a ≤ c) : zEq M (zsR M c k v) a := fun b hb => ⟨rfl, rfl, rfl, rfl, if_neg (by omega)⟩
theorem zEq_n {M : zMem} {a kd n : Nat} (h : a ≤ zT M) : zEq M (znw M kd n) a := fun b hb => ⟨if_neg (by omega), if_neg (by omega), if_neg (by omega), if_neg (by omega), if_neg (by omega)⟩
/-- a constructor's end: the object at a and n - 1 cells behind it are new -/
def zNq (M : zMem) (a n : Nat) (P : zMem → Prop) : zOut → zMem → Prop := fun o M' => o = .inl none ∧ zT M' = a + n ∧ zF M' = 0 ∧ zEq M M' a ∧ P M'
theorem nw_K {M : zMem} {kd n b : Nat} : zK (znw M kd n) b = if b = zT M then kd else zK M b := rfl
theorem nw_N {M : zMem} {kd n b : Nat} : zN (znw M kd n) b = if b = zT M then n else zN M b := rfl
theorem nw_R {M : zMem} {kd n b j : Nat} : zR (znw M kd n) b j = if b = zT M then none else zR M b j := by
  show zur M.2.2.1 (zT M) (fun _ => none) b j = _
  unfold zur
  split <;> rfl
theorem nw_I {M : zMem} {kd n b j : Nat} : zI (znw M kd n) b j = if b = zT M then 0 else zI M b j := by
  show zur M.1 (zT M) (fun _ => 0) b j = _
  unfold zur
  split <;> rfl
theorem nw_T {M : zMem} {kd n : Nat} : zT (znw M kd n) = zT M + 1 := rfl
theorem sr_R {M : zMem} {a k b j : Nat} {v : Option Nat} : zR (zsR M a k v) b j = if b = a then (if j = k then v else zR M a j) else zR M b j := by
  show zu M.2.2.1 a k v b j = _
  unfold zu
  split <;> rfl
theorem si_I {M : zMem} {a k b j : Nat} {v : Int32} : zI (zsI M a k v) b j = if b = a then (if j = k then v else zI M a j) else zI M b j := by
  show zu M.1 a k v b j = _
  unfold zu
  split <;> rfl
theorem si_K {M : zMem} {a k b : Nat} {v : Int32} : zK (zsI M a k v) b = zK M b := rfl
theorem si_N {M : zMem} {a k b : Nat} {v : Int32} : zN (zsI M a k v) b = zN M b := rfl
theorem si_T {M : zMem} {a k : Nat} {v : Int32} : zT (zsI M a k v) = zT M := rfl
theorem si_R {M : zMem} {a k b j : Nat} {v : Int32} : zR (zsI M a k v) b j = zR M b j := rfl
theorem sj_K {M : zMem} {a k b : Nat} {v : Int64} : zK (zsJ M a k v) b = zK M b := rfl
theorem sj_N {M : zMem} {a k b : Nat} {v : Int64} : zN (zsJ M a k v) b = zN M b := rfl
theorem sj_T {M : zMem} {a k : Nat} {v : Int64} : zT (zsJ M a k v) = zT M := rfl
theorem sj_R {M : zMem} {a k b j : Nat} {v : Int64} : zR (zsJ M a k v) b j = zR M b j := rfl
theorem sj_I {M : zMem} {a k b j : Nat} {v : Int64} : zI (zsJ M a k v) b j = zI M b j := rfl
theorem sr_K {M : zMem} {a k b : Nat} {v : Option Nat} : zK (zsR M a k v) b = zK M b := rfl
theorem sr_N {M : zMem} {a k b : Nat} {v : Option Nat} : zN (zsR M a k v) b = zN M b := rfl
theorem sr_T {M : zMem} {a k : Nat} {v : Option Nat} : zT (zsR M a k v) = zT M := rfl
theorem sr_I {M : zMem} {a k b j : Nat} {v : Option Nat} : zI (zsR M a k v) b j = zI M b j := rfl
section
variable {l : Launch} {G : zG} {y : zMD} {fr lo bc bs pc : Nat} {ls : List (Option Value)} {st : List Value} {M : zMem} {Q : zOut → zMem → Prop} {as : List Value}
theorem s_topr {a b : Nat} (h : a = b) (k : zS l G y fr lo bc bs pc ls (.ref b :: st) M Q) : zS l G y fr lo bc bs pc ls (.ref a :: st) M Q := by rw [h]; exact k
theorem zNq.of {a n mc ms : Nat} {P : zMem → Prop} {ls0 : List (Option Value)} (hpn : plainName (yN y).cls = true) (hH : yH y = []) (hl : l.stackTraces = false) (hen : zen (yL y) as = ls0) (hle : (zea as).length ≤ yL y) (hT : zT M = a + 1) (hF : zF M = 0) (hn : n = mc + 1)
    (h : zS l G y fr lo mc ms 0 ls0 [] M (zNq M a n P)) : zCm l G y fr lo mc ms as M (zNq M a n P) :=
  zCm.of hpn hH hl hen hle (fun v M' q _ => ⟨hF, by rw [q.2.1, hT, hn]; omega⟩) (fun x M' q => by cases q.1) h
end
section
variable {l : Launch} {G : zG}
theorem c_X0_init (hl : l.stackTraces = false) {M : zMem} {a : Nat} (hK : zK M a = 1) (hT : zT M = a + 1) (hF : zF M = 0) (ha : a < 100000) : zCm l G mX0_init 2 40 2 36 [.ref a] M (zNq M a 3 (fun M' => rSh M' a)) := by
  refine zNq.of (ls0 := [some (.ref a)]) (by decide +kernel) rfl hl rfl (Nat.le_of_ble_eq_true rfl) hT hF rfl ?_
  refine s_aload_n (zdk hX0_init 0 rfl) rfl ?_
  refine s_objInit (zdk hX0_init 1 rfl) ow_X0_3 ow_ins ow_code (by decide) (by decide) ?_
  refine s_aload_n (zdk hX0_init 2 rfl) rfl ?_
  refine s_lconstv (v := lN 0) (zdk hX0_init 3 rfl) rfl ?_
  refine s_putJ (zdk hX0_init 4 rfl) fw_X0_9 rfl pw_0_0 (by first | exact hK | simp +arith [nw_K, nw_N, nw_R, nw_I, nw_T, sr_R, si_I, si_K, si_N, si_T, si_R, sj_K, sj_N, sj_T, sj_R, sj_I, sr_K, sr_N, sr_T, sr_I, hT, hK]) ?_
  refine s_aload_n (zdk hX0_init 5 rfl) rfl ?_
  refine s_iconstv (v := nI 0) (zdk hX0_init 6 rfl) zc_iconst_0 ?_
  refine s_putI (zdk hX0_init 7 rfl) fw_X0_15 rfl pw_0_1 (by first | exact hK | simp +arith [nw_K, nw_N, nw_R, nw_I, nw_T, sr_R, si_I, si_K, si_N, si_T, si_R, sj_K, sj_N, sj_T, sj_R, sj_I, sr_K, sr_N, sr_T, sr_I, hT, hK]) ?_
  refine s_aload_n (zdk hX0_init 8 rfl) rfl ?_
  refine s_iconstv (v := nI 0) (zdk hX0_init 9 rfl) zc_iconst_0 ?_
  refine s_putI (zdk hX0_init 10 rfl) fw_X0_19 rfl pw_0_2 (by first | exact hK | simp +arith [nw_K, nw_N, nw_R, nw_I, nw_T, sr_R, si_I, si_K, si_N, si_T, si_R, sj_K, sj_N, sj_T, sj_R, sj_I, sr_K, sr_N, sr_T, sr_I, hT, hK]) ?_
  refine s_aload_n (zdk hX0_init 11 rfl) rfl ?_
  refine s_iconstv (v := nI 0) (zdk hX0_init 12 rfl) zc_iconst_0 ?_
  refine s_putI (zdk hX0_init 13 rfl) fw_X0_22 rfl pw_0_3 (by first | exact hK | simp +arith [nw_K, nw_N, nw_R, nw_I, nw_T, sr_R, si_I, si_K, si_N, si_T, si_R, sj_K, sj_N, sj_T, sj_R, sj_I, sr_K, sr_N, sr_T, sr_I, hT, hK]) ?_
  refine s_aload_n (zdk hX0_init 14 rfl) rfl ?_
  refine s_iconstv (v := nI 0) (zdk hX0_init 15 rfl) zc_iconst_0 ?_
  refine s_putI (zdk hX0_init 16 rfl) fw_X0_25 rfl pw_0_4 (by first | exact hK | simp +arith [nw_K, nw_N, nw_R, nw_I, nw_T, sr_R, si_I, si_K, si_N, si_T, si_R, sj_K, sj_N, sj_T, sj_R, sj_I, sr_K, sr_N, sr_T, sr_I, hT, hK]) ?_
  refine s_aload_n (zdk hX0_init 17 rfl) rfl ?_
  refine s_iconstv (v := nI 0) (zdk hX0_init 18 rfl) zc_iconst_0 ?_
  refine s_putI (zdk hX0_init 19 rfl) fw_X0_28 rfl pw_0_5 (by first | exact hK | simp +arith [nw_K, nw_N, nw_R, nw_I, nw_T, sr_R, si_I, si_K, si_N, si_T, si_R, sj_K, sj_N, sj_T, sj_R, sj_I, sr_K, sr_N, sr_T, sr_I, hT, hK]) ?_
  refine s_aload_n (zdk hX0_init 20 rfl) rfl ?_
  refine s_lconstv (v := lN 0) (zdk hX0_init 21 rfl) rfl ?_
  refine s_putJ (zdk hX0_init 22 rfl) fw_X0_31 rfl pw_0_6 (by first | exact hK | simp +arith [nw_K, nw_N, nw_R, nw_I, nw_T, sr_R, si_I, si_K, si_N, si_T, si_R, sj_K, sj_N, sj_T, sj_R, sj_I, sr_K, sr_N, sr_T, sr_I, hT, hK]) ?_
  refine s_aload_n (zdk hX0_init 23 rfl) rfl ?_
  refine s_iconstv (v := nI 0) (zdk hX0_init 24 rfl) zc_iconst_0 ?_
  refine s_putI (zdk hX0_init 25 rfl) fw_X0_34 rfl pw_0_7 (by first | exact hK | simp +arith [nw_K, nw_N, nw_R, nw_I, nw_T, sr_R, si_I, si_K, si_N, si_T, si_R, sj_K, sj_N, sj_T, sj_R, sj_I, sr_K, sr_N, sr_T, sr_I, hT, hK]) ?_
  refine s_aload_n (zdk hX0_init 26 rfl) rfl ?_
  refine s_bipushv (v := nI 24) (zdk hX0_init 27 rfl) zc_bipush_24 ?_
  refine s_newI (N := 24) (zdk hX0_init 28 rfl) aw_int (by decide) (by decide) (by decide) hF (show zT M + 0 < 1000000 from by omega) ?_
  refine s_topr (b := (a + 1)) (show zT M + 0 = (a + 1) from by omega) ?_
  refine s_putRF (zdk hX0_init 29 rfl) fw_X0_37 rfl pw_0_8 rfl rfl (fun _ => rfl) (fun _ => rfl) (by first | exact hK | simp +arith [nw_K, nw_N, nw_R, nw_I, nw_T, sr_R, si_I, si_K, si_N, si_T, si_R, sj_K, sj_N, sj_T, sj_R, sj_I, sr_K, sr_N, sr_T, sr_I, hT, hK]) ?_
  refine s_aload_n (zdk hX0_init 30 rfl) rfl ?_
  refine s_bipushv (v := nI 12) (zdk hX0_init 31 rfl) zc_bipush_12 ?_
  refine s_newI (N := 12) (zdk hX0_init 32 rfl) aw_int (by decide) (by decide) (by decide) hF (show zT M + 1 < 1000000 from by omega) ?_
  refine s_topr (b := (a + 2)) (show zT M + 1 = (a + 2) from by omega) ?_
  refine s_putRF (zdk hX0_init 33 rfl) fw_X0_41 rfl pw_0_9 rfl rfl (fun _ => rfl) (fun _ => rfl) (by first | exact hK | simp +arith [nw_K, nw_N, nw_R, nw_I, nw_T, sr_R, si_I, si_K, si_N, si_T, si_R, sj_K, sj_N, sj_T, sj_R, sj_I, sr_K, sr_N, sr_T, sr_I, hT, hK]) ?_
  refine s_return (zdk hX0_init 34 rfl) rfl ?_
  refine ⟨rfl, (show zT M + 2 = a + 3 from by omega), hF, ((((((((((((zEq.refl _ _).trans (zEq_J (by omega))).trans (zEq_I (by omega))).trans (zEq_I (by omega))).trans (zEq_I (by omega))).trans (zEq_I (by omega))).trans (zEq_I (by omega))).trans (zEq_J (by omega))).trans (zEq_I (by omega))).trans (zEq_n (by simp only [nw_T, si_T, sj_T, sr_T, hT]; omega))).trans (zEq_R (by omega))).trans (zEq_n (by simp only [nw_T, si_T, sj_T, sr_T, hT]; omega))).trans (zEq_R (by omega)), ?_⟩
  refine ⟨?_, ?_, ?_, ?_, ?_, ?_, ?_⟩
  all_goals simp +arith [nw_K, nw_N, nw_R, nw_I, nw_T, sr_R, si_I, si_K, si_N, si_T, si_R, sj_K, sj_N, sj_T, sj_R, sj_I, sr_K, sr_N, sr_T, sr_I, hT, hK]
theorem c_X6_init (hl : l.stackTraces = false) {M : zMem} {a : Nat} (hK : zK M a = 7) (hT : zT M = a + 1) (hF : zF M = 0) (ha : a < 100000) : zCm l G mX6_init 2 40 2 8 [.ref a] M (zNq M a 3 (fun M' => tSh M' a)) := by
  refine zNq.of (ls0 := [some (.ref a)]) (by decide +kernel) rfl hl rfl (Nat.le_of_ble_eq_true rfl) hT hF rfl ?_
  refine s_aload_n (zdk hX6_init 0 rfl) rfl ?_
  refine s_objInit (zdk hX6_init 1 rfl) ow_X6_3 ow_ins ow_code (by decide) (by decide) ?_
  refine s_aload_n (zdk hX6_init 2 rfl) rfl ?_
  refine s_lconstv (v := lN 0) (zdk hX6_init 3 rfl) rfl ?_
  refine s_putJ (zdk hX6_init 4 rfl) fw_X6_9 rfl pw_6_0 (by first | exact hK | simp +arith [nw_K, nw_N, nw_R, nw_I, nw_T, sr_R, si_I, si_K, si_N, si_T, si_R, sj_K, sj_N, sj_T, sj_R, sj_I, sr_K, sr_N, sr_T, sr_I, hT, hK]) ?_
  refine s_aload_n (zdk hX6_init 5 rfl) rfl ?_
  refine s_iconstv (v := nI 5) (zdk hX6_init 6 rfl) zc_iconst_5 ?_
  refine s_newI (N := 5) (zdk hX6_init 7 rfl) aw_int (by decide) (by decide) (by decide) hF (show zT M + 0 < 1000000 from by omega) ?_
  refine s_topr (b := (a + 1)) (show zT M + 0 = (a + 1) from by omega) ?_
  refine s_putRF (zdk hX6_init 8 rfl) fw_X6_15 rfl pw_6_1 rfl rfl (fun _ => rfl) (fun _ => rfl) (by first | exact hK | simp +arith [nw_K, nw_N, nw_R, nw_I, nw_T, sr_R, si_I, si_K, si_N, si_T, si_R, sj_K, sj_N, sj_T, sj_R, sj_I, sr_K, sr_N, sr_T, sr_I, hT, hK]) ?_
  refine s_aload_n (zdk hX6_init 9 rfl) rfl ?_
  refine s_iconstv (v := nI 3) (zdk hX6_init 10 rfl) zc_iconst_3 ?_
  refine s_newJ (N := 3) (zdk hX6_init 11 rfl) aw_long (by decide) (by decide) (by decide) hF (show zT M + 1 < 1000000 from by omega) ?_
  refine s_topr (b := (a + 2)) (show zT M + 1 = (a + 2) from by omega) ?_
  refine s_putRF (zdk hX6_init 12 rfl) fw_X6_19 rfl pw_6_2 rfl rfl (fun _ => rfl) (fun _ => rfl) (by first | exact hK | simp +arith [nw_K, nw_N, nw_R, nw_I, nw_T, sr_R, si_I, si_K, si_N, si_T, si_R, sj_K, sj_N, sj_T, sj_R, sj_I, sr_K, sr_N, sr_T, sr_I, hT, hK]) ?_
  refine s_return (zdk hX6_init 13 rfl) rfl ?_
  refine ⟨rfl, (show zT M + 2 = a + 3 from by omega), hF, (((((zEq.refl _ _).trans (zEq_J (by omega))).trans (zEq_n (by simp only [nw_T, si_T, sj_T, sr_T, hT]; omega))).trans (zEq_R (by omega))).trans (zEq_n (by simp only [nw_T, si_T, sj_T, sr_T, hT]; omega))).trans (zEq_R (by omega)), ?_⟩
  refine ⟨?_, ?_, ?_, ?_, ?_, ?_, ?_⟩
  all_goals simp +arith [nw_K, nw_N, nw_R, nw_I, nw_T, sr_R, si_I, si_K, si_N, si_T, si_R, sj_K, sj_N, sj_T, sj_R, sj_I, sr_K, sr_N, sr_T, sr_I, hT, hK]
theorem c_X2_init (hl : l.stackTraces = false) {M : zMem} {a : Nat} (hK : zK M a = 3) (hT : zT M = a + 1) (hF : zF M = 0) (ha : a < 100000) : zCm l G mX2_init 2 40 1 300 [.ref a] M (zNq M a 2 (fun M' => vSh M' a ∧ zI M' a 0 = nI 0)) := by
  refine zNq.of (ls0 := [some (.ref a)]) (by decide +kernel) rfl hl rfl (Nat.le_of_ble_eq_true rfl) hT hF rfl ?_
  refine s_aload_n (zdk hX2_init 0 rfl) rfl ?_
  refine s_objInit (zdk hX2_init 1 rfl) ow_X2_3 ow_ins ow_code (by decide) (by decide) ?_
  refine s_aload_n (zdk hX2_init 2 rfl) rfl ?_
  refine s_iconstv (v := nI 0) (zdk hX2_init 3 rfl) zc_iconst_0 ?_
  refine s_putI (zdk hX2_init 4 rfl) fw_X2_9 rfl pw_2_0 (by first | exact hK | simp +arith [nw_K, nw_N, nw_R, nw_I, nw_T, sr_R, si_I, si_K, si_N, si_T, si_R, sj_K, sj_N, sj_T, sj_R, sj_I, sr_K, sr_N, sr_T, sr_I, hT, hK]) ?_
  refine s_aload_n (zdk hX2_init 5 rfl) rfl ?_
  refine s_sipushv (v := nI 300) (zdk hX2_init 6 rfl) zc_sipush_300 ?_
  refine s_newI (N := 300) (zdk hX2_init 7 rfl) aw_int (by decide) (by decide) (by decide) hF (show zT M + 0 < 1000000 from by omega) ?_
  refine s_topr (b := (a + 1)) (show zT M + 0 = (a + 1) from by omega) ?_
  refine s_putRF (zdk hX2_init 8 rfl) fw_X2_15 rfl pw_2_1 rfl rfl (fun _ => rfl) (fun _ => rfl) (by first | exact hK | simp +arith [nw_K, nw_N, nw_R, nw_I, nw_T, sr_R, si_I, si_K, si_N, si_T, si_R, sj_K, sj_N, sj_T, sj_R, sj_I, sr_K, sr_N, sr_T, sr_I, hT, hK]) ?_
  refine s_return (zdk hX2_init 9 rfl) rfl ?_
  refine ⟨rfl, (show zT M + 1 = a + 2 from by omega), hF, (((zEq.refl _ _).trans (zEq_I (by omega))).trans (zEq_n (by simp only [nw_T, si_T, sj_T, sr_T, hT]; omega))).trans (zEq_R (by omega)), ?_⟩
  refine ⟨⟨?_, ?_, ?_, ?_⟩, ?_⟩
  all_goals simp +arith [nw_K, nw_N, nw_R, nw_I, nw_T, sr_R, si_I, si_K, si_N, si_T, si_R, sj_K, sj_N, sj_T, sj_R, sj_I, sr_K, sr_N, sr_T, sr_I, hT, hK]
theorem c_X7_init (hl : l.stackTraces = false) {M : zMem} {a : Nat} (hK : zK M a = 8) (hT : zT M = a + 1) (hF : zF M = 0) (ha : a < 100000) : zCm l G mX7_init 2 40 1 256 [.ref a] M (zNq M a 2 (fun M' => wSh M' a ∧ zI M' a 0 = nI 0)) := by
  refine zNq.of (ls0 := [some (.ref a)]) (by decide +kernel) rfl hl rfl (Nat.le_of_ble_eq_true rfl) hT hF rfl ?_
  refine s_aload_n (zdk hX7_init 0 rfl) rfl ?_
  refine s_objInit (zdk hX7_init 1 rfl) ow_X7_3 ow_ins ow_code (by decide) (by decide) ?_
  refine s_aload_n (zdk hX7_init 2 rfl) rfl ?_
  refine s_iconstv (v := nI 0) (zdk hX7_init 3 rfl) zc_iconst_0 ?_
  refine s_putI (zdk hX7_init 4 rfl) fw_X7_9 rfl pw_7_0 (by first | exact hK | simp +arith [nw_K, nw_N, nw_R, nw_I, nw_T, sr_R, si_I, si_K, si_N, si_T, si_R, sj_K, sj_N, sj_T, sj_R, sj_I, sr_K, sr_N, sr_T, sr_I, hT, hK]) ?_
  refine s_aload_n (zdk hX7_init 5 rfl) rfl ?_
  refine s_sipushv (v := nI 256) (zdk hX7_init 6 rfl) zc_sipush_256 ?_
  refine s_newI (N := 256) (zdk hX7_init 7 rfl) aw_int (by decide) (by decide) (by decide) hF (show zT M + 0 < 1000000 from by omega) ?_
  refine s_topr (b := (a + 1)) (show zT M + 0 = (a + 1) from by omega) ?_
  refine s_putRF (zdk hX7_init 8 rfl) fw_X7_15 rfl pw_7_1 rfl rfl (fun _ => rfl) (fun _ => rfl) (by first | exact hK | simp +arith [nw_K, nw_N, nw_R, nw_I, nw_T, sr_R, si_I, si_K, si_N, si_T, si_R, sj_K, sj_N, sj_T, sj_R, sj_I, sr_K, sr_N, sr_T, sr_I, hT, hK]) ?_
  refine s_return (zdk hX7_init 9 rfl) rfl ?_
  refine ⟨rfl, (show zT M + 1 = a + 2 from by omega), hF, (((zEq.refl _ _).trans (zEq_I (by omega))).trans (zEq_n (by simp only [nw_T, si_T, sj_T, sr_T, hT]; omega))).trans (zEq_R (by omega)), ?_⟩
  refine ⟨⟨?_, ?_, ?_, ?_⟩, ?_⟩
  all_goals simp +arith [nw_K, nw_N, nw_R, nw_I, nw_T, sr_R, si_I, si_K, si_N, si_T, si_R, sj_K, sj_N, sj_T, sj_R, sj_I, sr_K, sr_N, sr_T, sr_I, hT, hK]
theorem c_X4_init (hl : l.stackTraces = false) {M : zMem} {a : Nat} (hK : zK M a = 5) (hT : zT M = a + 1) (hF : zF M = 0) (ha : a < 100000) : zCm l G mX4_init 2 40 1 600 [.ref a] M (zNq M a 2 (fun M' => eSh M' a ∧ zI M' a 0 = nI 0 ∧ zI M' a 1 = (-1) ∧ ∀ j, zI M' (a + 1) j = 0)) := by
  refine zNq.of (ls0 := [some (.ref a)]) (by decide +kernel) rfl hl rfl (Nat.le_of_ble_eq_true rfl) hT hF rfl ?_
  refine s_aload_n (zdk hX4_init 0 rfl) rfl ?_
  refine s_objInit (zdk hX4_init 1 rfl) ow_X4_3 ow_ins ow_code (by decide) (by decide) ?_
  refine s_aload_n (zdk hX4_init 2 rfl) rfl ?_
  refine s_iconstv (v := nI 0) (zdk hX4_init 3 rfl) zc_iconst_0 ?_
  refine s_putI (zdk hX4_init 4 rfl) fw_X4_9 rfl pw_4_0 (by first | exact hK | simp +arith [nw_K, nw_N, nw_R, nw_I, nw_T, sr_R, si_I, si_K, si_N, si_T, si_R, sj_K, sj_N, sj_T, sj_R, sj_I, sr_K, sr_N, sr_T, sr_I, hT, hK]) ?_
  refine s_aload_n (zdk hX4_init 5 rfl) rfl ?_
  refine s_iconstv (v := (-1)) (zdk hX4_init 6 rfl) zc_iconst_m1 ?_
  refine s_putI (zdk hX4_init 7 rfl) fw_X4_15 rfl pw_4_1 (by first | exact hK | simp +arith [nw_K, nw_N, nw_R, nw_I, nw_T, sr_R, si_I, si_K, si_N, si_T, si_R, sj_K, sj_N, sj_T, sj_R, sj_I, sr_K, sr_N, sr_T, sr_I, hT, hK]) ?_
  refine s_aload_n (zdk hX4_init 8 rfl) rfl ?_
  refine s_sipushv (v := nI 600) (zdk hX4_init 9 rfl) zc_sipush_600 ?_
  refine s_newI (N := 600) (zdk hX4_init 10 rfl) aw_int (by decide) (by decide) (by decide) hF (show zT M + 0 < 1000000 from by omega) ?_
  refine s_topr (b := (a + 1)) (show zT M + 0 = (a + 1) from by omega) ?_
  refine s_putRF (zdk hX4_init 11 rfl) fw_X4_18 rfl pw_4_2 rfl rfl (fun _ => rfl) (fun _ => rfl) (by first | exact hK | simp +arith [nw_K, nw_N, nw_R, nw_I, nw_T, sr_R, si_I, si_K, si_N, si_T, si_R, sj_K, sj_N, sj_T, sj_R, sj_I, sr_K, sr_N, sr_T, sr_I, hT, hK]) ?_
  refine s_aload_n (zdk hX4_init 12 rfl) rfl ?_
  refine s_iconstv (v := nI 0) (zdk hX4_init 13 rfl) zc_iconst_0 ?_
  refine s_putI (zdk hX4_init 14 rfl) fw_X4_22 rfl pw_4_3 (by first | exact hK | simp +arith [nw_K, nw_N, nw_R, nw_I, nw_T, sr_R, si_I, si_K, si_N, si_T, si_R, sj_K, sj_N, sj_T, sj_R, sj_I, sr_K, sr_N, sr_T, sr_I, hT, hK]) ?_
  refine s_aload_n (zdk hX4_init 15 rfl) rfl ?_
  refine s_iconstv (v := nI 0) (zdk hX4_init 16 rfl) zc_iconst_0 ?_
  refine s_putI (zdk hX4_init 17 rfl) fw_X4_25 rfl pw_4_4 (by first | exact hK | simp +arith [nw_K, nw_N, nw_R, nw_I, nw_T, sr_R, si_I, si_K, si_N, si_T, si_R, sj_K, sj_N, sj_T, sj_R, sj_I, sr_K, sr_N, sr_T, sr_I, hT, hK]) ?_
  refine s_aload_n (zdk hX4_init 18 rfl) rfl ?_
  refine s_iconstv (v := nI 0) (zdk hX4_init 19 rfl) zc_iconst_0 ?_
  refine s_putI (zdk hX4_init 20 rfl) fw_X4_28 rfl pw_4_5 (by first | exact hK | simp +arith [nw_K, nw_N, nw_R, nw_I, nw_T, sr_R, si_I, si_K, si_N, si_T, si_R, sj_K, sj_N, sj_T, sj_R, sj_I, sr_K, sr_N, sr_T, sr_I, hT, hK]) ?_
  refine s_aload_n (zdk hX4_init 21 rfl) rfl ?_
  refine s_lconstv (v := lN 0) (zdk hX4_init 22 rfl) rfl ?_
  refine s_putJ (zdk hX4_init 23 rfl) fw_X4_31 rfl pw_4_6 (by first | exact hK | simp +arith [nw_K, nw_N, nw_R, nw_I, nw_T, sr_R, si_I, si_K, si_N, si_T, si_R, sj_K, sj_N, sj_T, sj_R, sj_I, sr_K, sr_N, sr_T, sr_I, hT, hK]) ?_
  refine s_aload_n (zdk hX4_init 24 rfl) rfl ?_
  refine s_iconstv (v := nI 0) (zdk hX4_init 25 rfl) zc_iconst_0 ?_
  refine s_putI (zdk hX4_init 26 rfl) fw_X4_35 rfl pw_4_7 (by first | exact hK | simp +arith [nw_K, nw_N, nw_R, nw_I, nw_T, sr_R, si_I, si_K, si_N, si_T, si_R, sj_K, sj_N, sj_T, sj_R, sj_I, sr_K, sr_N, sr_T, sr_I, hT, hK]) ?_
  refine s_return (zdk hX4_init 27 rfl) rfl ?_
  refine ⟨rfl, (show zT M + 1 = a + 2 from by omega), hF, (((((((((zEq.refl _ _).trans (zEq_I (by omega))).trans (zEq_I (by omega))).trans (zEq_n (by simp only [nw_T, si_T, sj_T, sr_T, hT]; omega))).trans (zEq_R (by omega))).trans (zEq_I (by omega))).trans (zEq_I (by omega))).trans (zEq_I (by omega))).trans (zEq_J (by omega))).trans (zEq_I (by omega)), ?_⟩
  refine ⟨⟨?_, ?_, ?_, ?_⟩, ?_, ?_, fun j => ?_⟩
  all_goals simp +arith [nw_K, nw_N, nw_R, nw_I, nw_T, sr_R, si_I, si_K, si_N, si_T, si_R, sj_K, sj_N, sj_T, sj_R, sj_I, sr_K, sr_N, sr_T, sr_I, hT, hK]
theorem c_X3_init (hl : l.stackTraces = false) {M : zMem} {a : Nat} (hK : zK M a = 4) (hT : zT M = a + 1) (hF : zF M = 0) (ha : a < 100000) : zCm l G mX3_init 2 40 6 164 [.ref a] M (zNq M a 7 (fun M' => nSh M' a)) := by
  refine zNq.of (ls0 := [some (.ref a)]) (by decide +kernel) rfl hl rfl (Nat.le_of_ble_eq_true rfl) hT hF rfl ?_
  refine s_aload_n (zdk hX3_init 0 rfl) rfl ?_
  refine s_objInit (zdk hX3_init 1 rfl) ow_X3_3 ow_ins ow_code (by decide) (by decide) ?_
  refine s_aload_n (zdk hX3_init 2 rfl) rfl ?_
  refine s_iconstv (v := nI 0) (zdk hX3_init 3 rfl) zc_iconst_0 ?_
  refine s_putI (zdk hX3_init 4 rfl) fw_X3_9 rfl pw_3_0 (by first | exact hK | simp +arith [nw_K, nw_N, nw_R, nw_I, nw_T, sr_R, si_I, si_K, si_N, si_T, si_R, sj_K, sj_N, sj_T, sj_R, sj_I, sr_K, sr_N, sr_T, sr_I, hT, hK]) ?_
  refine s_aload_n (zdk hX3_init 5 rfl) rfl ?_
  refine s_lconstv (v := lN 0) (zdk hX3_init 6 rfl) rfl ?_
  refine s_putJ (zdk hX3_init 7 rfl) fw_X3_15 rfl pw_3_1 (by first | exact hK | simp +arith [nw_K, nw_N, nw_R, nw_I, nw_T, sr_R, si_I, si_K, si_N, si_T, si_R, sj_K, sj_N, sj_T, sj_R, sj_I, sr_K, sr_N, sr_T, sr_I, hT, hK]) ?_
  refine s_aload_n (zdk hX3_init 8 rfl) rfl ?_
  refine s_bipushv (v := nI 20) (zdk hX3_init 9 rfl) zc_bipush_20 ?_
  refine s_newI (N := 20) (zdk hX3_init 10 rfl) aw_int (by decide) (by decide) (by decide) hF (show zT M + 0 < 1000000 from by omega) ?_
  refine s_topr (b := (a + 1)) (show zT M + 0 = (a + 1) from by omega) ?_
  refine s_putRF (zdk hX3_init 11 rfl) fw_X3_19 rfl pw_3_2 rfl rfl (fun _ => rfl) (fun _ => rfl) (by first | exact hK | simp +arith [nw_K, nw_N, nw_R, nw_I, nw_T, sr_R, si_I, si_K, si_N, si_T, si_R, sj_K, sj_N, sj_T, sj_R, sj_I, sr_K, sr_N, sr_T, sr_I, hT, hK]) ?_
  refine s_aload_n (zdk hX3_init 12 rfl) rfl ?_
  refine s_bipushv (v := nI 20) (zdk hX3_init 13 rfl) zc_bipush_20 ?_
  refine s_newI (N := 20) (zdk hX3_init 14 rfl) aw_int (by decide) (by decide) (by decide) hF (show zT M + 1 < 1000000 from by omega) ?_
  refine s_topr (b := (a + 2)) (show zT M + 1 = (a + 2) from by omega) ?_
  refine s_putRF (zdk hX3_init 15 rfl) fw_X3_23 rfl pw_3_3 rfl rfl (fun _ => rfl) (fun _ => rfl) (by first | exact hK | simp +arith [nw_K, nw_N, nw_R, nw_I, nw_T, sr_R, si_I, si_K, si_N, si_T, si_R, sj_K, sj_N, sj_T, sj_R, sj_I, sr_K, sr_N, sr_T, sr_I, hT, hK]) ?_
  refine s_aload_n (zdk hX3_init 16 rfl) rfl ?_
  refine s_bipushv (v := nI 20) (zdk hX3_init 17 rfl) zc_bipush_20 ?_
  refine s_newI (N := 20) (zdk hX3_init 18 rfl) aw_int (by decide) (by decide) (by decide) hF (show zT M + 2 < 1000000 from by omega) ?_
  refine s_topr (b := (a + 3)) (show zT M + 2 = (a + 3) from by omega) ?_
  refine s_putRF (zdk hX3_init 19 rfl) fw_X3_26 rfl pw_3_4 rfl rfl (fun _ => rfl) (fun _ => rfl) (by first | exact hK | simp +arith [nw_K, nw_N, nw_R, nw_I, nw_T, sr_R, si_I, si_K, si_N, si_T, si_R, sj_K, sj_N, sj_T, sj_R, sj_I, sr_K, sr_N, sr_T, sr_I, hT, hK]) ?_
  refine s_aload_n (zdk hX3_init 20 rfl) rfl ?_
  refine s_bipushv (v := nI 80) (zdk hX3_init 21 rfl) zc_bipush_80 ?_
  refine s_newJ (N := 80) (zdk hX3_init 22 rfl) aw_long (by decide) (by decide) (by decide) hF (show zT M + 3 < 1000000 from by omega) ?_
  refine s_topr (b := (a + 4)) (show zT M + 3 = (a + 4) from by omega) ?_
  refine s_putRF (zdk hX3_init 23 rfl) fw_X3_29 rfl pw_3_5 rfl rfl (fun _ => rfl) (fun _ => rfl) (by first | exact hK | simp +arith [nw_K, nw_N, nw_R, nw_I, nw_T, sr_R, si_I, si_K, si_N, si_T, si_R, sj_K, sj_N, sj_T, sj_R, sj_I, sr_K, sr_N, sr_T, sr_I, hT, hK]) ?_
  refine s_aload_n (zdk hX3_init 24 rfl) rfl ?_
  refine s_bipushv (v := nI 20) (zdk hX3_init 25 rfl) zc_bipush_20 ?_
  refine s_newZ (N := 20) (zdk hX3_init 26 rfl) aw_boolean (by decide) (by decide) (by decide) hF (show zT M + 4 < 1000000 from by omega) ?_
  refine s_topr (b := (a + 5)) (show zT M + 4 = (a + 5) from by omega) ?_
  refine s_putRF (zdk hX3_init 27 rfl) fw_X3_33 rfl pw_3_6 rfl rfl (fun _ => rfl) (fun _ => rfl) (by first | exact hK | simp +arith [nw_K, nw_N, nw_R, nw_I, nw_T, sr_R, si_I, si_K, si_N, si_T, si_R, sj_K, sj_N, sj_T, sj_R, sj_I, sr_K, sr_N, sr_T, sr_I, hT, hK]) ?_
  refine s_aload_n (zdk hX3_init 28 rfl) rfl ?_
  refine s_iconstv (v := nI 4) (zdk hX3_init 29 rfl) zc_iconst_4 ?_
  refine s_newI (N := 4) (zdk hX3_init 30 rfl) aw_int (by decide) (by decide) (by decide) hF (show zT M + 5 < 1000000 from by omega) ?_
  refine s_topr (b := (a + 6)) (show zT M + 5 = (a + 6) from by omega) ?_
  refine s_putRF (zdk hX3_init 31 rfl) fw_X3_37 rfl pw_3_7 rfl rfl (fun _ => rfl) (fun _ => rfl) (by first | exact hK | simp +arith [nw_K, nw_N, nw_R, nw_I, nw_T, sr_R, si_I, si_K, si_N, si_T, si_R, sj_K, sj_N, sj_T, sj_R, sj_I, sr_K, sr_N, sr_T, sr_I, hT, hK]) ?_
  refine s_aload_n (zdk hX3_init 32 rfl) rfl ?_
  refine s_iconstv (v := (-1)) (zdk hX3_init 33 rfl) zc_iconst_m1 ?_
  refine s_putI (zdk hX3_init 34 rfl) fw_X3_40 rfl pw_3_8 (by first | exact hK | simp +arith [nw_K, nw_N, nw_R, nw_I, nw_T, sr_R, si_I, si_K, si_N, si_T, si_R, sj_K, sj_N, sj_T, sj_R, sj_I, sr_K, sr_N, sr_T, sr_I, hT, hK]) ?_
  refine s_aload_n (zdk hX3_init 35 rfl) rfl ?_
  refine s_iconstv (v := (-1)) (zdk hX3_init 36 rfl) zc_iconst_m1 ?_
  refine s_putI (zdk hX3_init 37 rfl) fw_X3_43 rfl pw_3_9 (by first | exact hK | simp +arith [nw_K, nw_N, nw_R, nw_I, nw_T, sr_R, si_I, si_K, si_N, si_T, si_R, sj_K, sj_N, sj_T, sj_R, sj_I, sr_K, sr_N, sr_T, sr_I, hT, hK]) ?_
  refine s_aload_n (zdk hX3_init 38 rfl) rfl ?_
  refine s_iconstv (v := (-1)) (zdk hX3_init 39 rfl) zc_iconst_m1 ?_
  refine s_putI (zdk hX3_init 40 rfl) fw_X3_46 rfl pw_3_10 (by first | exact hK | simp +arith [nw_K, nw_N, nw_R, nw_I, nw_T, sr_R, si_I, si_K, si_N, si_T, si_R, sj_K, sj_N, sj_T, sj_R, sj_I, sr_K, sr_N, sr_T, sr_I, hT, hK]) ?_
  refine s_aload_n (zdk hX3_init 41 rfl) rfl ?_
  refine s_lconstv (v := lN 0) (zdk hX3_init 42 rfl) rfl ?_
  refine s_putJ (zdk hX3_init 43 rfl) fw_X3_49 rfl pw_3_11 (by first | exact hK | simp +arith [nw_K, nw_N, nw_R, nw_I, nw_T, sr_R, si_I, si_K, si_N, si_T, si_R, sj_K, sj_N, sj_T, sj_R, sj_I, sr_K, sr_N, sr_T, sr_I, hT, hK]) ?_
  refine s_return (zdk hX3_init 44 rfl) rfl ?_
  refine ⟨rfl, (show zT M + 6 = a + 7 from by omega), hF, ((((((((((((((((((zEq.refl _ _).trans (zEq_I (by omega))).trans (zEq_J (by omega))).trans (zEq_n (by simp only [nw_T, si_T, sj_T, sr_T, hT]; omega))).trans (zEq_R (by omega))).trans (zEq_n (by simp only [nw_T, si_T, sj_T, sr_T, hT]; omega))).trans (zEq_R (by omega))).trans (zEq_n (by simp only [nw_T, si_T, sj_T, sr_T, hT]; omega))).trans (zEq_R (by omega))).trans (zEq_n (by simp only [nw_T, si_T, sj_T, sr_T, hT]; omega))).trans (zEq_R (by omega))).trans (zEq_n (by simp only [nw_T, si_T, sj_T, sr_T, hT]; omega))).trans (zEq_R (by omega))).trans (zEq_n (by simp only [nw_T, si_T, sj_T, sr_T, hT]; omega))).trans (zEq_R (by omega))).trans (zEq_I (by omega))).trans (zEq_I (by omega))).trans (zEq_I (by omega))).trans (zEq_J (by omega)), ?_⟩
  refine ⟨?_, ?_, ?_, ?_, ?_, ⟨?_, ?_⟩, ?_, ?_, ?_, ?_, ?_, ?_, ?_, ?_, ?_, ?_, ?_, ?_⟩
  all_goals simp +arith [nw_K, nw_N, nw_R, nw_I, nw_T, sr_R, si_I, si_K, si_N, si_T, si_R, sj_K, sj_N, sj_T, sj_R, sj_I, sr_K, sr_N, sr_T, sr_I, hT, hK]
end
