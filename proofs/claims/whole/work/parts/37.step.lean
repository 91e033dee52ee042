/-! ===== a step is taken ===== -/
theorem zTk_n {M : zMem} {a f fr to c : Nat} {sz : Int32} (h5 : c ≠ a + 5) (h6 : c ≠ a + 6) : zI (zTk M a f fr to sz) c = zI M c := by
  unfold zTk
  rw [zI_In h6, zI_In h6, zI_In h5]
theorem zag_tk {M : zMem} {a f fr to : Nat} {sz : Int32} : zag M (zTk M a f fr to sz) (fun c => c ≠ a + 5 ∧ c ≠ a + 6) := ⟨rfl, fun c hc => ⟨zTk_n hc.1 hc.2, rfl, rfl⟩⟩
def zTs0 (M : zMem) (a n f0 : Nat) (o : Option Nat) (t0 : Nat) : zMem := zsJ (zsI (zsI (zsI (zsI M (a + 1) n (nI f0)) (a + 2) n (zOi o)) (a + 3) n (nI t0)) a 0 (nI (n + 1))) a 1 (zJ M a 1 + zJ M a 11)
theorem zag_ts0 {M : zMem} {a n f0 t0 : Nat} {o : Option Nat} : zag M (zTs0 M a n f0 o t0) (fun c => c < a ∨ a + 7 ≤ c) := by
  unfold zTs0
  exact (((((zag_I _ _ _ _).mono fun c hc => by omega).trans ((zag_I _ _ _ _).mono fun c hc => by omega)).trans ((zag_I _ _ _ _).mono fun c hc => by omega)).trans ((zag_I _ _ _ _).mono fun c hc => by omega)).trans ((zag_J _ _ _ _).mono fun c hc => by omega)
theorem zTs0_a {M : zMem} {a n f0 t0 k : Nat} {o : Option Nat} (hk : k ≠ 0) : zI (zTs0 M a n f0 o t0) a k = zI M a k := by
  unfold zTs0
  rw [zI_J, zI_Ie, zw1_n hk, zI_In (show a ≠ a + 3 by omega), zI_In (show a ≠ a + 2 by omega), zI_In (show a ≠ a + 1 by omega)]
def zTs (M : zMem) (a n : Nat) (g : Nat → Int64) (f0 : Nat) (o : Option Nat) (t0 : Nat) : zMem :=
  match o with
  | none => zTk (zTs0 M a n f0 o t0) a f0 (gN g (58 + 51 * f0 + 1)) t0 (gf g f0 0)
  | some j => zTk (zTk (zTs0 M a n f0 o t0) a f0 (gN g (58 + 51 * f0 + 1)) t0 (gf g f0 0)) a j t0 (gN g (58 + 51 * f0 + 1)) (gf g j 0)
section
variable {l : Launch} {G : zG}
theorem c_X3_takeStep (hl : l.stackTraces = false) {M : zMem} {a s : Nat} {g : Nat → Int64} {p : Nat → Nat} (ha : nSh M a) (h : rSt M s g p) (hd : a + 7 ≤ s ∨ s + 77 ≤ a) {n f0 t0 : Nat} {o : Option Nat} (hn : zI M a 0 = nI n) (hn2 : n < 20) (h8 : zI M a 8 = nI f0) (h9 : zI M a 9 = zOi o) (h10 : zI M a 10 = nI t0) (hf : f0 < gN g 3) (ht : t0 < gN g 2) (ho : ∀ j, o = some j → j < gN g 3) : zCm l G mX3_takeStep 1 40 0 0 [.ref a, .ref s] M (zD none (zTs M a n g f0 o t0)) := by
  refine zCd.of (ls0 := [some (.ref a), some (.ref s), none]) (by decide +kernel) rfl hl rfl (Nat.le_of_ble_eq_true rfl) (by cases o <;> rfl) ?_
  refine s_aload_n (zdk hX3_takeStep_0 0 rfl) rfl ?_
  refine s_getR (zdk hX3_takeStep_0 1 rfl) fw_X3_19 rfl (ha.1) (ha.2.1) ?_
  refine s_aload_n (zdk hX3_takeStep_0 2 rfl) rfl ?_
  refine s_getI (zdk hX3_takeStep_0 3 rfl) fw_X3_9 rfl (ha.1) ?_
  refine s_topi (b := nI n) (hn) ?_
  refine s_aload_n (zdk hX3_takeStep_0 4 rfl) rfl ?_
  refine s_getI (zdk hX3_takeStep_0 5 rfl) fw_X3_40 rfl (ha.1) ?_
  refine s_topi (b := nI f0) (h8) ?_
  refine s_iastoreN (N := 20) (j := n) (zdk hX3_takeStep_0 6 rfl) (ha.2.2.2.2.2.2.1) (ha.2.2.2.2.2.2.2.1) (hn2) (by decide) ?_
  refine s_aload_n (zdk hX3_takeStep_0 7 rfl) rfl ?_
  refine s_getR (zdk hX3_takeStep_0 8 rfl) fw_X3_23 rfl (ha.1) (ha.2.2.1) ?_
  refine s_aload_n (zdk hX3_takeStep_0 9 rfl) rfl ?_
  refine s_getI (zdk hX3_takeStep_0 10 rfl) fw_X3_9 rfl (ha.1) ?_
  refine s_topi (b := nI n) ((by simp only [zJ_I, zI_J, zI_In (show a ≠ a + 1 by omega), zI_In (show a ≠ a + 2 by omega), zI_In (show a ≠ a + 3 by omega)]; exact hn)) ?_
  refine s_aload_n (zdk hX3_takeStep_0 11 rfl) rfl ?_
  refine s_getI (zdk hX3_takeStep_0 12 rfl) fw_X3_43 rfl (ha.1) ?_
  refine s_topi (b := zOi o) ((by simp only [zJ_I, zI_J, zI_In (show a ≠ a + 1 by omega), zI_In (show a ≠ a + 2 by omega), zI_In (show a ≠ a + 3 by omega)]; exact h9)) ?_
  refine s_iastoreN (N := 20) (j := n) (zdk hX3_takeStep_0 13 rfl) (ha.2.2.2.2.2.2.2.2.1) (ha.2.2.2.2.2.2.2.2.2.1) (hn2) (by decide) ?_
  refine s_aload_n (zdk hX3_takeStep_0 14 rfl) rfl ?_
  refine s_getR (zdk hX3_takeStep_0 15 rfl) fw_X3_26 rfl (ha.1) (ha.2.2.2.1) ?_
  refine s_aload_n (zdk hX3_takeStep_0 16 rfl) rfl ?_
  refine s_getI (zdk hX3_takeStep_0 17 rfl) fw_X3_9 rfl (ha.1) ?_
  refine s_topi (b := nI n) ((by simp only [zJ_I, zI_J, zI_In (show a ≠ a + 1 by omega), zI_In (show a ≠ a + 2 by omega), zI_In (show a ≠ a + 3 by omega)]; exact hn)) ?_
  refine s_aload_n (zdk hX3_takeStep_0 18 rfl) rfl ?_
  refine s_getI (zdk hX3_takeStep_0 19 rfl) fw_X3_46 rfl (ha.1) ?_
  refine s_topi (b := nI t0) ((by simp only [zJ_I, zI_J, zI_In (show a ≠ a + 1 by omega), zI_In (show a ≠ a + 2 by omega), zI_In (show a ≠ a + 3 by omega)]; exact h10)) ?_
  refine s_iastoreN (N := 20) (j := n) (zdk hX3_takeStep_0 20 rfl) (ha.2.2.2.2.2.2.2.2.2.2.1) (ha.2.2.2.2.2.2.2.2.2.2.2.1) (hn2) (by decide) ?_
  refine s_aload_n (zdk hX3_takeStep_0 21 rfl) rfl ?_
  refine s_dupr (zdk hX3_takeStep_0 22 rfl) ?_
  refine s_getI (zdk hX3_takeStep_0 23 rfl) fw_X3_9 rfl (ha.1) ?_
  refine s_topi (b := nI n) ((by simp only [zJ_I, zI_J, zI_In (show a ≠ a + 1 by omega), zI_In (show a ≠ a + 2 by omega), zI_In (show a ≠ a + 3 by omega)]; exact hn)) ?_
  refine s_iconstv (v := nI 1) (zdk hX3_takeStep_0 24 rfl) zc_iconst_1 ?_
  refine s_iadd (zdk hX3_takeStep_0 25 rfl) ?_
  refine s_topi (b := nI (n + 1)) (nI_1 n) ?_
  refine s_putI (zdk hX3_takeStep_0 26 rfl) fw_X3_9 rfl pw_3_0 (ha.1) ?_
  refine s_aload_n (zdk hX3_takeStep_0 27 rfl) rfl ?_
  refine s_dupr (zdk hX3_takeStep_0 28 rfl) ?_
  refine s_getJ (zdk hX3_takeStep_0 29 rfl) fw_X3_15 rfl (ha.1) ?_
  refine s_topl (b := zJ M a 1) (rfl) ?_
  refine s_aload_n (zdk hX3_takeStep_0 30 rfl) rfl ?_
  refine s_getJ (zdk hX3_takeStep_0 31 rfl) fw_X3_49 rfl (ha.1) ?_
  refine s_topl (b := zJ M a 11) (rfl) ?_
  refine s_ladd (zdk hX3_takeStep_0 32 rfl) ?_
  refine s_putJ (zdk hX3_takeStep_0 33 rfl) fw_X3_15 rfl pw_3_1 (ha.1) ?_
  refine s_mem (M' := (zTs0 M a n f0 o t0)) (rfl) ?_
  have h5 : rSt (zTs0 M a n f0 o t0) s g p := h.keep (zag_ts0.mono fun b hb => by omega)
  have e8 : zI (zTs0 M a n f0 o t0) a 8 = nI f0 := (zTs0_a (by decide)).trans h8
  have e9 : zI (zTs0 M a n f0 o t0) a 9 = zOi o := (zTs0_a (by decide)).trans h9
  have e10 : zI (zTs0 M a n f0 o t0) a 10 = nI t0 := (zTs0_a (by decide)).trans h10
  have hb2 := h.b.onL hf
  have hT4 := h.b.2.1.2
  have hF20 := h.b.2.2.1.2
  refine s_aload_n (zdk hX3_takeStep_0 34 rfl) rfl ?_
  refine s_getR (zdk hX3_takeStep_0 35 rfl) fw_X3_80 rfl (h5.K) (h5.r6) ?_
  refine s_aload_n (zdk hX3_takeStep_0 36 rfl) rfl ?_
  refine s_getI (zdk hX3_takeStep_0 37 rfl) fw_X3_40 rfl (ha.1) ?_
  refine s_topi (b := nI f0) (e8) ?_
  refine s_aaloadN (N := 20) (j := f0) (zdk hX3_takeStep_0 38 rfl) (h5.fK) (by decide) (h5.fN) (h5.fL hf) (by decide) (h5.rR hf) ?_
  refine s_getI (zdk hX3_takeStep_0 39 rfl) fw_X3_104 rfl ((h5.rS hf).1) ?_
  refine s_topi (b := nI (gN g (58 + 51 * f0 + 1))) ((h5.f2 hf).trans (h.b.on hf)) ?_
  refine s_istore_n (zdk hX3_takeStep_0 40 rfl) (Nat.le_of_ble_eq_true rfl) ?_
  refine s_ls (ls' := [some (.ref a), some (.ref s), some (.int (nI (gN g (58 + 51 * f0 + 1))))]) rfl ?_
  refine s_aload_n (zdk hX3_takeStep_0 41 rfl) rfl ?_
  refine s_aload_n (zdk hX3_takeStep_0 42 rfl) rfl ?_
  refine s_getI (zdk hX3_takeStep_0 43 rfl) fw_X3_40 rfl (ha.1) ?_
  refine s_topi (b := nI f0) (e8) ?_
  refine s_aload_n (zdk hX3_takeStep_0 44 rfl) rfl ?_
  refine s_getR (zdk hX3_takeStep_0 45 rfl) fw_X3_80 rfl (h5.K) (h5.r6) ?_
  refine s_aload_n (zdk hX3_takeStep_0 46 rfl) rfl ?_
  refine s_getI (zdk hX3_takeStep_0 47 rfl) fw_X3_40 rfl (ha.1) ?_
  refine s_topi (b := nI f0) (e8) ?_
  refine s_aaloadN (N := 20) (j := f0) (zdk hX3_takeStep_0 48 rfl) (h5.fK) (by decide) (h5.fN) (h5.fL hf) (by decide) (h5.rR hf) ?_
  refine s_getI (zdk hX3_takeStep_0 49 rfl) fw_X3_123 rfl ((h5.rS hf).1) ?_
  refine s_topi (b := gf g f0 0) (h5.f1 hf) ?_
  refine s_iload_n (zdk hX3_takeStep_0 50 rfl) rfl ?_
  refine s_aload_n (zdk hX3_takeStep_0 51 rfl) rfl ?_
  refine s_getI (zdk hX3_takeStep_0 52 rfl) fw_X3_46 rfl (ha.1) ?_
  refine s_topi (b := nI t0) (e10) ?_
  refine s_callV0 (ci := 3) [.int (nI f0), .int (gf g f0 0), .int (nI (gN g (58 + 51 * f0 + 1))), .int (nI t0)] (zdk hX3_takeStep_0 53 rfl) cw_X3_130 (ha.1) (by decide) rfl rfl rfl (Nat.le_of_ble_eq_true rfl) (by decide) (c_X3_takeAway hl (show nSh (zTs0 M a n f0 o t0) a from ha) (by omega) (by omega) (by omega) (gf g f0 0)) ?_
  have h6 : rSt (zTk (zTs0 M a n f0 o t0) a f0 (gN g (58 + 51 * f0 + 1)) t0 (gf g f0 0)) s g p := h5.keep (zag_tk.mono fun b hb => by omega)
  have r6 : zI (zTk (zTs0 M a n f0 o t0) a f0 (gN g (58 + 51 * f0 + 1)) t0 (gf g f0 0)) a = zI (zTs0 M a n f0 o t0) a := zTk_n (by omega) (by omega)
  refine s_aload_n (zdk hX3_takeStep_0 54 rfl) rfl ?_
  refine s_getI (zdk hX3_takeStep_0 55 rfl) fw_X3_43 rfl (ha.1) ?_
  refine s_topi (b := zOi o) ((congrFun r6 9).trans e9) ?_
  refine s_iconstv (v := (-1)) (zdk hX3_takeStep_0 56 rfl) zc_iconst_m1 ?_
  cases o with
  | none =>
    rw [show zOi none = (-1) from rfl]
    refine s_icmp_eq 133 (zdk hX3_takeStep_0 57 rfl) (by decide) (fun c105 => ?_) (fun c105 => ?_)
    · refine s_return (zdk hX3_takeStep_1 11 rfl) rfl ?_
      exact ⟨rfl, rfl⟩
    · exact absurd rfl c105
  | some j =>
    have hj := ho j rfl
    rw [show zOi (some j) = nI j from rfl]
    refine s_icmp_eq 133 (zdk hX3_takeStep_0 57 rfl) (by decide) (fun c105 => ?_) (fun c105 => ?_)
    · exact absurd c105 (nI_ne1 (by omega))
    · refine s_aload_n (zdk hX3_takeStep_0 58 rfl) rfl ?_
      refine s_aload_n (zdk hX3_takeStep_0 59 rfl) rfl ?_
      refine s_getI (zdk hX3_takeStep_1 0 rfl) fw_X3_43 rfl (ha.1) ?_
      refine s_topi (b := nI j) ((congrFun r6 9).trans e9) ?_
      refine s_aload_n (zdk hX3_takeStep_1 1 rfl) rfl ?_
      refine s_getR (zdk hX3_takeStep_1 2 rfl) fw_X3_80 rfl (h6.K) (h6.r6) ?_
      refine s_aload_n (zdk hX3_takeStep_1 3 rfl) rfl ?_
      refine s_getI (zdk hX3_takeStep_1 4 rfl) fw_X3_43 rfl (ha.1) ?_
      refine s_topi (b := nI j) ((congrFun r6 9).trans e9) ?_
      refine s_aaloadN (N := 20) (j := j) (zdk hX3_takeStep_1 5 rfl) (h6.fK) (by decide) (h6.fN) (h6.fL hj) (by decide) (h6.rR hj) ?_
      refine s_getI (zdk hX3_takeStep_1 6 rfl) fw_X3_123 rfl ((h6.rS hj).1) ?_
      refine s_topi (b := gf g j 0) (h6.f1 hj) ?_
      refine s_aload_n (zdk hX3_takeStep_1 7 rfl) rfl ?_
      refine s_getI (zdk hX3_takeStep_1 8 rfl) fw_X3_46 rfl (ha.1) ?_
      refine s_topi (b := nI t0) ((congrFun r6 10).trans e10) ?_
      refine s_iload_n (zdk hX3_takeStep_1 9 rfl) rfl ?_
      refine s_callV0 (ci := 3) [.int (nI j), .int (gf g j 0), .int (nI t0), .int (nI (gN g (58 + 51 * f0 + 1)))] (zdk hX3_takeStep_1 10 rfl) cw_X3_130 (ha.1) (by decide) rfl rfl rfl (Nat.le_of_ble_eq_true rfl) (by decide) (c_X3_takeAway hl (show nSh (zTk (zTs0 M a n f0 (some j) t0) a f0 (gN g (58 + 51 * f0 + 1)) t0 (gf g f0 0)) a from ha) (by omega) (by omega) (by omega) (gf g j 0)) ?_
      refine s_return (zdk hX3_takeStep_1 11 rfl) rfl ?_
      exact ⟨rfl, rfl⟩
end
