/-! ===== a period ends ===== -/
section
variable {l : Launch} {G : zG}
theorem c_score (hl : l.stackTraces = false) {M : zMem} {s f : Nat} {g : Nat → Int64} {p : Nat → Nat} (h : rSt M s g p) (hf : f < gN g 3) : zCm l G mX0_scoreForecast 2 46 0 0 [.ref (s + 17 + 3 * p f), .int (nI (zph g 0))] M (zU M s none (oScore g f) p) := by
  have hp := h.pL (h.fL hf)
  exact (c_X0_scoreForecast hl (h.rS hf) (h.ph 0)).toU (zag_score (by omega)) (h.score hf)
theorem c_learn (hl : l.stackTraces = false) {M : zMem} {s f ph : Nat} {g : Nat → Int64} {p : Nat → Nat} (h : rSt M s g p) (hf : f < gN g 3) (hph : ph < 12) (u : Int32) : zCm l G mX0_learnSeason 0 0 0 0 [.ref (s + 17 + 3 * p f), .int (nI ph), .int u, .int (its g 1)] M (zU M s none (oLearn g f ph u) p) := by
  have hp := h.pL (h.fL hf)
  exact (c_X0_learnSeason hl (h.rS hf) hph u (its g 1)).toU ((zag_I _ _ _ _).mono fun b hb => by omega) (h.learn hf hph)
end
def oEnd (g : Nat → Int64) : Nat → Int64 := zwL (zwL (oCl g (gN g 3)) 4 (nI (gN g 4 + 1)).toInt64) 5 (nI 0).toInt64
section
variable {l : Launch} {G : zG}
theorem w_X5_endPeriod_11 (hl : l.stackTraces = false) {M : zMem} {s : Nat} {g : Nat → Int64} {p : Nat → Nat} (hph : zph g 0 < 12) (hF : gN g 3 ≤ 20) (hP : gN g 4 < 9999) : ∀ (k : Nat) (M1 : zMem) (i : Nat) (x5 : Option Value), zag M M1 (fun b => b < s ∨ s + 77 ≤ b) → rSt M1 s (oCl g i) p → (∀ k, k < 6 → oCl g i k = g k) → i ≤ gN g 3 → gN g 3 - i < k → zS l G mX5_endPeriod 3 80 0 0 11 [some (.ref s), some (.int (nI (zph g 0))), some (.long (oClS g i)), none, some (.int (nI i)), x5] [] M1 (zU M s (some (.long (oClS g (gN g 3)))) (oEnd g) p) := by
  intro k
  induction k with
  | zero => intros; omega
  | succ k ih =>
    intro M1 i x5 e h hN hi hk
    have n3 : gN (oCl g i) 3 = gN g 3 := gN_eq (hN 3 (by omega))
    refine s_iload (zdk hX5_endPeriod 8 rfl) rfl ?_
    refine s_aload_n (zdk hX5_endPeriod 9 rfl) rfl ?_
    refine s_getI (zdk hX5_endPeriod 10 rfl) fw_X5_24 rfl (h.K) ?_
    refine s_topi (b := nI (gN g 3)) (h.v4.trans (by rw [n3])) ?_
    refine s_icmp_ge 70 (zdk hX5_endPeriod 11 rfl) (by decide) (fun c17 => ?_) (fun c17 => ?_)
    · obtain rfl : i = gN g 3 := by have := nle c17 (by omega) (by omega); omega
      refine s_aload_n (zdk hX5_endPeriod 37 rfl) rfl ?_
      refine s_dupr (zdk hX5_endPeriod 38 rfl) ?_
      refine s_getI (zdk hX5_endPeriod 39 rfl) fw_X5_18 rfl (h.K) ?_
      refine s_topi (b := nI (gN g 4)) (h.v2.trans (by rw [gN_eq (hN 4 (by omega))])) ?_
      refine s_iconstv (v := nI 1) (zdk hX5_endPeriod 40 rfl) zc_iconst_1 ?_
      refine s_iadd (zdk hX5_endPeriod 41 rfl) ?_
      refine s_topi (b := nI (gN g 4 + 1)) (nI_1 _) ?_
      refine s_putI (zdk hX5_endPeriod 42 rfl) fw_X5_18 rfl pw_5_2 (h.K) ?_
      refine s_aload_n (zdk hX5_endPeriod 43 rfl) rfl ?_
      refine s_getR (zdk hX5_endPeriod 44 rfl) fw_X5_42 rfl (h.K) (h.r7) ?_
      refine s_iconstv (v := nI 0) (zdk hX5_endPeriod 45 rfl) zc_iconst_0 ?_
      refine s_putI (zdk hX5_endPeriod 46 rfl) fw_X5_58 rfl pw_2_0 (h.mS.1) ?_
      refine s_lload_n (zdk hX5_endPeriod 47 rfl) rfl ?_
      refine s_lreturn (zdk hX5_endPeriod 48 rfl) rfl  ?_
      refine ⟨rfl, (e.trans ((zag_I _ _ _ _).mono fun b hb => by omega)).trans ((zag_I _ _ _ _).mono fun b hb => by omega), ?_⟩
      have h2 := (h.per (v := nI (gN g 4 + 1)) (h.b.per (by omega))).mct (n := 0) (by omega)
      exact h2
    · have hi2 : i < gN g 3 := nlt c17 (by omega) (by omega)
      have hi3 : i < gN (oCl g i) 3 := by rw [n3]; exact hi2
      have hk24 := h.b.keL hi3
      refine s_aload_n (zdk hX5_endPeriod 12 rfl) rfl ?_
      refine s_getR (zdk hX5_endPeriod 13 rfl) fw_X5_35 rfl (h.K) (h.r6) ?_
      refine s_iload (zdk hX5_endPeriod 14 rfl) rfl ?_
      refine s_aaloadN (N := 20) (j := i) (zdk hX5_endPeriod 15 rfl) (h.fK) (by decide) (h.fN) (h.fL hi3) (by decide) (h.rR hi3) ?_
      refine s_astore (zdk hX5_endPeriod 16 rfl) (Nat.le_of_ble_eq_true rfl) ?_
      refine s_ls (ls' := [some (.ref s), some (.int (nI (zph g 0))), some (.long (oClS g i)), none, some (.int (nI i)), some (.ref (s + 17 + 3 * p i))]) rfl ?_
      refine s_lload_n (zdk hX5_endPeriod 17 rfl) rfl ?_
      refine s_aload_n (zdk hX5_endPeriod 18 rfl) rfl ?_
      refine s_aload (zdk hX5_endPeriod 19 rfl) rfl ?_
      refine s_callV1 (ci := 5) [.ref (s + 17 + 3 * p i)] (zdk hX5_endPeriod 20 rfl) cw_X5_124 (h.K) (by decide) rfl rfl rfl (Nat.le_of_ble_eq_true rfl) (by decide) (c_X5_payFor hl h hi3) ?_
      intro v2 M2 q2
      obtain ⟨q3, e2, h2⟩ := q2
      cases q3
      have hi4 : i < gN (oPay (oCl g i) i) 3 := by rw [gN_eq (oPay_n (by omega))]; exact hi3
      have hz : zph (oPay (oCl g i) i) 0 = zph g 0 := by unfold zph; rw [gN_eq (oPay_n (by omega)), gN_eq (oPay_n (by omega)), gN_eq (hN 4 (by omega)), gN_eq (hN 0 (by omega))]
      refine s_ladd (zdk hX5_endPeriod 21 rfl) ?_
      refine s_lstore_n (zdk hX5_endPeriod 22 rfl) (Nat.le_of_ble_eq_true rfl) ?_
      refine s_ls (ls' := [some (.ref s), some (.int (nI (zph g 0))), some (.long ((oClS g i) + (oKp (oCl g i) i + oRd (oCl g i) i))), none, some (.int (nI i)), some (.ref (s + 17 + 3 * p i))]) rfl ?_
      refine s_aload (zdk hX5_endPeriod 23 rfl) rfl ?_
      refine s_iload_n (zdk hX5_endPeriod 24 rfl) rfl ?_
      have cs := c_score (l := l) (G := G) hl h2 hi4
      rw [hz] at cs
      refine s_callV1 (ci := 0) [.int (nI (zph g 0))] (zdk hX5_endPeriod 25 rfl) cw_X5_128 ((h2.rS hi4).1) (by decide) rfl rfl rfl (Nat.le_of_ble_eq_true rfl) (by decide) (cs) ?_
      intro v3 M3 q2
      obtain ⟨q3, e3, h3⟩ := q2
      cases q3
      have hi5 : i < gN (oScore (oPay (oCl g i) i) i) 3 := by rw [gN_eq (oScore_n (by omega))]; exact hi4
      refine s_aload (zdk hX5_endPeriod 26 rfl) rfl ?_
      refine s_iload_n (zdk hX5_endPeriod 27 rfl) rfl ?_
      refine s_aload (zdk hX5_endPeriod 28 rfl) rfl ?_
      refine s_getI (zdk hX5_endPeriod 29 rfl) fw_X5_131 rfl ((h3.rS hi5).1) ?_
      refine s_topi (b := gf (oScore (oPay (oCl g i) i) i) i 2) (h3.f3 hi5) ?_
      refine s_aload_n (zdk hX5_endPeriod 30 rfl) rfl ?_
      refine s_getI (zdk hX5_endPeriod 31 rfl) fw_X5_15 rfl (h3.K) ?_
      refine s_topi (b := its (oScore (oPay (oCl g i) i) i) 1) (h3.v1) ?_
      refine s_callV1 (ci := 0) [.int (nI (zph g 0)), .int (gf (oScore (oPay (oCl g i) i) i) i 2), .int (its (oScore (oPay (oCl g i) i) i) 1)] (zdk hX5_endPeriod 32 rfl) cw_X5_134 ((h3.rS hi5).1) (by decide) rfl rfl rfl (Nat.le_of_ble_eq_true rfl) (by decide) (c_learn hl h3 hi5 hph (gf (oScore (oPay (oCl g i) i) i) i 2)) ?_
      intro v4 M4 q2
      obtain ⟨q3, e4, h4⟩ := q2
      cases q3
      have hi6 : i < gN (oLearn (oScore (oPay (oCl g i) i) i) i (zph g 0) (gf (oScore (oPay (oCl g i) i) i) i 2)) 3 := by rw [gN_eq (oLearn_n hph (by omega))]; exact hi5
      refine s_aload (zdk hX5_endPeriod 33 rfl) rfl ?_
      refine s_callV1 (ci := 0) [] (zdk hX5_endPeriod 34 rfl) cw_X5_138 ((h4.rS hi6).1) (by decide) rfl rfl rfl (Nat.le_of_ble_eq_true rfl) (by decide) (c_keep hl h4 hi6) ?_
      intro v5 M5 q2
      obtain ⟨q3, e5, h5⟩ := q2
      cases q3
      have hk6 := h4.b.keL hi6
      have hN5 : ∀ k, k < 6 → oCl g (i + 1) k = g k := fun k hk => (oKeep_n hk6 (by omega)).trans ((oLearn_n hph (by omega)).trans ((oScore_n (by omega)).trans ((oPay_n (by omega)).trans (hN k hk))))
      refine s_iinc (r := nI (i + 1)) (zdk hX5_endPeriod 35 rfl) (Nat.le_of_ble_eq_true rfl) rfl (nI_1 i) ?_
      refine s_ls (ls' := [some (.ref s), some (.int (nI (zph g 0))), some (.long ((oClS g i) + (oKp (oCl g i) i + oRd (oCl g i) i))), none, some (.int (nI (i + 1))), some (.ref (s + 17 + 3 * p i))]) rfl ?_
      refine s_goto 11 (zdk hX5_endPeriod 36 rfl) (by decide) ?_
      exact ih M5 (i + 1) _ ((((e.trans e2).trans e3).trans e4).trans e5) h5 hN5 (by omega) (by omega)
theorem c_X5_endPeriod (hl : l.stackTraces = false) {M : zMem} {s : Nat} {g : Nat → Int64} {p : Nat → Nat} (h : rSt M s g p) (hP : gN g 4 < 9999) : zCm l G mX5_endPeriod 3 80 0 0 [.ref s] M (zU M s (some (.long (oClS g (gN g 3)))) (oEnd g) p) := by
  refine zCu.of (ls0 := [some (.ref s), none, none, none, none, none]) (by decide +kernel) rfl hl rfl (Nat.le_of_ble_eq_true rfl) ?_
  refine s_aload_n (zdk hX5_endPeriod 0 rfl) rfl ?_
  refine s_iconstv (v := nI 0) (zdk hX5_endPeriod 1 rfl) zc_iconst_0 ?_
  refine s_callV0 (ci := 5) [.int (nI 0)] (zdk hX5_endPeriod 2 rfl) cw_X5_92 (h.K) (by decide) rfl rfl rfl (Nat.le_of_ble_eq_true rfl) (by decide) (c_X5_phaseAhead hl h (by omega)) ?_
  refine s_istore_n (zdk hX5_endPeriod 3 rfl) (Nat.le_of_ble_eq_true rfl) ?_
  refine s_ls (ls' := [some (.ref s), some (.int (nI (zph g 0))), none, none, none, none]) rfl ?_
  refine s_lconstv (v := lN 0) (zdk hX5_endPeriod 4 rfl) rfl ?_
  refine s_lstore_n (zdk hX5_endPeriod 5 rfl) (Nat.le_of_ble_eq_true rfl) ?_
  refine s_ls (ls' := [some (.ref s), some (.int (nI (zph g 0))), some (.long (lN 0)), none, none, none]) rfl ?_
  refine s_iconstv (v := nI 0) (zdk hX5_endPeriod 6 rfl) zc_iconst_0 ?_
  refine s_istore (zdk hX5_endPeriod 7 rfl) (Nat.le_of_ble_eq_true rfl) ?_
  refine s_ls (ls' := [some (.ref s), some (.int (nI (zph g 0))), some (.long (lN 0)), none, some (.int (nI 0)), none]) rfl ?_
  exact w_X5_endPeriod_11 hl (h.ph 0) h.b.2.2.1.2 hP (gN g 3 + 1) M 0 none (zag.refl _ _) h (fun _ _ => rfl) (by omega) (by omega)
end
