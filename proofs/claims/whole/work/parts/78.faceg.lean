/-! ===== the face: plans ===== -/
section
variable {l : Launch} {G : zG}
theorem c_makePlanQ (hl : l.stackTraces = false) {M : zMem} {g : Nat → Int64} {p : Nat → Nat} (ha : nSh M 5) (h : rSt M 630 g p) {n : Nat} (hn : n ≤ 24) (ht2 : 0 < gN g 2) {q : zPs} (hq : plQ M g n = q) : zCm l G mX3_makePlan 3 110 0 0 [.ref 5, .ref 630, .int (nI n)] M (zPQ M 5 none (zgA g n (zJ M (5 + 4)) (gN g 3)) q) := by
  subst hq
  exact c_X3_makePlan hl ha h (by omega) hn ht2
theorem c_X8_steps_x (hl : l.stackTraces = false) {M : zMem} {g : Nat → Int64} {p : Nat → Nat} (hx : xSh M) (h : rSt M 630 g p) (hf : zF M = 1) (ht2 : 0 < gN g 2) (n : Int32) (hn : ¬ (nI 1 ≤ n ∧ n ≤ nI 24)) : zCx2 l G mX8_steps 10 400 5 30 [.ref 0, .int (n)] M (zXr (eo (nI 1 ≤ n ∧ n ≤ nI 24) 1 none) M (fun _ _ => False)) := by
  refine zCxr.of (ls0 := [some (.ref 0), some (.int (n))]) (by decide +kernel) rfl hl rfl (Nat.le_of_ble_eq_true rfl) hf (fun v9 M9 q9 => q9.elim) ?_
  have h20 := h.b.2.2.1.2
  have h4 := h.b.2.1.2
  refine s_iload_n (zdk hX8_steps 0 rfl) rfl ?_
  refine s_callSXa [.int (n)] (zdk hX8_steps 1 rfl) cw_X8_217 rfl (Nat.le_of_ble_eq_true rfl) (by decide) (c_X8_requirePeriods hl hf n) rfl (fun x9 M9 q9 => ?_) (fun v9 M9 q9 => ?_)
  · obtain ⟨e9, rfl⟩ := q9
    obtain ⟨e7, rfl⟩ := eo_x e9
    exact ⟨eo_n e7, rfl⟩
  obtain ⟨e9, r9, m9⟩ := q9
  cases r9
  rw [m9]
  have h1 := eo_r e9
  exact absurd h1 hn
theorem c_X8_steps (hl : l.stackTraces = false) {M : zMem} {g : Nat → Int64} {p : Nat → Nat} (hx : xSh M) (h : rSt M 630 g p) (hf : zF M = 1) (ht2 : 0 < gN g 2) {nn : Nat} (hn1 : 1 ≤ nn) (hn24 : nn ≤ 24) {q : zPs} (hqe : plQ M g nn = q) : zCx2 l G mX8_steps 10 400 5 30 [.ref 0, .int (nI nn)] M (zXr none M (plP M (some (.int (nI q.1))))) := by
  refine zCxr.of (ls0 := [some (.ref 0), some (.int (nI nn))]) (by decide +kernel) rfl hl rfl (Nat.le_of_ble_eq_true rfl) hf (fun v9 M9 q9 => zsh_F q9.2.1.1) ?_
  have h20 := h.b.2.2.1.2
  have h4 := h.b.2.1.2
  refine s_iload_n (zdk hX8_steps 0 rfl) rfl ?_
  refine s_callSXa [.int (nI nn)] (zdk hX8_steps 1 rfl) cw_X8_217 rfl (Nat.le_of_ble_eq_true rfl) (by decide) (c_X8_requirePeriods hl hf (nI nn)) rfl (fun x9 M9 q9 => ?_) (fun v9 M9 q9 => ?_)
  · obtain ⟨e9, rfl⟩ := q9
    obtain ⟨e7, rfl⟩ := eo_x e9
    exact absurd (⟨nI_le hn1 (by omega), nI_le hn24 (by omega)⟩) e7
  obtain ⟨e9, r9, m9⟩ := q9
  cases r9
  rw [m9]
  refine s_aload_n (zdk hX8_steps 2 rfl) rfl ?_
  refine s_getR (zdk hX8_steps 3 rfl) fw_X8_26 rfl (hx.K) (show _ = some 5 from (hx.r (i := 2) rfl)) ?_
  refine s_aload_n (zdk hX8_steps 4 rfl) rfl ?_
  refine s_getR (zdk hX8_steps 5 rfl) fw_X8_40 rfl (hx.K) (show _ = some 630 from (hx.r (i := 4) rfl)) ?_
  refine s_iload_n (zdk hX8_steps 6 rfl) rfl ?_
  refine s_callV1 (ci := 3) [.ref 630, .int (nI nn)] (zdk hX8_steps 7 rfl) cw_X8_232 (hx.pl.1) (by decide) rfl rfl rfl (Nat.le_of_ble_eq_true rfl) (by decide) (c_makePlanQ hl hx.pl h (n := nn) hn24 ht2 hqe) ?_
  intro v2 M2 q2
  obtain ⟨q3, e2, hq⟩ := q2
  cases q3
  have hx2 : xSh M2 := hx.keepP e2 hq.1
  have h2 : rSt M2 630 g p := h.keep (e2.mono fun b hb => by omega)
  refine s_aload_n (zdk hX8_steps 8 rfl) rfl ?_
  refine s_getR (zdk hX8_steps 9 rfl) fw_X8_26 rfl (hx2.K) (show _ = some 5 from (hx2.r (i := 2) rfl)) ?_
  refine s_getI (zdk hX8_steps 10 rfl) fw_X8_236 rfl (hx2.pl.1) ?_
  refine s_topi (b := nI q.1) (hq.2.1) ?_
  refine s_ireturn (zdk hX8_steps 11 rfl) rfl rfl ?_
  exact ⟨rfl, rfl, e2, hq.1⟩
theorem c_X8_saving_x (hl : l.stackTraces = false) {M : zMem} {g : Nat → Int64} {p : Nat → Nat} (hx : xSh M) (h : rSt M 630 g p) (hf : zF M = 1) (ht2 : 0 < gN g 2) (n : Int32) (hn : ¬ (nI 1 ≤ n ∧ n ≤ nI 24)) : zCx2 l G mX8_saving 10 400 5 30 [.ref 0, .int (n)] M (zXr (eo (nI 1 ≤ n ∧ n ≤ nI 24) 1 none) M (fun _ _ => False)) := by
  refine zCxr.of (ls0 := [some (.ref 0), some (.int (n))]) (by decide +kernel) rfl hl rfl (Nat.le_of_ble_eq_true rfl) hf (fun v9 M9 q9 => q9.elim) ?_
  have h20 := h.b.2.2.1.2
  have h4 := h.b.2.1.2
  refine s_iload_n (zdk hX8_saving 0 rfl) rfl ?_
  refine s_callSXa [.int (n)] (zdk hX8_saving 1 rfl) cw_X8_217 rfl (Nat.le_of_ble_eq_true rfl) (by decide) (c_X8_requirePeriods hl hf n) rfl (fun x9 M9 q9 => ?_) (fun v9 M9 q9 => ?_)
  · obtain ⟨e9, rfl⟩ := q9
    obtain ⟨e7, rfl⟩ := eo_x e9
    exact ⟨eo_n e7, rfl⟩
  obtain ⟨e9, r9, m9⟩ := q9
  cases r9
  rw [m9]
  have h1 := eo_r e9
  exact absurd h1 hn
theorem c_X8_saving (hl : l.stackTraces = false) {M : zMem} {g : Nat → Int64} {p : Nat → Nat} (hx : xSh M) (h : rSt M 630 g p) (hf : zF M = 1) (ht2 : 0 < gN g 2) {nn : Nat} (hn1 : 1 ≤ nn) (hn24 : nn ≤ 24) {q : zPs} (hqe : plQ M g nn = q) : zCx2 l G mX8_saving 10 400 5 30 [.ref 0, .int (nI nn)] M (zXr none M (plP M (some (.long (q.2.1))))) := by
  refine zCxr.of (ls0 := [some (.ref 0), some (.int (nI nn))]) (by decide +kernel) rfl hl rfl (Nat.le_of_ble_eq_true rfl) hf (fun v9 M9 q9 => zsh_F q9.2.1.1) ?_
  have h20 := h.b.2.2.1.2
  have h4 := h.b.2.1.2
  refine s_iload_n (zdk hX8_saving 0 rfl) rfl ?_
  refine s_callSXa [.int (nI nn)] (zdk hX8_saving 1 rfl) cw_X8_217 rfl (Nat.le_of_ble_eq_true rfl) (by decide) (c_X8_requirePeriods hl hf (nI nn)) rfl (fun x9 M9 q9 => ?_) (fun v9 M9 q9 => ?_)
  · obtain ⟨e9, rfl⟩ := q9
    obtain ⟨e7, rfl⟩ := eo_x e9
    exact absurd (⟨nI_le hn1 (by omega), nI_le hn24 (by omega)⟩) e7
  obtain ⟨e9, r9, m9⟩ := q9
  cases r9
  rw [m9]
  refine s_aload_n (zdk hX8_saving 2 rfl) rfl ?_
  refine s_getR (zdk hX8_saving 3 rfl) fw_X8_26 rfl (hx.K) (show _ = some 5 from (hx.r (i := 2) rfl)) ?_
  refine s_aload_n (zdk hX8_saving 4 rfl) rfl ?_
  refine s_getR (zdk hX8_saving 5 rfl) fw_X8_40 rfl (hx.K) (show _ = some 630 from (hx.r (i := 4) rfl)) ?_
  refine s_iload_n (zdk hX8_saving 6 rfl) rfl ?_
  refine s_callV1 (ci := 3) [.ref 630, .int (nI nn)] (zdk hX8_saving 7 rfl) cw_X8_232 (hx.pl.1) (by decide) rfl rfl rfl (Nat.le_of_ble_eq_true rfl) (by decide) (c_makePlanQ hl hx.pl h (n := nn) hn24 ht2 hqe) ?_
  intro v2 M2 q2
  obtain ⟨q3, e2, hq⟩ := q2
  cases q3
  have hx2 : xSh M2 := hx.keepP e2 hq.1
  have h2 : rSt M2 630 g p := h.keep (e2.mono fun b hb => by omega)
  refine s_aload_n (zdk hX8_saving 8 rfl) rfl ?_
  refine s_getR (zdk hX8_saving 9 rfl) fw_X8_26 rfl (hx2.K) (show _ = some 5 from (hx2.r (i := 2) rfl)) ?_
  refine s_getJ (zdk hX8_saving 10 rfl) fw_X8_248 rfl (hx2.pl.1) ?_
  refine s_topl (b := q.2.1) (hq.2.2.1) ?_
  refine s_lreturn (zdk hX8_saving 11 rfl) rfl  ?_
  exact ⟨rfl, rfl, e2, hq.1⟩
theorem c_X8_withRoom_x (hl : l.stackTraces = false) {M : zMem} {g : Nat → Int64} {p : Nat → Nat} (hx : xSh M) (h : rSt M 630 g p) (hf : zF M = 1) (ht2 : 0 < gN g 2) (t m n : Int32) (hn : ¬ (inN t (gN g 2) ∧ (nI 0 ≤ m ∧ m ≤ nI 99999) ∧ (nI 1 ≤ n ∧ n ≤ nI 24))) : zCx2 l G mX8_withRoom 10 400 5 30 [.ref 0, .int (t), .int (m), .int (n)] M (zXr (eo (inN t (gN g 2)) 2 (eo (nI 0 ≤ m ∧ m ≤ nI 99999) 1 (eo (nI 1 ≤ n ∧ n ≤ nI 24) 1 none))) M (fun _ _ => False)) := by
  refine zCxr.of (ls0 := [some (.ref 0), some (.int (t)), some (.int (m)), some (.int (n)), none, none]) (by decide +kernel) rfl hl rfl (Nat.le_of_ble_eq_true rfl) hf (fun v9 M9 q9 => q9.elim) ?_
  have h20 := h.b.2.2.1.2
  have h4 := h.b.2.1.2
  refine s_aload_n (zdk hX8_withRoom 0 rfl) rfl ?_
  refine s_iload_n (zdk hX8_withRoom 1 rfl) rfl ?_
  refine s_callVXa (ci := 8) [.int (t)] (zdk hX8_withRoom 2 rfl) cw_X8_125 (hx.K) (by decide) rfl rfl rfl (Nat.le_of_ble_eq_true rfl) (by decide) (c_X8_requireTier hl hx h hf t) rfl (fun x9 M9 q9 => ?_) (fun v9 M9 q9 => ?_)
  · obtain ⟨e9, rfl⟩ := q9
    obtain ⟨e7, rfl⟩ := eo_x e9
    exact ⟨eo_n e7, rfl⟩
  obtain ⟨e9, r9, m9⟩ := q9
  cases r9
  rw [m9]
  have h1 := eo_r e9
  refine s_iload_n (zdk hX8_withRoom 3 rfl) rfl ?_
  refine s_iconstv (v := nI 0) (zdk hX8_withRoom 4 rfl) zc_iconst_0 ?_
  refine s_ldc (zdk hX8_withRoom 5 rfl) kw_X8_251 ?_
  refine s_topi (b := nI 99999) (by decide) ?_
  refine s_callSXa [.int (m), .int (nI 0), .int (nI 99999)] (zdk hX8_withRoom 6 rfl) cw_X8_206 rfl (Nat.le_of_ble_eq_true rfl) (by decide) (c_X8_requireWithin hl hf m (nI 0) (nI 99999)) rfl (fun x9 M9 q9 => ?_) (fun v9 M9 q9 => ?_)
  · obtain ⟨e9, rfl⟩ := q9
    obtain ⟨e7, rfl⟩ := eo_x e9
    exact ⟨(eo_p h1).trans (eo_n e7), rfl⟩
  obtain ⟨e9, r9, m9⟩ := q9
  cases r9
  rw [m9]
  have h2 := eo_r e9
  refine s_iload_n (zdk hX8_withRoom 7 rfl) rfl ?_
  refine s_callSXa [.int (n)] (zdk hX8_withRoom 8 rfl) cw_X8_217 rfl (Nat.le_of_ble_eq_true rfl) (by decide) (c_X8_requirePeriods hl hf n) rfl (fun x9 M9 q9 => ?_) (fun v9 M9 q9 => ?_)
  · obtain ⟨e9, rfl⟩ := q9
    obtain ⟨e7, rfl⟩ := eo_x e9
    exact ⟨(eo_p h1).trans ((eo_p h2).trans (eo_n e7)), rfl⟩
  obtain ⟨e9, r9, m9⟩ := q9
  cases r9
  rw [m9]
  have h3 := eo_r e9
  exact absurd ⟨h1, h2, h3⟩ hn
theorem c_X8_withRoom (hl : l.stackTraces = false) {M : zMem} {g : Nat → Int64} {p : Nat → Nat} (hx : xSh M) (h : rSt M 630 g p) (hf : zF M = 1) (ht2 : 0 < gN g 2) {t : Nat} (ht9 : t < gN g 2) {m : Int32} (hm : nI 0 ≤ m ∧ m ≤ nI 99999) {nn : Nat} (hn1 : 1 ≤ nn) (hn24 : nn ≤ 24) {q : zPs} (hqe : plQ M g nn = q) : zCx2 l G mX8_withRoom 10 400 5 30 [.ref 0, .int (nI t), .int (m), .int (nI nn)] M (zXr none M (fun v' M' => ∃ (M2 : zMem) (q7 : zPs), zPln g (zgA g nn (zJ M (5 + 4)) (gN g 3)) 20 (zQ0 M2 5 g t m) = q7 ∧ plP M (some (.long (q7.2.1 - q.2.1))) v' M')) := by
  refine zCxr.of (ls0 := [some (.ref 0), some (.int (nI t)), some (.int (m)), some (.int (nI nn)), none, none]) (by decide +kernel) rfl hl rfl (Nat.le_of_ble_eq_true rfl) hf (fun v9 M9 q9 => by obtain ⟨_, _, _, _, q8, _⟩ := q9; exact zsh_F q8.1) ?_
  have h20 := h.b.2.2.1.2
  have h4 := h.b.2.1.2
  refine s_aload_n (zdk hX8_withRoom 0 rfl) rfl ?_
  refine s_iload_n (zdk hX8_withRoom 1 rfl) rfl ?_
  refine s_callVXa (ci := 8) [.int (nI t)] (zdk hX8_withRoom 2 rfl) cw_X8_125 (hx.K) (by decide) rfl rfl rfl (Nat.le_of_ble_eq_true rfl) (by decide) (c_X8_requireTier hl hx h hf (nI t)) rfl (fun x9 M9 q9 => ?_) (fun v9 M9 q9 => ?_)
  · obtain ⟨e9, rfl⟩ := q9
    obtain ⟨e7, rfl⟩ := eo_x e9
    exact absurd (inN_of ht9 (by omega)) e7
  obtain ⟨e9, r9, m9⟩ := q9
  cases r9
  rw [m9]
  refine s_iload_n (zdk hX8_withRoom 3 rfl) rfl ?_
  refine s_iconstv (v := nI 0) (zdk hX8_withRoom 4 rfl) zc_iconst_0 ?_
  refine s_ldc (zdk hX8_withRoom 5 rfl) kw_X8_251 ?_
  refine s_topi (b := nI 99999) (by decide) ?_
  refine s_callSXa [.int (m), .int (nI 0), .int (nI 99999)] (zdk hX8_withRoom 6 rfl) cw_X8_206 rfl (Nat.le_of_ble_eq_true rfl) (by decide) (c_X8_requireWithin hl hf m (nI 0) (nI 99999)) rfl (fun x9 M9 q9 => ?_) (fun v9 M9 q9 => ?_)
  · obtain ⟨e9, rfl⟩ := q9
    obtain ⟨e7, rfl⟩ := eo_x e9
    exact absurd (hm) e7
  obtain ⟨e9, r9, m9⟩ := q9
  cases r9
  rw [m9]
  refine s_iload_n (zdk hX8_withRoom 7 rfl) rfl ?_
  refine s_callSXa [.int (nI nn)] (zdk hX8_withRoom 8 rfl) cw_X8_217 rfl (Nat.le_of_ble_eq_true rfl) (by decide) (c_X8_requirePeriods hl hf (nI nn)) rfl (fun x9 M9 q9 => ?_) (fun v9 M9 q9 => ?_)
  · obtain ⟨e9, rfl⟩ := q9
    obtain ⟨e7, rfl⟩ := eo_x e9
    exact absurd (⟨nI_le hn1 (by omega), nI_le hn24 (by omega)⟩) e7
  obtain ⟨e9, r9, m9⟩ := q9
  cases r9
  rw [m9]
  refine s_aload_n (zdk hX8_withRoom 9 rfl) rfl ?_
  refine s_getR (zdk hX8_withRoom 10 rfl) fw_X8_26 rfl (hx.K) (show _ = some 5 from (hx.r (i := 2) rfl)) ?_
  refine s_aload_n (zdk hX8_withRoom 11 rfl) rfl ?_
  refine s_getR (zdk hX8_withRoom 12 rfl) fw_X8_40 rfl (hx.K) (show _ = some 630 from (hx.r (i := 4) rfl)) ?_
  refine s_iload_n (zdk hX8_withRoom 13 rfl) rfl ?_
  refine s_callV1 (ci := 3) [.ref 630, .int (nI nn)] (zdk hX8_withRoom 14 rfl) cw_X8_232 (hx.pl.1) (by decide) rfl rfl rfl (Nat.le_of_ble_eq_true rfl) (by decide) (c_makePlanQ hl hx.pl h (n := nn) hn24 ht2 hqe) ?_
  intro v2 M2 q2
  obtain ⟨q3, e2, hq⟩ := q2
  cases q3
  have hx2 : xSh M2 := hx.keepP e2 hq.1
  have h2 : rSt M2 630 g p := h.keep (e2.mono fun b hb => by omega)
  refine s_aload_n (zdk hX8_withRoom 15 rfl) rfl ?_
  refine s_getR (zdk hX8_withRoom 16 rfl) fw_X8_26 rfl (hx2.K) (show _ = some 5 from (hx2.r (i := 2) rfl)) ?_
  refine s_getJ (zdk hX8_withRoom 17 rfl) fw_X8_248 rfl (hx2.pl.1) ?_
  refine s_topl (b := q.2.1) (hq.2.2.1) ?_
  refine s_lstore (zdk hX8_withRoom 18 rfl) (Nat.le_of_ble_eq_true rfl) ?_
  refine s_ls (ls' := [some (.ref 0), some (.int (nI t)), some (.int (m)), some (.int (nI nn)), some (.long (q.2.1)), none]) rfl ?_
  refine s_aload_n (zdk hX8_withRoom 19 rfl) rfl ?_
  refine s_getR (zdk hX8_withRoom 20 rfl) fw_X8_26 rfl (hx2.K) (show _ = some 5 from (hx2.r (i := 2) rfl)) ?_
  refine s_aload_n (zdk hX8_withRoom 21 rfl) rfl ?_
  refine s_getR (zdk hX8_withRoom 22 rfl) fw_X8_40 rfl (hx2.K) (show _ = some 630 from (hx2.r (i := 4) rfl)) ?_
  refine s_iload_n (zdk hX8_withRoom 23 rfl) rfl ?_
  refine s_iload_n (zdk hX8_withRoom 24 rfl) rfl ?_
  refine s_callV1 (ci := 3) [.ref 630, .int (nI t), .int (m)] (zdk hX8_withRoom 25 rfl) cw_X8_252 (hx2.pl.1) (by decide) rfl rfl rfl (Nat.le_of_ble_eq_true rfl) (by decide) (c_X3_planAgain hl hq.1 h2 (by omega) ht9 m) ?_
  intro v3 M3 q4
  obtain ⟨q5, e3, hq3⟩ := q4
  cases q5
  rw [show zJ M2 (5 + 4) = (zgA g nn (zJ M (5 + 4)) (gN g 3)) from hq.2.2.2.2.2.2.1] at hq3
  obtain ⟨q7, hq7⟩ : ∃ q7, (zPln g (zgA g nn (zJ M (5 + 4)) (gN g 3)) 20 (zQ0 M2 5 g t m)) = q7 := ⟨_, rfl⟩
  rw [hq7] at hq3
  have hx3 : xSh M3 := hx2.keepP e3 hq3.1
  have h3 : rSt M3 630 g p := h2.keep (e3.mono fun b hb => by omega)
  refine s_aload_n (zdk hX8_withRoom 26 rfl) rfl ?_
  refine s_getR (zdk hX8_withRoom 27 rfl) fw_X8_26 rfl (hx3.K) (show _ = some 5 from (hx3.r (i := 2) rfl)) ?_
  refine s_getJ (zdk hX8_withRoom 28 rfl) fw_X8_248 rfl (hx3.pl.1) ?_
  refine s_topl (b := q7.2.1) (hq3.2.2.1) ?_
  refine s_lload (zdk hX8_withRoom 29 rfl) rfl ?_
  refine s_lsub (zdk hX8_withRoom 30 rfl) ?_
  refine s_lreturn (zdk hX8_withRoom 31 rfl) rfl  ?_
  exact ⟨rfl, M2, q7, hq7, rfl, e2.trans e3, hq3.1⟩
theorem c_X8_wish_x (hl : l.stackTraces = false) {M : zMem} {g : Nat → Int64} {p : Nat → Nat} (hx : xSh M) (h : rSt M 630 g p) (hf : zF M = 1) (ht2 : 0 < gN g 2) (f n : Int32) (hn : ¬ (inN f (gN g 3) ∧ (nI 1 ≤ n ∧ n ≤ nI 24))) : zCx2 l G mX8_wish 10 400 5 30 [.ref 0, .int (f), .int (n)] M (zXr (eo (inN f (gN g 3)) 2 (eo (nI 1 ≤ n ∧ n ≤ nI 24) 1 none)) M (fun _ _ => False)) := by
  refine zCxr.of (ls0 := [some (.ref 0), some (.int (f)), some (.int (n))]) (by decide +kernel) rfl hl rfl (Nat.le_of_ble_eq_true rfl) hf (fun v9 M9 q9 => q9.elim) ?_
  have h20 := h.b.2.2.1.2
  have h4 := h.b.2.1.2
  refine s_aload_n (zdk hX8_wish 0 rfl) rfl ?_
  refine s_iload_n (zdk hX8_wish 1 rfl) rfl ?_
  refine s_callVXa (ci := 8) [.int (f)] (zdk hX8_wish 2 rfl) cw_X8_146 (hx.K) (by decide) rfl rfl rfl (Nat.le_of_ble_eq_true rfl) (by decide) (c_X8_requireFile hl hx h hf f) rfl (fun x9 M9 q9 => ?_) (fun v9 M9 q9 => ?_)
  · obtain ⟨e9, rfl⟩ := q9
    obtain ⟨e7, rfl⟩ := eo_x e9
    exact ⟨eo_n e7, rfl⟩
  obtain ⟨e9, r9, m9⟩ := q9
  cases r9
  rw [m9]
  have h1 := eo_r e9
  refine s_iload_n (zdk hX8_wish 3 rfl) rfl ?_
  refine s_callSXa [.int (n)] (zdk hX8_wish 4 rfl) cw_X8_217 rfl (Nat.le_of_ble_eq_true rfl) (by decide) (c_X8_requirePeriods hl hf n) rfl (fun x9 M9 q9 => ?_) (fun v9 M9 q9 => ?_)
  · obtain ⟨e9, rfl⟩ := q9
    obtain ⟨e7, rfl⟩ := eo_x e9
    exact ⟨(eo_p h1).trans (eo_n e7), rfl⟩
  obtain ⟨e9, r9, m9⟩ := q9
  cases r9
  rw [m9]
  have h2 := eo_r e9
  exact absurd ⟨h1, h2⟩ hn
theorem c_X8_wish (hl : l.stackTraces = false) {M : zMem} {g : Nat → Int64} {p : Nat → Nat} (hx : xSh M) (h : rSt M 630 g p) (hf : zF M = 1) (ht2 : 0 < gN g 2) {f : Nat} (hf9 : f < gN g 3) {nn : Nat} (hn1 : 1 ≤ nn) (hn24 : nn ≤ 24) {q : zPs} (hqe : plQ M g nn = q) : zCx2 l G mX8_wish 10 400 5 30 [.ref 0, .int (nI f), .int (nI nn)] M (zXr none M (plP M (some (.int ((zbt (oGn g f nn) (nI (gN g (58 + 51 * f + 1))) (gN g 2)).1))))) := by
  refine zCxr.of (ls0 := [some (.ref 0), some (.int (nI f)), some (.int (nI nn))]) (by decide +kernel) rfl hl rfl (Nat.le_of_ble_eq_true rfl) hf (fun v9 M9 q9 => zsh_F q9.2.1.1) ?_
  have h20 := h.b.2.2.1.2
  have h4 := h.b.2.1.2
  refine s_aload_n (zdk hX8_wish 0 rfl) rfl ?_
  refine s_iload_n (zdk hX8_wish 1 rfl) rfl ?_
  refine s_callVXa (ci := 8) [.int (nI f)] (zdk hX8_wish 2 rfl) cw_X8_146 (hx.K) (by decide) rfl rfl rfl (Nat.le_of_ble_eq_true rfl) (by decide) (c_X8_requireFile hl hx h hf (nI f)) rfl (fun x9 M9 q9 => ?_) (fun v9 M9 q9 => ?_)
  · obtain ⟨e9, rfl⟩ := q9
    obtain ⟨e7, rfl⟩ := eo_x e9
    exact absurd (inN_of hf9 (by omega)) e7
  obtain ⟨e9, r9, m9⟩ := q9
  cases r9
  rw [m9]
  refine s_iload_n (zdk hX8_wish 3 rfl) rfl ?_
  refine s_callSXa [.int (nI nn)] (zdk hX8_wish 4 rfl) cw_X8_217 rfl (Nat.le_of_ble_eq_true rfl) (by decide) (c_X8_requirePeriods hl hf (nI nn)) rfl (fun x9 M9 q9 => ?_) (fun v9 M9 q9 => ?_)
  · obtain ⟨e9, rfl⟩ := q9
    obtain ⟨e7, rfl⟩ := eo_x e9
    exact absurd (⟨nI_le hn1 (by omega), nI_le hn24 (by omega)⟩) e7
  obtain ⟨e9, r9, m9⟩ := q9
  cases r9
  rw [m9]
  refine s_aload_n (zdk hX8_wish 5 rfl) rfl ?_
  refine s_getR (zdk hX8_wish 6 rfl) fw_X8_26 rfl (hx.K) (show _ = some 5 from (hx.r (i := 2) rfl)) ?_
  refine s_aload_n (zdk hX8_wish 7 rfl) rfl ?_
  refine s_getR (zdk hX8_wish 8 rfl) fw_X8_40 rfl (hx.K) (show _ = some 630 from (hx.r (i := 4) rfl)) ?_
  refine s_iload_n (zdk hX8_wish 9 rfl) rfl ?_
  refine s_iload_n (zdk hX8_wish 10 rfl) rfl ?_
  refine s_callV0 (ci := 3) [.ref 630, .int (nI f), .int (nI nn)] (zdk hX8_wish 11 rfl) cw_X8_228 (hx.pl.1) (by decide) rfl rfl rfl (Nat.le_of_ble_eq_true rfl) (by decide) (c_X3_bestTier hl hx.pl h (by omega) hf9 (n := nn) hn24) ?_
  refine s_ireturn (zdk hX8_wish 12 rfl) rfl rfl ?_
  exact ⟨rfl, rfl, ((zag_L _ _ _).mono fun b hb => by omega), hx.pl⟩
theorem c_X8_step_x (hl : l.stackTraces = false) {M : zMem} {g : Nat → Int64} {p : Nat → Nat} (hx : xSh M) (h : rSt M 630 g p) (hf : zF M = 1) (ht2 : 0 < gN g 2) (n s w : Int32) (hn : ¬ ((nI 1 ≤ n ∧ n ≤ nI 24) ∧ (nI 0 ≤ w ∧ w ≤ nI 2))) : zCx2 l G mX8_step 10 400 5 30 [.ref 0, .int (n), .int (s), .int (w)] M (zXr (eo (nI 1 ≤ n ∧ n ≤ nI 24) 1 (eo (nI 0 ≤ w ∧ w ≤ nI 2) 1 none)) M (fun _ _ => False)) := by
  refine zCxr.of (ls0 := [some (.ref 0), some (.int (n)), some (.int (s)), some (.int (w))]) (by decide +kernel) rfl hl rfl (Nat.le_of_ble_eq_true rfl) hf (fun v9 M9 q9 => q9.elim) ?_
  have h20 := h.b.2.2.1.2
  have h4 := h.b.2.1.2
  refine s_iload_n (zdk hX8_step 0 rfl) rfl ?_
  refine s_callSXa [.int (n)] (zdk hX8_step 1 rfl) cw_X8_217 rfl (Nat.le_of_ble_eq_true rfl) (by decide) (c_X8_requirePeriods hl hf n) rfl (fun x9 M9 q9 => ?_) (fun v9 M9 q9 => ?_)
  · obtain ⟨e9, rfl⟩ := q9
    obtain ⟨e7, rfl⟩ := eo_x e9
    exact ⟨eo_n e7, rfl⟩
  obtain ⟨e9, r9, m9⟩ := q9
  cases r9
  rw [m9]
  have h1 := eo_r e9
  refine s_iload_n (zdk hX8_step 2 rfl) rfl ?_
  refine s_iconstv (v := nI 0) (zdk hX8_step 3 rfl) zc_iconst_0 ?_
  refine s_iconstv (v := nI 2) (zdk hX8_step 4 rfl) zc_iconst_2 ?_
  refine s_callSXa [.int (w), .int (nI 0), .int (nI 2)] (zdk hX8_step 5 rfl) cw_X8_206 rfl (Nat.le_of_ble_eq_true rfl) (by decide) (c_X8_requireWithin hl hf w (nI 0) (nI 2)) rfl (fun x9 M9 q9 => ?_) (fun v9 M9 q9 => ?_)
  · obtain ⟨e9, rfl⟩ := q9
    obtain ⟨e7, rfl⟩ := eo_x e9
    exact ⟨(eo_p h1).trans (eo_n e7), rfl⟩
  obtain ⟨e9, r9, m9⟩ := q9
  cases r9
  rw [m9]
  have h2 := eo_r e9
  exact absurd ⟨h1, h2⟩ hn
theorem c_X8_step_o (hl : l.stackTraces = false) {M : zMem} {g : Nat → Int64} {p : Nat → Nat} (hx : xSh M) (h : rSt M 630 g p) (hf : zF M = 1) (ht2 : 0 < gN g 2) {nn : Nat} (hn1 : 1 ≤ nn) (hn24 : nn ≤ 24) {q : zPs} (hqe : plQ M g nn = q) {w : Nat} (hw : w < 3) (s : Int32) (hn : ¬ inN s q.1) : zCx2 l G mX8_step 10 400 5 30 [.ref 0, .int (nI nn), .int (s), .int (nI w)] M (zXg (some 2) (fun _ _ => False) (fun M' => zag M M' (fun c => c < 5 ∨ 12 ≤ c) ∧ nSh M' 5)) := by
  refine zCxg.of (ls0 := [some (.ref 0), some (.int (nI nn)), some (.int (s)), some (.int (nI w))]) (by decide +kernel) rfl hl rfl (Nat.le_of_ble_eq_true rfl) hf (fun v9 M9 q9 => q9.elim) (fun M9 q9 => zsh_F q9.1.1) ?_
  have h20 := h.b.2.2.1.2
  have h4 := h.b.2.1.2
  refine s_iload_n (zdk hX8_step 0 rfl) rfl ?_
  refine s_callSXa [.int (nI nn)] (zdk hX8_step 1 rfl) cw_X8_217 rfl (Nat.le_of_ble_eq_true rfl) (by decide) (c_X8_requirePeriods hl hf (nI nn)) rfl (fun x9 M9 q9 => ?_) (fun v9 M9 q9 => ?_)
  · obtain ⟨e9, rfl⟩ := q9
    obtain ⟨e7, rfl⟩ := eo_x e9
    exact absurd (⟨nI_le hn1 (by omega), nI_le hn24 (by omega)⟩) e7
  obtain ⟨e9, r9, m9⟩ := q9
  cases r9
  rw [m9]
  refine s_iload_n (zdk hX8_step 2 rfl) rfl ?_
  refine s_iconstv (v := nI 0) (zdk hX8_step 3 rfl) zc_iconst_0 ?_
  refine s_iconstv (v := nI 2) (zdk hX8_step 4 rfl) zc_iconst_2 ?_
  refine s_callSXa [.int (nI w), .int (nI 0), .int (nI 2)] (zdk hX8_step 5 rfl) cw_X8_206 rfl (Nat.le_of_ble_eq_true rfl) (by decide) (c_X8_requireWithin hl hf (nI w) (nI 0) (nI 2)) rfl (fun x9 M9 q9 => ?_) (fun v9 M9 q9 => ?_)
  · obtain ⟨e9, rfl⟩ := q9
    obtain ⟨e7, rfl⟩ := eo_x e9
    exact absurd (⟨nI_le (Nat.zero_le w) (by omega), nI_le (by omega) (by omega)⟩) e7
  obtain ⟨e9, r9, m9⟩ := q9
  cases r9
  rw [m9]
  refine s_aload_n (zdk hX8_step 6 rfl) rfl ?_
  refine s_getR (zdk hX8_step 7 rfl) fw_X8_26 rfl (hx.K) (show _ = some 5 from (hx.r (i := 2) rfl)) ?_
  refine s_aload_n (zdk hX8_step 8 rfl) rfl ?_
  refine s_getR (zdk hX8_step 9 rfl) fw_X8_40 rfl (hx.K) (show _ = some 630 from (hx.r (i := 4) rfl)) ?_
  refine s_iload_n (zdk hX8_step 10 rfl) rfl ?_
  refine s_callV1 (ci := 3) [.ref 630, .int (nI nn)] (zdk hX8_step 11 rfl) cw_X8_232 (hx.pl.1) (by decide) rfl rfl rfl (Nat.le_of_ble_eq_true rfl) (by decide) (c_makePlanQ hl hx.pl h (n := nn) hn24 ht2 hqe) ?_
  intro v2 M2 q2
  obtain ⟨q3, e2, hq⟩ := q2
  cases q3
  have hx2 : xSh M2 := hx.keepP e2 hq.1
  have h2 : rSt M2 630 g p := h.keep (e2.mono fun b hb => by omega)
  refine s_iload_n (zdk hX8_step 12 rfl) rfl ?_
  refine s_if_lt 37 (zdk hX8_step 13 rfl) (by decide) (fun c23 => ?_) (fun c23 => ?_)
  · refine s_throw (x := 2) ⟨184, 186, (zdk hX8_step 19 rfl), (zdk hX8_step 20 rfl), (zdk hX8_step 21 rfl), (zdk hX8_step 22 rfl), clw_X8_184, xi_2, rfl, (by decide), (by decide), (by decide), xw_2⟩ ?_ (by decide)
    rw [zth_id ((zsh_F e2.1).trans hf)]
    exact ⟨rfl, e2, hq.1⟩
  · refine s_iload_n (zdk hX8_step 14 rfl) rfl ?_
    refine s_aload_n (zdk hX8_step 15 rfl) rfl ?_
    refine s_getR (zdk hX8_step 16 rfl) fw_X8_26 rfl (hx2.K) (show _ = some 5 from (hx2.r (i := 2) rfl)) ?_
    refine s_getI (zdk hX8_step 17 rfl) fw_X8_236 rfl (hx2.pl.1) ?_
    refine s_topi (b := nI q.1) (hq.2.1) ?_
    refine s_icmp_lt 45 (zdk hX8_step 18 rfl) (by decide) (fun c34 => ?_) (fun c34 => ?_)
    · exact absurd ⟨Int32.not_lt.mp c23, c34⟩ hn
    · refine s_throw (x := 2) ⟨184, 186, (zdk hX8_step 19 rfl), (zdk hX8_step 20 rfl), (zdk hX8_step 21 rfl), (zdk hX8_step 22 rfl), clw_X8_184, xi_2, rfl, (by decide), (by decide), (by decide), xw_2⟩ ?_ (by decide)
      rw [zth_id ((zsh_F e2.1).trans hf)]
      exact ⟨rfl, e2, hq.1⟩
theorem c_X8_step (hl : l.stackTraces = false) {M : zMem} {g : Nat → Int64} {p : Nat → Nat} (hx : xSh M) (h : rSt M 630 g p) (hf : zF M = 1) (ht2 : 0 < gN g 2) {nn : Nat} (hn1 : 1 ≤ nn) (hn24 : nn ≤ 24) {q : zPs} (hqe : plQ M g nn = q) {w : Nat} (hw : w < 3) {s : Nat} (hs9 : s < q.1) (hs20 : q.1 ≤ 20) : zCx2 l G mX8_step 10 400 5 30 [.ref 0, .int (nI nn), .int (nI s), .int (nI w)] M (zXr none M (plP M (some (.int ((if w = 0 then q.2.2.1 s else if w = 1 then q.2.2.2.1 s else q.2.2.2.2.1 s)))))) := by
  refine zCxr.of (ls0 := [some (.ref 0), some (.int (nI nn)), some (.int (nI s)), some (.int (nI w))]) (by decide +kernel) rfl hl rfl (Nat.le_of_ble_eq_true rfl) hf (fun v9 M9 q9 => zsh_F q9.2.1.1) ?_
  have h20 := h.b.2.2.1.2
  have h4 := h.b.2.1.2
  refine s_iload_n (zdk hX8_step 0 rfl) rfl ?_
  refine s_callSXa [.int (nI nn)] (zdk hX8_step 1 rfl) cw_X8_217 rfl (Nat.le_of_ble_eq_true rfl) (by decide) (c_X8_requirePeriods hl hf (nI nn)) rfl (fun x9 M9 q9 => ?_) (fun v9 M9 q9 => ?_)
  · obtain ⟨e9, rfl⟩ := q9
    obtain ⟨e7, rfl⟩ := eo_x e9
    exact absurd (⟨nI_le hn1 (by omega), nI_le hn24 (by omega)⟩) e7
  obtain ⟨e9, r9, m9⟩ := q9
  cases r9
  rw [m9]
  refine s_iload_n (zdk hX8_step 2 rfl) rfl ?_
  refine s_iconstv (v := nI 0) (zdk hX8_step 3 rfl) zc_iconst_0 ?_
  refine s_iconstv (v := nI 2) (zdk hX8_step 4 rfl) zc_iconst_2 ?_
  refine s_callSXa [.int (nI w), .int (nI 0), .int (nI 2)] (zdk hX8_step 5 rfl) cw_X8_206 rfl (Nat.le_of_ble_eq_true rfl) (by decide) (c_X8_requireWithin hl hf (nI w) (nI 0) (nI 2)) rfl (fun x9 M9 q9 => ?_) (fun v9 M9 q9 => ?_)
  · obtain ⟨e9, rfl⟩ := q9
    obtain ⟨e7, rfl⟩ := eo_x e9
    exact absurd (⟨nI_le (Nat.zero_le w) (by omega), nI_le (by omega) (by omega)⟩) e7
  obtain ⟨e9, r9, m9⟩ := q9
  cases r9
  rw [m9]
  refine s_aload_n (zdk hX8_step 6 rfl) rfl ?_
  refine s_getR (zdk hX8_step 7 rfl) fw_X8_26 rfl (hx.K) (show _ = some 5 from (hx.r (i := 2) rfl)) ?_
  refine s_aload_n (zdk hX8_step 8 rfl) rfl ?_
  refine s_getR (zdk hX8_step 9 rfl) fw_X8_40 rfl (hx.K) (show _ = some 630 from (hx.r (i := 4) rfl)) ?_
  refine s_iload_n (zdk hX8_step 10 rfl) rfl ?_
  refine s_callV1 (ci := 3) [.ref 630, .int (nI nn)] (zdk hX8_step 11 rfl) cw_X8_232 (hx.pl.1) (by decide) rfl rfl rfl (Nat.le_of_ble_eq_true rfl) (by decide) (c_makePlanQ hl hx.pl h (n := nn) hn24 ht2 hqe) ?_
  intro v2 M2 q2
  obtain ⟨q3, e2, hq⟩ := q2
  cases q3
  have hx2 : xSh M2 := hx.keepP e2 hq.1
  have h2 : rSt M2 630 g p := h.keep (e2.mono fun b hb => by omega)
  refine s_iload_n (zdk hX8_step 12 rfl) rfl ?_
  refine s_if_lt 37 (zdk hX8_step 13 rfl) (by decide) (fun c23 => ?_) (fun c23 => ?_)
  · exact absurd (nI_pos (show s < 2 ^ 31 by omega)) (fun q => q c23)
  · refine s_iload_n (zdk hX8_step 14 rfl) rfl ?_
    refine s_aload_n (zdk hX8_step 15 rfl) rfl ?_
    refine s_getR (zdk hX8_step 16 rfl) fw_X8_26 rfl (hx2.K) (show _ = some 5 from (hx2.r (i := 2) rfl)) ?_
    refine s_getI (zdk hX8_step 17 rfl) fw_X8_236 rfl (hx2.pl.1) ?_
    refine s_topi (b := nI q.1) (hq.2.1) ?_
    refine s_icmp_lt 45 (zdk hX8_step 18 rfl) (by decide) (fun c34 => ?_) (fun c34 => ?_)
    · refine s_iload_n (zdk hX8_step 23 rfl) rfl ?_
      rcases (by omega : w = 0 ∨ w = 1 ∨ w = 2) with rfl | rfl | rfl
      · refine s_lookup (off := 26) 72 (zdk hX8_step 24 rfl) (by decide) (by decide) (by decide) ?_
        refine s_aload_n (zdk hX8_step 25 rfl) rfl ?_
        refine s_getR (zdk hX8_step 26 rfl) fw_X8_26 rfl (hx2.K) (show _ = some 5 from (hx2.r (i := 2) rfl)) ?_
        refine s_getR (zdk hX8_step 27 rfl) fw_X8_239 rfl (hx2.pl.1) (hx2.pl.2.1) ?_
        refine s_iload_n (zdk hX8_step 28 rfl) rfl ?_
        refine s_ialoadN (N := 20) (j := s) (zdk hX8_step 29 rfl) (hx2.pl.2.2.2.2.2.2.1) (hx2.pl.2.2.2.2.2.2.2.1) (by omega) (by decide) ?_
        refine s_topi (b := q.2.2.1 s) (congrFun hq.2.2.2.1 s) ?_
        refine s_ireturn (zdk hX8_step 30 rfl) rfl rfl ?_
        exact ⟨rfl, rfl, e2, hq.1⟩
      · refine s_lookup (off := 36) 82 (zdk hX8_step 24 rfl) (by decide) (by decide) (by decide) ?_
        refine s_aload_n (zdk hX8_step 31 rfl) rfl ?_
        refine s_getR (zdk hX8_step 32 rfl) fw_X8_26 rfl (hx2.K) (show _ = some 5 from (hx2.r (i := 2) rfl)) ?_
        refine s_getR (zdk hX8_step 33 rfl) fw_X8_242 rfl (hx2.pl.1) (hx2.pl.2.2.1) ?_
        refine s_iload_n (zdk hX8_step 34 rfl) rfl ?_
        refine s_ialoadN (N := 20) (j := s) (zdk hX8_step 35 rfl) (hx2.pl.2.2.2.2.2.2.2.2.1) (hx2.pl.2.2.2.2.2.2.2.2.2.1) (by omega) (by decide) ?_
        refine s_topi (b := q.2.2.2.1 s) (congrFun hq.2.2.2.2.1 s) ?_
        refine s_ireturn (zdk hX8_step 36 rfl) rfl rfl ?_
        exact ⟨rfl, rfl, e2, hq.1⟩
      · refine s_lookup (off := 46) 92 (zdk hX8_step 24 rfl) (by decide) (by decide) (by decide) ?_
        refine s_aload_n (zdk hX8_step 37 rfl) rfl ?_
        refine s_getR (zdk hX8_step 38 rfl) fw_X8_26 rfl (hx2.K) (show _ = some 5 from (hx2.r (i := 2) rfl)) ?_
        refine s_getR (zdk hX8_step 39 rfl) fw_X8_245 rfl (hx2.pl.1) (hx2.pl.2.2.2.1) ?_
        refine s_iload_n (zdk hX8_step 40 rfl) rfl ?_
        refine s_ialoadN (N := 20) (j := s) (zdk hX8_step 41 rfl) (hx2.pl.2.2.2.2.2.2.2.2.2.2.1) (hx2.pl.2.2.2.2.2.2.2.2.2.2.2.1) (by omega) (by decide) ?_
        refine s_topi (b := q.2.2.2.2.1 s) (congrFun hq.2.2.2.2.2.1 s) ?_
        refine s_ireturn (zdk hX8_step 42 rfl) rfl rfl ?_
        exact ⟨rfl, rfl, e2, hq.1⟩
    · exact absurd (nI_lt hs9 (by omega)) c34
end
