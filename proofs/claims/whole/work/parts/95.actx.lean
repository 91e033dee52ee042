/-! ===== the face: act ===== -/
/-- behind act: the planner has planned, then a change is remembered -/
def aP (v : Option Value) (M : zMem) (S : Nat → Nat → Int64) (c d : Nat) (g' : Nat → Int64) : Option Value → zMem → Prop := fun v' M' => ∃ M2, (zag M M2 (fun b => b < 5 ∨ 12 ≤ b) ∧ nSh M2 5) ∧ uP v M2 S c d g' v' M'
section
variable {l : Launch} {G : zG}
theorem c_X8_act_x (hl : l.stackTraces = false) {M : zMem} {g : Nat → Int64} {p : Nat → Nat} (hx : xSh M) (h : rSt M 630 g p) (hf : zF M = 1) (ht2 : 0 < gN g 2) (n : Int32) (hn : ¬ (nI 1 ≤ n ∧ n ≤ nI 24)) : zCx2 l G mX8_act 10 400 5 30 [.ref 0, .int (n)] M (zXr (eo (nI 1 ≤ n ∧ n ≤ nI 24) 1 none) M (fun _ _ => False)) := by
  refine zCxr.of (ls0 := [some (.ref 0), some (.int (n))]) (by decide +kernel) rfl hl rfl (Nat.le_of_ble_eq_true rfl) hf (fun v9 M9 q9 => q9.elim) ?_
  have h20 := h.b.2.2.1.2
  have h4 := h.b.2.1.2
  refine s_iload_n (zdk hX8_act 0 rfl) rfl ?_
  refine s_callSXa [.int (n)] (zdk hX8_act 1 rfl) cw_X8_217 rfl (Nat.le_of_ble_eq_true rfl) (by decide) (c_X8_requirePeriods hl hf n) rfl (fun x9 M9 q9 => ?_) (fun v9 M9 q9 => ?_)
  · obtain ⟨e9, rfl⟩ := q9
    obtain ⟨e7, rfl⟩ := eo_x e9
    exact ⟨eo_n e7, rfl⟩
  obtain ⟨e9, r9, m9⟩ := q9
  cases r9
  rw [m9]
  have h1 := eo_r e9
  exact absurd h1 hn
theorem c_X8_act (hl : l.stackTraces = false) {M : zMem} {S : Nat → Nat → Int64} {p : Nat → Nat} (hx : xSh M) (hW : rW M S) (h : rSt M 630 (S 630) p) (hf : zF M = 1) {c d : Nat} (hc : zI M 12 0 = nI c) (hc8 : c ≤ 8) (hd : zI M 12 1 = nI d) (hd8 : d < 8) (ht2 : 0 < gN (S 630) 2) {nn : Nat} (hn1 : 1 ≤ nn) (hn24 : nn ≤ 24) {q : zPs} (hqe : plQ M (S 630) nn = q) (hq20 : q.1 ≤ 20) {F : Nat → Nat} {O : Nat → Option Nat} {T : Nat → Nat} (hp : pOk (S 630) q F O T) : zCx2 l G mX8_act 10 400 5 30 [.ref 0, .int (nI nn)] M (zXr none M (aP (some (.int (nI (zMv O q.1)))) M S c d (zCo (S 630) F O T q.1))) := by
  refine zCxr.of (ls0 := [some (.ref 0), some (.int (nI nn))]) (by decide +kernel) rfl hl rfl (Nat.le_of_ble_eq_true rfl) hf (fun v9 M9 q9 => by obtain ⟨M8, ⟨q8, -⟩, q7⟩ := q9; exact q7.fl.trans (zsh_F q8.1)) ?_
  have h20 := h.b.2.2.1.2
  have h4 := h.b.2.1.2
  have hcy := h.b.1.2.2
  have hcy2 := h.b.1.2.1
  have hpe := h.b.2.2.2.1.2
  refine s_iload_n (zdk hX8_act 0 rfl) rfl ?_
  refine s_callSXa [.int (nI nn)] (zdk hX8_act 1 rfl) cw_X8_217 rfl (Nat.le_of_ble_eq_true rfl) (by decide) (c_X8_requirePeriods hl hf (nI nn)) rfl (fun x9 M9 q9 => ?_) (fun v9 M9 q9 => ?_)
  · obtain ⟨e9, rfl⟩ := q9
    obtain ⟨e7, rfl⟩ := eo_x e9
    exact absurd (⟨nI_le hn1 (by omega), nI_le hn24 (by omega)⟩) e7
  obtain ⟨e9, r9, m9⟩ := q9
  cases r9
  rw [m9]
  refine s_aload_n (zdk hX8_act 2 rfl) rfl ?_
  refine s_getR (zdk hX8_act 3 rfl) fw_X8_26 rfl (hx.K) (show _ = some 5 from (hx.r (i := 2) rfl)) ?_
  refine s_aload_n (zdk hX8_act 4 rfl) rfl ?_
  refine s_getR (zdk hX8_act 5 rfl) fw_X8_40 rfl (hx.K) (show _ = some 630 from (hx.r (i := 4) rfl)) ?_
  refine s_iload_n (zdk hX8_act 6 rfl) rfl ?_
  refine s_callV1 (ci := 3) [.ref 630, .int (nI nn)] (zdk hX8_act 7 rfl) cw_X8_232 (hx.pl.1) (by decide) rfl rfl rfl (Nat.le_of_ble_eq_true rfl) (by decide) (c_makePlanQ hl hx.pl h (n := nn) hn24 ht2 hqe) ?_
  intro v2 M2 q2
  obtain ⟨q3, e2, hq⟩ := q2
  cases q3
  have hx2 : xSh M2 := hx.keepP e2 hq.1
  have h2 : rSt M2 630 (S 630) p := h.keep (e2.mono fun b hb => by omega)
  have hW2 : rW M2 S := hW.keep (e2.mono fun b hb => by unfold zblk at hb; omega)
  have hc2 : zI M2 12 0 = nI c := (congrFun (e2.2 12 (by omega)).1 0).trans hc
  have hd2 : zI M2 12 1 = nI d := (congrFun (e2.2 12 (by omega)).1 1).trans hd
  refine s_aload_n (zdk hX8_act 8 rfl) rfl ?_
  refine s_getR (zdk hX8_act 9 rfl) fw_X8_33 rfl (hx2.K) (show _ = some 12 from (hx2.r (i := 3) rfl)) ?_
  refine s_aload_n (zdk hX8_act 10 rfl) rfl ?_
  refine s_getR (zdk hX8_act 11 rfl) fw_X8_40 rfl (hx2.K) (show _ = some 630 from (hx2.r (i := 4) rfl)) ?_
  refine s_callV1 (ci := 1) [.ref 630] (zdk hX8_act 12 rfl) cw_X8_81 (hx2.hi.1) (by decide) rfl rfl rfl (Nat.le_of_ble_eq_true rfl) (by decide) (c_remember2 hl hx2 hW2 hc2 hc8 hd2 hd8) ?_
  intro v3 M3 q4
  have q5 := q4.1
  cases q5
  have hx3 : xSh M3 := q4.xs hx2 hd8
  have h3 : rSt M3 630 (S 630) p := q4.st h2 hd8
  have k3 : ∀ b, 5 ≤ b → b < 12 → zI M3 b = zI M2 b := fun b q6 q7 => (q4.2.1.2 b ⟨by omega, by omega⟩).1
  refine s_aload_n (zdk hX8_act 13 rfl) rfl ?_
  refine s_getR (zdk hX8_act 14 rfl) fw_X8_26 rfl (hx3.K) (show _ = some 5 from (hx3.r (i := 2) rfl)) ?_
  refine s_aload_n (zdk hX8_act 15 rfl) rfl ?_
  refine s_getR (zdk hX8_act 16 rfl) fw_X8_40 rfl (hx3.K) (show _ = some 630 from (hx3.r (i := 4) rfl)) ?_
  refine s_callV1 (ci := 3) [.ref 630] (zdk hX8_act 17 rfl) cw_X8_283 (hx3.pl.1) (by decide) rfl rfl rfl (Nat.le_of_ble_eq_true rfl) (by decide) (c_X3_carryOut hl (a := 5) (s := 630) (n := q.1) (F := F) (O := O) (T := T) hx3.pl (by omega) ((congrFun (k3 5 (by omega) (by omega)) 0).trans hq.2.1) hq20 (fun i hi => ⟨(congrFun ((k3 6 (by omega) (by omega)).trans hq.2.2.2.1) i).trans (hp i hi).1.1, (hp i hi).1.2⟩) (fun i hi => ⟨(congrFun ((k3 7 (by omega) (by omega)).trans hq.2.2.2.2.1) i).trans (hp i hi).2.1.1, (hp i hi).2.1.2⟩) (fun i hi => ⟨(congrFun ((k3 8 (by omega) (by omega)).trans hq.2.2.2.2.2.1) i).trans (hp i hi).2.2.1, (hp i hi).2.2.2⟩) h.b.2.2.1.2 h3) ?_
  intro v4 M4 q6
  obtain ⟨q7, e4, h4r⟩ := q6
  cases q7
  refine s_ireturn (zdk hX8_act 18 rfl) rfl rfl ?_
  exact ⟨rfl, M2, ⟨e2, hq.1⟩, uP_of q4 hd8 e4 h4r⟩
end
