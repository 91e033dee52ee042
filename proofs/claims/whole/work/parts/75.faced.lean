theorem zc_bipush_m16 : (Int8.ofInt (-16)).toInt32 = (-16) := by decide
theorem zc_bipush_m14 : (Int8.ofInt (-14)).toInt32 = (-14) := by decide
theorem zc_bipush_m13 : (Int8.ofInt (-13)).toInt32 = (-13) := by decide
/-! ===== the face: the other changes ===== -/
section
variable {l : Launch} {G : zG}
theorem c_X8_drop_x (hl : l.stackTraces = false) {M : zMem} {S : Nat → Nat → Int64} {p : Nat → Nat} (hx : xSh M) (hW : rW M S) (h : rSt M 630 (S 630) p) (hf : zF M = 1) {c d : Nat} (hc : zI M 12 0 = nI c) (hc8 : c ≤ 8) (hd : zI M 12 1 = nI d) (hd8 : d < 8) (f : Int32) (hn : ¬ inN f (gN (S 630) 3)) : zCx2 l G mX8_drop 10 400 5 30 [.ref 0, .int (f)] M (zXr (eo (inN f (gN (S 630) 3)) 2 none) M (fun _ _ => False)) := by
  refine zCxr.of (ls0 := [some (.ref 0), some (.int (f))]) (by decide +kernel) rfl hl rfl (Nat.le_of_ble_eq_true rfl) hf (by first | exact (fun v9 M9 q9 => by rw [q9.2]) | exact (fun v9 M9 q9 => q9.fl) | exact (fun v9 M9 q9 => q9.elim)) ?_
  have h20 := h.b.2.2.1.2
  have h4 := h.b.2.1.2
  have hcy := h.b.1.2.2
  have hcy2 := h.b.1.2.1
  have hpe := h.b.2.2.2.1.2
  refine s_aload_n (zdk hX8_drop 0 rfl) rfl ?_
  refine s_iload_n (zdk hX8_drop 1 rfl) rfl ?_
  refine s_callVXa (ci := 8) [.int (f)] (zdk hX8_drop 2 rfl) cw_X8_146 (hx.K) (by decide) rfl rfl rfl (Nat.le_of_ble_eq_true rfl) (by decide) (c_X8_requireFile hl hx h hf f) rfl (fun x9 M9 q9 => ?_) (fun v9 M9 q9 => ?_)
  · obtain ⟨e9, rfl⟩ := q9
    obtain ⟨e7, rfl⟩ := eo_x e9
    exact ⟨eo_n e7, rfl⟩
  obtain ⟨e9, r9, rfl⟩ := q9
  cases r9
  have h1 := eo_r e9
  exact absurd h1 hn
theorem c_X8_drop (hl : l.stackTraces = false) {M : zMem} {S : Nat → Nat → Int64} {p : Nat → Nat} (hx : xSh M) (hW : rW M S) (h : rSt M 630 (S 630) p) (hf : zF M = 1) {c d : Nat} (hc : zI M 12 0 = nI c) (hc8 : c ≤ 8) (hd : zI M 12 1 = nI d) (hd8 : d < 8) {f : Nat} (hf9 : f < gN (S 630) 3) {g' : Nat → Int64} (hz : zDr (S 630) f g') : zCx2 l G mX8_drop 10 400 5 30 [.ref 0, .int (nI f)] M (zXr none M (uP (some (.int (nI (gN (S 630) 3 - 1)))) M S c d g')) := by
  refine zCxr.of (ls0 := [some (.ref 0), some (.int (nI f))]) (by decide +kernel) rfl hl rfl (Nat.le_of_ble_eq_true rfl) hf (by first | exact (fun v9 M9 q9 => by rw [q9.2]) | exact (fun v9 M9 q9 => q9.fl) | exact (fun v9 M9 q9 => q9.elim)) ?_
  have h20 := h.b.2.2.1.2
  have h4 := h.b.2.1.2
  have hcy := h.b.1.2.2
  have hcy2 := h.b.1.2.1
  have hpe := h.b.2.2.2.1.2
  refine s_aload_n (zdk hX8_drop 0 rfl) rfl ?_
  refine s_iload_n (zdk hX8_drop 1 rfl) rfl ?_
  refine s_callVXa (ci := 8) [.int (nI f)] (zdk hX8_drop 2 rfl) cw_X8_146 (hx.K) (by decide) rfl rfl rfl (Nat.le_of_ble_eq_true rfl) (by decide) (c_X8_requireFile hl hx h hf (nI f)) rfl (fun x9 M9 q9 => ?_) (fun v9 M9 q9 => ?_)
  · obtain ⟨e9, rfl⟩ := q9
    obtain ⟨e7, rfl⟩ := eo_x e9
    exact absurd (inN_of hf9 (by omega)) e7
  obtain ⟨e9, r9, rfl⟩ := q9
  cases r9
  refine s_aload_n (zdk hX8_drop 3 rfl) rfl ?_
  refine s_getR (zdk hX8_drop 4 rfl) fw_X8_33 rfl (hx.K) (show _ = some 12 from (hx.r (i := 3) rfl)) ?_
  refine s_aload_n (zdk hX8_drop 5 rfl) rfl ?_
  refine s_getR (zdk hX8_drop 6 rfl) fw_X8_40 rfl (hx.K) (show _ = some 630 from (hx.r (i := 4) rfl)) ?_
  refine s_callV1 (ci := 1) [.ref 630] (zdk hX8_drop 7 rfl) cw_X8_81 (hx.hi.1) (by decide) rfl rfl rfl (Nat.le_of_ble_eq_true rfl) (by decide) (c_remember2 hl hx hW hc hc8 hd hd8) ?_
  intro v2 M2 q2
  have q3 := q2.1
  cases q3
  have hx2 : xSh M2 := q2.xs hx hd8
  have h2 : rSt M2 630 (S 630) p := q2.st h hd8
  refine s_aload_n (zdk hX8_drop 8 rfl) rfl ?_
  refine s_getR (zdk hX8_drop 9 rfl) fw_X8_40 rfl (hx2.K) (show _ = some 630 from (hx2.r (i := 4) rfl)) ?_
  refine s_iload_n (zdk hX8_drop 10 rfl) rfl ?_
  refine s_callV1 (ci := 5) [.int (nI f)] (zdk hX8_drop 11 rfl) cw_X8_264 (h2.K) (by decide) rfl rfl rfl (Nat.le_of_ble_eq_true rfl) (by decide) (c_X5_removeFile hl h2 hf9 hz) ?_
  intro v3 M3 q4
  obtain ⟨q5, e3, h3⟩ := q4
  cases q5
  have hx3 : xSh M3 := hx2.keep e3.1 (fun b hb => (e3.2 b (by omega)).2.2)
  refine s_aload_n (zdk hX8_drop 12 rfl) rfl ?_
  refine s_getR (zdk hX8_drop 13 rfl) fw_X8_40 rfl (hx3.K) (show _ = some 630 from (hx3.r (i := 4) rfl)) ?_
  refine s_getI (zdk hX8_drop 14 rfl) fw_X8_100 rfl (h3.K) ?_
  refine s_topi (b := nI (gN (S 630) 3 - 1)) (h3.v4.trans (congrArg nI (gN_of hz.2.1 (by omega)))) ?_
  refine s_ireturn (zdk hX8_drop 15 rfl) rfl rfl ?_
  exact ⟨rfl, uP_of q2 hd8 e3 h3⟩
theorem c_X8_move_x (hl : l.stackTraces = false) {M : zMem} {S : Nat → Nat → Int64} {p : Nat → Nat} (hx : xSh M) (hW : rW M S) (h : rSt M 630 (S 630) p) (hf : zF M = 1) {c d : Nat} (hc : zI M 12 0 = nI c) (hc8 : c ≤ 8) (hd : zI M 12 1 = nI d) (hd8 : d < 8) (f t : Int32) (hn : ¬ (inN f (gN (S 630) 3) ∧ inN t (gN (S 630) 2))) : zCx2 l G mX8_move 10 400 5 30 [.ref 0, .int (f), .int (t)] M (zXr (eo (inN f (gN (S 630) 3)) 2 (eo (inN t (gN (S 630) 2)) 2 none)) M (fun _ _ => False)) := by
  refine zCxr.of (ls0 := [some (.ref 0), some (.int (f)), some (.int (t)), none]) (by decide +kernel) rfl hl rfl (Nat.le_of_ble_eq_true rfl) hf (by first | exact (fun v9 M9 q9 => by rw [q9.2]) | exact (fun v9 M9 q9 => q9.fl) | exact (fun v9 M9 q9 => q9.elim)) ?_
  have h20 := h.b.2.2.1.2
  have h4 := h.b.2.1.2
  have hcy := h.b.1.2.2
  have hcy2 := h.b.1.2.1
  have hpe := h.b.2.2.2.1.2
  refine s_aload_n (zdk hX8_move 0 rfl) rfl ?_
  refine s_iload_n (zdk hX8_move 1 rfl) rfl ?_
  refine s_callVXa (ci := 8) [.int (f)] (zdk hX8_move 2 rfl) cw_X8_146 (hx.K) (by decide) rfl rfl rfl (Nat.le_of_ble_eq_true rfl) (by decide) (c_X8_requireFile hl hx h hf f) rfl (fun x9 M9 q9 => ?_) (fun v9 M9 q9 => ?_)
  · obtain ⟨e9, rfl⟩ := q9
    obtain ⟨e7, rfl⟩ := eo_x e9
    exact ⟨eo_n e7, rfl⟩
  obtain ⟨e9, r9, rfl⟩ := q9
  cases r9
  have h1 := eo_r e9
  refine s_aload_n (zdk hX8_move 3 rfl) rfl ?_
  refine s_iload_n (zdk hX8_move 4 rfl) rfl ?_
  refine s_callVXa (ci := 8) [.int (t)] (zdk hX8_move 5 rfl) cw_X8_125 (hx.K) (by decide) rfl rfl rfl (Nat.le_of_ble_eq_true rfl) (by decide) (c_X8_requireTier hl hx h hf t) rfl (fun x9 M9 q9 => ?_) (fun v9 M9 q9 => ?_)
  · obtain ⟨e9, rfl⟩ := q9
    obtain ⟨e7, rfl⟩ := eo_x e9
    exact ⟨(eo_p h1).trans (eo_n e7), rfl⟩
  obtain ⟨e9, r9, rfl⟩ := q9
  cases r9
  have h2 := eo_r e9
  exact absurd ⟨h1, h2⟩ hn
theorem c_X8_move_p (hl : l.stackTraces = false) {M : zMem} {S : Nat → Nat → Int64} {p : Nat → Nat} (hx : xSh M) (hW : rW M S) (h : rSt M 630 (S 630) p) (hf : zF M = 1) {c d : Nat} (hc : zI M 12 0 = nI c) (hc8 : c ≤ 8) (hd : zI M 12 1 = nI d) (hd8 : d < 8) {f t : Nat} (hf9 : f < gN (S 630) 3) (ht9 : t < gN (S 630) 2) (hr : nI (gN (S 630) 4) < gf (S 630) f 3) : zCx2 l G mX8_move 10 400 5 30 [.ref 0, .int (nI f), .int (nI t)] M (zXr none M (zP1 (some (.int (-13))) M)) := by
  refine zCxr.of (ls0 := [some (.ref 0), some (.int (nI f)), some (.int (nI t)), none]) (by decide +kernel) rfl hl rfl (Nat.le_of_ble_eq_true rfl) hf (by first | exact (fun v9 M9 q9 => by rw [q9.2]) | exact (fun v9 M9 q9 => q9.fl) | exact (fun v9 M9 q9 => q9.elim)) ?_
  have h20 := h.b.2.2.1.2
  have h4 := h.b.2.1.2
  have hcy := h.b.1.2.2
  have hcy2 := h.b.1.2.1
  have hpe := h.b.2.2.2.1.2
  have hon := h.b.onL hf9
  refine s_aload_n (zdk hX8_move 0 rfl) rfl ?_
  refine s_iload_n (zdk hX8_move 1 rfl) rfl ?_
  refine s_callVXa (ci := 8) [.int (nI f)] (zdk hX8_move 2 rfl) cw_X8_146 (hx.K) (by decide) rfl rfl rfl (Nat.le_of_ble_eq_true rfl) (by decide) (c_X8_requireFile hl hx h hf (nI f)) rfl (fun x9 M9 q9 => ?_) (fun v9 M9 q9 => ?_)
  · obtain ⟨e9, rfl⟩ := q9
    obtain ⟨e7, rfl⟩ := eo_x e9
    exact absurd (inN_of hf9 (by omega)) e7
  obtain ⟨e9, r9, rfl⟩ := q9
  cases r9
  refine s_aload_n (zdk hX8_move 3 rfl) rfl ?_
  refine s_iload_n (zdk hX8_move 4 rfl) rfl ?_
  refine s_callVXa (ci := 8) [.int (nI t)] (zdk hX8_move 5 rfl) cw_X8_125 (hx.K) (by decide) rfl rfl rfl (Nat.le_of_ble_eq_true rfl) (by decide) (c_X8_requireTier hl hx h hf (nI t)) rfl (fun x9 M9 q9 => ?_) (fun v9 M9 q9 => ?_)
  · obtain ⟨e9, rfl⟩ := q9
    obtain ⟨e7, rfl⟩ := eo_x e9
    exact absurd (inN_of ht9 (by omega)) e7
  obtain ⟨e9, r9, rfl⟩ := q9
  cases r9
  refine s_aload_n (zdk hX8_move 6 rfl) rfl ?_
  refine s_getR (zdk hX8_move 7 rfl) fw_X8_40 rfl (hx.K) (show _ = some 630 from (hx.r (i := 4) rfl)) ?_
  refine s_getR (zdk hX8_move 8 rfl) fw_X8_149 rfl (h.K) (h.r6) ?_
  refine s_iload_n (zdk hX8_move 9 rfl) rfl ?_
  refine s_aaloadN (N := 20) (j := f) (zdk hX8_move 10 rfl) (h.fK) (by decide) (h.fN) (h.fL hf9) (by decide) (h.rR hf9) ?_
  refine s_astore_n (zdk hX8_move 11 rfl) (Nat.le_of_ble_eq_true rfl) ?_
  refine s_ls (ls' := [some (.ref 0), some (.int (nI f)), some (.int (nI t)), some (.ref (630 + 17 + 3 * p f))]) rfl ?_
  refine s_aload_n (zdk hX8_move 12 rfl) rfl ?_
  refine s_aload_n (zdk hX8_move 13 rfl) rfl ?_
  refine s_getR (zdk hX8_move 14 rfl) fw_X8_40 rfl (hx.K) (show _ = some 630 from (hx.r (i := 4) rfl)) ?_
  refine s_getI (zdk hX8_move 15 rfl) fw_X8_103 rfl (h.K) ?_
  refine s_topi (b := nI (gN (S 630) 4)) (h.v2) ?_
  refine s_callV0 (ci := 0) [.int (nI (gN (S 630) 4))] (zdk hX8_move 16 rfl) cw_X8_165 ((h.rS hf9).1) (by decide) rfl rfl rfl (Nat.le_of_ble_eq_true rfl) (by decide) (c_X0_isPinnedIn hl (h.rS hf9) (nI (gN (S 630) 4))) ?_
  refine s_topi (b := if nI (gN (S 630) 4) < gf (S 630) f 3 then nI 1 else nI 0) (by rw [h.f4 hf9]) ?_
  refine s_if_eq 37 (zdk hX8_move 17 rfl) (by decide) (fun c31 => ?_) (fun c31 => ?_)
  · have b31 : ¬ (nI (gN (S 630) 4) < gf (S 630) f 3) := b01_eq c31
    exact absurd hr b31
  · have b31 : nI (gN (S 630) 4) < gf (S 630) f 3 := b01_ne c31
    refine s_bipushv (v := (-13)) (zdk hX8_move 18 rfl) zc_bipush_m13 ?_
    refine s_ireturn (zdk hX8_move 19 rfl) rfl rfl ?_
    exact ⟨rfl, rfl, rfl⟩
theorem c_X8_move_s (hl : l.stackTraces = false) {M : zMem} {S : Nat → Nat → Int64} {p : Nat → Nat} (hx : xSh M) (hW : rW M S) (h : rSt M 630 (S 630) p) (hf : zF M = 1) {c d : Nat} (hc : zI M 12 0 = nI c) (hc8 : c ≤ 8) (hd : zI M 12 1 = nI d) (hd8 : d < 8) {f t : Nat} (hf9 : f < gN (S 630) 3) (ht9 : t < gN (S 630) 2) (hr : ¬ nI (gN (S 630) 4) < gf (S 630) f 3) (hr2 : gN (S 630) (58 + 51 * f + 1) = t) : zCx2 l G mX8_move 10 400 5 30 [.ref 0, .int (nI f), .int (nI t)] M (zXr none M (zP1 (some (.int (-14))) M)) := by
  refine zCxr.of (ls0 := [some (.ref 0), some (.int (nI f)), some (.int (nI t)), none]) (by decide +kernel) rfl hl rfl (Nat.le_of_ble_eq_true rfl) hf (by first | exact (fun v9 M9 q9 => by rw [q9.2]) | exact (fun v9 M9 q9 => q9.fl) | exact (fun v9 M9 q9 => q9.elim)) ?_
  have h20 := h.b.2.2.1.2
  have h4 := h.b.2.1.2
  have hcy := h.b.1.2.2
  have hcy2 := h.b.1.2.1
  have hpe := h.b.2.2.2.1.2
  have hon := h.b.onL hf9
  refine s_aload_n (zdk hX8_move 0 rfl) rfl ?_
  refine s_iload_n (zdk hX8_move 1 rfl) rfl ?_
  refine s_callVXa (ci := 8) [.int (nI f)] (zdk hX8_move 2 rfl) cw_X8_146 (hx.K) (by decide) rfl rfl rfl (Nat.le_of_ble_eq_true rfl) (by decide) (c_X8_requireFile hl hx h hf (nI f)) rfl (fun x9 M9 q9 => ?_) (fun v9 M9 q9 => ?_)
  · obtain ⟨e9, rfl⟩ := q9
    obtain ⟨e7, rfl⟩ := eo_x e9
    exact absurd (inN_of hf9 (by omega)) e7
  obtain ⟨e9, r9, rfl⟩ := q9
  cases r9
  refine s_aload_n (zdk hX8_move 3 rfl) rfl ?_
  refine s_iload_n (zdk hX8_move 4 rfl) rfl ?_
  refine s_callVXa (ci := 8) [.int (nI t)] (zdk hX8_move 5 rfl) cw_X8_125 (hx.K) (by decide) rfl rfl rfl (Nat.le_of_ble_eq_true rfl) (by decide) (c_X8_requireTier hl hx h hf (nI t)) rfl (fun x9 M9 q9 => ?_) (fun v9 M9 q9 => ?_)
  · obtain ⟨e9, rfl⟩ := q9
    obtain ⟨e7, rfl⟩ := eo_x e9
    exact absurd (inN_of ht9 (by omega)) e7
  obtain ⟨e9, r9, rfl⟩ := q9
  cases r9
  refine s_aload_n (zdk hX8_move 6 rfl) rfl ?_
  refine s_getR (zdk hX8_move 7 rfl) fw_X8_40 rfl (hx.K) (show _ = some 630 from (hx.r (i := 4) rfl)) ?_
  refine s_getR (zdk hX8_move 8 rfl) fw_X8_149 rfl (h.K) (h.r6) ?_
  refine s_iload_n (zdk hX8_move 9 rfl) rfl ?_
  refine s_aaloadN (N := 20) (j := f) (zdk hX8_move 10 rfl) (h.fK) (by decide) (h.fN) (h.fL hf9) (by decide) (h.rR hf9) ?_
  refine s_astore_n (zdk hX8_move 11 rfl) (Nat.le_of_ble_eq_true rfl) ?_
  refine s_ls (ls' := [some (.ref 0), some (.int (nI f)), some (.int (nI t)), some (.ref (630 + 17 + 3 * p f))]) rfl ?_
  refine s_aload_n (zdk hX8_move 12 rfl) rfl ?_
  refine s_aload_n (zdk hX8_move 13 rfl) rfl ?_
  refine s_getR (zdk hX8_move 14 rfl) fw_X8_40 rfl (hx.K) (show _ = some 630 from (hx.r (i := 4) rfl)) ?_
  refine s_getI (zdk hX8_move 15 rfl) fw_X8_103 rfl (h.K) ?_
  refine s_topi (b := nI (gN (S 630) 4)) (h.v2) ?_
  refine s_callV0 (ci := 0) [.int (nI (gN (S 630) 4))] (zdk hX8_move 16 rfl) cw_X8_165 ((h.rS hf9).1) (by decide) rfl rfl rfl (Nat.le_of_ble_eq_true rfl) (by decide) (c_X0_isPinnedIn hl (h.rS hf9) (nI (gN (S 630) 4))) ?_
  refine s_topi (b := if nI (gN (S 630) 4) < gf (S 630) f 3 then nI 1 else nI 0) (by rw [h.f4 hf9]) ?_
  refine s_if_eq 37 (zdk hX8_move 17 rfl) (by decide) (fun c31 => ?_) (fun c31 => ?_)
  · have b31 : ¬ (nI (gN (S 630) 4) < gf (S 630) f 3) := b01_eq c31
    refine s_aload_n (zdk hX8_move 20 rfl) rfl ?_
    refine s_getI (zdk hX8_move 21 rfl) fw_X8_156 rfl ((h.rS hf9).1) ?_
    refine s_topi (b := nI (gN (S 630) (58 + 51 * f + 1))) ((h.f2 hf9).trans (h.b.on hf9)) ?_
    refine s_iload_n (zdk hX8_move 22 rfl) rfl ?_
    refine s_icmp_ne 48 (zdk hX8_move 23 rfl) (by decide) (fun c42 => ?_) (fun c42 => ?_)
    · have n42 : ¬ (gN (S 630) (58 + 51 * f + 1)) = t := nne c42
      exact absurd hr2 n42
    · have n42 : gN (S 630) (58 + 51 * f + 1) = t := neq c42 (by omega) (by omega)
      refine s_bipushv (v := (-14)) (zdk hX8_move 24 rfl) zc_bipush_m14 ?_
      refine s_ireturn (zdk hX8_move 25 rfl) rfl rfl ?_
      exact ⟨rfl, rfl, rfl⟩
  · have b31 : nI (gN (S 630) 4) < gf (S 630) f 3 := b01_ne c31
    exact absurd b31 hr
theorem c_X8_move_r (hl : l.stackTraces = false) {M : zMem} {S : Nat → Nat → Int64} {p : Nat → Nat} (hx : xSh M) (hW : rW M S) (h : rSt M 630 (S 630) p) (hf : zF M = 1) {c d : Nat} (hc : zI M 12 0 = nI c) (hc8 : c ≤ 8) (hd : zI M 12 1 = nI d) (hd8 : d < 8) {f t : Nat} (hf9 : f < gN (S 630) 3) (ht9 : t < gN (S 630) 2) (hr : ¬ nI (gN (S 630) 4) < gf (S 630) f 3) (hr2 : ¬ gN (S 630) (58 + 51 * f + 1) = t) (hr3 : ¬ zfull (S 630) (nI (t)) (gN (S 630) 3) + gf (S 630) (f) 0 ≤ gt (S 630) (t) 0) : zCx2 l G mX8_move 10 400 5 30 [.ref 0, .int (nI f), .int (nI t)] M (zXr none M (zP1 (some (.int (-15))) M)) := by
  refine zCxr.of (ls0 := [some (.ref 0), some (.int (nI f)), some (.int (nI t)), none]) (by decide +kernel) rfl hl rfl (Nat.le_of_ble_eq_true rfl) hf (by first | exact (fun v9 M9 q9 => by rw [q9.2]) | exact (fun v9 M9 q9 => q9.fl) | exact (fun v9 M9 q9 => q9.elim)) ?_
  have h20 := h.b.2.2.1.2
  have h4 := h.b.2.1.2
  have hcy := h.b.1.2.2
  have hcy2 := h.b.1.2.1
  have hpe := h.b.2.2.2.1.2
  have hon := h.b.onL hf9
  refine s_aload_n (zdk hX8_move 0 rfl) rfl ?_
  refine s_iload_n (zdk hX8_move 1 rfl) rfl ?_
  refine s_callVXa (ci := 8) [.int (nI f)] (zdk hX8_move 2 rfl) cw_X8_146 (hx.K) (by decide) rfl rfl rfl (Nat.le_of_ble_eq_true rfl) (by decide) (c_X8_requireFile hl hx h hf (nI f)) rfl (fun x9 M9 q9 => ?_) (fun v9 M9 q9 => ?_)
  · obtain ⟨e9, rfl⟩ := q9
    obtain ⟨e7, rfl⟩ := eo_x e9
    exact absurd (inN_of hf9 (by omega)) e7
  obtain ⟨e9, r9, rfl⟩ := q9
  cases r9
  refine s_aload_n (zdk hX8_move 3 rfl) rfl ?_
  refine s_iload_n (zdk hX8_move 4 rfl) rfl ?_
  refine s_callVXa (ci := 8) [.int (nI t)] (zdk hX8_move 5 rfl) cw_X8_125 (hx.K) (by decide) rfl rfl rfl (Nat.le_of_ble_eq_true rfl) (by decide) (c_X8_requireTier hl hx h hf (nI t)) rfl (fun x9 M9 q9 => ?_) (fun v9 M9 q9 => ?_)
  · obtain ⟨e9, rfl⟩ := q9
    obtain ⟨e7, rfl⟩ := eo_x e9
    exact absurd (inN_of ht9 (by omega)) e7
  obtain ⟨e9, r9, rfl⟩ := q9
  cases r9
  refine s_aload_n (zdk hX8_move 6 rfl) rfl ?_
  refine s_getR (zdk hX8_move 7 rfl) fw_X8_40 rfl (hx.K) (show _ = some 630 from (hx.r (i := 4) rfl)) ?_
  refine s_getR (zdk hX8_move 8 rfl) fw_X8_149 rfl (h.K) (h.r6) ?_
  refine s_iload_n (zdk hX8_move 9 rfl) rfl ?_
  refine s_aaloadN (N := 20) (j := f) (zdk hX8_move 10 rfl) (h.fK) (by decide) (h.fN) (h.fL hf9) (by decide) (h.rR hf9) ?_
  refine s_astore_n (zdk hX8_move 11 rfl) (Nat.le_of_ble_eq_true rfl) ?_
  refine s_ls (ls' := [some (.ref 0), some (.int (nI f)), some (.int (nI t)), some (.ref (630 + 17 + 3 * p f))]) rfl ?_
  refine s_aload_n (zdk hX8_move 12 rfl) rfl ?_
  refine s_aload_n (zdk hX8_move 13 rfl) rfl ?_
  refine s_getR (zdk hX8_move 14 rfl) fw_X8_40 rfl (hx.K) (show _ = some 630 from (hx.r (i := 4) rfl)) ?_
  refine s_getI (zdk hX8_move 15 rfl) fw_X8_103 rfl (h.K) ?_
  refine s_topi (b := nI (gN (S 630) 4)) (h.v2) ?_
  refine s_callV0 (ci := 0) [.int (nI (gN (S 630) 4))] (zdk hX8_move 16 rfl) cw_X8_165 ((h.rS hf9).1) (by decide) rfl rfl rfl (Nat.le_of_ble_eq_true rfl) (by decide) (c_X0_isPinnedIn hl (h.rS hf9) (nI (gN (S 630) 4))) ?_
  refine s_topi (b := if nI (gN (S 630) 4) < gf (S 630) f 3 then nI 1 else nI 0) (by rw [h.f4 hf9]) ?_
  refine s_if_eq 37 (zdk hX8_move 17 rfl) (by decide) (fun c31 => ?_) (fun c31 => ?_)
  · have b31 : ¬ (nI (gN (S 630) 4) < gf (S 630) f 3) := b01_eq c31
    refine s_aload_n (zdk hX8_move 20 rfl) rfl ?_
    refine s_getI (zdk hX8_move 21 rfl) fw_X8_156 rfl ((h.rS hf9).1) ?_
    refine s_topi (b := nI (gN (S 630) (58 + 51 * f + 1))) ((h.f2 hf9).trans (h.b.on hf9)) ?_
    refine s_iload_n (zdk hX8_move 22 rfl) rfl ?_
    refine s_icmp_ne 48 (zdk hX8_move 23 rfl) (by decide) (fun c42 => ?_) (fun c42 => ?_)
    · have n42 : ¬ (gN (S 630) (58 + 51 * f + 1)) = t := nne c42
      refine s_aload_n (zdk hX8_move 26 rfl) rfl ?_
      refine s_getR (zdk hX8_move 27 rfl) fw_X8_40 rfl (hx.K) (show _ = some 630 from (hx.r (i := 4) rfl)) ?_
      refine s_iload_n (zdk hX8_move 28 rfl) rfl ?_
      refine s_aload_n (zdk hX8_move 29 rfl) rfl ?_
      refine s_getI (zdk hX8_move 30 rfl) fw_X8_153 rfl ((h.rS hf9).1) ?_
      refine s_topi (b := gf (S 630) f 0) (h.f1 hf9) ?_
      refine s_callV0 (ci := 5) [.int (nI t), .int (gf (S 630) f 0)] (zdk hX8_move 31 rfl) cw_X8_256 (h.K) (by decide) rfl rfl rfl (Nat.le_of_ble_eq_true rfl) (by decide) (c_X5_hasRoomFor hl h ht9 (gf (S 630) f 0)) ?_
      refine s_if_ne 66 (zdk hX8_move 32 rfl) (by decide) (fun c60 => ?_) (fun c60 => ?_)
      · have b60 : zfull (S 630) (nI (t)) (gN (S 630) 3) + gf (S 630) (f) 0 ≤ gt (S 630) (t) 0 := b01_ne c60
        exact absurd b60 hr3
      · have b60 : ¬ (zfull (S 630) (nI (t)) (gN (S 630) 3) + gf (S 630) (f) 0 ≤ gt (S 630) (t) 0) := b01_eq c60
        refine s_bipushv (v := (-15)) (zdk hX8_move 33 rfl) zc_bipush_m15 ?_
        refine s_ireturn (zdk hX8_move 34 rfl) rfl rfl ?_
        exact ⟨rfl, rfl, rfl⟩
    · have n42 : gN (S 630) (58 + 51 * f + 1) = t := neq c42 (by omega) (by omega)
      exact absurd n42 hr2
  · have b31 : nI (gN (S 630) 4) < gf (S 630) f 3 := b01_ne c31
    exact absurd b31 hr
theorem c_X8_move (hl : l.stackTraces = false) {M : zMem} {S : Nat → Nat → Int64} {p : Nat → Nat} (hx : xSh M) (hW : rW M S) (h : rSt M 630 (S 630) p) (hf : zF M = 1) {c d : Nat} (hc : zI M 12 0 = nI c) (hc8 : c ≤ 8) (hd : zI M 12 1 = nI d) (hd8 : d < 8) {f t : Nat} (hf9 : f < gN (S 630) 3) (ht9 : t < gN (S 630) 2) (hr : ¬ nI (gN (S 630) 4) < gf (S 630) f 3) (hr2 : ¬ gN (S 630) (58 + 51 * f + 1) = t) (hr3 : zfull (S 630) (nI (t)) (gN (S 630) 3) + gf (S 630) (f) 0 ≤ gt (S 630) (t) 0) : zCx2 l G mX8_move 10 400 5 30 [.ref 0, .int (nI f), .int (nI t)] M (zXr none M (uP (some (.int (oOut (S 630) f + oInc (S 630) f t))) M S c d (oGo (S 630) f t))) := by
  refine zCxr.of (ls0 := [some (.ref 0), some (.int (nI f)), some (.int (nI t)), none]) (by decide +kernel) rfl hl rfl (Nat.le_of_ble_eq_true rfl) hf (by first | exact (fun v9 M9 q9 => by rw [q9.2]) | exact (fun v9 M9 q9 => q9.fl) | exact (fun v9 M9 q9 => q9.elim)) ?_
  have h20 := h.b.2.2.1.2
  have h4 := h.b.2.1.2
  have hcy := h.b.1.2.2
  have hcy2 := h.b.1.2.1
  have hpe := h.b.2.2.2.1.2
  have hon := h.b.onL hf9
  refine s_aload_n (zdk hX8_move 0 rfl) rfl ?_
  refine s_iload_n (zdk hX8_move 1 rfl) rfl ?_
  refine s_callVXa (ci := 8) [.int (nI f)] (zdk hX8_move 2 rfl) cw_X8_146 (hx.K) (by decide) rfl rfl rfl (Nat.le_of_ble_eq_true rfl) (by decide) (c_X8_requireFile hl hx h hf (nI f)) rfl (fun x9 M9 q9 => ?_) (fun v9 M9 q9 => ?_)
  · obtain ⟨e9, rfl⟩ := q9
    obtain ⟨e7, rfl⟩ := eo_x e9
    exact absurd (inN_of hf9 (by omega)) e7
  obtain ⟨e9, r9, rfl⟩ := q9
  cases r9
  refine s_aload_n (zdk hX8_move 3 rfl) rfl ?_
  refine s_iload_n (zdk hX8_move 4 rfl) rfl ?_
  refine s_callVXa (ci := 8) [.int (nI t)] (zdk hX8_move 5 rfl) cw_X8_125 (hx.K) (by decide) rfl rfl rfl (Nat.le_of_ble_eq_true rfl) (by decide) (c_X8_requireTier hl hx h hf (nI t)) rfl (fun x9 M9 q9 => ?_) (fun v9 M9 q9 => ?_)
  · obtain ⟨e9, rfl⟩ := q9
    obtain ⟨e7, rfl⟩ := eo_x e9
    exact absurd (inN_of ht9 (by omega)) e7
  obtain ⟨e9, r9, rfl⟩ := q9
  cases r9
  refine s_aload_n (zdk hX8_move 6 rfl) rfl ?_
  refine s_getR (zdk hX8_move 7 rfl) fw_X8_40 rfl (hx.K) (show _ = some 630 from (hx.r (i := 4) rfl)) ?_
  refine s_getR (zdk hX8_move 8 rfl) fw_X8_149 rfl (h.K) (h.r6) ?_
  refine s_iload_n (zdk hX8_move 9 rfl) rfl ?_
  refine s_aaloadN (N := 20) (j := f) (zdk hX8_move 10 rfl) (h.fK) (by decide) (h.fN) (h.fL hf9) (by decide) (h.rR hf9) ?_
  refine s_astore_n (zdk hX8_move 11 rfl) (Nat.le_of_ble_eq_true rfl) ?_
  refine s_ls (ls' := [some (.ref 0), some (.int (nI f)), some (.int (nI t)), some (.ref (630 + 17 + 3 * p f))]) rfl ?_
  refine s_aload_n (zdk hX8_move 12 rfl) rfl ?_
  refine s_aload_n (zdk hX8_move 13 rfl) rfl ?_
  refine s_getR (zdk hX8_move 14 rfl) fw_X8_40 rfl (hx.K) (show _ = some 630 from (hx.r (i := 4) rfl)) ?_
  refine s_getI (zdk hX8_move 15 rfl) fw_X8_103 rfl (h.K) ?_
  refine s_topi (b := nI (gN (S 630) 4)) (h.v2) ?_
  refine s_callV0 (ci := 0) [.int (nI (gN (S 630) 4))] (zdk hX8_move 16 rfl) cw_X8_165 ((h.rS hf9).1) (by decide) rfl rfl rfl (Nat.le_of_ble_eq_true rfl) (by decide) (c_X0_isPinnedIn hl (h.rS hf9) (nI (gN (S 630) 4))) ?_
  refine s_topi (b := if nI (gN (S 630) 4) < gf (S 630) f 3 then nI 1 else nI 0) (by rw [h.f4 hf9]) ?_
  refine s_if_eq 37 (zdk hX8_move 17 rfl) (by decide) (fun c31 => ?_) (fun c31 => ?_)
  · have b31 : ¬ (nI (gN (S 630) 4) < gf (S 630) f 3) := b01_eq c31
    refine s_aload_n (zdk hX8_move 20 rfl) rfl ?_
    refine s_getI (zdk hX8_move 21 rfl) fw_X8_156 rfl ((h.rS hf9).1) ?_
    refine s_topi (b := nI (gN (S 630) (58 + 51 * f + 1))) ((h.f2 hf9).trans (h.b.on hf9)) ?_
    refine s_iload_n (zdk hX8_move 22 rfl) rfl ?_
    refine s_icmp_ne 48 (zdk hX8_move 23 rfl) (by decide) (fun c42 => ?_) (fun c42 => ?_)
    · have n42 : ¬ (gN (S 630) (58 + 51 * f + 1)) = t := nne c42
      refine s_aload_n (zdk hX8_move 26 rfl) rfl ?_
      refine s_getR (zdk hX8_move 27 rfl) fw_X8_40 rfl (hx.K) (show _ = some 630 from (hx.r (i := 4) rfl)) ?_
      refine s_iload_n (zdk hX8_move 28 rfl) rfl ?_
      refine s_aload_n (zdk hX8_move 29 rfl) rfl ?_
      refine s_getI (zdk hX8_move 30 rfl) fw_X8_153 rfl ((h.rS hf9).1) ?_
      refine s_topi (b := gf (S 630) f 0) (h.f1 hf9) ?_
      refine s_callV0 (ci := 5) [.int (nI t), .int (gf (S 630) f 0)] (zdk hX8_move 31 rfl) cw_X8_256 (h.K) (by decide) rfl rfl rfl (Nat.le_of_ble_eq_true rfl) (by decide) (c_X5_hasRoomFor hl h ht9 (gf (S 630) f 0)) ?_
      refine s_if_ne 66 (zdk hX8_move 32 rfl) (by decide) (fun c60 => ?_) (fun c60 => ?_)
      · have b60 : zfull (S 630) (nI (t)) (gN (S 630) 3) + gf (S 630) (f) 0 ≤ gt (S 630) (t) 0 := b01_ne c60
        refine s_aload_n (zdk hX8_move 35 rfl) rfl ?_
        refine s_getR (zdk hX8_move 36 rfl) fw_X8_33 rfl (hx.K) (show _ = some 12 from (hx.r (i := 3) rfl)) ?_
        refine s_aload_n (zdk hX8_move 37 rfl) rfl ?_
        refine s_getR (zdk hX8_move 38 rfl) fw_X8_40 rfl (hx.K) (show _ = some 630 from (hx.r (i := 4) rfl)) ?_
        refine s_callV1 (ci := 1) [.ref 630] (zdk hX8_move 39 rfl) cw_X8_81 (hx.hi.1) (by decide) rfl rfl rfl (Nat.le_of_ble_eq_true rfl) (by decide) (c_remember2 hl hx hW hc hc8 hd hd8) ?_
        intro v2 M2 q2
        have q3 := q2.1
        cases q3
        have hx2 : xSh M2 := q2.xs hx hd8
        have h2 : rSt M2 630 (S 630) p := q2.st h hd8
        refine s_aload_n (zdk hX8_move 40 rfl) rfl ?_
        refine s_getR (zdk hX8_move 41 rfl) fw_X8_40 rfl (hx2.K) (show _ = some 630 from (hx2.r (i := 4) rfl)) ?_
        refine s_iload_n (zdk hX8_move 42 rfl) rfl ?_
        refine s_iload_n (zdk hX8_move 43 rfl) rfl ?_
        refine s_callV1 (ci := 5) [.int (nI f), .int (nI t)] (zdk hX8_move 44 rfl) cw_X8_273 (h2.K) (by decide) rfl rfl rfl (Nat.le_of_ble_eq_true rfl) (by decide) (c_X5_carry hl h2 hf9 ht9) ?_
        intro v3 M3 q4
        obtain ⟨q5, e3, h3⟩ := q4
        cases q5
        have hx3 : xSh M3 := hx2.keep e3.1 (fun b hb => (e3.2 b (by omega)).2.2)
        refine s_ireturn (zdk hX8_move 45 rfl) rfl rfl ?_
        exact ⟨rfl, uP_of q2 hd8 e3 h3⟩
      · have b60 : ¬ (zfull (S 630) (nI (t)) (gN (S 630) 3) + gf (S 630) (f) 0 ≤ gt (S 630) (t) 0) := b01_eq c60
        exact absurd hr3 b60
    · have n42 : gN (S 630) (58 + 51 * f + 1) = t := neq c42 (by omega) (by omega)
      exact absurd n42 hr2
  · have b31 : nI (gN (S 630) 4) < gf (S 630) f 3 := b01_ne c31
    exact absurd b31 hr
theorem c_X8_unmove_0 (hl : l.stackTraces = false) {M : zMem} {S : Nat → Nat → Int64} {p : Nat → Nat} (hx : xSh M) (hW : rW M S) (h : rSt M 630 (S 630) p) (hf : zF M = 1) {c d : Nat} (hc : zI M 12 0 = nI c) (hc8 : c ≤ 8) (hd : zI M 12 1 = nI d) (hd8 : d < 8) (h0 : gN (S 630) 5 = 0) : zCx2 l G mX8_unmove 10 400 5 30 [.ref 0] M (zXr none M (zP1 (some (.int (-16))) M)) := by
  refine zCxr.of (ls0 := [some (.ref 0), none]) (by decide +kernel) rfl hl rfl (Nat.le_of_ble_eq_true rfl) hf (by first | exact (fun v9 M9 q9 => by rw [q9.2]) | exact (fun v9 M9 q9 => q9.fl) | exact (fun v9 M9 q9 => q9.elim)) ?_
  have h20 := h.b.2.2.1.2
  have h4 := h.b.2.1.2
  have hcy := h.b.1.2.2
  have hcy2 := h.b.1.2.1
  have hpe := h.b.2.2.2.1.2
  have h60 := h.b.2.2.2.2.1.2
  refine s_aload_n (zdk hX8_unmove 0 rfl) rfl ?_
  refine s_getR (zdk hX8_unmove 1 rfl) fw_X8_40 rfl (hx.K) (show _ = some 630 from (hx.r (i := 4) rfl)) ?_
  refine s_getR (zdk hX8_unmove 2 rfl) fw_X8_110 rfl (h.K) (h.r7) ?_
  refine s_getI (zdk hX8_unmove 3 rfl) fw_X8_114 rfl (h.mS.1) ?_
  refine s_topi (b := nI (gN (S 630) 5)) (h.mv0) ?_
  refine s_if_ne 16 (zdk hX8_unmove 4 rfl) (by decide) (fun c10 => ?_) (fun c10 => ?_)
  · exact absurd (by rw [h0]; rfl) c10
  · refine s_bipushv (v := (-16)) (zdk hX8_unmove 5 rfl) zc_bipush_m16 ?_
    refine s_ireturn (zdk hX8_unmove 6 rfl) rfl rfl ?_
    exact ⟨rfl, rfl, rfl⟩
theorem c_X8_unmove_r (hl : l.stackTraces = false) {M : zMem} {S : Nat → Nat → Int64} {p : Nat → Nat} (hx : xSh M) (hW : rW M S) (h : rSt M 630 (S 630) p) (hf : zF M = 1) {c d : Nat} (hc : zI M 12 0 = nI c) (hc8 : c ≤ 8) (hd : zI M 12 1 = nI d) (hd8 : d < 8) (h0 : 0 < gN (S 630) 5) (hr : ¬ zfull (S 630) (nI (oLa (S 630))) (gN (S 630) 3) + gf (S 630) (oLf (S 630)) 0 ≤ gt (S 630) (oLa (S 630)) 0) : zCx2 l G mX8_unmove 10 400 5 30 [.ref 0] M (zXr none M (zP1 (some (.int (-15))) M)) := by
  refine zCxr.of (ls0 := [some (.ref 0), none]) (by decide +kernel) rfl hl rfl (Nat.le_of_ble_eq_true rfl) hf (by first | exact (fun v9 M9 q9 => by rw [q9.2]) | exact (fun v9 M9 q9 => q9.fl) | exact (fun v9 M9 q9 => q9.elim)) ?_
  have h20 := h.b.2.2.1.2
  have h4 := h.b.2.1.2
  have hcy := h.b.1.2.2
  have hcy2 := h.b.1.2.1
  have hpe := h.b.2.2.2.1.2
  have h60 := h.b.2.2.2.2.1.2
  have hfl := (h.b.mF h0).2
  have hla := (h.b.mA h0).2
  refine s_aload_n (zdk hX8_unmove 0 rfl) rfl ?_
  refine s_getR (zdk hX8_unmove 1 rfl) fw_X8_40 rfl (hx.K) (show _ = some 630 from (hx.r (i := 4) rfl)) ?_
  refine s_getR (zdk hX8_unmove 2 rfl) fw_X8_110 rfl (h.K) (h.r7) ?_
  refine s_getI (zdk hX8_unmove 3 rfl) fw_X8_114 rfl (h.mS.1) ?_
  refine s_topi (b := nI (gN (S 630) 5)) (h.mv0) ?_
  refine s_if_ne 16 (zdk hX8_unmove 4 rfl) (by decide) (fun c10 => ?_) (fun c10 => ?_)
  · refine s_aload_n (zdk hX8_unmove 7 rfl) rfl ?_
    refine s_getR (zdk hX8_unmove 8 rfl) fw_X8_40 rfl (hx.K) (show _ = some 630 from (hx.r (i := 4) rfl)) ?_
    refine s_getR (zdk hX8_unmove 9 rfl) fw_X8_110 rfl (h.K) (h.r7) ?_
    refine s_iconstv (v := nI 0) (zdk hX8_unmove 10 rfl) zc_iconst_0 ?_
    refine s_callV0 (ci := 2) [.int (nI 0)] (zdk hX8_unmove 11 rfl) cw_X8_277 (h.mS.1) (by decide) rfl rfl rfl (Nat.le_of_ble_eq_true rfl) (by decide) (c_X2_latest hl h.mS h.mv0 h0 (by omega) (k := 0) (by omega)) ?_
    refine s_topi (b := nI (oLf (S 630))) ((h.mv (by omega) (by omega)).trans (h.b.mF h0).1) ?_
    refine s_istore_n (zdk hX8_unmove 12 rfl) (Nat.le_of_ble_eq_true rfl) ?_
    refine s_ls (ls' := [some (.ref 0), some (.int (nI (oLf (S 630))))]) rfl ?_
    refine s_aload_n (zdk hX8_unmove 13 rfl) rfl ?_
    refine s_getR (zdk hX8_unmove 14 rfl) fw_X8_40 rfl (hx.K) (show _ = some 630 from (hx.r (i := 4) rfl)) ?_
    refine s_aload_n (zdk hX8_unmove 15 rfl) rfl ?_
    refine s_getR (zdk hX8_unmove 16 rfl) fw_X8_40 rfl (hx.K) (show _ = some 630 from (hx.r (i := 4) rfl)) ?_
    refine s_getR (zdk hX8_unmove 17 rfl) fw_X8_110 rfl (h.K) (h.r7) ?_
    refine s_iconstv (v := nI 1) (zdk hX8_unmove 18 rfl) zc_iconst_1 ?_
    refine s_callV0 (ci := 2) [.int (nI 1)] (zdk hX8_unmove 19 rfl) cw_X8_277 (h.mS.1) (by decide) rfl rfl rfl (Nat.le_of_ble_eq_true rfl) (by decide) (c_X2_latest hl h.mS h.mv0 h0 (by omega) (k := 1) (by omega)) ?_
    refine s_topi (b := nI (oLa (S 630))) ((h.mv (by omega) (by omega)).trans (h.b.mA h0).1) ?_
    refine s_aload_n (zdk hX8_unmove 20 rfl) rfl ?_
    refine s_getR (zdk hX8_unmove 21 rfl) fw_X8_40 rfl (hx.K) (show _ = some 630 from (hx.r (i := 4) rfl)) ?_
    refine s_getR (zdk hX8_unmove 22 rfl) fw_X8_149 rfl (h.K) (h.r6) ?_
    refine s_iload_n (zdk hX8_unmove 23 rfl) rfl ?_
    refine s_aaloadN (N := 20) (j := oLf (S 630)) (zdk hX8_unmove 24 rfl) (h.fK) (by decide) (h.fN) (h.fL hfl) (by decide) (h.rR hfl) ?_
    refine s_getI (zdk hX8_unmove 25 rfl) fw_X8_153 rfl ((h.rS hfl).1) ?_
    refine s_topi (b := gf (S 630) (oLf (S 630)) 0) (h.f1 hfl) ?_
    refine s_callV0 (ci := 5) [.int (nI (oLa (S 630))), .int (gf (S 630) (oLf (S 630)) 0)] (zdk hX8_unmove 26 rfl) cw_X8_256 (h.K) (by decide) rfl rfl rfl (Nat.le_of_ble_eq_true rfl) (by decide) (c_X5_hasRoomFor hl h hla (gf (S 630) (oLf (S 630)) 0)) ?_
    refine s_if_ne 64 (zdk hX8_unmove 27 rfl) (by decide) (fun c58 => ?_) (fun c58 => ?_)
    · have b58 : zfull (S 630) (nI (oLa (S 630))) (gN (S 630) 3) + gf (S 630) (oLf (S 630)) 0 ≤ gt (S 630) (oLa (S 630)) 0 := b01_ne c58
      exact absurd b58 hr
    · have b58 : ¬ (zfull (S 630) (nI (oLa (S 630))) (gN (S 630) 3) + gf (S 630) (oLf (S 630)) 0 ≤ gt (S 630) (oLa (S 630)) 0) := b01_eq c58
      refine s_bipushv (v := (-15)) (zdk hX8_unmove 28 rfl) zc_bipush_m15 ?_
      refine s_ireturn (zdk hX8_unmove 29 rfl) rfl rfl ?_
      exact ⟨rfl, rfl, rfl⟩
  · exact absurd c10 (nI_ne0 h0 (by omega))
theorem c_X8_unmove (hl : l.stackTraces = false) {M : zMem} {S : Nat → Nat → Int64} {p : Nat → Nat} (hx : xSh M) (hW : rW M S) (h : rSt M 630 (S 630) p) (hf : zF M = 1) {c d : Nat} (hc : zI M 12 0 = nI c) (hc8 : c ≤ 8) (hd : zI M 12 1 = nI d) (hd8 : d < 8) (h0 : 0 < gN (S 630) 5) (hr : zfull (S 630) (nI (oLa (S 630))) (gN (S 630) 3) + gf (S 630) (oLf (S 630)) 0 ≤ gt (S 630) (oLa (S 630)) 0) : zCx2 l G mX8_unmove 10 400 5 30 [.ref 0] M (zXr none M (uP (some (.int (nI (oLf (S 630))))) M S c d (oBk (S 630)))) := by
  refine zCxr.of (ls0 := [some (.ref 0), none]) (by decide +kernel) rfl hl rfl (Nat.le_of_ble_eq_true rfl) hf (by first | exact (fun v9 M9 q9 => by rw [q9.2]) | exact (fun v9 M9 q9 => q9.fl) | exact (fun v9 M9 q9 => q9.elim)) ?_
  have h20 := h.b.2.2.1.2
  have h4 := h.b.2.1.2
  have hcy := h.b.1.2.2
  have hcy2 := h.b.1.2.1
  have hpe := h.b.2.2.2.1.2
  have h60 := h.b.2.2.2.2.1.2
  have hfl := (h.b.mF h0).2
  have hla := (h.b.mA h0).2
  refine s_aload_n (zdk hX8_unmove 0 rfl) rfl ?_
  refine s_getR (zdk hX8_unmove 1 rfl) fw_X8_40 rfl (hx.K) (show _ = some 630 from (hx.r (i := 4) rfl)) ?_
  refine s_getR (zdk hX8_unmove 2 rfl) fw_X8_110 rfl (h.K) (h.r7) ?_
  refine s_getI (zdk hX8_unmove 3 rfl) fw_X8_114 rfl (h.mS.1) ?_
  refine s_topi (b := nI (gN (S 630) 5)) (h.mv0) ?_
  refine s_if_ne 16 (zdk hX8_unmove 4 rfl) (by decide) (fun c10 => ?_) (fun c10 => ?_)
  · refine s_aload_n (zdk hX8_unmove 7 rfl) rfl ?_
    refine s_getR (zdk hX8_unmove 8 rfl) fw_X8_40 rfl (hx.K) (show _ = some 630 from (hx.r (i := 4) rfl)) ?_
    refine s_getR (zdk hX8_unmove 9 rfl) fw_X8_110 rfl (h.K) (h.r7) ?_
    refine s_iconstv (v := nI 0) (zdk hX8_unmove 10 rfl) zc_iconst_0 ?_
    refine s_callV0 (ci := 2) [.int (nI 0)] (zdk hX8_unmove 11 rfl) cw_X8_277 (h.mS.1) (by decide) rfl rfl rfl (Nat.le_of_ble_eq_true rfl) (by decide) (c_X2_latest hl h.mS h.mv0 h0 (by omega) (k := 0) (by omega)) ?_
    refine s_topi (b := nI (oLf (S 630))) ((h.mv (by omega) (by omega)).trans (h.b.mF h0).1) ?_
    refine s_istore_n (zdk hX8_unmove 12 rfl) (Nat.le_of_ble_eq_true rfl) ?_
    refine s_ls (ls' := [some (.ref 0), some (.int (nI (oLf (S 630))))]) rfl ?_
    refine s_aload_n (zdk hX8_unmove 13 rfl) rfl ?_
    refine s_getR (zdk hX8_unmove 14 rfl) fw_X8_40 rfl (hx.K) (show _ = some 630 from (hx.r (i := 4) rfl)) ?_
    refine s_aload_n (zdk hX8_unmove 15 rfl) rfl ?_
    refine s_getR (zdk hX8_unmove 16 rfl) fw_X8_40 rfl (hx.K) (show _ = some 630 from (hx.r (i := 4) rfl)) ?_
    refine s_getR (zdk hX8_unmove 17 rfl) fw_X8_110 rfl (h.K) (h.r7) ?_
    refine s_iconstv (v := nI 1) (zdk hX8_unmove 18 rfl) zc_iconst_1 ?_
    refine s_callV0 (ci := 2) [.int (nI 1)] (zdk hX8_unmove 19 rfl) cw_X8_277 (h.mS.1) (by decide) rfl rfl rfl (Nat.le_of_ble_eq_true rfl) (by decide) (c_X2_latest hl h.mS h.mv0 h0 (by omega) (k := 1) (by omega)) ?_
    refine s_topi (b := nI (oLa (S 630))) ((h.mv (by omega) (by omega)).trans (h.b.mA h0).1) ?_
    refine s_aload_n (zdk hX8_unmove 20 rfl) rfl ?_
    refine s_getR (zdk hX8_unmove 21 rfl) fw_X8_40 rfl (hx.K) (show _ = some 630 from (hx.r (i := 4) rfl)) ?_
    refine s_getR (zdk hX8_unmove 22 rfl) fw_X8_149 rfl (h.K) (h.r6) ?_
    refine s_iload_n (zdk hX8_unmove 23 rfl) rfl ?_
    refine s_aaloadN (N := 20) (j := oLf (S 630)) (zdk hX8_unmove 24 rfl) (h.fK) (by decide) (h.fN) (h.fL hfl) (by decide) (h.rR hfl) ?_
    refine s_getI (zdk hX8_unmove 25 rfl) fw_X8_153 rfl ((h.rS hfl).1) ?_
    refine s_topi (b := gf (S 630) (oLf (S 630)) 0) (h.f1 hfl) ?_
    refine s_callV0 (ci := 5) [.int (nI (oLa (S 630))), .int (gf (S 630) (oLf (S 630)) 0)] (zdk hX8_unmove 26 rfl) cw_X8_256 (h.K) (by decide) rfl rfl rfl (Nat.le_of_ble_eq_true rfl) (by decide) (c_X5_hasRoomFor hl h hla (gf (S 630) (oLf (S 630)) 0)) ?_
    refine s_if_ne 64 (zdk hX8_unmove 27 rfl) (by decide) (fun c58 => ?_) (fun c58 => ?_)
    · have b58 : zfull (S 630) (nI (oLa (S 630))) (gN (S 630) 3) + gf (S 630) (oLf (S 630)) 0 ≤ gt (S 630) (oLa (S 630)) 0 := b01_ne c58
      refine s_aload_n (zdk hX8_unmove 30 rfl) rfl ?_
      refine s_getR (zdk hX8_unmove 31 rfl) fw_X8_33 rfl (hx.K) (show _ = some 12 from (hx.r (i := 3) rfl)) ?_
      refine s_aload_n (zdk hX8_unmove 32 rfl) rfl ?_
      refine s_getR (zdk hX8_unmove 33 rfl) fw_X8_40 rfl (hx.K) (show _ = some 630 from (hx.r (i := 4) rfl)) ?_
      refine s_callV1 (ci := 1) [.ref 630] (zdk hX8_unmove 34 rfl) cw_X8_81 (hx.hi.1) (by decide) rfl rfl rfl (Nat.le_of_ble_eq_true rfl) (by decide) (c_remember2 hl hx hW hc hc8 hd hd8) ?_
      intro v2 M2 q2
      have q3 := q2.1
      cases q3
      have hx2 : xSh M2 := q2.xs hx hd8
      have h2 : rSt M2 630 (S 630) p := q2.st h hd8
      refine s_aload_n (zdk hX8_unmove 35 rfl) rfl ?_
      refine s_getR (zdk hX8_unmove 36 rfl) fw_X8_40 rfl (hx2.K) (show _ = some 630 from (hx2.r (i := 4) rfl)) ?_
      refine s_callV1 (ci := 5) [] (zdk hX8_unmove 37 rfl) cw_X8_280 (h2.K) (by decide) rfl rfl rfl (Nat.le_of_ble_eq_true rfl) (by decide) (c_X5_carryBack hl h2 h0) ?_
      intro v3 M3 q4
      obtain ⟨q5, e3, h3⟩ := q4
      cases q5
      have hx3 : xSh M3 := hx2.keep e3.1 (fun b hb => (e3.2 b (by omega)).2.2)
      refine s_iload_n (zdk hX8_unmove 38 rfl) rfl ?_
      refine s_ireturn (zdk hX8_unmove 39 rfl) rfl rfl ?_
      exact ⟨rfl, uP_of q2 hd8 e3 h3⟩
    · have b58 : ¬ (zfull (S 630) (nI (oLa (S 630))) (gN (S 630) 3) + gf (S 630) (oLf (S 630)) 0 ≤ gt (S 630) (oLa (S 630)) 0) := b01_eq c58
      exact absurd hr b58
  · exact absurd c10 (nI_ne0 h0 (by omega))
theorem c_X8_learn_x (hl : l.stackTraces = false) {M : zMem} {S : Nat → Nat → Int64} {p : Nat → Nat} (hx : xSh M) (hW : rW M S) (h : rSt M 630 (S 630) p) (hf : zF M = 1) {c d : Nat} (hc : zI M 12 0 = nI c) (hc8 : c ≤ 8) (hd : zI M 12 1 = nI d) (hd8 : d < 8) (u r : Int32) (hn : ¬ ((nI 2 ≤ u ∧ u ≤ nI 12) ∧ (nI 1 ≤ r ∧ r ≤ nI 8))) : zCx2 l G mX8_learn 10 400 5 30 [.ref 0, .int (u), .int (r)] M (zXr (eo (nI 2 ≤ u ∧ u ≤ nI 12) 1 (eo (nI 1 ≤ r ∧ r ≤ nI 8) 1 none)) M (fun _ _ => False)) := by
  refine zCxr.of (ls0 := [some (.ref 0), some (.int (u)), some (.int (r)), none]) (by decide +kernel) rfl hl rfl (Nat.le_of_ble_eq_true rfl) hf (by first | exact (fun v9 M9 q9 => by rw [q9.2]) | exact (fun v9 M9 q9 => q9.fl) | exact (fun v9 M9 q9 => q9.elim)) ?_
  have h20 := h.b.2.2.1.2
  have h4 := h.b.2.1.2
  have hcy := h.b.1.2.2
  have hcy2 := h.b.1.2.1
  have hpe := h.b.2.2.2.1.2
  refine s_iload_n (zdk hX8_learn 0 rfl) rfl ?_
  refine s_iconstv (v := nI 2) (zdk hX8_learn 1 rfl) zc_iconst_2 ?_
  refine s_bipushv (v := nI 12) (zdk hX8_learn 2 rfl) zc_bipush_12 ?_
  refine s_callSXa [.int (u), .int (nI 2), .int (nI 12)] (zdk hX8_learn 3 rfl) cw_X8_206 rfl (Nat.le_of_ble_eq_true rfl) (by decide) (c_X8_requireWithin hl hf (u) (nI 2) (nI 12)) rfl (fun x9 M9 q9 => ?_) (fun v9 M9 q9 => ?_)
  · obtain ⟨e9, rfl⟩ := q9
    obtain ⟨e7, rfl⟩ := eo_x e9
    exact ⟨eo_n e7, rfl⟩
  obtain ⟨e9, r9, rfl⟩ := q9
  cases r9
  have h1 := eo_r e9
  refine s_iload_n (zdk hX8_learn 4 rfl) rfl ?_
  refine s_iconstv (v := nI 1) (zdk hX8_learn 5 rfl) zc_iconst_1 ?_
  refine s_bipushv (v := nI 8) (zdk hX8_learn 6 rfl) zc_bipush_8 ?_
  refine s_callSXa [.int (r), .int (nI 1), .int (nI 8)] (zdk hX8_learn 7 rfl) cw_X8_206 rfl (Nat.le_of_ble_eq_true rfl) (by decide) (c_X8_requireWithin hl hf (r) (nI 1) (nI 8)) rfl (fun x9 M9 q9 => ?_) (fun v9 M9 q9 => ?_)
  · obtain ⟨e9, rfl⟩ := q9
    obtain ⟨e7, rfl⟩ := eo_x e9
    exact ⟨(eo_p h1).trans (eo_n e7), rfl⟩
  obtain ⟨e9, r9, rfl⟩ := q9
  cases r9
  have h2 := eo_r e9
  exact absurd ⟨h1, h2⟩ hn
theorem c_X8_learn (hl : l.stackTraces = false) {M : zMem} {S : Nat → Nat → Int64} {p : Nat → Nat} (hx : xSh M) (hW : rW M S) (h : rSt M 630 (S 630) p) (hf : zF M = 1) {c d : Nat} (hc : zI M 12 0 = nI c) (hc8 : c ≤ 8) (hd : zI M 12 1 = nI d) (hd8 : d < 8) {y : Nat} (hy : 2 ≤ y ∧ y ≤ 12) {r : Int32} (hr : nI 1 ≤ r ∧ r ≤ nI 8) (hK : ∀ f, f < gN (S 630) 3 → gN (S 630) (58 + 51 * f + 4) ≤ gN (S 630) 4) : zCx2 l G mX8_learn 10 400 5 30 [.ref 0, .int (nI y), .int (r)] M (zXr none M (uP (some (.int (nI (gN (S 630) 0)))) M S c d (oReA (zwL (zwL (S 630) 0 (nI y).toInt64) 1 r.toInt64) (gN (S 630) 3)))) := by
  refine zCxr.of (ls0 := [some (.ref 0), some (.int (nI y)), some (.int (r)), none]) (by decide +kernel) rfl hl rfl (Nat.le_of_ble_eq_true rfl) hf (by first | exact (fun v9 M9 q9 => by rw [q9.2]) | exact (fun v9 M9 q9 => q9.fl) | exact (fun v9 M9 q9 => q9.elim)) ?_
  have h20 := h.b.2.2.1.2
  have h4 := h.b.2.1.2
  have hcy := h.b.1.2.2
  have hcy2 := h.b.1.2.1
  have hpe := h.b.2.2.2.1.2
  refine s_iload_n (zdk hX8_learn 0 rfl) rfl ?_
  refine s_iconstv (v := nI 2) (zdk hX8_learn 1 rfl) zc_iconst_2 ?_
  refine s_bipushv (v := nI 12) (zdk hX8_learn 2 rfl) zc_bipush_12 ?_
  refine s_callSXa [.int (nI y), .int (nI 2), .int (nI 12)] (zdk hX8_learn 3 rfl) cw_X8_206 rfl (Nat.le_of_ble_eq_true rfl) (by decide) (c_X8_requireWithin hl hf (nI y) (nI 2) (nI 12)) rfl (fun x9 M9 q9 => ?_) (fun v9 M9 q9 => ?_)
  · obtain ⟨e9, rfl⟩ := q9
    obtain ⟨e7, rfl⟩ := eo_x e9
    exact absurd (⟨nI_le hy.1 (by omega), nI_le hy.2 (by omega)⟩) e7
  obtain ⟨e9, r9, rfl⟩ := q9
  cases r9
  refine s_iload_n (zdk hX8_learn 4 rfl) rfl ?_
  refine s_iconstv (v := nI 1) (zdk hX8_learn 5 rfl) zc_iconst_1 ?_
  refine s_bipushv (v := nI 8) (zdk hX8_learn 6 rfl) zc_bipush_8 ?_
  refine s_callSXa [.int (r), .int (nI 1), .int (nI 8)] (zdk hX8_learn 7 rfl) cw_X8_206 rfl (Nat.le_of_ble_eq_true rfl) (by decide) (c_X8_requireWithin hl hf (r) (nI 1) (nI 8)) rfl (fun x9 M9 q9 => ?_) (fun v9 M9 q9 => ?_)
  · obtain ⟨e9, rfl⟩ := q9
    obtain ⟨e7, rfl⟩ := eo_x e9
    exact absurd (hr) e7
  obtain ⟨e9, r9, rfl⟩ := q9
  cases r9
  refine s_aload_n (zdk hX8_learn 8 rfl) rfl ?_
  refine s_getR (zdk hX8_learn 9 rfl) fw_X8_40 rfl (hx.K) (show _ = some 630 from (hx.r (i := 4) rfl)) ?_
  refine s_getI (zdk hX8_learn 10 rfl) fw_X8_91 rfl (h.K) ?_
  refine s_topi (b := nI (gN (S 630) 0)) (h.v0) ?_
  refine s_istore_n (zdk hX8_learn 11 rfl) (Nat.le_of_ble_eq_true rfl) ?_
  refine s_ls (ls' := [some (.ref 0), some (.int (nI y)), some (.int (r)), some (.int (nI (gN (S 630) 0)))]) rfl ?_
  refine s_aload_n (zdk hX8_learn 12 rfl) rfl ?_
  refine s_getR (zdk hX8_learn 13 rfl) fw_X8_33 rfl (hx.K) (show _ = some 12 from (hx.r (i := 3) rfl)) ?_
  refine s_aload_n (zdk hX8_learn 14 rfl) rfl ?_
  refine s_getR (zdk hX8_learn 15 rfl) fw_X8_40 rfl (hx.K) (show _ = some 630 from (hx.r (i := 4) rfl)) ?_
  refine s_callV1 (ci := 1) [.ref 630] (zdk hX8_learn 16 rfl) cw_X8_81 (hx.hi.1) (by decide) rfl rfl rfl (Nat.le_of_ble_eq_true rfl) (by decide) (c_remember2 hl hx hW hc hc8 hd hd8) ?_
  intro v2 M2 q2
  have q3 := q2.1
  cases q3
  have hx2 : xSh M2 := q2.xs hx hd8
  have h2 : rSt M2 630 (S 630) p := q2.st h hd8
  refine s_aload_n (zdk hX8_learn 17 rfl) rfl ?_
  refine s_getR (zdk hX8_learn 18 rfl) fw_X8_40 rfl (hx2.K) (show _ = some 630 from (hx2.r (i := 4) rfl)) ?_
  refine s_iload_n (zdk hX8_learn 19 rfl) rfl ?_
  refine s_iload_n (zdk hX8_learn 20 rfl) rfl ?_
  refine s_callV1 (ci := 5) [.int (nI y), .int (r)] (zdk hX8_learn 21 rfl) cw_X8_286 (h2.K) (by decide) rfl rfl rfl (Nat.le_of_ble_eq_true rfl) (by decide) (c_X5_learnAgain hl h2 (r := r) hy hK) ?_
  intro v3 M3 q4
  obtain ⟨q5, e3, h3⟩ := q4
  cases q5
  have hx3 : xSh M3 := hx2.keep e3.1 (fun b hb => (e3.2 b (by omega)).2.2)
  refine s_iload_n (zdk hX8_learn 22 rfl) rfl ?_
  refine s_ireturn (zdk hX8_learn 23 rfl) rfl rfl ?_
  exact ⟨rfl, uP_of q2 hd8 e3 h3⟩
theorem c_X8_leastOf (hl : l.stackTraces = false) (M : zMem) (w : Int32) : zCm l G mX8_leastOf 0 0 0 0 [.int w] M (zD (some (.int (if w = 0 then nI 1 else nI 0))) M) := by
  refine zCd.of (ls0 := [some (.int w)]) (by decide +kernel) rfl hl rfl (Nat.le_of_ble_eq_true rfl) rfl ?_
  refine s_iload_n (zdk hX8_leastOf 0 rfl) rfl ?_
  refine s_if_ne 8 (zdk hX8_leastOf 1 rfl) (by decide) (fun c1 => ?_) (fun c1 => ?_)
  · refine s_iconstv (v := nI 0) (zdk hX8_leastOf 4 rfl) zc_iconst_0 ?_
    refine s_ireturn (zdk hX8_leastOf 5 rfl) rfl rfl ?_
    first | (rw [if_pos c1]; exact ⟨rfl, rfl⟩) | (rw [if_neg c1]; exact ⟨rfl, rfl⟩)
  · refine s_iconstv (v := nI 1) (zdk hX8_leastOf 2 rfl) zc_iconst_1 ?_
    refine s_goto 9 (zdk hX8_leastOf 3 rfl) (by decide) ?_
    refine s_ireturn (zdk hX8_leastOf 5 rfl) rfl rfl ?_
    first | (rw [if_pos c1]; exact ⟨rfl, rfl⟩) | (rw [if_neg c1]; exact ⟨rfl, rfl⟩)
theorem c_X8_greatestOf (hl : l.stackTraces = false) (M : zMem) (w : Int32) : zCm l G mX8_greatestOf 0 0 0 0 [.int w] M (zD (some (.int (if w = 0 then nI 99999 else nI 99))) M) := by
  refine zCd.of (ls0 := [some (.int w)]) (by decide +kernel) rfl hl rfl (Nat.le_of_ble_eq_true rfl) rfl ?_
  refine s_iload_n (zdk hX8_greatestOf 0 rfl) rfl ?_
  refine s_if_ne 9 (zdk hX8_greatestOf 1 rfl) (by decide) (fun c1 => ?_) (fun c1 => ?_)
  · refine s_bipushv (v := nI 99) (zdk hX8_greatestOf 4 rfl) zc_bipush_99 ?_
    refine s_ireturn (zdk hX8_greatestOf 5 rfl) rfl rfl ?_
    first | (rw [if_pos c1]; exact ⟨rfl, rfl⟩) | (rw [if_neg c1]; exact ⟨rfl, rfl⟩)
  · refine s_ldc (zdk hX8_greatestOf 2 rfl) kw_X8_251 ?_
    refine s_topi (b := nI 99999) (by decide) ?_
    refine s_goto 11 (zdk hX8_greatestOf 3 rfl) (by decide) ?_
    refine s_ireturn (zdk hX8_greatestOf 5 rfl) rfl rfl ?_
    first | (rw [if_pos c1]; exact ⟨rfl, rfl⟩) | (rw [if_neg c1]; exact ⟨rfl, rfl⟩)
theorem c_X8_setTier_x (hl : l.stackTraces = false) {M : zMem} {S : Nat → Nat → Int64} {p : Nat → Nat} (hx : xSh M) (hW : rW M S) (h : rSt M 630 (S 630) p) (hf : zF M = 1) {c d : Nat} (hc : zI M 12 0 = nI c) (hc8 : c ≤ 8) (hd : zI M 12 1 = nI d) (hd8 : d < 8) (t w v : Int32) (hn : ¬ (inN t (gN (S 630) 2) ∧ inN w 5 ∧ ((if w = 0 then nI 1 else nI 0) ≤ v ∧ v ≤ (if w = 0 then nI 99999 else nI 99)))) : zCx2 l G mX8_setTier 10 400 5 30 [.ref 0, .int (t), .int (w), .int (v)] M (zXr (eo (inN t (gN (S 630) 2)) 2 (eo (inN w 5) 1 (eo ((if w = 0 then nI 1 else nI 0) ≤ v ∧ v ≤ (if w = 0 then nI 99999 else nI 99)) 1 none))) M (fun _ _ => False)) := by
  refine zCxr.of (ls0 := [some (.ref 0), some (.int (t)), some (.int (w)), some (.int (v)), none]) (by decide +kernel) rfl hl rfl (Nat.le_of_ble_eq_true rfl) hf (by first | exact (fun v9 M9 q9 => by rw [q9.2]) | exact (fun v9 M9 q9 => q9.fl) | exact (fun v9 M9 q9 => q9.elim)) ?_
  have h20 := h.b.2.2.1.2
  have h4 := h.b.2.1.2
  have hcy := h.b.1.2.2
  have hcy2 := h.b.1.2.1
  have hpe := h.b.2.2.2.1.2
  refine s_aload_n (zdk hX8_setTier 0 rfl) rfl ?_
  refine s_iload_n (zdk hX8_setTier 1 rfl) rfl ?_
  refine s_callVXa (ci := 8) [.int (t)] (zdk hX8_setTier 2 rfl) cw_X8_125 (hx.K) (by decide) rfl rfl rfl (Nat.le_of_ble_eq_true rfl) (by decide) (c_X8_requireTier hl hx h hf t) rfl (fun x9 M9 q9 => ?_) (fun v9 M9 q9 => ?_)
  · obtain ⟨e9, rfl⟩ := q9
    obtain ⟨e7, rfl⟩ := eo_x e9
    exact ⟨eo_n e7, rfl⟩
  obtain ⟨e9, r9, rfl⟩ := q9
  cases r9
  have h1 := eo_r e9
  refine s_iload_n (zdk hX8_setTier 3 rfl) rfl ?_
  refine s_iconstv (v := nI 0) (zdk hX8_setTier 4 rfl) zc_iconst_0 ?_
  refine s_iconstv (v := nI 4) (zdk hX8_setTier 5 rfl) zc_iconst_4 ?_
  refine s_callSXa [.int (w), .int (nI 0), .int (nI 4)] (zdk hX8_setTier 6 rfl) cw_X8_206 rfl (Nat.le_of_ble_eq_true rfl) (by decide) (c_X8_requireWithin hl hf w (nI 0) (nI 4)) rfl (fun x9 M9 q9 => ?_) (fun v9 M9 q9 => ?_)
  · obtain ⟨e9, rfl⟩ := q9
    obtain ⟨e7, rfl⟩ := eo_x e9
    exact ⟨(eo_p h1).trans (eo_n (fun q => e7 ((inN_in (n := 5) (m := 4) rfl (by omega)).mpr q))), rfl⟩
  obtain ⟨e9, r9, rfl⟩ := q9
  cases r9
  have h2 : inN w 5 := (inN_in (n := 5) (m := 4) rfl (by omega)).mp (eo_r e9)
  refine s_iload_n (zdk hX8_setTier 7 rfl) rfl ?_
  refine s_iload_n (zdk hX8_setTier 8 rfl) rfl ?_
  refine s_callS0 [.int (w)] (zdk hX8_setTier 9 rfl) cw_X8_290 rfl (Nat.le_of_ble_eq_true rfl) (by decide) (c_X8_leastOf hl _ (w)) ?_
  refine s_iload_n (zdk hX8_setTier 10 rfl) rfl ?_
  refine s_callS0 [.int (w)] (zdk hX8_setTier 11 rfl) cw_X8_293 rfl (Nat.le_of_ble_eq_true rfl) (by decide) (c_X8_greatestOf hl _ (w)) ?_
  refine s_callSXa [.int (v), .int (if w = 0 then nI 1 else nI 0), .int (if w = 0 then nI 99999 else nI 99)] (zdk hX8_setTier 12 rfl) cw_X8_206 rfl (Nat.le_of_ble_eq_true rfl) (by decide) (c_X8_requireWithin hl hf (v) (if w = 0 then nI 1 else nI 0) (if w = 0 then nI 99999 else nI 99)) rfl (fun x9 M9 q9 => ?_) (fun v9 M9 q9 => ?_)
  · obtain ⟨e9, rfl⟩ := q9
    obtain ⟨e7, rfl⟩ := eo_x e9
    exact ⟨(eo_p h1).trans ((eo_p h2).trans (eo_n e7)), rfl⟩
  obtain ⟨e9, r9, rfl⟩ := q9
  cases r9
  have h3 := eo_r e9
  exact absurd ⟨h1, h2, h3⟩ hn
theorem c_X8_setTier_r (hl : l.stackTraces = false) {M : zMem} {S : Nat → Nat → Int64} {p : Nat → Nat} (hx : xSh M) (hW : rW M S) (h : rSt M 630 (S 630) p) (hf : zF M = 1) {c d : Nat} (hc : zI M 12 0 = nI c) (hc8 : c ≤ 8) (hd : zI M 12 1 = nI d) (hd8 : d < 8) {t : Nat} (ht9 : t < gN (S 630) 2) {w : Nat} (hw : w < 5) {v : Int32} (hR : (if nI w = 0 then nI 1 else nI 0) ≤ v ∧ v ≤ (if nI w = 0 then nI 99999 else nI 99)) (hz : w = 0) (hr : v < zfull (S 630) (nI t) (gN (S 630) 3)) : zCx2 l G mX8_setTier 10 400 5 30 [.ref 0, .int (nI t), .int (nI w), .int (v)] M (zXr none M (zP1 (some (.int (-15))) M)) := by
  refine zCxr.of (ls0 := [some (.ref 0), some (.int (nI t)), some (.int (nI w)), some (.int (v)), none]) (by decide +kernel) rfl hl rfl (Nat.le_of_ble_eq_true rfl) hf (by first | exact (fun v9 M9 q9 => by rw [q9.2]) | exact (fun v9 M9 q9 => q9.fl) | exact (fun v9 M9 q9 => q9.elim)) ?_
  have h20 := h.b.2.2.1.2
  have h4 := h.b.2.1.2
  have hcy := h.b.1.2.2
  have hcy2 := h.b.1.2.1
  have hpe := h.b.2.2.2.1.2
  refine s_aload_n (zdk hX8_setTier 0 rfl) rfl ?_
  refine s_iload_n (zdk hX8_setTier 1 rfl) rfl ?_
  refine s_callVXa (ci := 8) [.int (nI t)] (zdk hX8_setTier 2 rfl) cw_X8_125 (hx.K) (by decide) rfl rfl rfl (Nat.le_of_ble_eq_true rfl) (by decide) (c_X8_requireTier hl hx h hf (nI t)) rfl (fun x9 M9 q9 => ?_) (fun v9 M9 q9 => ?_)
  · obtain ⟨e9, rfl⟩ := q9
    obtain ⟨e7, rfl⟩ := eo_x e9
    exact absurd (inN_of ht9 (by omega)) e7
  obtain ⟨e9, r9, rfl⟩ := q9
  cases r9
  refine s_iload_n (zdk hX8_setTier 3 rfl) rfl ?_
  refine s_iconstv (v := nI 0) (zdk hX8_setTier 4 rfl) zc_iconst_0 ?_
  refine s_iconstv (v := nI 4) (zdk hX8_setTier 5 rfl) zc_iconst_4 ?_
  refine s_callSXa [.int (nI w), .int (nI 0), .int (nI 4)] (zdk hX8_setTier 6 rfl) cw_X8_206 rfl (Nat.le_of_ble_eq_true rfl) (by decide) (c_X8_requireWithin hl hf (nI w) (nI 0) (nI 4)) rfl (fun x9 M9 q9 => ?_) (fun v9 M9 q9 => ?_)
  · obtain ⟨e9, rfl⟩ := q9
    obtain ⟨e7, rfl⟩ := eo_x e9
    exact absurd ((inN_in (n := 5) (m := 4) rfl (by omega)).mpr (inN_of hw (by omega))) e7
  obtain ⟨e9, r9, rfl⟩ := q9
  cases r9
  refine s_iload_n (zdk hX8_setTier 7 rfl) rfl ?_
  refine s_iload_n (zdk hX8_setTier 8 rfl) rfl ?_
  refine s_callS0 [.int (nI w)] (zdk hX8_setTier 9 rfl) cw_X8_290 rfl (Nat.le_of_ble_eq_true rfl) (by decide) (c_X8_leastOf hl _ (nI w)) ?_
  refine s_iload_n (zdk hX8_setTier 10 rfl) rfl ?_
  refine s_callS0 [.int (nI w)] (zdk hX8_setTier 11 rfl) cw_X8_293 rfl (Nat.le_of_ble_eq_true rfl) (by decide) (c_X8_greatestOf hl _ (nI w)) ?_
  refine s_callSXa [.int (v), .int (if nI w = 0 then nI 1 else nI 0), .int (if nI w = 0 then nI 99999 else nI 99)] (zdk hX8_setTier 12 rfl) cw_X8_206 rfl (Nat.le_of_ble_eq_true rfl) (by decide) (c_X8_requireWithin hl hf (v) (if nI w = 0 then nI 1 else nI 0) (if nI w = 0 then nI 99999 else nI 99)) rfl (fun x9 M9 q9 => ?_) (fun v9 M9 q9 => ?_)
  · obtain ⟨e9, rfl⟩ := q9
    obtain ⟨e7, rfl⟩ := eo_x e9
    exact absurd (hR) e7
  obtain ⟨e9, r9, rfl⟩ := q9
  cases r9
  refine s_iload_n (zdk hX8_setTier 13 rfl) rfl ?_
  refine s_if_ne 42 (zdk hX8_setTier 14 rfl) (by decide) (fun c24 => ?_) (fun c24 => ?_)
  · exact absurd (by rw [hz]; rfl) c24
  · refine s_aload_n (zdk hX8_setTier 15 rfl) rfl ?_
    refine s_getR (zdk hX8_setTier 16 rfl) fw_X8_40 rfl (hx.K) (show _ = some 630 from (hx.r (i := 4) rfl)) ?_
    refine s_iload_n (zdk hX8_setTier 17 rfl) rfl ?_
    refine s_callV0 (ci := 5) [.int (nI t)] (zdk hX8_setTier 18 rfl) cw_X8_137 (h.K) (by decide) rfl rfl rfl (Nat.le_of_ble_eq_true rfl) (by decide) (c_X5_sizeOn hl h (nI t)) ?_
    refine s_iload_n (zdk hX8_setTier 19 rfl) rfl ?_
    refine s_icmp_le 42 (zdk hX8_setTier 20 rfl) (by decide) (fun c36 => ?_) (fun c36 => ?_)
    · exact absurd hr (Int32.not_lt.mpr c36)
    · refine s_bipushv (v := (-15)) (zdk hX8_setTier 21 rfl) zc_bipush_m15 ?_
      refine s_ireturn (zdk hX8_setTier 22 rfl) rfl rfl ?_
      exact ⟨rfl, rfl, rfl⟩
theorem c_X8_setTier (hl : l.stackTraces = false) {M : zMem} {S : Nat → Nat → Int64} {p : Nat → Nat} (hx : xSh M) (hW : rW M S) (h : rSt M 630 (S 630) p) (hf : zF M = 1) {c d : Nat} (hc : zI M 12 0 = nI c) (hc8 : c ≤ 8) (hd : zI M 12 1 = nI d) (hd8 : d < 8) {t : Nat} (ht9 : t < gN (S 630) 2) {w : Nat} (hw : w < 5) {v : Int32} (hR : (if nI w = 0 then nI 1 else nI 0) ≤ v ∧ v ≤ (if nI w = 0 then nI 99999 else nI 99)) (hr : w = 0 → ¬ v < zfull (S 630) (nI t) (gN (S 630) 3)) : zCx2 l G mX8_setTier 10 400 5 30 [.ref 0, .int (nI t), .int (nI w), .int (v)] M (zXr none M (uP (some (.int (gt (S 630) t w))) M S c d (zwL (S 630) (6 + 13 * t + w) v.toInt64))) := by
  refine zCxr.of (ls0 := [some (.ref 0), some (.int (nI t)), some (.int (nI w)), some (.int (v)), none]) (by decide +kernel) rfl hl rfl (Nat.le_of_ble_eq_true rfl) hf (by first | exact (fun v9 M9 q9 => by rw [q9.2]) | exact (fun v9 M9 q9 => q9.fl) | exact (fun v9 M9 q9 => q9.elim)) ?_
  have h20 := h.b.2.2.1.2
  have h4 := h.b.2.1.2
  have hcy := h.b.1.2.2
  have hcy2 := h.b.1.2.1
  have hpe := h.b.2.2.2.1.2
  refine s_aload_n (zdk hX8_setTier 0 rfl) rfl ?_
  refine s_iload_n (zdk hX8_setTier 1 rfl) rfl ?_
  refine s_callVXa (ci := 8) [.int (nI t)] (zdk hX8_setTier 2 rfl) cw_X8_125 (hx.K) (by decide) rfl rfl rfl (Nat.le_of_ble_eq_true rfl) (by decide) (c_X8_requireTier hl hx h hf (nI t)) rfl (fun x9 M9 q9 => ?_) (fun v9 M9 q9 => ?_)
  · obtain ⟨e9, rfl⟩ := q9
    obtain ⟨e7, rfl⟩ := eo_x e9
    exact absurd (inN_of ht9 (by omega)) e7
  obtain ⟨e9, r9, rfl⟩ := q9
  cases r9
  refine s_iload_n (zdk hX8_setTier 3 rfl) rfl ?_
  refine s_iconstv (v := nI 0) (zdk hX8_setTier 4 rfl) zc_iconst_0 ?_
  refine s_iconstv (v := nI 4) (zdk hX8_setTier 5 rfl) zc_iconst_4 ?_
  refine s_callSXa [.int (nI w), .int (nI 0), .int (nI 4)] (zdk hX8_setTier 6 rfl) cw_X8_206 rfl (Nat.le_of_ble_eq_true rfl) (by decide) (c_X8_requireWithin hl hf (nI w) (nI 0) (nI 4)) rfl (fun x9 M9 q9 => ?_) (fun v9 M9 q9 => ?_)
  · obtain ⟨e9, rfl⟩ := q9
    obtain ⟨e7, rfl⟩ := eo_x e9
    exact absurd ((inN_in (n := 5) (m := 4) rfl (by omega)).mpr (inN_of hw (by omega))) e7
  obtain ⟨e9, r9, rfl⟩ := q9
  cases r9
  refine s_iload_n (zdk hX8_setTier 7 rfl) rfl ?_
  refine s_iload_n (zdk hX8_setTier 8 rfl) rfl ?_
  refine s_callS0 [.int (nI w)] (zdk hX8_setTier 9 rfl) cw_X8_290 rfl (Nat.le_of_ble_eq_true rfl) (by decide) (c_X8_leastOf hl _ (nI w)) ?_
  refine s_iload_n (zdk hX8_setTier 10 rfl) rfl ?_
  refine s_callS0 [.int (nI w)] (zdk hX8_setTier 11 rfl) cw_X8_293 rfl (Nat.le_of_ble_eq_true rfl) (by decide) (c_X8_greatestOf hl _ (nI w)) ?_
  refine s_callSXa [.int (v), .int (if nI w = 0 then nI 1 else nI 0), .int (if nI w = 0 then nI 99999 else nI 99)] (zdk hX8_setTier 12 rfl) cw_X8_206 rfl (Nat.le_of_ble_eq_true rfl) (by decide) (c_X8_requireWithin hl hf (v) (if nI w = 0 then nI 1 else nI 0) (if nI w = 0 then nI 99999 else nI 99)) rfl (fun x9 M9 q9 => ?_) (fun v9 M9 q9 => ?_)
  · obtain ⟨e9, rfl⟩ := q9
    obtain ⟨e7, rfl⟩ := eo_x e9
    exact absurd (hR) e7
  obtain ⟨e9, r9, rfl⟩ := q9
  cases r9
  refine s_iload_n (zdk hX8_setTier 13 rfl) rfl ?_
  refine s_if_ne 42 (zdk hX8_setTier 14 rfl) (by decide) (fun c24 => ?_) (fun c24 => ?_)
  · refine s_aload_n (zdk hX8_setTier 23 rfl) rfl ?_
    refine s_getR (zdk hX8_setTier 24 rfl) fw_X8_40 rfl (hx.K) (show _ = some 630 from (hx.r (i := 4) rfl)) ?_
    refine s_getR (zdk hX8_setTier 25 rfl) fw_X8_128 rfl (h.K) (h.r5) ?_
    refine s_iload_n (zdk hX8_setTier 26 rfl) rfl ?_
    refine s_aaloadN (N := 4) (j := t) (zdk hX8_setTier 27 rfl) (h.tK) (by decide) (h.tN) (h.tL ht9) (by decide) (h.tR ht9) ?_
    refine s_getR (zdk hX8_setTier 28 rfl) fw_X8_132 rfl ((h.tS ht9).1) ((h.tS ht9).2.1) ?_
    refine s_iload_n (zdk hX8_setTier 29 rfl) rfl ?_
    refine s_ialoadN (N := 5) (j := w) (zdk hX8_setTier 30 rfl) ((h.tS ht9).2.2.2.1) ((h.tS ht9).2.2.2.2.1) (hw) (by decide) ?_
    refine s_topi (b := gt (S 630) t (w)) (h.tk ht9 _ (hw)) ?_
    refine s_istore (zdk hX8_setTier 31 rfl) (Nat.le_of_ble_eq_true rfl) ?_
    refine s_ls (ls' := [some (.ref 0), some (.int (nI t)), some (.int (nI w)), some (.int (v)), some (.int (gt (S 630) t (w)))]) rfl ?_
    refine s_aload_n (zdk hX8_setTier 32 rfl) rfl ?_
    refine s_getR (zdk hX8_setTier 33 rfl) fw_X8_33 rfl (hx.K) (show _ = some 12 from (hx.r (i := 3) rfl)) ?_
    refine s_aload_n (zdk hX8_setTier 34 rfl) rfl ?_
    refine s_getR (zdk hX8_setTier 35 rfl) fw_X8_40 rfl (hx.K) (show _ = some 630 from (hx.r (i := 4) rfl)) ?_
    refine s_callV1 (ci := 1) [.ref 630] (zdk hX8_setTier 36 rfl) cw_X8_81 (hx.hi.1) (by decide) rfl rfl rfl (Nat.le_of_ble_eq_true rfl) (by decide) (c_remember2 hl hx hW hc hc8 hd hd8) ?_
    intro v2 M2 q2
    have q3 := q2.1
    cases q3
    have hx2 : xSh M2 := q2.xs hx hd8
    have h2 : rSt M2 630 (S 630) p := q2.st h hd8
    refine s_aload_n (zdk hX8_setTier 37 rfl) rfl ?_
    refine s_getR (zdk hX8_setTier 38 rfl) fw_X8_40 rfl (hx2.K) (show _ = some 630 from (hx2.r (i := 4) rfl)) ?_
    refine s_getR (zdk hX8_setTier 39 rfl) fw_X8_128 rfl (h2.K) (h2.r5) ?_
    refine s_iload_n (zdk hX8_setTier 40 rfl) rfl ?_
    refine s_aaloadN (N := 4) (j := t) (zdk hX8_setTier 41 rfl) (h2.tK) (by decide) (h2.tN) (h2.tL ht9) (by decide) (h2.tR ht9) ?_
    refine s_getR (zdk hX8_setTier 42 rfl) fw_X8_132 rfl ((h2.tS ht9).1) ((h2.tS ht9).2.1) ?_
    refine s_iload_n (zdk hX8_setTier 43 rfl) rfl ?_
    refine s_iload_n (zdk hX8_setTier 44 rfl) rfl ?_
    refine s_iastoreN (N := 5) (j := w) (zdk hX8_setTier 45 rfl) ((h2.tS ht9).2.2.2.1) ((h2.tS ht9).2.2.2.2.1) (hw) (by decide) ?_
    refine s_iload (zdk hX8_setTier 46 rfl) rfl ?_
    refine s_ireturn (zdk hX8_setTier 47 rfl) rfl rfl ?_
    exact ⟨rfl, uP_of q2 hd8 ((zag_I _ _ _ _).mono fun b hb => by omega) (h2.num ht9 hw)⟩
  · refine s_aload_n (zdk hX8_setTier 15 rfl) rfl ?_
    refine s_getR (zdk hX8_setTier 16 rfl) fw_X8_40 rfl (hx.K) (show _ = some 630 from (hx.r (i := 4) rfl)) ?_
    refine s_iload_n (zdk hX8_setTier 17 rfl) rfl ?_
    refine s_callV0 (ci := 5) [.int (nI t)] (zdk hX8_setTier 18 rfl) cw_X8_137 (h.K) (by decide) rfl rfl rfl (Nat.le_of_ble_eq_true rfl) (by decide) (c_X5_sizeOn hl h (nI t)) ?_
    refine s_iload_n (zdk hX8_setTier 19 rfl) rfl ?_
    refine s_icmp_le 42 (zdk hX8_setTier 20 rfl) (by decide) (fun c36 => ?_) (fun c36 => ?_)
    · refine s_aload_n (zdk hX8_setTier 23 rfl) rfl ?_
      refine s_getR (zdk hX8_setTier 24 rfl) fw_X8_40 rfl (hx.K) (show _ = some 630 from (hx.r (i := 4) rfl)) ?_
      refine s_getR (zdk hX8_setTier 25 rfl) fw_X8_128 rfl (h.K) (h.r5) ?_
      refine s_iload_n (zdk hX8_setTier 26 rfl) rfl ?_
      refine s_aaloadN (N := 4) (j := t) (zdk hX8_setTier 27 rfl) (h.tK) (by decide) (h.tN) (h.tL ht9) (by decide) (h.tR ht9) ?_
      refine s_getR (zdk hX8_setTier 28 rfl) fw_X8_132 rfl ((h.tS ht9).1) ((h.tS ht9).2.1) ?_
      refine s_iload_n (zdk hX8_setTier 29 rfl) rfl ?_
      refine s_ialoadN (N := 5) (j := w) (zdk hX8_setTier 30 rfl) ((h.tS ht9).2.2.2.1) ((h.tS ht9).2.2.2.2.1) (hw) (by decide) ?_
      refine s_topi (b := gt (S 630) t (w)) (h.tk ht9 _ (hw)) ?_
      refine s_istore (zdk hX8_setTier 31 rfl) (Nat.le_of_ble_eq_true rfl) ?_
      refine s_ls (ls' := [some (.ref 0), some (.int (nI t)), some (.int (nI w)), some (.int (v)), some (.int (gt (S 630) t (w)))]) rfl ?_
      refine s_aload_n (zdk hX8_setTier 32 rfl) rfl ?_
      refine s_getR (zdk hX8_setTier 33 rfl) fw_X8_33 rfl (hx.K) (show _ = some 12 from (hx.r (i := 3) rfl)) ?_
      refine s_aload_n (zdk hX8_setTier 34 rfl) rfl ?_
      refine s_getR (zdk hX8_setTier 35 rfl) fw_X8_40 rfl (hx.K) (show _ = some 630 from (hx.r (i := 4) rfl)) ?_
      refine s_callV1 (ci := 1) [.ref 630] (zdk hX8_setTier 36 rfl) cw_X8_81 (hx.hi.1) (by decide) rfl rfl rfl (Nat.le_of_ble_eq_true rfl) (by decide) (c_remember2 hl hx hW hc hc8 hd hd8) ?_
      intro v2 M2 q2
      have q3 := q2.1
      cases q3
      have hx2 : xSh M2 := q2.xs hx hd8
      have h2 : rSt M2 630 (S 630) p := q2.st h hd8
      refine s_aload_n (zdk hX8_setTier 37 rfl) rfl ?_
      refine s_getR (zdk hX8_setTier 38 rfl) fw_X8_40 rfl (hx2.K) (show _ = some 630 from (hx2.r (i := 4) rfl)) ?_
      refine s_getR (zdk hX8_setTier 39 rfl) fw_X8_128 rfl (h2.K) (h2.r5) ?_
      refine s_iload_n (zdk hX8_setTier 40 rfl) rfl ?_
      refine s_aaloadN (N := 4) (j := t) (zdk hX8_setTier 41 rfl) (h2.tK) (by decide) (h2.tN) (h2.tL ht9) (by decide) (h2.tR ht9) ?_
      refine s_getR (zdk hX8_setTier 42 rfl) fw_X8_132 rfl ((h2.tS ht9).1) ((h2.tS ht9).2.1) ?_
      refine s_iload_n (zdk hX8_setTier 43 rfl) rfl ?_
      refine s_iload_n (zdk hX8_setTier 44 rfl) rfl ?_
      refine s_iastoreN (N := 5) (j := w) (zdk hX8_setTier 45 rfl) ((h2.tS ht9).2.2.2.1) ((h2.tS ht9).2.2.2.2.1) (hw) (by decide) ?_
      refine s_iload (zdk hX8_setTier 46 rfl) rfl ?_
      refine s_ireturn (zdk hX8_setTier 47 rfl) rfl rfl ?_
      exact ⟨rfl, uP_of q2 hd8 ((zag_I _ _ _ _).mono fun b hb => by omega) (h2.num ht9 hw)⟩
    · exact absurd (Int32.not_le.mp c36) (hr ((nI_eq (by omega) (by omega)).mp c24))
theorem c_X8_close_x (hl : l.stackTraces = false) {M : zMem} {S : Nat → Nat → Int64} {p : Nat → Nat} (hx : xSh M) (hW : rW M S) (h : rSt M 630 (S 630) p) (hf : zF M = 1) {c d : Nat} (hc : zI M 12 0 = nI c) (hc8 : c ≤ 8) (hd : zI M 12 1 = nI d) (hd8 : d < 8) (h9 : gN (S 630) 4 = 9999) : zCx2 l G mX8_close 10 400 5 30 [.ref 0] M (zXr none M (zP1 (some (.long ((-17 : Int32).toInt64))) M)) := by
  refine zCxr.of (ls0 := [some (.ref 0)]) (by decide +kernel) rfl hl rfl (Nat.le_of_ble_eq_true rfl) hf (by first | exact (fun v9 M9 q9 => by rw [q9.2]) | exact (fun v9 M9 q9 => q9.fl) | exact (fun v9 M9 q9 => q9.elim)) ?_
  have h20 := h.b.2.2.1.2
  have h4 := h.b.2.1.2
  have hcy := h.b.1.2.2
  have hcy2 := h.b.1.2.1
  have hpe := h.b.2.2.2.1.2
  refine s_aload_n (zdk hX8_close 0 rfl) rfl ?_
  refine s_getR (zdk hX8_close 1 rfl) fw_X8_40 rfl (hx.K) (show _ = some 630 from (hx.r (i := 4) rfl)) ?_
  refine s_getI (zdk hX8_close 2 rfl) fw_X8_103 rfl (h.K) ?_
  refine s_topi (b := nI (gN (S 630) 4)) (h.v2) ?_
  refine s_sipushv (v := nI 9999) (zdk hX8_close 3 rfl) zc_sipush_9999 ?_
  refine s_icmp_lt 17 (zdk hX8_close 4 rfl) (by decide) (fun c10 => ?_) (fun c10 => ?_)
  · have n10 : gN (S 630) 4 < 9999 := nlt' c10 (by omega) (by omega)
    exact absurd n10 (by omega)
  · have n10 : 9999 ≤ gN (S 630) 4 := nge' c10 (by omega) (by omega)
    refine s_ldc2 (zdk hX8_close 5 rfl) kw_X8_267 ?_
    refine s_topl (b := (-17 : Int32).toInt64) (by decide) ?_
    refine s_lreturn (zdk hX8_close 6 rfl) rfl  ?_
    exact ⟨rfl, rfl, rfl⟩
theorem c_X8_close (hl : l.stackTraces = false) {M : zMem} {S : Nat → Nat → Int64} {p : Nat → Nat} (hx : xSh M) (hW : rW M S) (h : rSt M 630 (S 630) p) (hf : zF M = 1) {c d : Nat} (hc : zI M 12 0 = nI c) (hc8 : c ≤ 8) (hd : zI M 12 1 = nI d) (hd8 : d < 8) (h9 : ¬ gN (S 630) 4 = 9999) : zCx2 l G mX8_close 10 400 5 30 [.ref 0] M (zXr none M (uP (some (.long (oClS (S 630) (gN (S 630) 3)))) M S c d (oEnd (S 630)))) := by
  refine zCxr.of (ls0 := [some (.ref 0)]) (by decide +kernel) rfl hl rfl (Nat.le_of_ble_eq_true rfl) hf (by first | exact (fun v9 M9 q9 => by rw [q9.2]) | exact (fun v9 M9 q9 => q9.fl) | exact (fun v9 M9 q9 => q9.elim)) ?_
  have h20 := h.b.2.2.1.2
  have h4 := h.b.2.1.2
  have hcy := h.b.1.2.2
  have hcy2 := h.b.1.2.1
  have hpe := h.b.2.2.2.1.2
  refine s_aload_n (zdk hX8_close 0 rfl) rfl ?_
  refine s_getR (zdk hX8_close 1 rfl) fw_X8_40 rfl (hx.K) (show _ = some 630 from (hx.r (i := 4) rfl)) ?_
  refine s_getI (zdk hX8_close 2 rfl) fw_X8_103 rfl (h.K) ?_
  refine s_topi (b := nI (gN (S 630) 4)) (h.v2) ?_
  refine s_sipushv (v := nI 9999) (zdk hX8_close 3 rfl) zc_sipush_9999 ?_
  refine s_icmp_lt 17 (zdk hX8_close 4 rfl) (by decide) (fun c10 => ?_) (fun c10 => ?_)
  · have n10 : gN (S 630) 4 < 9999 := nlt' c10 (by omega) (by omega)
    refine s_aload_n (zdk hX8_close 7 rfl) rfl ?_
    refine s_getR (zdk hX8_close 8 rfl) fw_X8_33 rfl (hx.K) (show _ = some 12 from (hx.r (i := 3) rfl)) ?_
    refine s_aload_n (zdk hX8_close 9 rfl) rfl ?_
    refine s_getR (zdk hX8_close 10 rfl) fw_X8_40 rfl (hx.K) (show _ = some 630 from (hx.r (i := 4) rfl)) ?_
    refine s_callV1 (ci := 1) [.ref 630] (zdk hX8_close 11 rfl) cw_X8_81 (hx.hi.1) (by decide) rfl rfl rfl (Nat.le_of_ble_eq_true rfl) (by decide) (c_remember2 hl hx hW hc hc8 hd hd8) ?_
    intro v2 M2 q2
    have q3 := q2.1
    cases q3
    have hx2 : xSh M2 := q2.xs hx hd8
    have h2 : rSt M2 630 (S 630) p := q2.st h hd8
    refine s_aload_n (zdk hX8_close 12 rfl) rfl ?_
    refine s_getR (zdk hX8_close 13 rfl) fw_X8_40 rfl (hx2.K) (show _ = some 630 from (hx2.r (i := 4) rfl)) ?_
    refine s_callV1 (ci := 5) [] (zdk hX8_close 14 rfl) cw_X8_269 (h2.K) (by decide) rfl rfl rfl (Nat.le_of_ble_eq_true rfl) (by decide) (c_X5_endPeriod hl h2 (by omega)) ?_
    intro v3 M3 q4
    obtain ⟨q5, e3, h3⟩ := q4
    cases q5
    have hx3 : xSh M3 := hx2.keep e3.1 (fun b hb => (e3.2 b (by omega)).2.2)
    refine s_lreturn (zdk hX8_close 15 rfl) rfl  ?_
    exact ⟨rfl, uP_of q2 hd8 e3 h3⟩
  · have n10 : 9999 ≤ gN (S 630) 4 := nge' c10 (by omega) (by omega)
    exact absurd n10 (by omega)
end
