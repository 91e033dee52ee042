/-! ===== the face: undo, save, restore, texts ===== -/
def hQ3 (M : zMem) (S : Nat → Nat → Int64) (c d : Nat) : zOut → zMem → Prop := fun o M' => o = .inl none ∧ zag M M' (fun b => b ≠ 12 ∧ (b < 630 ∨ 630 + 77 ≤ b)) ∧ rW M' S ∧ zI M' 12 0 = nI c ∧ zI M' 12 1 = nI d ∧ zR M' 12 = zR M 12
section
variable {l : Launch} {G : zG}
theorem c_bb2 (hl : l.stackTraces = false) {M : zMem} {S : Nat → Nat → Int64} (hh : hSh M) (h : rW M S) {c d : Nat} (hc : zI M 12 0 = nI c) (hc8 : c ≤ 8) (hd : zI M 12 1 = nI d) (hd8 : d < 8) (hc0 : 0 < c) : zCm l G mX1_bringBack 3 90 0 0 [.ref 12, .ref 630] M (hQ3 M (zup S 630 (S (14 + 77 * ((d + 7) % 8)))) (c - 1) ((d + 7) % 8)) := by
  refine zCm.of0 (ls0 := [some (.ref 12), some (.ref 630)]) (by decide +kernel) rfl hl rfl (Nat.le_of_ble_eq_true rfl) (fun v' M' q => q.2.1.1) (fun x M' q => by cases q.1) ?_
  refine s_aload_n (zdk hX1_bringBack 0 rfl) rfl ?_
  refine s_aload_n (zdk hX1_bringBack 1 rfl) rfl ?_
  refine s_getI (zdk hX1_bringBack 2 rfl) fw_X1_15 rfl (hh.1) ?_
  refine s_topi (b := nI d) (hd) ?_
  refine s_bipushv (v := nI 8) (zdk hX1_bringBack 3 rfl) zc_bipush_8 ?_
  refine s_iadd (zdk hX1_bringBack 4 rfl) ?_
  refine s_topi (b := nI (d + 8)) (nI_add _ _) ?_
  refine s_iconstv (v := nI 1) (zdk hX1_bringBack 5 rfl) zc_iconst_1 ?_
  refine s_isub (zdk hX1_bringBack 6 rfl) ?_
  refine s_topi (b := nI (d + 7)) (pk_sub (by omega)) ?_
  refine s_bipushv (v := nI 8) (zdk hX1_bringBack 7 rfl) zc_bipush_8 ?_
  refine s_irem (zdk hX1_bringBack 8 rfl) (by decide) ?_
  refine s_topi (b := nI ((d + 7) % 8)) (pk_rem (by omega) (by decide) (by decide)) ?_
  refine s_putI (zdk hX1_bringBack 9 rfl) fw_X1_15 rfl pw_1_1 (hh.1) ?_
  refine s_aload_n (zdk hX1_bringBack 10 rfl) rfl ?_
  refine s_dupr (zdk hX1_bringBack 11 rfl) ?_
  refine s_getI (zdk hX1_bringBack 12 rfl) fw_X1_9 rfl (hh.1) ?_
  refine s_topi (b := nI c) ((congrFun zI_Ie 0).trans ((zw1_n (by decide)).trans hc)) ?_
  refine s_iconstv (v := nI 1) (zdk hX1_bringBack 13 rfl) zc_iconst_1 ?_
  refine s_isub (zdk hX1_bringBack 14 rfl) ?_
  refine s_topi (b := nI (c - 1)) (pk_sub (by omega)) ?_
  refine s_putI (zdk hX1_bringBack 15 rfl) fw_X1_9 rfl pw_1_0 (hh.1) ?_
  have eA : zag M (zsI (zsI M 12 1 (nI ((d + 7) % 8))) 12 0 (nI (c - 1))) (fun b => b ≠ 12) := (zag_I _ _ _ _).trans (zag_I _ _ _ _)
  have hd7 : (d + 7) % 8 < 8 := Nat.mod_lt _ (by decide)
  have hWA : rW (zsI (zsI M 12 1 (nI ((d + 7) % 8))) 12 0 (nI (c - 1))) S := h.keep (eA.mono fun b hb => by unfold zblk at hb; omega)
  obtain ⟨p1, hp1⟩ := hWA (14 + 77 * ((d + 7) % 8)) (zst_r hd7)
  obtain ⟨p2, hp2⟩ := hWA 630 zst_now
  refine s_aload_n (zdk hX1_bringBack 16 rfl) rfl ?_
  refine s_aload_n (zdk hX1_bringBack 17 rfl) rfl ?_
  refine s_getR (zdk hX1_bringBack 18 rfl) fw_X1_20 rfl (hh.1) (hh.2.1) ?_
  refine s_aload_n (zdk hX1_bringBack 19 rfl) rfl ?_
  refine s_getI (zdk hX1_bringBack 20 rfl) fw_X1_15 rfl (hh.1) ?_
  refine s_topi (b := nI ((d + 7) % 8)) ((congrFun zI_Ie 1).trans ((zw1_n (by decide)).trans ((congrFun zI_Ie 1).trans zw1_e))) ?_
  refine s_aaloadN (N := 8) (j := ((d + 7) % 8)) (zdk hX1_bringBack 21 rfl) (hh.2.2.1) (by decide) (hh.2.2.2.1) (hd7) (by decide) (hh.2.2.2.2 _ hd7) ?_
  refine s_callV1 (ci := 5) [.ref (14 + 77 * ((d + 7) % 8))] (zdk hX1_bringBack 22 rfl) cw_X1_25 (hp2.K) (by decide) rfl rfl rfl (Nat.le_of_ble_eq_true rfl) (by decide) (c_X5_copyFrom hl hp2.1 (by omega) hp1) ?_
  intro v2 M2 q2
  obtain ⟨q3, e2, h2⟩ := q2
  cases q3
  have hW2 := hWA.up zst_now e2 h2
  have r12 : zI M2 12 = zI (zsI (zsI M 12 1 (nI ((d + 7) % 8))) 12 0 (nI (c - 1))) 12 := (e2.2 12 (by omega)).1
  refine s_return (zdk hX1_bringBack 23 rfl) rfl ?_
  exact ⟨rfl, (eA.mono fun b hb => hb.1).trans (e2.mono fun b hb => hb.2), hW2, (congrFun r12 0).trans ((congrFun zI_Ie 0).trans zw1_e), (congrFun r12 1).trans ((congrFun zI_Ie 1).trans ((zw1_n (by decide)).trans ((congrFun zI_Ie 1).trans zw1_e))), (e2.2 12 (by omega)).2.2⟩
theorem c_X8_undo_x (hl : l.stackTraces = false) {M : zMem} {S : Nat → Nat → Int64} {p : Nat → Nat} (hx : xSh M) (hW : rW M S) (h : rSt M 630 (S 630) p) (hf : zF M = 1) {c d : Nat} (hc : zI M 12 0 = nI c) (hc8 : c ≤ 8) (hd : zI M 12 1 = nI d) (hd8 : d < 8) (h0 : c = 0) : zCx2 l G mX8_undo 10 400 5 30 [.ref 0] M (zXr (some 0) M (fun _ _ => False)) := by
  refine zCxr.of (ls0 := [some (.ref 0)]) (by decide +kernel) rfl hl rfl (Nat.le_of_ble_eq_true rfl) hf (by first | exact (fun v9 M9 q9 => by rw [q9.2]) | exact (fun v9 M9 q9 => q9.fl) | exact (fun v9 M9 q9 => q9.elim)) ?_
  have h20 := h.b.2.2.1.2
  have h4 := h.b.2.1.2
  have hcy := h.b.1.2.2
  have hcy2 := h.b.1.2.1
  have hpe := h.b.2.2.2.1.2
  refine s_aload_n (zdk hX8_undo 0 rfl) rfl ?_
  refine s_getR (zdk hX8_undo 1 rfl) fw_X8_33 rfl (hx.K) (show _ = some 12 from (hx.r (i := 3) rfl)) ?_
  refine s_getI (zdk hX8_undo 2 rfl) fw_X8_296 rfl (hx.hi.1) ?_
  refine s_topi (b := nI c) (hc) ?_
  refine s_if_ne 18 (zdk hX8_undo 3 rfl) (by decide) (fun c7 => ?_) (fun c7 => ?_)
  · exact absurd (by rw [h0]; rfl) c7
  · refine s_throw (x := 0) ⟨70, 72, (zdk hX8_undo 4 rfl), (zdk hX8_undo 5 rfl), (zdk hX8_undo 6 rfl), (zdk hX8_undo 7 rfl), clw_X8_70, xi_0, rfl, (by decide), (by decide), (by decide), xw_0⟩ ?_ (by decide)
    rw [zth_id hf]
    exact ⟨rfl, rfl⟩
theorem c_X8_undo (hl : l.stackTraces = false) {M : zMem} {S : Nat → Nat → Int64} {p : Nat → Nat} (hx : xSh M) (hW : rW M S) (h : rSt M 630 (S 630) p) (hf : zF M = 1) {c d : Nat} (hc : zI M 12 0 = nI c) (hc8 : c ≤ 8) (hd : zI M 12 1 = nI d) (hd8 : d < 8) (h0 : 0 < c) : zCx2 l G mX8_undo 10 400 5 30 [.ref 0] M (zXr none M (fun v' M' => v' = some (.int (nI (c - 1))) ∧ hQ3 M (zup S 630 (S (14 + 77 * ((d + 7) % 8)))) (c - 1) ((d + 7) % 8) (.inl none) M')) := by
  refine zCxr.of (ls0 := [some (.ref 0)]) (by decide +kernel) rfl hl rfl (Nat.le_of_ble_eq_true rfl) hf (fun v9 M9 q9 => zsh_F q9.2.2.1.1) ?_
  refine s_aload_n (zdk hX8_undo 0 rfl) rfl ?_
  refine s_getR (zdk hX8_undo 1 rfl) fw_X8_33 rfl (hx.K) (show _ = some 12 from (hx.r (i := 3) rfl)) ?_
  refine s_getI (zdk hX8_undo 2 rfl) fw_X8_296 rfl (hx.hi.1) ?_
  refine s_topi (b := nI c) (hc) ?_
  refine s_if_ne 18 (zdk hX8_undo 3 rfl) (by decide) (fun c7 => ?_) (fun c7 => ?_)
  · refine s_aload_n (zdk hX8_undo 8 rfl) rfl ?_
    refine s_getR (zdk hX8_undo 9 rfl) fw_X8_33 rfl (hx.K) (show _ = some 12 from (hx.r (i := 3) rfl)) ?_
    refine s_aload_n (zdk hX8_undo 10 rfl) rfl ?_
    refine s_getR (zdk hX8_undo 11 rfl) fw_X8_40 rfl (hx.K) (show _ = some 630 from (hx.r (i := 4) rfl)) ?_
    refine s_callV1 (ci := 1) [.ref 630] (zdk hX8_undo 12 rfl) cw_X8_297 (hx.hi.1) (by decide) rfl rfl rfl (Nat.le_of_ble_eq_true rfl) (by decide) (c_bb2 hl hx.hi hW hc hc8 hd hd8 h0) ?_
    intro v2 M2 q2
    have q3 := q2.1
    cases q3
    have hx2 : xSh M2 := hx.keep q2.2.1.1 (fun b hb => by
      by_cases e : b = 12
      · rw [e]; exact q2.2.2.2.2.2
      · exact (q2.2.1.2 b ⟨e, by omega⟩).2.2)
    refine s_aload_n (zdk hX8_undo 13 rfl) rfl ?_
    refine s_getR (zdk hX8_undo 14 rfl) fw_X8_33 rfl (hx2.K) (show _ = some 12 from (hx2.r (i := 3) rfl)) ?_
    refine s_getI (zdk hX8_undo 15 rfl) fw_X8_296 rfl (hx2.hi.1) ?_
    refine s_topi (b := nI (c - 1)) (q2.2.2.2.1) ?_
    refine s_ireturn (zdk hX8_undo 16 rfl) rfl rfl ?_
    exact ⟨rfl, rfl, q2⟩
  · exact absurd c7 (nI_ne0 h0 (by omega))
theorem c_X8_save_x (hl : l.stackTraces = false) {M : zMem} {S : Nat → Nat → Int64} {p : Nat → Nat} (hx : xSh M) (hW : rW M S) (h : rSt M 630 (S 630) p) (hf : zF M = 1) {c d : Nat} (hc : zI M 12 0 = nI c) (hc8 : c ≤ 8) (hd : zI M 12 1 = nI d) (hd8 : d < 8) (s : Int32) (hn : ¬ inN s 2) : zCx2 l G mX8_save 10 400 5 30 [.ref 0, .int (s)] M (zXr (eo (inN s 2) 2 none) M (fun _ _ => False)) := by
  refine zCxr.of (ls0 := [some (.ref 0), some (.int (s))]) (by decide +kernel) rfl hl rfl (Nat.le_of_ble_eq_true rfl) hf (by first | exact (fun v9 M9 q9 => by rw [q9.2]) | exact (fun v9 M9 q9 => q9.fl) | exact (fun v9 M9 q9 => q9.elim)) ?_
  have h20 := h.b.2.2.1.2
  have h4 := h.b.2.1.2
  have hcy := h.b.1.2.2
  have hcy2 := h.b.1.2.1
  have hpe := h.b.2.2.2.1.2
  refine s_iload_n (zdk hX8_save 0 rfl) rfl ?_
  refine s_callSXa [.int (s)] (zdk hX8_save 1 rfl) cw_X8_300 rfl (Nat.le_of_ble_eq_true rfl) (by decide) (c_X8_requireSlot hl hf s) rfl (fun x9 M9 q9 => ?_) (fun v9 M9 q9 => ?_)
  · obtain ⟨e9, rfl⟩ := q9
    obtain ⟨e7, rfl⟩ := eo_x e9
    exact ⟨eo_n e7, rfl⟩
  obtain ⟨e9, r9, rfl⟩ := q9
  cases r9
  have h1 := eo_r e9
  exact absurd h1 hn
theorem c_X8_save (hl : l.stackTraces = false) {M : zMem} {S : Nat → Nat → Int64} {p : Nat → Nat} (hx : xSh M) (hW : rW M S) (h : rSt M 630 (S 630) p) (hf : zF M = 1) {c d : Nat} (hc : zI M 12 0 = nI c) (hc8 : c ≤ 8) (hd : zI M 12 1 = nI d) (hd8 : d < 8) {s : Nat} (hs2 : s < 2) : zCx2 l G mX8_save 10 400 5 30 [.ref 0, .int (nI s)] M (zXr none M (fun v' M' => v' = none ∧ zag M M' (fun b => b ≠ 785 ∧ ¬ zblk b) ∧ rW M' (zup S (787 + 77 * s) (S 630)) ∧ zI M' 785 = zw1 (zI M 785) s (nI 1) ∧ zR M' 785 = zR M 785)) := by
  refine zCxr.of (ls0 := [some (.ref 0), some (.int (nI s))]) (by decide +kernel) rfl hl rfl (Nat.le_of_ble_eq_true rfl) hf (fun v9 M9 q9 => zsh_F q9.2.1.1) ?_
  obtain ⟨ps, hps⟩ := hW (787 + 77 * s) (zst_sl hs2)
  refine s_iload_n (zdk hX8_save 0 rfl) rfl ?_
  refine s_callSXa [.int (nI s)] (zdk hX8_save 1 rfl) cw_X8_300 rfl (Nat.le_of_ble_eq_true rfl) (by decide) (c_X8_requireSlot hl hf (nI s)) rfl (fun x9 M9 q9 => ?_) (fun v9 M9 q9 => ?_)
  · obtain ⟨e9, rfl⟩ := q9
    obtain ⟨e7, rfl⟩ := eo_x e9
    exact absurd (inN_of hs2 (by omega)) e7
  obtain ⟨e9, r9, rfl⟩ := q9
  cases r9
  refine s_aload_n (zdk hX8_save 2 rfl) rfl ?_
  refine s_getR (zdk hX8_save 3 rfl) fw_X8_47 rfl (hx.K) (show _ = some 784 from (hx.r (i := 6) rfl)) ?_
  refine s_iload_n (zdk hX8_save 4 rfl) rfl ?_
  refine s_aaloadN (N := 2) (j := s) (zdk hX8_save 5 rfl) (hx.sK) (by decide) (hx.sN) (hs2) (by decide) (hx.sR _ (hs2)) ?_
  refine s_aload_n (zdk hX8_save 6 rfl) rfl ?_
  refine s_getR (zdk hX8_save 7 rfl) fw_X8_40 rfl (hx.K) (show _ = some 630 from (hx.r (i := 4) rfl)) ?_
  refine s_callV1 (ci := 5) [.ref 630] (zdk hX8_save 8 rfl) cw_X8_85 (hps.K) (by decide) rfl rfl rfl (Nat.le_of_ble_eq_true rfl) (by decide) (c_X5_copyFrom hl hps.1 (by omega) h) ?_
  intro v2 M2 q2
  obtain ⟨q3, e2, h2⟩ := q2
  cases q3
  have hx2 : xSh M2 := hx.keep e2.1 (fun b hb => (e2.2 b (by omega)).2.2)
  refine s_aload_n (zdk hX8_save 9 rfl) rfl ?_
  refine s_getR (zdk hX8_save 10 rfl) fw_X8_51 rfl (hx2.K) (show _ = some 785 from (hx2.r (i := 7) rfl)) ?_
  refine s_iload_n (zdk hX8_save 11 rfl) rfl ?_
  refine s_iconstv (v := nI 1) (zdk hX8_save 12 rfl) zc_iconst_1 ?_
  refine s_bastoreN (N := 2) (j := s) (zdk hX8_save 13 rfl) (hx2.fK) (hx2.fN) (hs2) (by decide) (rfl) ?_
  refine s_return (zdk hX8_save 14 rfl) rfl ?_
  have hW2 := hW.up (zst_sl hs2) e2 h2
  refine ⟨rfl, rfl, (e2.mono fun b hb => by have := hb.2; unfold zblk at this; omega).trans ((zag_I _ _ _ _).mono fun b hb => hb.1), hW2.keep ((zag_I _ _ _ _).mono fun b hb => by unfold zblk at hb; omega), ?_, (e2.2 785 (by omega)).2.2⟩
  rw [zI_Ie, (e2.2 785 (by omega)).1]
theorem c_X8_restore_x (hl : l.stackTraces = false) {M : zMem} {S : Nat → Nat → Int64} {p : Nat → Nat} (hx : xSh M) (hW : rW M S) (h : rSt M 630 (S 630) p) (hf : zF M = 1) {c d : Nat} (hc : zI M 12 0 = nI c) (hc8 : c ≤ 8) (hd : zI M 12 1 = nI d) (hd8 : d < 8) (s : Int32) (hn : ¬ inN s 2) : zCx2 l G mX8_restore 10 400 5 30 [.ref 0, .int (s)] M (zXr (eo (inN s 2) 2 none) M (fun _ _ => False)) := by
  refine zCxr.of (ls0 := [some (.ref 0), some (.int (s))]) (by decide +kernel) rfl hl rfl (Nat.le_of_ble_eq_true rfl) hf (by first | exact (fun v9 M9 q9 => by rw [q9.2]) | exact (fun v9 M9 q9 => q9.fl) | exact (fun v9 M9 q9 => q9.elim)) ?_
  have h20 := h.b.2.2.1.2
  have h4 := h.b.2.1.2
  have hcy := h.b.1.2.2
  have hcy2 := h.b.1.2.1
  have hpe := h.b.2.2.2.1.2
  refine s_iload_n (zdk hX8_restore 0 rfl) rfl ?_
  refine s_callSXa [.int (s)] (zdk hX8_restore 1 rfl) cw_X8_300 rfl (Nat.le_of_ble_eq_true rfl) (by decide) (c_X8_requireSlot hl hf s) rfl (fun x9 M9 q9 => ?_) (fun v9 M9 q9 => ?_)
  · obtain ⟨e9, rfl⟩ := q9
    obtain ⟨e7, rfl⟩ := eo_x e9
    exact ⟨eo_n e7, rfl⟩
  obtain ⟨e9, r9, rfl⟩ := q9
  cases r9
  have h1 := eo_r e9
  exact absurd h1 hn
theorem c_X8_restore_e (hl : l.stackTraces = false) {M : zMem} {S : Nat → Nat → Int64} {p : Nat → Nat} (hx : xSh M) (hW : rW M S) (h : rSt M 630 (S 630) p) (hf : zF M = 1) {c d : Nat} (hc : zI M 12 0 = nI c) (hc8 : c ≤ 8) (hd : zI M 12 1 = nI d) (hd8 : d < 8) {s : Nat} (hs2 : s < 2) (hz : zI M 785 s = 0) : zCx2 l G mX8_restore 10 400 5 30 [.ref 0, .int (nI s)] M (zXr (some 0) M (fun _ _ => False)) := by
  refine zCxr.of (ls0 := [some (.ref 0), some (.int (nI s))]) (by decide +kernel) rfl hl rfl (Nat.le_of_ble_eq_true rfl) hf (by first | exact (fun v9 M9 q9 => by rw [q9.2]) | exact (fun v9 M9 q9 => q9.fl) | exact (fun v9 M9 q9 => q9.elim)) ?_
  have h20 := h.b.2.2.1.2
  have h4 := h.b.2.1.2
  have hcy := h.b.1.2.2
  have hcy2 := h.b.1.2.1
  have hpe := h.b.2.2.2.1.2
  refine s_iload_n (zdk hX8_restore 0 rfl) rfl ?_
  refine s_callSXa [.int (nI s)] (zdk hX8_restore 1 rfl) cw_X8_300 rfl (Nat.le_of_ble_eq_true rfl) (by decide) (c_X8_requireSlot hl hf (nI s)) rfl (fun x9 M9 q9 => ?_) (fun v9 M9 q9 => ?_)
  · obtain ⟨e9, rfl⟩ := q9
    obtain ⟨e7, rfl⟩ := eo_x e9
    exact absurd (inN_of hs2 (by omega)) e7
  obtain ⟨e9, r9, rfl⟩ := q9
  cases r9
  refine s_aload_n (zdk hX8_restore 2 rfl) rfl ?_
  refine s_getR (zdk hX8_restore 3 rfl) fw_X8_51 rfl (hx.K) (show _ = some 785 from (hx.r (i := 7) rfl)) ?_
  refine s_iload_n (zdk hX8_restore 4 rfl) rfl ?_
  refine s_baloadN (N := 2) (j := s) (zdk hX8_restore 5 rfl) (hx.fK) (hx.fN) (hs2) (by decide) ?_
  refine s_if_ne 21 (zdk hX8_restore 6 rfl) (by decide) (fun c10 => ?_) (fun c10 => ?_)
  · exact absurd hz c10
  · refine s_throw (x := 0) ⟨70, 72, (zdk hX8_restore 7 rfl), (zdk hX8_restore 8 rfl), (zdk hX8_restore 9 rfl), (zdk hX8_restore 10 rfl), clw_X8_70, xi_0, rfl, (by decide), (by decide), (by decide), xw_0⟩ ?_ (by decide)
    rw [zth_id hf]
    exact ⟨rfl, rfl⟩
theorem c_X8_restore (hl : l.stackTraces = false) {M : zMem} {S : Nat → Nat → Int64} {p : Nat → Nat} (hx : xSh M) (hW : rW M S) (h : rSt M 630 (S 630) p) (hf : zF M = 1) {c d : Nat} (hc : zI M 12 0 = nI c) (hc8 : c ≤ 8) (hd : zI M 12 1 = nI d) (hd8 : d < 8) {s : Nat} (hs2 : s < 2) (hz : ¬ zI M 785 s = 0) : zCx2 l G mX8_restore 10 400 5 30 [.ref 0, .int (nI s)] M (zXr none M (uP (some (.int (nI (gN (S (787 + 77 * s)) 4)))) M S c d (S (787 + 77 * s)))) := by
  refine zCxr.of (ls0 := [some (.ref 0), some (.int (nI s))]) (by decide +kernel) rfl hl rfl (Nat.le_of_ble_eq_true rfl) hf (by first | exact (fun v9 M9 q9 => by rw [q9.2]) | exact (fun v9 M9 q9 => q9.fl) | exact (fun v9 M9 q9 => q9.elim)) ?_
  have h20 := h.b.2.2.1.2
  have h4 := h.b.2.1.2
  have hcy := h.b.1.2.2
  have hcy2 := h.b.1.2.1
  have hpe := h.b.2.2.2.1.2
  refine s_iload_n (zdk hX8_restore 0 rfl) rfl ?_
  refine s_callSXa [.int (nI s)] (zdk hX8_restore 1 rfl) cw_X8_300 rfl (Nat.le_of_ble_eq_true rfl) (by decide) (c_X8_requireSlot hl hf (nI s)) rfl (fun x9 M9 q9 => ?_) (fun v9 M9 q9 => ?_)
  · obtain ⟨e9, rfl⟩ := q9
    obtain ⟨e7, rfl⟩ := eo_x e9
    exact absurd (inN_of hs2 (by omega)) e7
  obtain ⟨e9, r9, rfl⟩ := q9
  cases r9
  refine s_aload_n (zdk hX8_restore 2 rfl) rfl ?_
  refine s_getR (zdk hX8_restore 3 rfl) fw_X8_51 rfl (hx.K) (show _ = some 785 from (hx.r (i := 7) rfl)) ?_
  refine s_iload_n (zdk hX8_restore 4 rfl) rfl ?_
  refine s_baloadN (N := 2) (j := s) (zdk hX8_restore 5 rfl) (hx.fK) (hx.fN) (hs2) (by decide) ?_
  refine s_if_ne 21 (zdk hX8_restore 6 rfl) (by decide) (fun c10 => ?_) (fun c10 => ?_)
  · refine s_aload_n (zdk hX8_restore 11 rfl) rfl ?_
    refine s_getR (zdk hX8_restore 12 rfl) fw_X8_33 rfl (hx.K) (show _ = some 12 from (hx.r (i := 3) rfl)) ?_
    refine s_aload_n (zdk hX8_restore 13 rfl) rfl ?_
    refine s_getR (zdk hX8_restore 14 rfl) fw_X8_40 rfl (hx.K) (show _ = some 630 from (hx.r (i := 4) rfl)) ?_
    refine s_callV1 (ci := 1) [.ref 630] (zdk hX8_restore 15 rfl) cw_X8_81 (hx.hi.1) (by decide) rfl rfl rfl (Nat.le_of_ble_eq_true rfl) (by decide) (c_remember2 hl hx hW hc hc8 hd hd8) ?_
    intro v2 M2 q2
    have q3 := q2.1
    cases q3
    have hx2 : xSh M2 := q2.xs hx hd8
    have h2 : rSt M2 630 (S 630) p := q2.st h hd8
    obtain ⟨ps, hps⟩ := q2.2.2.1 (787 + 77 * s) (zst_sl hs2)
    rw [zup_n (by omega)] at hps
    refine s_aload_n (zdk hX8_restore 16 rfl) rfl ?_
    refine s_getR (zdk hX8_restore 17 rfl) fw_X8_40 rfl (hx2.K) (show _ = some 630 from (hx2.r (i := 4) rfl)) ?_
    refine s_aload_n (zdk hX8_restore 18 rfl) rfl ?_
    refine s_getR (zdk hX8_restore 19 rfl) fw_X8_47 rfl (hx2.K) (show _ = some 784 from (hx2.r (i := 6) rfl)) ?_
    refine s_iload_n (zdk hX8_restore 20 rfl) rfl ?_
    refine s_aaloadN (N := 2) (j := s) (zdk hX8_restore 21 rfl) (hx2.sK) (by decide) (hx2.sN) (hs2) (by decide) (hx2.sR _ (hs2)) ?_
    refine s_callV1 (ci := 5) [.ref (787 + 77 * s)] (zdk hX8_restore 22 rfl) cw_X8_85 (h2.K) (by decide) rfl rfl rfl (Nat.le_of_ble_eq_true rfl) (by decide) (c_X5_copyFrom hl h2.1 (by omega) hps) ?_
    intro v3 M3 q4
    obtain ⟨q5, e3, h3⟩ := q4
    cases q5
    have hx3 : xSh M3 := hx2.keep e3.1 (fun b hb => (e3.2 b (by omega)).2.2)
    refine s_aload_n (zdk hX8_restore 23 rfl) rfl ?_
    refine s_getR (zdk hX8_restore 24 rfl) fw_X8_40 rfl (hx3.K) (show _ = some 630 from (hx3.r (i := 4) rfl)) ?_
    refine s_getI (zdk hX8_restore 25 rfl) fw_X8_103 rfl (h3.K) ?_
    refine s_topi (b := nI (gN (S (787 + 77 * s)) 4)) (h3.v2) ?_
    refine s_ireturn (zdk hX8_restore 26 rfl) rfl rfl ?_
    exact ⟨rfl, uP_of q2 hd8 e3 h3⟩
  · exact absurd c10 hz
theorem c_X8_errorPosition (hl : l.stackTraces = false) {M : zMem} (hx : xSh M) : zCm l G mX8_errorPosition 0 0 0 0 [.ref 0] M (zD (some (.int (zI M 1 1))) M) := by
  refine zCd.of (ls0 := [some (.ref 0)]) (by decide +kernel) rfl hl rfl (Nat.le_of_ble_eq_true rfl) rfl ?_
  refine s_aload_n (zdk hX8_errorPosition 0 rfl) rfl ?_
  refine s_getR (zdk hX8_errorPosition 1 rfl) fw_X8_10 rfl (hx.K) (show _ = some 1 from (hx.r (i := 0) rfl)) ?_
  refine s_getI (zdk hX8_errorPosition 2 rfl) fw_X8_88 rfl (hx.rd.1) ?_
  refine s_ireturn (zdk hX8_errorPosition 3 rfl) rfl rfl ?_
  exact ⟨rfl, rfl⟩
theorem c_X8_writeTiers (hl : l.stackTraces = false) {M : zMem} {g : Nat → Int64} {p : Nat → Nat} (hx : xSh M) (h : rSt M 630 g p) : zCm l G mX8_writeTiers 4 110 0 0 [.ref 0] M (zD (some (.int (nI ((zwt g (zI M 4) (gN g 2)).1)))) (zMw M 3 (zwt g (zI M 4) (gN g 2)))) := by
  refine zCd.of (ls0 := [some (.ref 0)]) (by decide +kernel) rfl hl rfl (Nat.le_of_ble_eq_true rfl) rfl ?_
  refine s_aload_n (zdk hX8_writeTiers 0 rfl) rfl ?_
  refine s_getR (zdk hX8_writeTiers 1 rfl) fw_X8_19 rfl (hx.K) (show _ = some 3 from (hx.r (i := 1) rfl)) ?_
  refine s_aload_n (zdk hX8_writeTiers 2 rfl) rfl ?_
  refine s_getR (zdk hX8_writeTiers 3 rfl) fw_X8_40 rfl (hx.K) (show _ = some 630 from (hx.r (i := 4) rfl)) ?_
  refine s_callV0 (ci := 7) [.ref 630] (zdk hX8_writeTiers 4 rfl) cw_X8_303 (hx.wr.1) (by decide) rfl rfl rfl (Nat.le_of_ble_eq_true rfl) (by decide) (c_X7_writeStore hl hx.wr h (by omega)) ?_
  refine s_aload_n (zdk hX8_writeTiers 5 rfl) rfl ?_
  refine s_getR (zdk hX8_writeTiers 6 rfl) fw_X8_19 rfl (hx.K) (show _ = some 3 from (hx.r (i := 1) rfl)) ?_
  refine s_getI (zdk hX8_writeTiers 7 rfl) fw_X8_306 rfl (hx.wr.1) ?_
  refine s_topi (b := nI ((zwt g (zI M 4) (gN g 2)).1)) (zMw_0) ?_
  refine s_ireturn (zdk hX8_writeTiers 8 rfl) rfl rfl ?_
  exact ⟨rfl, rfl⟩
theorem c_X8_writtenByte (hl : l.stackTraces = false) {M : zMem} {g : Nat → Int64} {p : Nat → Nat} (hx : xSh M) (h : rSt M 630 g p) (hf : zF M = 1) {n : Nat} (hn : zI M 3 0 = nI n) (hn2 : n ≤ 256) (x : Int32) : zCx2 l G mX8_writtenByte 10 400 5 30 [.ref 0, .int (x)] M (zXr (eo (inN x n) 2 none) M (zP1 (some (.int (zI M 4 (x).toNatClampNeg))) M)) := by
  refine zCxr.of (ls0 := [some (.ref 0), some (.int (x))]) (by decide +kernel) rfl hl rfl (Nat.le_of_ble_eq_true rfl) hf (fun v9 M9 q9 => by rw [q9.2]) ?_
  refine s_iload_n (zdk hX8_writtenByte 0 rfl) rfl ?_
  refine s_if_lt 15 (zdk hX8_writtenByte 1 rfl) (by decide) (fun c1 => ?_) (fun c1 => ?_)
  · refine s_throw (x := 2) ⟨184, 186, (zdk hX8_writtenByte 7 rfl), (zdk hX8_writtenByte 8 rfl), (zdk hX8_writtenByte 9 rfl), (zdk hX8_writtenByte 10 rfl), clw_X8_184, xi_2, rfl, (by decide), (by decide), (by decide), xw_2⟩ ?_ (by decide)
    rw [zth_id hf]
    exact ⟨eo_n (fun q => by first | exact absurd q.1 (Int32.not_le.mpr c1) | exact c12 q.2), rfl⟩
  · refine s_iload_n (zdk hX8_writtenByte 2 rfl) rfl ?_
    refine s_aload_n (zdk hX8_writtenByte 3 rfl) rfl ?_
    refine s_getR (zdk hX8_writtenByte 4 rfl) fw_X8_19 rfl (hx.K) (show _ = some 3 from (hx.r (i := 1) rfl)) ?_
    refine s_getI (zdk hX8_writtenByte 5 rfl) fw_X8_306 rfl (hx.wr.1) ?_
    refine s_topi (b := nI n) (hn) ?_
    refine s_icmp_lt 23 (zdk hX8_writtenByte 6 rfl) (by decide) (fun c12 => ?_) (fun c12 => ?_)
    · have h2 : inN x n := ⟨Int32.not_lt.mp c1, c12⟩
      obtain ⟨xn, rfl, hxn⟩ := inN_nat h2 (by omega)
      rw [nI_clamp (show xn < 2 ^ 31 by omega)]
      refine s_aload_n (zdk hX8_writtenByte 11 rfl) rfl ?_
      refine s_getR (zdk hX8_writtenByte 12 rfl) fw_X8_19 rfl (hx.K) (show _ = some 3 from (hx.r (i := 1) rfl)) ?_
      refine s_getR (zdk hX8_writtenByte 13 rfl) fw_X8_307 rfl (hx.wr.1) (hx.wr.2.1) ?_
      refine s_iload_n (zdk hX8_writtenByte 14 rfl) rfl ?_
      refine s_ialoadN (N := 256) (j := xn) (zdk hX8_writtenByte 15 rfl) (hx.wr.2.2.1) (hx.wr.2.2.2) (by omega) (by decide) ?_
      refine s_ireturn (zdk hX8_writtenByte 16 rfl) rfl rfl ?_
      exact ⟨(eo_p h2).trans (rfl), rfl, rfl⟩
    · refine s_throw (x := 2) ⟨184, 186, (zdk hX8_writtenByte 7 rfl), (zdk hX8_writtenByte 8 rfl), (zdk hX8_writtenByte 9 rfl), (zdk hX8_writtenByte 10 rfl), clw_X8_184, xi_2, rfl, (by decide), (by decide), (by decide), xw_2⟩ ?_ (by decide)
      rw [zth_id hf]
      exact ⟨eo_n (fun q => by first | exact absurd q.1 (Int32.not_le.mpr c1) | exact c12 q.2), rfl⟩
def zbd (v : Int32) : Nat → Nat → Nat
  | 0, n => n
  | k + 1, n => zbd v k (if zby v k = 0 then n else n + 1)
theorem zbd_le {v : Int32} : ∀ k n, zbd v k n ≤ n + k
  | 0, n => Nat.le_refl n
  | k + 1, n => by
    have := zbd_le (v := v) k (if zby v k = 0 then n else n + 1)
    unfold zbd
    split at this <;> split <;> simp_all <;> omega
theorem w_X8_bytesIn (M : zMem) (v : Int32) : ∀ (k n : Nat), n ≤ 4 - k → k ≤ 4 → zS l G mX8_bytesIn 0 0 0 0 5 [some (.int v), some (.int (nI n)), some (.int (nI (8 * k) - nI 8))] [] M (zD (some (.int (nI (zbd v k n)))) M) := by
  intro k
  induction k with
  | zero =>
    intro n hn hk
    refine s_iload_n (zdk hX8_bytesIn 4 rfl) rfl ?_
    refine s_if_lt 28 (zdk hX8_bytesIn 5 rfl) (by decide) (fun c6 => ?_) (fun c6 => ?_)
    · refine s_iload_n (zdk hX8_bytesIn 15 rfl) rfl ?_
      refine s_ireturn (zdk hX8_bytesIn 16 rfl) rfl rfl ?_
      exact ⟨rfl, rfl⟩
    · exact absurd (by decide) c6
  | succ k ih =>
    intro n hn hk
    rw [show nI (8 * (k + 1)) - nI 8 = nI (8 * k) from (pk_sub (by omega)).trans (by congr 1)]
    refine s_iload_n (zdk hX8_bytesIn 4 rfl) rfl ?_
    refine s_if_lt 28 (zdk hX8_bytesIn 5 rfl) (by decide) (fun c6 => ?_) (fun c6 => ?_)
    · exact absurd c6 (nI_pos (by omega))
    · refine s_iload_n (zdk hX8_bytesIn 6 rfl) rfl ?_
      refine s_iload_n (zdk hX8_bytesIn 7 rfl) rfl ?_
      refine s_ishr (zdk hX8_bytesIn 8 rfl) ?_
      refine s_sipushv (v := nI 255) (zdk hX8_bytesIn 9 rfl) zc_sipush_255 ?_
      refine s_iand (zdk hX8_bytesIn 10 rfl) ?_
      refine s_topi (b := zby v k) (rfl) ?_
      refine s_if_eq 22 (zdk hX8_bytesIn 11 rfl) (by decide) (fun c16 => ?_) (fun c16 => ?_)
      · have e1 : (if zby v k = 0 then n else n + 1) = n := if_pos c16
        refine s_ls (ls' := [some (.int v), some (.int (nI (if zby v k = 0 then n else n + 1))), some (.int (nI (8 * k)))]) (by rw [e1]) ?_
        refine s_iinc (r := nI (8 * k) - nI 8) (zdk hX8_bytesIn 13 rfl) (Nat.le_of_ble_eq_true rfl) rfl (nI_m8 _) ?_
        refine s_ls (ls' := [some (.int (v)), some (.int (nI (if zby v k = 0 then n else n + 1))), some (.int (nI (8 * k) - nI 8))]) rfl ?_
        refine s_goto 5 (zdk hX8_bytesIn 14 rfl) (by decide) ?_
        exact ih _ (by split <;> omega) (by omega)
      · have e1 : (if zby v k = 0 then n else n + 1) = n + 1 := if_neg c16
        refine s_iinc (r := nI (n + 1)) (zdk hX8_bytesIn 12 rfl) (Nat.le_of_ble_eq_true rfl) rfl (nI_1 _) ?_
        refine s_ls (ls' := [some (.int (v)), some (.int (nI (n + 1))), some (.int (nI (8 * k)))]) rfl ?_
        refine s_ls (ls' := [some (.int v), some (.int (nI (if zby v k = 0 then n else n + 1))), some (.int (nI (8 * k)))]) (by rw [e1]) ?_
        refine s_iinc (r := nI (8 * k) - nI 8) (zdk hX8_bytesIn 13 rfl) (Nat.le_of_ble_eq_true rfl) rfl (nI_m8 _) ?_
        refine s_ls (ls' := [some (.int (v)), some (.int (nI (if zby v k = 0 then n else n + 1))), some (.int (nI (8 * k) - nI 8))]) rfl ?_
        refine s_goto 5 (zdk hX8_bytesIn 14 rfl) (by decide) ?_
        exact ih _ (by split <;> omega) (by omega)
theorem c_X8_bytesIn (hl : l.stackTraces = false) (M : zMem) (v : Int32) : zCm l G mX8_bytesIn 0 0 0 0 [.int v] M (zD (some (.int (nI (zbd v 4 0)))) M) := by
  refine zCd.of (ls0 := [some (.int v), none, none]) (by decide +kernel) rfl hl rfl (Nat.le_of_ble_eq_true rfl) rfl ?_
  refine s_iconstv (v := nI 0) (zdk hX8_bytesIn 0 rfl) zc_iconst_0 ?_
  refine s_istore_n (zdk hX8_bytesIn 1 rfl) (Nat.le_of_ble_eq_true rfl) ?_
  refine s_ls (ls' := [some (.int (v)), some (.int (nI 0)), none]) rfl ?_
  refine s_bipushv (v := nI 24) (zdk hX8_bytesIn 2 rfl) zc_bipush_24 ?_
  refine s_istore_n (zdk hX8_bytesIn 3 rfl) (Nat.le_of_ble_eq_true rfl) ?_
  refine s_ls (ls' := [some (.int (v)), some (.int (nI 0)), some (.int (nI 24))]) rfl ?_
  exact w_X8_bytesIn M v 4 0 (by omega) (by omega)
end
