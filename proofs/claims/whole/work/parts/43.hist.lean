/-! ===== the history ===== -/
def hSh (M : zMem) : Prop := zK M 12 = 2 ∧ zR M 12 2 = some 13 ∧ zK M 13 = 14 + 1 ∧ zN M 13 = 8 ∧ ∀ i, i < 8 → zR M 13 i = some (14 + 77 * i)
theorem zst_r {i : Nat} (h : i < 8) : zst (14 + 77 * i) := Or.inl ⟨i, by omega, rfl⟩
theorem zst_now : zst 630 := Or.inl ⟨8, by decide, rfl⟩
theorem zst_dr : zst 707 := Or.inl ⟨9, by decide, rfl⟩
theorem zst_sl {i : Nat} (h : i < 2) : zst (787 + 77 * i) := Or.inr ⟨i, h, rfl⟩
/-- the history after a call: its ring's stores, its counts -/
def hQ (M : zMem) (S : Nat → Nat → Int64) (c d : Nat) : zOut → zMem → Prop := fun o M' => o = .inl none ∧ zag M M' (fun b => b ≠ 12 ∧ ¬ zblk b) ∧ rW M' S ∧ zI M' 12 0 = nI c ∧ zI M' 12 1 = nI d
section
variable {l : Launch} {G : zG}
theorem c_X1_remember (hl : l.stackTraces = false) {M : zMem} {S : Nat → Nat → Int64} (hh : hSh M) (h : rW M S) {c d : Nat} (hc : zI M 12 0 = nI c) (hc8 : c ≤ 8) (hd : zI M 12 1 = nI d) (hd8 : d < 8) : zCm l G mX1_remember 3 90 0 0 [.ref 12, .ref 630] M (hQ M (zup S (14 + 77 * d) (S 630)) (min 8 (c + 1)) ((d + 1) % 8)) := by
  refine zCm.of0 (ls0 := [some (.ref 12), some (.ref 630)]) (by decide +kernel) rfl hl rfl (Nat.le_of_ble_eq_true rfl) (fun v' M' q => q.2.1.1) (fun x M' q => by cases q.1) ?_
  obtain ⟨p1, hp1⟩ := h (14 + 77 * d) (zst_r hd8)
  obtain ⟨p2, hp2⟩ := h 630 zst_now
  refine s_aload_n (zdk hX1_remember 0 rfl) rfl ?_
  refine s_getR (zdk hX1_remember 1 rfl) fw_X1_20 rfl (hh.1) (hh.2.1) ?_
  refine s_aload_n (zdk hX1_remember 2 rfl) rfl ?_
  refine s_getI (zdk hX1_remember 3 rfl) fw_X1_15 rfl (hh.1) ?_
  refine s_topi (b := nI d) (hd) ?_
  refine s_aaloadN (N := 8) (j := d) (zdk hX1_remember 4 rfl) (hh.2.2.1) (by decide) (hh.2.2.2.1) (hd8) (by decide) (hh.2.2.2.2 _ hd8) ?_
  refine s_aload_n (zdk hX1_remember 5 rfl) rfl ?_
  refine s_callV1 (ci := 5) [.ref 630] (zdk hX1_remember 6 rfl) cw_X1_25 (hp1.K) (by decide) rfl rfl rfl (Nat.le_of_ble_eq_true rfl) (by decide) (c_X5_copyFrom hl hp1.1 (by omega) hp2) ?_
  intro v2 M2 q2
  obtain ⟨q3, e2, h2⟩ := q2
  cases q3
  have hW2 := h.up (zst_r hd8) e2 h2
  have r12 : zI M2 12 = zI M 12 := (e2.2 12 (by omega)).1
  refine s_aload_n (zdk hX1_remember 7 rfl) rfl ?_
  refine s_aload_n (zdk hX1_remember 8 rfl) rfl ?_
  refine s_getI (zdk hX1_remember 9 rfl) fw_X1_15 rfl ((zsh_K e2.1 12).trans hh.1) ?_
  refine s_topi (b := nI d) ((congrFun r12 1).trans hd) ?_
  refine s_iconstv (v := nI 1) (zdk hX1_remember 10 rfl) zc_iconst_1 ?_
  refine s_iadd (zdk hX1_remember 11 rfl) ?_
  refine s_topi (b := nI (d + 1)) (nI_1 d) ?_
  refine s_bipushv (v := nI 8) (zdk hX1_remember 12 rfl) zc_bipush_8 ?_
  refine s_irem (zdk hX1_remember 13 rfl) (by decide) ?_
  refine s_topi (b := nI ((d + 1) % 8)) (pk_rem (by omega) (by decide) (by decide)) ?_
  refine s_putI (zdk hX1_remember 14 rfl) fw_X1_15 rfl pw_1_1 ((zsh_K e2.1 12).trans hh.1) ?_
  refine s_aload_n (zdk hX1_remember 15 rfl) rfl ?_
  refine s_getI (zdk hX1_remember 16 rfl) fw_X1_9 rfl ((zsh_K e2.1 12).trans hh.1) ?_
  refine s_topi (b := nI c) ((congrFun zI_Ie 0).trans ((zw1_n (by decide)).trans ((congrFun r12 0).trans hc))) ?_
  refine s_bipushv (v := nI 8) (zdk hX1_remember 17 rfl) zc_bipush_8 ?_
  refine s_icmp_ge 45 (zdk hX1_remember 18 rfl) (by decide) (fun c32 => ?_) (fun c32 => ?_)
  · have hc2 : min 8 (c + 1) = c := by have := nle c32 (by omega) (by omega); omega
    refine s_return (zdk hX1_remember 25 rfl) rfl ?_
    rw [hc2]
    exact ⟨rfl, (e2.mono fun b hb => by have := hb.2; unfold zblk at this; omega).trans ((zag_I _ _ _ _).mono fun b hb => hb.1), hW2.keep ((zag_I _ _ _ _).mono fun b hb => by unfold zblk at hb; omega), (congrFun zI_Ie 0).trans ((zw1_n (by decide)).trans ((congrFun r12 0).trans hc)), (congrFun zI_Ie 1).trans zw1_e⟩
  · have hc3 : c < 8 := nlt c32 (by omega) (by omega)
    have hc2 : min 8 (c + 1) = c + 1 := by omega
    refine s_aload_n (zdk hX1_remember 19 rfl) rfl ?_
    refine s_dupr (zdk hX1_remember 20 rfl) ?_
    refine s_getI (zdk hX1_remember 21 rfl) fw_X1_9 rfl ((zsh_K e2.1 12).trans hh.1) ?_
    refine s_topi (b := nI c) ((congrFun zI_Ie 0).trans ((zw1_n (by decide)).trans ((congrFun r12 0).trans hc))) ?_
    refine s_iconstv (v := nI 1) (zdk hX1_remember 22 rfl) zc_iconst_1 ?_
    refine s_iadd (zdk hX1_remember 23 rfl) ?_
    refine s_topi (b := nI (c + 1)) (nI_1 c) ?_
    refine s_putI (zdk hX1_remember 24 rfl) fw_X1_9 rfl pw_1_0 ((zsh_K e2.1 12).trans hh.1) ?_
    refine s_return (zdk hX1_remember 25 rfl) rfl ?_
    rw [hc2]
    exact ⟨rfl, ((e2.mono fun b hb => by have := hb.2; unfold zblk at this; omega).trans ((zag_I _ _ _ _).mono fun b hb => hb.1)).trans ((zag_I _ _ _ _).mono fun b hb => hb.1), hW2.keep (((zag_I _ _ _ _).mono fun b hb => by unfold zblk at hb; omega).trans ((zag_I _ _ _ _).mono fun b hb => by unfold zblk at hb; omega)), (congrFun zI_Ie 0).trans zw1_e, (congrFun zI_Ie 1).trans ((zw1_n (by decide)).trans ((congrFun zI_Ie 1).trans zw1_e))⟩
theorem c_X1_bringBack (hl : l.stackTraces = false) {M : zMem} {S : Nat → Nat → Int64} (hh : hSh M) (h : rW M S) {c d : Nat} (hc : zI M 12 0 = nI c) (hc8 : c ≤ 8) (hd : zI M 12 1 = nI d) (hd8 : d < 8) (hc0 : 0 < c) : zCm l G mX1_bringBack 3 90 0 0 [.ref 12, .ref 630] M (hQ M (zup S 630 (S (14 + 77 * ((d + 7) % 8)))) (c - 1) ((d + 7) % 8)) := by
  refine zCm.of0 (ls0 := [some (.ref 12), some (.ref 630)]) (by decide +kernel) rfl hl rfl (Nat.le_of_ble_eq_true rfl) (fun v' M' q => q.2.1.1) (fun x M' q => by cases q.1) ?_
  refine s_aload_n (zdk hX1_bringBack 0 rfl) rfl ?_
  refine s_aload_n (zdk hX1_bringBack 1 rfl) rfl ?_
  refine s_getI (zdk hX1_bringBack 2 rfl) fw_X1_15 rfl (hh.1) ?_
  refine s_topi (b := nI d) (hd) ?_
  refine s_bipushv (v := nI 8) (zdk hX1_bringBack 3 rfl) zc_bipush_8 ?_
  refine s_iadd (zdk hX1_bringBack 4 rfl) ?_
  refine s_topi (b := nI (d + 8)) (nI_add _ _) ?_
  refine s_iconstv (v := nI 1) (zdk hX1_bringBack 5 rfl) zc_iconst_1 ?_
  refine s_isub (zdk hX1_bringBack 6 rfl) ?_
  refine s_topi (b := nI (d + 7)) (pk_sub (by omega)) ?_
  refine s_bipushv (v := nI 8) (zdk hX1_bringBack 7 rfl) zc_bipush_8 ?_
  refine s_irem (zdk hX1_bringBack 8 rfl) (by decide) ?_
  refine s_topi (b := nI ((d + 7) % 8)) (pk_rem (by omega) (by decide) (by decide)) ?_
  refine s_putI (zdk hX1_bringBack 9 rfl) fw_X1_15 rfl pw_1_1 (hh.1) ?_
  refine s_aload_n (zdk hX1_bringBack 10 rfl) rfl ?_
  refine s_dupr (zdk hX1_bringBack 11 rfl) ?_
  refine s_getI (zdk hX1_bringBack 12 rfl) fw_X1_9 rfl (hh.1) ?_
  refine s_topi (b := nI c) ((congrFun zI_Ie 0).trans ((zw1_n (by decide)).trans hc)) ?_
  refine s_iconstv (v := nI 1) (zdk hX1_bringBack 13 rfl) zc_iconst_1 ?_
  refine s_isub (zdk hX1_bringBack 14 rfl) ?_
  refine s_topi (b := nI (c - 1)) (pk_sub (by omega)) ?_
  refine s_putI (zdk hX1_bringBack 15 rfl) fw_X1_9 rfl pw_1_0 (hh.1) ?_
  have eA : zag M (zsI (zsI M 12 1 (nI ((d + 7) % 8))) 12 0 (nI (c - 1))) (fun b => b ≠ 12) := (zag_I _ _ _ _).trans (zag_I _ _ _ _)
  have hd7 : (d + 7) % 8 < 8 := Nat.mod_lt _ (by decide)
  have hWA : rW (zsI (zsI M 12 1 (nI ((d + 7) % 8))) 12 0 (nI (c - 1))) S := h.keep (eA.mono fun b hb => by unfold zblk at hb; omega)
  obtain ⟨p1, hp1⟩ := hWA (14 + 77 * ((d + 7) % 8)) (zst_r hd7)
  obtain ⟨p2, hp2⟩ := hWA 630 zst_now
  refine s_aload_n (zdk hX1_bringBack 16 rfl) rfl ?_
  refine s_aload_n (zdk hX1_bringBack 17 rfl) rfl ?_
  refine s_getR (zdk hX1_bringBack 18 rfl) fw_X1_20 rfl (hh.1) (hh.2.1) ?_
  refine s_aload_n (zdk hX1_bringBack 19 rfl) rfl ?_
  refine s_getI (zdk hX1_bringBack 20 rfl) fw_X1_15 rfl (hh.1) ?_
  refine s_topi (b := nI ((d + 7) % 8)) ((congrFun zI_Ie 1).trans ((zw1_n (by decide)).trans ((congrFun zI_Ie 1).trans zw1_e))) ?_
  refine s_aaloadN (N := 8) (j := ((d + 7) % 8)) (zdk hX1_bringBack 21 rfl) (hh.2.2.1) (by decide) (hh.2.2.2.1) (hd7) (by decide) (hh.2.2.2.2 _ hd7) ?_
  refine s_callV1 (ci := 5) [.ref (14 + 77 * ((d + 7) % 8))] (zdk hX1_bringBack 22 rfl) cw_X1_25 (hp2.K) (by decide) rfl rfl rfl (Nat.le_of_ble_eq_true rfl) (by decide) (c_X5_copyFrom hl hp2.1 (by omega) hp1) ?_
  intro v2 M2 q2
  obtain ⟨q3, e2, h2⟩ := q2
  cases q3
  have hW2 := hWA.up zst_now e2 h2
  have r12 : zI M2 12 = zI (zsI (zsI M 12 1 (nI ((d + 7) % 8))) 12 0 (nI (c - 1))) 12 := (e2.2 12 (by omega)).1
  refine s_return (zdk hX1_bringBack 23 rfl) rfl ?_
  exact ⟨rfl, (eA.mono fun b hb => hb.1).trans (e2.mono fun b hb => by have := hb.2; unfold zblk at this; omega), hW2, (congrFun r12 0).trans ((congrFun zI_Ie 0).trans zw1_e), (congrFun r12 1).trans ((congrFun zI_Ie 1).trans ((zw1_n (by decide)).trans ((congrFun zI_Ie 1).trans zw1_e)))⟩
end
