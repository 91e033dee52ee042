theorem zc_bipush_m18 : (Int8.ofInt (-18)).toInt32 = (-18) := by decide
theorem zc_bipush_m15 : (Int8.ofInt (-15)).toInt32 = (-15) := by decide
theorem zc_bipush_m11 : (Int8.ofInt (-11)).toInt32 = (-11) := by decide
/-! ===== the face: remember; what a change leaves ===== -/
/-- behind remember: the ring's store at s holds what is now -/
def hQ2 (M : zMem) (S : Nat → Nat → Int64) (s c d : Nat) : zOut → zMem → Prop := fun o M' => o = .inl none ∧ zag M M' (fun b => b ≠ 12 ∧ (b < s ∨ s + 77 ≤ b)) ∧ rW M' S ∧ zI M' 12 0 = nI c ∧ zI M' 12 1 = nI d ∧ zR M' 12 = zR M 12
section
variable {l : Launch} {G : zG}
theorem c_rem2 (hl : l.stackTraces = false) {M : zMem} {S : Nat → Nat → Int64} (hh : hSh M) (h : rW M S) {c d : Nat} (hc : zI M 12 0 = nI c) (hc8 : c ≤ 8) (hd : zI M 12 1 = nI d) (hd8 : d < 8) : zCm l G mX1_remember 3 90 0 0 [.ref 12, .ref 630] M (hQ2 M (zup S (14 + 77 * d) (S 630)) (14 + 77 * d) (min 8 (c + 1)) ((d + 1) % 8)) := by
  refine zCm.of0 (ls0 := [some (.ref 12), some (.ref 630)]) (by decide +kernel) rfl hl rfl (Nat.le_of_ble_eq_true rfl) (fun v' M' q => q.2.1.1) (fun x M' q => by cases q.1) ?_
  obtain ⟨p1, hp1⟩ := h (14 + 77 * d) (zst_r hd8)
  obtain ⟨p2, hp2⟩ := h 630 zst_now
  refine s_aload_n (zdk hX1_remember 0 rfl) rfl ?_
  refine s_getR (zdk hX1_remember 1 rfl) fw_X1_20 rfl (hh.1) (hh.2.1) ?_
  refine s_aload_n (zdk hX1_remember 2 rfl) rfl ?_
  refine s_getI (zdk hX1_remember 3 rfl) fw_X1_15 rfl (hh.1) ?_
  refine s_topi (b := nI d) (hd) ?_
  refine s_aaloadN (N := 8) (j := d) (zdk hX1_remember 4 rfl) (hh.2.2.1) (by decide) (hh.2.2.2.1) (hd8) (by decide) (hh.2.2.2.2 _ hd8) ?_
  refine s_aload_n (zdk hX1_remember 5 rfl) rfl ?_
  refine s_callV1 (ci := 5) [.ref 630] (zdk hX1_remember 6 rfl) cw_X1_25 (hp1.K) (by decide) rfl rfl rfl (Nat.le_of_ble_eq_true rfl) (by decide) (c_X5_copyFrom hl hp1.1 (by omega) hp2) ?_
  intro v2 M2 q2
  obtain ⟨q3, e2, h2⟩ := q2
  cases q3
  have hW2 := h.up (zst_r hd8) e2 h2
  have r12 : zI M2 12 = zI M 12 := (e2.2 12 (by omega)).1
  have rr12 : zR M2 12 = zR M 12 := (e2.2 12 (by omega)).2.2
  refine s_aload_n (zdk hX1_remember 7 rfl) rfl ?_
  refine s_aload_n (zdk hX1_remember 8 rfl) rfl ?_
  refine s_getI (zdk hX1_remember 9 rfl) fw_X1_15 rfl ((zsh_K e2.1 12).trans hh.1) ?_
  refine s_topi (b := nI d) ((congrFun r12 1).trans hd) ?_
  refine s_iconstv (v := nI 1) (zdk hX1_remember 10 rfl) zc_iconst_1 ?_
  refine s_iadd (zdk hX1_remember 11 rfl) ?_
  refine s_topi (b := nI (d + 1)) (nI_add _ _) ?_
  refine s_bipushv (v := nI 8) (zdk hX1_remember 12 rfl) zc_bipush_8 ?_
  refine s_irem (zdk hX1_remember 13 rfl) (by decide) ?_
  refine s_topi (b := nI ((d + 1) % 8)) (pk_rem (by omega) (by omega) (by omega)) ?_
  refine s_putI (zdk hX1_remember 14 rfl) fw_X1_15 rfl pw_1_1 ((zsh_K e2.1 12).trans hh.1) ?_
  refine s_aload_n (zdk hX1_remember 15 rfl) rfl ?_
  refine s_getI (zdk hX1_remember 16 rfl) fw_X1_9 rfl ((zsh_K e2.1 12).trans hh.1) ?_
  refine s_topi (b := nI c) ((congrFun zI_Ie 0).trans ((zw1_n (by decide)).trans ((congrFun r12 0).trans hc))) ?_
  refine s_bipushv (v := nI 8) (zdk hX1_remember 17 rfl) zc_bipush_8 ?_
  refine s_icmp_ge 45 (zdk hX1_remember 18 rfl) (by decide) (fun c32 => ?_) (fun c32 => ?_)
  · have n32 : 8 ≤ c := nle c32 (by omega) (by omega)
    have hc2 : min 8 (c + 1) = c := by omega
    refine s_return (zdk hX1_remember 25 rfl) rfl ?_
    rw [hc2]
    exact ⟨rfl, (e2.mono fun b hb => hb.2).trans ((zag_I _ _ _ _).mono fun b hb => hb.1), hW2.keep ((zag_I _ _ _ _).mono fun b hb => by unfold zblk at hb; omega), (congrFun zI_Ie 0).trans ((zw1_n (by decide)).trans ((congrFun r12 0).trans hc)), (congrFun zI_Ie 1).trans zw1_e, rr12⟩
  · have n32 : c < 8 := nlt c32 (by omega) (by omega)
    have hc2 : min 8 (c + 1) = c + 1 := by omega
    refine s_aload_n (zdk hX1_remember 19 rfl) rfl ?_
    refine s_dupr (zdk hX1_remember 20 rfl) ?_
    refine s_getI (zdk hX1_remember 21 rfl) fw_X1_9 rfl ((zsh_K e2.1 12).trans hh.1) ?_
    refine s_topi (b := nI c) ((congrFun zI_Ie 0).trans ((zw1_n (by decide)).trans ((congrFun r12 0).trans hc))) ?_
    refine s_iconstv (v := nI 1) (zdk hX1_remember 22 rfl) zc_iconst_1 ?_
    refine s_iadd (zdk hX1_remember 23 rfl) ?_
    refine s_topi (b := nI (c + 1)) (nI_add _ _) ?_
    refine s_putI (zdk hX1_remember 24 rfl) fw_X1_9 rfl pw_1_0 ((zsh_K e2.1 12).trans hh.1) ?_
    refine s_return (zdk hX1_remember 25 rfl) rfl ?_
    rw [hc2]
    exact ⟨rfl, ((e2.mono fun b hb => hb.2).trans ((zag_I _ _ _ _).mono fun b hb => hb.1)).trans ((zag_I _ _ _ _).mono fun b hb => hb.1), hW2.keep (((zag_I _ _ _ _).mono fun b hb => by unfold zblk at hb; omega).trans ((zag_I _ _ _ _).mono fun b hb => by unfold zblk at hb; omega)), (congrFun zI_Ie 0).trans zw1_e, (congrFun zI_Ie 1).trans ((zw1_n (by decide)).trans ((congrFun zI_Ie 1).trans zw1_e)), rr12⟩
end
theorem xSh.keep {M M' : zMem} (h : xSh M) (e : zsh M M') (er : ∀ b, b ≤ 13 ∨ b = 784 → zR M' b = zR M b) : xSh M' := by
  have kk := fun b => zsh_K e b
  have nn := fun b => zsh_N e b
  obtain ⟨⟨a1, a2⟩, b1, b2, b3, b4, ⟨b5, b6, b7⟩, ⟨b8, b9⟩, b10, b11⟩ := h
  refine ⟨⟨by rw [kk]; exact a1, fun q hq => by rw [er 0 (by omega)]; exact a2 q hq⟩, ?_, ?_, ?_, ?_, ⟨by rw [kk]; exact b5, by rw [nn]; exact b6, fun i hi => by rw [er 784 (by omega)]; exact b7 i hi⟩, ⟨by rw [kk]; exact b8, by rw [nn]; exact b9⟩, by rw [kk]; exact b10, by rw [nn]; exact b11⟩
  · unfold eSh at *
    rw [kk, kk, nn, er 1 (by omega)]
    exact b1
  · unfold wSh at *
    rw [kk, kk, nn, er 3 (by omega)]
    exact b2
  · unfold nSh at *
    simp only [kk, nn, er 5 (by omega)]
    exact b3
  · unfold hSh at *
    rw [kk, kk, nn, er 12 (by omega), er 13 (by omega)]
    exact b4
theorem hQ2.xs {M M2 : zMem} {S : Nat → Nat → Int64} {c d d' : Nat} {o : zOut} (q : hQ2 M S (14 + 77 * d) c d' o M2) (hx : xSh M) (hd8 : d < 8) : xSh M2 :=
  hx.keep q.2.1.1 (fun b hb => by
    by_cases h : b = 12
    · rw [h]; exact q.2.2.2.2.2
    · exact (q.2.1.2 b ⟨h, by omega⟩).2.2)
theorem hQ2.st {M M2 : zMem} {S : Nat → Nat → Int64} {c d d' : Nat} {o : zOut} {g : Nat → Int64} {p : Nat → Nat} (q : hQ2 M S (14 + 77 * d) c d' o M2) (h : rSt M 630 g p) (hd8 : d < 8) : rSt M2 630 g p :=
  h.keep (q.2.1.mono fun b hb => by omega)
/-- a change that is remembered -/
def uP (v : Option Value) (M : zMem) (S : Nat → Nat → Int64) (c d : Nat) (g' : Nat → Int64) : Option Value → zMem → Prop := fun v' M' => v' = v ∧ zag M M' (fun b => b ≠ 12 ∧ ¬ zblk b) ∧ rW M' (zup (zup S (14 + 77 * d) (S 630)) 630 g') ∧ zI M' 12 0 = nI (min 8 (c + 1)) ∧ zI M' 12 1 = nI ((d + 1) % 8) ∧ zR M' 12 = zR M 12
theorem uP.fl {v v' : Option Value} {M M' : zMem} {S : Nat → Nat → Int64} {c d : Nat} {g' : Nat → Int64} (q : uP v M S c d g' v' M') : zF M' = zF M := zsh_F q.2.1.1
theorem uP_of {v : Option Value} {M M2 M3 : zMem} {S : Nat → Nat → Int64} {c d : Nat} {o : zOut} {g' : Nat → Int64} {p' : Nat → Nat} (q : hQ2 M (zup S (14 + 77 * d) (S 630)) (14 + 77 * d) (min 8 (c + 1)) ((d + 1) % 8) o M2) (hd8 : d < 8) (e3 : zag M2 M3 (fun b => b < 630 ∨ 630 + 77 ≤ b)) (h3 : rSt M3 630 g' p') : uP v M S c d g' v M3 :=
  ⟨rfl, (q.2.1.mono fun b hb => ⟨hb.1, by have := hb.2; unfold zblk at this; omega⟩).trans (e3.mono fun b hb => by have := hb.2; unfold zblk at this; omega), q.2.2.1.up zst_now e3 h3, (congrFun (e3.2 12 (by omega)).1 0).trans q.2.2.2.1, (congrFun (e3.2 12 (by omega)).1 1).trans q.2.2.2.2.1, ((e3.2 12 (by omega)).2.2).trans q.2.2.2.2.2⟩
section
variable {l : Launch} {G : zG}
theorem c_remember2 (hl : l.stackTraces = false) {M : zMem} {S : Nat → Nat → Int64} (hx : xSh M) (h : rW M S) {c d : Nat} (hc : zI M 12 0 = nI c) (hc8 : c ≤ 8) (hd : zI M 12 1 = nI d) (hd8 : d < 8) : zCm l G mX1_remember 3 90 0 0 [.ref 12, .ref 630] M (hQ2 M (zup S (14 + 77 * d) (S 630)) (14 + 77 * d) (min 8 (c + 1)) ((d + 1) % 8)) := c_rem2 hl hx.hi h hc hc8 hd hd8
theorem c_X8_use_x (hl : l.stackTraces = false) {M : zMem} {S : Nat → Nat → Int64} {p : Nat → Nat} (hx : xSh M) (hW : rW M S) (h : rSt M 630 (S 630) p) (hf : zF M = 1) {c d : Nat} (hc : zI M 12 0 = nI c) (hc8 : c ≤ 8) (hd : zI M 12 1 = nI d) (hd8 : d < 8) (f u : Int32) (hn : ¬ (inN f (gN (S 630) 3) ∧ (nI 1 ≤ u ∧ u ≤ nI 9999))) : zCx2 l G mX8_use 10 400 5 30 [.ref 0, .int (f), .int (u)] M (zXr (eo (inN f (gN (S 630) 3)) 2 (eo (nI 1 ≤ u ∧ u ≤ nI 9999) 1 none)) M (fun _ _ => False)) := by
  refine zCxr.of (ls0 := [some (.ref 0), some (.int (f)), some (.int (u)), none]) (by decide +kernel) rfl hl rfl (Nat.le_of_ble_eq_true rfl) hf (by first | exact (fun v9 M9 q9 => by rw [q9.2]) | exact (fun v9 M9 q9 => q9.fl) | exact (fun v9 M9 q9 => q9.elim)) ?_
  have h20 := h.b.2.2.1.2
  have h4 := h.b.2.1.2
  have hcy := h.b.1.2.2
  have hcy2 := h.b.1.2.1
  have hpe := h.b.2.2.2.1.2
  refine s_aload_n (zdk hX8_use 0 rfl) rfl ?_
  refine s_iload_n (zdk hX8_use 1 rfl) rfl ?_
  refine s_callVXa (ci := 8) [.int (f)] (zdk hX8_use 2 rfl) cw_X8_146 (hx.K) (by decide) rfl rfl rfl (Nat.le_of_ble_eq_true rfl) (by decide) (c_X8_requireFile hl hx h hf f) rfl (fun x9 M9 q9 => ?_) (fun v9 M9 q9 => ?_)
  · obtain ⟨e9, rfl⟩ := q9
    obtain ⟨e7, rfl⟩ := eo_x e9
    exact ⟨eo_n e7, rfl⟩
  obtain ⟨e9, r9, rfl⟩ := q9
  cases r9
  have h1 := eo_r e9
  refine s_iload_n (zdk hX8_use 3 rfl) rfl ?_
  refine s_iconstv (v := nI 1) (zdk hX8_use 4 rfl) zc_iconst_1 ?_
  refine s_sipushv (v := nI 9999) (zdk hX8_use 5 rfl) zc_sipush_9999 ?_
  refine s_callSXa [.int (u), .int (nI 1), .int (nI 9999)] (zdk hX8_use 6 rfl) cw_X8_206 rfl (Nat.le_of_ble_eq_true rfl) (by decide) (c_X8_requireWithin hl hf (u) (nI 1) (nI 9999)) rfl (fun x9 M9 q9 => ?_) (fun v9 M9 q9 => ?_)
  · obtain ⟨e9, rfl⟩ := q9
    obtain ⟨e7, rfl⟩ := eo_x e9
    exact ⟨(eo_p h1).trans (eo_n e7), rfl⟩
  obtain ⟨e9, r9, rfl⟩ := q9
  cases r9
  have h2 := eo_r e9
  exact absurd ⟨h1, h2⟩ hn
theorem c_X8_use_r (hl : l.stackTraces = false) {M : zMem} {S : Nat → Nat → Int64} {p : Nat → Nat} (hx : xSh M) (hW : rW M S) (h : rSt M 630 (S 630) p) (hf : zF M = 1) {c d : Nat} (hc : zI M 12 0 = nI c) (hc8 : c ≤ 8) (hd : zI M 12 1 = nI d) (hd8 : d < 8) {f : Nat} (hf9 : f < gN (S 630) 3) {u : Int32} (hu : nI 1 ≤ u ∧ u ≤ nI 9999) (hr : ¬ gf (S 630) f 2 + u ≤ nI 9999) : zCx2 l G mX8_use 10 400 5 30 [.ref 0, .int (nI f), .int (u)] M (zXr none M (zP1 (some (.int (-18))) M)) := by
  refine zCxr.of (ls0 := [some (.ref 0), some (.int (nI f)), some (.int (u)), none]) (by decide +kernel) rfl hl rfl (Nat.le_of_ble_eq_true rfl) hf (by first | exact (fun v9 M9 q9 => by rw [q9.2]) | exact (fun v9 M9 q9 => q9.fl) | exact (fun v9 M9 q9 => q9.elim)) ?_
  have h20 := h.b.2.2.1.2
  have h4 := h.b.2.1.2
  have hcy := h.b.1.2.2
  have hcy2 := h.b.1.2.1
  have hpe := h.b.2.2.2.1.2
  refine s_aload_n (zdk hX8_use 0 rfl) rfl ?_
  refine s_iload_n (zdk hX8_use 1 rfl) rfl ?_
  refine s_callVXa (ci := 8) [.int (nI f)] (zdk hX8_use 2 rfl) cw_X8_146 (hx.K) (by decide) rfl rfl rfl (Nat.le_of_ble_eq_true rfl) (by decide) (c_X8_requireFile hl hx h hf (nI f)) rfl (fun x9 M9 q9 => ?_) (fun v9 M9 q9 => ?_)
  · obtain ⟨e9, rfl⟩ := q9
    obtain ⟨e7, rfl⟩ := eo_x e9
    exact absurd (inN_of hf9 (by omega)) e7
  obtain ⟨e9, r9, rfl⟩ := q9
  cases r9
  refine s_iload_n (zdk hX8_use 3 rfl) rfl ?_
  refine s_iconstv (v := nI 1) (zdk hX8_use 4 rfl) zc_iconst_1 ?_
  refine s_sipushv (v := nI 9999) (zdk hX8_use 5 rfl) zc_sipush_9999 ?_
  refine s_callSXa [.int (u), .int (nI 1), .int (nI 9999)] (zdk hX8_use 6 rfl) cw_X8_206 rfl (Nat.le_of_ble_eq_true rfl) (by decide) (c_X8_requireWithin hl hf (u) (nI 1) (nI 9999)) rfl (fun x9 M9 q9 => ?_) (fun v9 M9 q9 => ?_)
  · obtain ⟨e9, rfl⟩ := q9
    obtain ⟨e7, rfl⟩ := eo_x e9
    exact absurd (hu) e7
  obtain ⟨e9, r9, rfl⟩ := q9
  cases r9
  refine s_aload_n (zdk hX8_use 7 rfl) rfl ?_
  refine s_getR (zdk hX8_use 8 rfl) fw_X8_40 rfl (hx.K) (show _ = some 630 from (hx.r (i := 4) rfl)) ?_
  refine s_getR (zdk hX8_use 9 rfl) fw_X8_149 rfl (h.K) (h.r6) ?_
  refine s_iload_n (zdk hX8_use 10 rfl) rfl ?_
  refine s_aaloadN (N := 20) (j := f) (zdk hX8_use 11 rfl) (h.fK) (by decide) (h.fN) (h.fL hf9) (by decide) (h.rR hf9) ?_
  refine s_astore_n (zdk hX8_use 12 rfl) (Nat.le_of_ble_eq_true rfl) ?_
  refine s_ls (ls' := [some (.ref 0), some (.int (nI f)), some (.int (u)), some (.ref (630 + 17 + 3 * p f))]) rfl ?_
  refine s_aload_n (zdk hX8_use 13 rfl) rfl ?_
  refine s_getI (zdk hX8_use 14 rfl) fw_X8_159 rfl ((h.rS hf9).1) ?_
  refine s_topi (b := gf (S 630) f 2) (h.f3 hf9) ?_
  refine s_iload_n (zdk hX8_use 15 rfl) rfl ?_
  refine s_iadd (zdk hX8_use 16 rfl) ?_
  refine s_sipushv (v := nI 9999) (zdk hX8_use 17 rfl) zc_sipush_9999 ?_
  refine s_icmp_le 38 (zdk hX8_use 18 rfl) (by decide) (fun c32 => ?_) (fun c32 => ?_)
  · exact absurd c32 hr
  · refine s_bipushv (v := (-18)) (zdk hX8_use 19 rfl) zc_bipush_m18 ?_
    refine s_ireturn (zdk hX8_use 20 rfl) rfl rfl ?_
    exact ⟨rfl, rfl, rfl⟩
theorem c_X8_use (hl : l.stackTraces = false) {M : zMem} {S : Nat → Nat → Int64} {p : Nat → Nat} (hx : xSh M) (hW : rW M S) (h : rSt M 630 (S 630) p) (hf : zF M = 1) {c d : Nat} (hc : zI M 12 0 = nI c) (hc8 : c ≤ 8) (hd : zI M 12 1 = nI d) (hd8 : d < 8) {f : Nat} (hf9 : f < gN (S 630) 3) {u : Int32} (hu : nI 1 ≤ u ∧ u ≤ nI 9999) (hr : gf (S 630) f 2 + u ≤ nI 9999) : zCx2 l G mX8_use 10 400 5 30 [.ref 0, .int (nI f), .int (u)] M (zXr none M (uP (some (.int (gf (S 630) f 2 + u))) M S c d (zwL (S 630) (58 + 51 * f + 2) (gf (S 630) f 2 + u).toInt64))) := by
  refine zCxr.of (ls0 := [some (.ref 0), some (.int (nI f)), some (.int (u)), none]) (by decide +kernel) rfl hl rfl (Nat.le_of_ble_eq_true rfl) hf (by first | exact (fun v9 M9 q9 => by rw [q9.2]) | exact (fun v9 M9 q9 => q9.fl) | exact (fun v9 M9 q9 => q9.elim)) ?_
  have h20 := h.b.2.2.1.2
  have h4 := h.b.2.1.2
  have hcy := h.b.1.2.2
  have hcy2 := h.b.1.2.1
  have hpe := h.b.2.2.2.1.2
  refine s_aload_n (zdk hX8_use 0 rfl) rfl ?_
  refine s_iload_n (zdk hX8_use 1 rfl) rfl ?_
  refine s_callVXa (ci := 8) [.int (nI f)] (zdk hX8_use 2 rfl) cw_X8_146 (hx.K) (by decide) rfl rfl rfl (Nat.le_of_ble_eq_true rfl) (by decide) (c_X8_requireFile hl hx h hf (nI f)) rfl (fun x9 M9 q9 => ?_) (fun v9 M9 q9 => ?_)
  · obtain ⟨e9, rfl⟩ := q9
    obtain ⟨e7, rfl⟩ := eo_x e9
    exact absurd (inN_of hf9 (by omega)) e7
  obtain ⟨e9, r9, rfl⟩ := q9
  cases r9
  refine s_iload_n (zdk hX8_use 3 rfl) rfl ?_
  refine s_iconstv (v := nI 1) (zdk hX8_use 4 rfl) zc_iconst_1 ?_
  refine s_sipushv (v := nI 9999) (zdk hX8_use 5 rfl) zc_sipush_9999 ?_
  refine s_callSXa [.int (u), .int (nI 1), .int (nI 9999)] (zdk hX8_use 6 rfl) cw_X8_206 rfl (Nat.le_of_ble_eq_true rfl) (by decide) (c_X8_requireWithin hl hf (u) (nI 1) (nI 9999)) rfl (fun x9 M9 q9 => ?_) (fun v9 M9 q9 => ?_)
  · obtain ⟨e9, rfl⟩ := q9
    obtain ⟨e7, rfl⟩ := eo_x e9
    exact absurd (hu) e7
  obtain ⟨e9, r9, rfl⟩ := q9
  cases r9
  refine s_aload_n (zdk hX8_use 7 rfl) rfl ?_
  refine s_getR (zdk hX8_use 8 rfl) fw_X8_40 rfl (hx.K) (show _ = some 630 from (hx.r (i := 4) rfl)) ?_
  refine s_getR (zdk hX8_use 9 rfl) fw_X8_149 rfl (h.K) (h.r6) ?_
  refine s_iload_n (zdk hX8_use 10 rfl) rfl ?_
  refine s_aaloadN (N := 20) (j := f) (zdk hX8_use 11 rfl) (h.fK) (by decide) (h.fN) (h.fL hf9) (by decide) (h.rR hf9) ?_
  refine s_astore_n (zdk hX8_use 12 rfl) (Nat.le_of_ble_eq_true rfl) ?_
  refine s_ls (ls' := [some (.ref 0), some (.int (nI f)), some (.int (u)), some (.ref (630 + 17 + 3 * p f))]) rfl ?_
  refine s_aload_n (zdk hX8_use 13 rfl) rfl ?_
  refine s_getI (zdk hX8_use 14 rfl) fw_X8_159 rfl ((h.rS hf9).1) ?_
  refine s_topi (b := gf (S 630) f 2) (h.f3 hf9) ?_
  refine s_iload_n (zdk hX8_use 15 rfl) rfl ?_
  refine s_iadd (zdk hX8_use 16 rfl) ?_
  refine s_sipushv (v := nI 9999) (zdk hX8_use 17 rfl) zc_sipush_9999 ?_
  refine s_icmp_le 38 (zdk hX8_use 18 rfl) (by decide) (fun c32 => ?_) (fun c32 => ?_)
  · refine s_aload_n (zdk hX8_use 21 rfl) rfl ?_
    refine s_getR (zdk hX8_use 22 rfl) fw_X8_33 rfl (hx.K) (show _ = some 12 from (hx.r (i := 3) rfl)) ?_
    refine s_aload_n (zdk hX8_use 23 rfl) rfl ?_
    refine s_getR (zdk hX8_use 24 rfl) fw_X8_40 rfl (hx.K) (show _ = some 630 from (hx.r (i := 4) rfl)) ?_
    refine s_callV1 (ci := 1) [.ref 630] (zdk hX8_use 25 rfl) cw_X8_81 (hx.hi.1) (by decide) rfl rfl rfl (Nat.le_of_ble_eq_true rfl) (by decide) (c_remember2 hl hx hW hc hc8 hd hd8) ?_
    intro v2 M2 q2
    have q3 := q2.1
    cases q3
    have hx2 : xSh M2 := q2.xs hx hd8
    have h2 : rSt M2 630 (S 630) p := q2.st h hd8
    refine s_aload_n (zdk hX8_use 26 rfl) rfl ?_
    refine s_dupr (zdk hX8_use 27 rfl) ?_
    refine s_getI (zdk hX8_use 28 rfl) fw_X8_159 rfl ((h2.rS hf9).1) ?_
    refine s_topi (b := gf (S 630) f 2) (h2.f3 hf9) ?_
    refine s_iload_n (zdk hX8_use 29 rfl) rfl ?_
    refine s_iadd (zdk hX8_use 30 rfl) ?_
    refine s_putI (zdk hX8_use 31 rfl) fw_X8_159 rfl pw_0_3 ((h2.rS hf9).1) ?_
    refine s_aload_n (zdk hX8_use 32 rfl) rfl ?_
    refine s_getI (zdk hX8_use 33 rfl) fw_X8_159 rfl ((h2.rS hf9).1) ?_
    refine s_topi (b := gf (S 630) f 2 + u) ((congrFun zI_Ie 3).trans zw1_e) ?_
    refine s_ireturn (zdk hX8_use 34 rfl) rfl rfl ?_
    exact ⟨rfl, uP_of q2 hd8 ((zag_I _ _ _ _).mono fun b hb => by have := h.pL (h.fL hf9); omega) (h2.use hf9)⟩
  · exact absurd hr c32
theorem c_X8_pin_x (hl : l.stackTraces = false) {M : zMem} {S : Nat → Nat → Int64} {p : Nat → Nat} (hx : xSh M) (hW : rW M S) (h : rSt M 630 (S 630) p) (hf : zF M = 1) {c d : Nat} (hc : zI M 12 0 = nI c) (hc8 : c ≤ 8) (hd : zI M 12 1 = nI d) (hd8 : d < 8) (f u : Int32) (hn : ¬ (inN f (gN (S 630) 3) ∧ (nI 0 ≤ u ∧ u ≤ nI 9999))) : zCx2 l G mX8_pin 10 400 5 30 [.ref 0, .int (f), .int (u)] M (zXr (eo (inN f (gN (S 630) 3)) 2 (eo (nI 0 ≤ u ∧ u ≤ nI 9999) 1 none)) M (fun _ _ => False)) := by
  refine zCxr.of (ls0 := [some (.ref 0), some (.int (f)), some (.int (u)), none]) (by decide +kernel) rfl hl rfl (Nat.le_of_ble_eq_true rfl) hf (by first | exact (fun v9 M9 q9 => by rw [q9.2]) | exact (fun v9 M9 q9 => q9.fl) | exact (fun v9 M9 q9 => q9.elim)) ?_
  have h20 := h.b.2.2.1.2
  have h4 := h.b.2.1.2
  have hcy := h.b.1.2.2
  have hcy2 := h.b.1.2.1
  have hpe := h.b.2.2.2.1.2
  refine s_aload_n (zdk hX8_pin 0 rfl) rfl ?_
  refine s_iload_n (zdk hX8_pin 1 rfl) rfl ?_
  refine s_callVXa (ci := 8) [.int (f)] (zdk hX8_pin 2 rfl) cw_X8_146 (hx.K) (by decide) rfl rfl rfl (Nat.le_of_ble_eq_true rfl) (by decide) (c_X8_requireFile hl hx h hf f) rfl (fun x9 M9 q9 => ?_) (fun v9 M9 q9 => ?_)
  · obtain ⟨e9, rfl⟩ := q9
    obtain ⟨e7, rfl⟩ := eo_x e9
    exact ⟨eo_n e7, rfl⟩
  obtain ⟨e9, r9, rfl⟩ := q9
  cases r9
  have h1 := eo_r e9
  refine s_iload_n (zdk hX8_pin 3 rfl) rfl ?_
  refine s_iconstv (v := nI 0) (zdk hX8_pin 4 rfl) zc_iconst_0 ?_
  refine s_sipushv (v := nI 9999) (zdk hX8_pin 5 rfl) zc_sipush_9999 ?_
  refine s_callSXa [.int (u), .int (nI 0), .int (nI 9999)] (zdk hX8_pin 6 rfl) cw_X8_206 rfl (Nat.le_of_ble_eq_true rfl) (by decide) (c_X8_requireWithin hl hf (u) (nI 0) (nI 9999)) rfl (fun x9 M9 q9 => ?_) (fun v9 M9 q9 => ?_)
  · obtain ⟨e9, rfl⟩ := q9
    obtain ⟨e7, rfl⟩ := eo_x e9
    exact ⟨(eo_p h1).trans (eo_n e7), rfl⟩
  obtain ⟨e9, r9, rfl⟩ := q9
  cases r9
  have h2 := eo_r e9
  exact absurd ⟨h1, h2⟩ hn
theorem c_X8_pin (hl : l.stackTraces = false) {M : zMem} {S : Nat → Nat → Int64} {p : Nat → Nat} (hx : xSh M) (hW : rW M S) (h : rSt M 630 (S 630) p) (hf : zF M = 1) {c d : Nat} (hc : zI M 12 0 = nI c) (hc8 : c ≤ 8) (hd : zI M 12 1 = nI d) (hd8 : d < 8) {f : Nat} (hf9 : f < gN (S 630) 3) {u : Int32} (hu : nI 0 ≤ u ∧ u ≤ nI 9999) : zCx2 l G mX8_pin 10 400 5 30 [.ref 0, .int (nI f), .int (u)] M (zXr none M (uP (some (.int (gf (S 630) f 3))) M S c d (zwL (S 630) (58 + 51 * f + 3) u.toInt64))) := by
  refine zCxr.of (ls0 := [some (.ref 0), some (.int (nI f)), some (.int (u)), none]) (by decide +kernel) rfl hl rfl (Nat.le_of_ble_eq_true rfl) hf (by first | exact (fun v9 M9 q9 => by rw [q9.2]) | exact (fun v9 M9 q9 => q9.fl) | exact (fun v9 M9 q9 => q9.elim)) ?_
  have h20 := h.b.2.2.1.2
  have h4 := h.b.2.1.2
  have hcy := h.b.1.2.2
  have hcy2 := h.b.1.2.1
  have hpe := h.b.2.2.2.1.2
  refine s_aload_n (zdk hX8_pin 0 rfl) rfl ?_
  refine s_iload_n (zdk hX8_pin 1 rfl) rfl ?_
  refine s_callVXa (ci := 8) [.int (nI f)] (zdk hX8_pin 2 rfl) cw_X8_146 (hx.K) (by decide) rfl rfl rfl (Nat.le_of_ble_eq_true rfl) (by decide) (c_X8_requireFile hl hx h hf (nI f)) rfl (fun x9 M9 q9 => ?_) (fun v9 M9 q9 => ?_)
  · obtain ⟨e9, rfl⟩ := q9
    obtain ⟨e7, rfl⟩ := eo_x e9
    exact absurd (inN_of hf9 (by omega)) e7
  obtain ⟨e9, r9, rfl⟩ := q9
  cases r9
  refine s_iload_n (zdk hX8_pin 3 rfl) rfl ?_
  refine s_iconstv (v := nI 0) (zdk hX8_pin 4 rfl) zc_iconst_0 ?_
  refine s_sipushv (v := nI 9999) (zdk hX8_pin 5 rfl) zc_sipush_9999 ?_
  refine s_callSXa [.int (u), .int (nI 0), .int (nI 9999)] (zdk hX8_pin 6 rfl) cw_X8_206 rfl (Nat.le_of_ble_eq_true rfl) (by decide) (c_X8_requireWithin hl hf (u) (nI 0) (nI 9999)) rfl (fun x9 M9 q9 => ?_) (fun v9 M9 q9 => ?_)
  · obtain ⟨e9, rfl⟩ := q9
    obtain ⟨e7, rfl⟩ := eo_x e9
    exact absurd (hu) e7
  obtain ⟨e9, r9, rfl⟩ := q9
  cases r9
  refine s_aload_n (zdk hX8_pin 7 rfl) rfl ?_
  refine s_getR (zdk hX8_pin 8 rfl) fw_X8_40 rfl (hx.K) (show _ = some 630 from (hx.r (i := 4) rfl)) ?_
  refine s_getR (zdk hX8_pin 9 rfl) fw_X8_149 rfl (h.K) (h.r6) ?_
  refine s_iload_n (zdk hX8_pin 10 rfl) rfl ?_
  refine s_aaloadN (N := 20) (j := f) (zdk hX8_pin 11 rfl) (h.fK) (by decide) (h.fN) (h.fL hf9) (by decide) (h.rR hf9) ?_
  refine s_getI (zdk hX8_pin 12 rfl) fw_X8_162 rfl ((h.rS hf9).1) ?_
  refine s_topi (b := gf (S 630) f 3) (h.f4 hf9) ?_
  refine s_istore_n (zdk hX8_pin 13 rfl) (Nat.le_of_ble_eq_true rfl) ?_
  refine s_ls (ls' := [some (.ref 0), some (.int (nI f)), some (.int (u)), some (.int (gf (S 630) f 3))]) rfl ?_
  refine s_aload_n (zdk hX8_pin 14 rfl) rfl ?_
  refine s_getR (zdk hX8_pin 15 rfl) fw_X8_33 rfl (hx.K) (show _ = some 12 from (hx.r (i := 3) rfl)) ?_
  refine s_aload_n (zdk hX8_pin 16 rfl) rfl ?_
  refine s_getR (zdk hX8_pin 17 rfl) fw_X8_40 rfl (hx.K) (show _ = some 630 from (hx.r (i := 4) rfl)) ?_
  refine s_callV1 (ci := 1) [.ref 630] (zdk hX8_pin 18 rfl) cw_X8_81 (hx.hi.1) (by decide) rfl rfl rfl (Nat.le_of_ble_eq_true rfl) (by decide) (c_remember2 hl hx hW hc hc8 hd hd8) ?_
  intro v2 M2 q2
  have q3 := q2.1
  cases q3
  have hx2 : xSh M2 := q2.xs hx hd8
  have h2 : rSt M2 630 (S 630) p := q2.st h hd8
  refine s_aload_n (zdk hX8_pin 19 rfl) rfl ?_
  refine s_getR (zdk hX8_pin 20 rfl) fw_X8_40 rfl (hx2.K) (show _ = some 630 from (hx2.r (i := 4) rfl)) ?_
  refine s_getR (zdk hX8_pin 21 rfl) fw_X8_149 rfl (h2.K) (h2.r6) ?_
  refine s_iload_n (zdk hX8_pin 22 rfl) rfl ?_
  refine s_aaloadN (N := 20) (j := f) (zdk hX8_pin 23 rfl) (h2.fK) (by decide) (h2.fN) (h2.fL hf9) (by decide) (h2.rR hf9) ?_
  refine s_iload_n (zdk hX8_pin 24 rfl) rfl ?_
  refine s_putI (zdk hX8_pin 25 rfl) fw_X8_162 rfl pw_0_4 ((h2.rS hf9).1) ?_
  refine s_iload_n (zdk hX8_pin 26 rfl) rfl ?_
  refine s_ireturn (zdk hX8_pin 27 rfl) rfl rfl ?_
  exact ⟨rfl, uP_of q2 hd8 ((zag_I _ _ _ _).mono fun b hb => by have := h.pL (h.fL hf9); omega) (h2.pin hf9)⟩
theorem c_X8_add_x (hl : l.stackTraces = false) {M : zMem} {S : Nat → Nat → Int64} {p : Nat → Nat} (hx : xSh M) (hW : rW M S) (h : rSt M 630 (S 630) p) (hf : zF M = 1) {c d : Nat} (hc : zI M 12 0 = nI c) (hc8 : c ≤ 8) (hd : zI M 12 1 = nI d) (hd8 : d < 8) (u t : Int32) (hn : ¬ ((nI 1 ≤ u ∧ u ≤ nI 999) ∧ inN t (gN (S 630) 2))) : zCx2 l G mX8_add 10 400 5 30 [.ref 0, .int (u), .int (t)] M (zXr (eo (nI 1 ≤ u ∧ u ≤ nI 999) 1 (eo (inN t (gN (S 630) 2)) 2 none)) M (fun _ _ => False)) := by
  refine zCxr.of (ls0 := [some (.ref 0), some (.int (u)), some (.int (t))]) (by decide +kernel) rfl hl rfl (Nat.le_of_ble_eq_true rfl) hf (by first | exact (fun v9 M9 q9 => by rw [q9.2]) | exact (fun v9 M9 q9 => q9.fl) | exact (fun v9 M9 q9 => q9.elim)) ?_
  have h20 := h.b.2.2.1.2
  have h4 := h.b.2.1.2
  have hcy := h.b.1.2.2
  have hcy2 := h.b.1.2.1
  have hpe := h.b.2.2.2.1.2
  refine s_iload_n (zdk hX8_add 0 rfl) rfl ?_
  refine s_iconstv (v := nI 1) (zdk hX8_add 1 rfl) zc_iconst_1 ?_
  refine s_sipushv (v := nI 999) (zdk hX8_add 2 rfl) zc_sipush_999 ?_
  refine s_callSXa [.int (u), .int (nI 1), .int (nI 999)] (zdk hX8_add 3 rfl) cw_X8_206 rfl (Nat.le_of_ble_eq_true rfl) (by decide) (c_X8_requireWithin hl hf (u) (nI 1) (nI 999)) rfl (fun x9 M9 q9 => ?_) (fun v9 M9 q9 => ?_)
  · obtain ⟨e9, rfl⟩ := q9
    obtain ⟨e7, rfl⟩ := eo_x e9
    exact ⟨eo_n e7, rfl⟩
  obtain ⟨e9, r9, rfl⟩ := q9
  cases r9
  have h1 := eo_r e9
  refine s_aload_n (zdk hX8_add 4 rfl) rfl ?_
  refine s_iload_n (zdk hX8_add 5 rfl) rfl ?_
  refine s_callVXa (ci := 8) [.int (t)] (zdk hX8_add 6 rfl) cw_X8_125 (hx.K) (by decide) rfl rfl rfl (Nat.le_of_ble_eq_true rfl) (by decide) (c_X8_requireTier hl hx h hf t) rfl (fun x9 M9 q9 => ?_) (fun v9 M9 q9 => ?_)
  · obtain ⟨e9, rfl⟩ := q9
    obtain ⟨e7, rfl⟩ := eo_x e9
    exact ⟨(eo_p h1).trans (eo_n e7), rfl⟩
  obtain ⟨e9, r9, rfl⟩ := q9
  cases r9
  have h2 := eo_r e9
  exact absurd ⟨h1, h2⟩ hn
theorem c_X8_add_f (hl : l.stackTraces = false) {M : zMem} {S : Nat → Nat → Int64} {p : Nat → Nat} (hx : xSh M) (hW : rW M S) (h : rSt M 630 (S 630) p) (hf : zF M = 1) {c d : Nat} (hc : zI M 12 0 = nI c) (hc8 : c ≤ 8) (hd : zI M 12 1 = nI d) (hd8 : d < 8) {u : Int32} (hu : nI 1 ≤ u ∧ u ≤ nI 999) {t : Nat} (ht9 : t < gN (S 630) 2) (hr : gN (S 630) 3 = 20) : zCx2 l G mX8_add 10 400 5 30 [.ref 0, .int (u), .int (nI t)] M (zXr none M (zP1 (some (.int (-11))) M)) := by
  refine zCxr.of (ls0 := [some (.ref 0), some (.int (u)), some (.int (nI t))]) (by decide +kernel) rfl hl rfl (Nat.le_of_ble_eq_true rfl) hf (by first | exact (fun v9 M9 q9 => by rw [q9.2]) | exact (fun v9 M9 q9 => q9.fl) | exact (fun v9 M9 q9 => q9.elim)) ?_
  have h20 := h.b.2.2.1.2
  have h4 := h.b.2.1.2
  have hcy := h.b.1.2.2
  have hcy2 := h.b.1.2.1
  have hpe := h.b.2.2.2.1.2
  refine s_iload_n (zdk hX8_add 0 rfl) rfl ?_
  refine s_iconstv (v := nI 1) (zdk hX8_add 1 rfl) zc_iconst_1 ?_
  refine s_sipushv (v := nI 999) (zdk hX8_add 2 rfl) zc_sipush_999 ?_
  refine s_callSXa [.int (u), .int (nI 1), .int (nI 999)] (zdk hX8_add 3 rfl) cw_X8_206 rfl (Nat.le_of_ble_eq_true rfl) (by decide) (c_X8_requireWithin hl hf (u) (nI 1) (nI 999)) rfl (fun x9 M9 q9 => ?_) (fun v9 M9 q9 => ?_)
  · obtain ⟨e9, rfl⟩ := q9
    obtain ⟨e7, rfl⟩ := eo_x e9
    exact absurd (hu) e7
  obtain ⟨e9, r9, rfl⟩ := q9
  cases r9
  refine s_aload_n (zdk hX8_add 4 rfl) rfl ?_
  refine s_iload_n (zdk hX8_add 5 rfl) rfl ?_
  refine s_callVXa (ci := 8) [.int (nI t)] (zdk hX8_add 6 rfl) cw_X8_125 (hx.K) (by decide) rfl rfl rfl (Nat.le_of_ble_eq_true rfl) (by decide) (c_X8_requireTier hl hx h hf (nI t)) rfl (fun x9 M9 q9 => ?_) (fun v9 M9 q9 => ?_)
  · obtain ⟨e9, rfl⟩ := q9
    obtain ⟨e7, rfl⟩ := eo_x e9
    exact absurd (inN_of ht9 (by omega)) e7
  obtain ⟨e9, r9, rfl⟩ := q9
  cases r9
  refine s_aload_n (zdk hX8_add 7 rfl) rfl ?_
  refine s_getR (zdk hX8_add 8 rfl) fw_X8_40 rfl (hx.K) (show _ = some 630 from (hx.r (i := 4) rfl)) ?_
  refine s_getI (zdk hX8_add 9 rfl) fw_X8_100 rfl (h.K) ?_
  refine s_topi (b := nI (gN (S 630) 3)) (h.v4) ?_
  refine s_bipushv (v := nI 20) (zdk hX8_add 10 rfl) zc_bipush_20 ?_
  refine s_icmp_lt 28 (zdk hX8_add 11 rfl) (by decide) (fun c22 => ?_) (fun c22 => ?_)
  · have n22 : gN (S 630) 3 < 20 := nlt' c22 (by omega) (by omega)
    exact absurd n22 (by omega)
  · have n22 : 20 ≤ gN (S 630) 3 := nge' c22 (by omega) (by omega)
    refine s_bipushv (v := (-11)) (zdk hX8_add 12 rfl) zc_bipush_m11 ?_
    refine s_ireturn (zdk hX8_add 13 rfl) rfl rfl ?_
    exact ⟨rfl, rfl, rfl⟩
theorem c_X8_add_r (hl : l.stackTraces = false) {M : zMem} {S : Nat → Nat → Int64} {p : Nat → Nat} (hx : xSh M) (hW : rW M S) (h : rSt M 630 (S 630) p) (hf : zF M = 1) {c d : Nat} (hc : zI M 12 0 = nI c) (hc8 : c ≤ 8) (hd : zI M 12 1 = nI d) (hd8 : d < 8) {u : Int32} (hu : nI 1 ≤ u ∧ u ≤ nI 999) {t : Nat} (ht9 : t < gN (S 630) 2) (hr : ¬ gN (S 630) 3 = 20) (hr2 : ¬ zfull (S 630) (nI t) (gN (S 630) 3) + u ≤ gt (S 630) t 0) : zCx2 l G mX8_add 10 400 5 30 [.ref 0, .int (u), .int (nI t)] M (zXr none M (zP1 (some (.int (-15))) M)) := by
  refine zCxr.of (ls0 := [some (.ref 0), some (.int (u)), some (.int (nI t))]) (by decide +kernel) rfl hl rfl (Nat.le_of_ble_eq_true rfl) hf (by first | exact (fun v9 M9 q9 => by rw [q9.2]) | exact (fun v9 M9 q9 => q9.fl) | exact (fun v9 M9 q9 => q9.elim)) ?_
  have h20 := h.b.2.2.1.2
  have h4 := h.b.2.1.2
  have hcy := h.b.1.2.2
  have hcy2 := h.b.1.2.1
  have hpe := h.b.2.2.2.1.2
  refine s_iload_n (zdk hX8_add 0 rfl) rfl ?_
  refine s_iconstv (v := nI 1) (zdk hX8_add 1 rfl) zc_iconst_1 ?_
  refine s_sipushv (v := nI 999) (zdk hX8_add 2 rfl) zc_sipush_999 ?_
  refine s_callSXa [.int (u), .int (nI 1), .int (nI 999)] (zdk hX8_add 3 rfl) cw_X8_206 rfl (Nat.le_of_ble_eq_true rfl) (by decide) (c_X8_requireWithin hl hf (u) (nI 1) (nI 999)) rfl (fun x9 M9 q9 => ?_) (fun v9 M9 q9 => ?_)
  · obtain ⟨e9, rfl⟩ := q9
    obtain ⟨e7, rfl⟩ := eo_x e9
    exact absurd (hu) e7
  obtain ⟨e9, r9, rfl⟩ := q9
  cases r9
  refine s_aload_n (zdk hX8_add 4 rfl) rfl ?_
  refine s_iload_n (zdk hX8_add 5 rfl) rfl ?_
  refine s_callVXa (ci := 8) [.int (nI t)] (zdk hX8_add 6 rfl) cw_X8_125 (hx.K) (by decide) rfl rfl rfl (Nat.le_of_ble_eq_true rfl) (by decide) (c_X8_requireTier hl hx h hf (nI t)) rfl (fun x9 M9 q9 => ?_) (fun v9 M9 q9 => ?_)
  · obtain ⟨e9, rfl⟩ := q9
    obtain ⟨e7, rfl⟩ := eo_x e9
    exact absurd (inN_of ht9 (by omega)) e7
  obtain ⟨e9, r9, rfl⟩ := q9
  cases r9
  refine s_aload_n (zdk hX8_add 7 rfl) rfl ?_
  refine s_getR (zdk hX8_add 8 rfl) fw_X8_40 rfl (hx.K) (show _ = some 630 from (hx.r (i := 4) rfl)) ?_
  refine s_getI (zdk hX8_add 9 rfl) fw_X8_100 rfl (h.K) ?_
  refine s_topi (b := nI (gN (S 630) 3)) (h.v4) ?_
  refine s_bipushv (v := nI 20) (zdk hX8_add 10 rfl) zc_bipush_20 ?_
  refine s_icmp_lt 28 (zdk hX8_add 11 rfl) (by decide) (fun c22 => ?_) (fun c22 => ?_)
  · have n22 : gN (S 630) 3 < 20 := nlt' c22 (by omega) (by omega)
    refine s_aload_n (zdk hX8_add 14 rfl) rfl ?_
    refine s_getR (zdk hX8_add 15 rfl) fw_X8_40 rfl (hx.K) (show _ = some 630 from (hx.r (i := 4) rfl)) ?_
    refine s_iload_n (zdk hX8_add 16 rfl) rfl ?_
    refine s_iload_n (zdk hX8_add 17 rfl) rfl ?_
    refine s_callV0 (ci := 5) [.int (nI t), .int (u)] (zdk hX8_add 18 rfl) cw_X8_256 (h.K) (by decide) rfl rfl rfl (Nat.le_of_ble_eq_true rfl) (by decide) (c_X5_hasRoomFor hl h ht9 u) ?_
    refine s_if_ne 43 (zdk hX8_add 19 rfl) (by decide) (fun c37 => ?_) (fun c37 => ?_)
    · have b37 : zfull (S 630) (nI t) (gN (S 630) 3) + u ≤ gt (S 630) t 0 := b01_ne c37
      exact absurd b37 hr2
    · have b37 : ¬ (zfull (S 630) (nI t) (gN (S 630) 3) + u ≤ gt (S 630) t 0) := b01_eq c37
      refine s_bipushv (v := (-15)) (zdk hX8_add 20 rfl) zc_bipush_m15 ?_
      refine s_ireturn (zdk hX8_add 21 rfl) rfl rfl ?_
      exact ⟨rfl, rfl, rfl⟩
  · have n22 : 20 ≤ gN (S 630) 3 := nge' c22 (by omega) (by omega)
    exact absurd hr (by omega)
theorem c_X8_add (hl : l.stackTraces = false) {M : zMem} {S : Nat → Nat → Int64} {p : Nat → Nat} (hx : xSh M) (hW : rW M S) (h : rSt M 630 (S 630) p) (hf : zF M = 1) {c d : Nat} (hc : zI M 12 0 = nI c) (hc8 : c ≤ 8) (hd : zI M 12 1 = nI d) (hd8 : d < 8) {u : Int32} (hu : nI 1 ≤ u ∧ u ≤ nI 999) {t : Nat} (ht9 : t < gN (S 630) 2) (hr : ¬ gN (S 630) 3 = 20) (hr2 : zfull (S 630) (nI t) (gN (S 630) 3) + u ≤ gt (S 630) t 0) : zCx2 l G mX8_add 10 400 5 30 [.ref 0, .int (u), .int (nI t)] M (zXr none M (uP (some (.int (nI (gN (S 630) 3)))) M S c d (zwL (oStart (S 630) (gN (S 630) 3) (fun _ => 0) u (nI t) (nI 0)) 3 (nI (gN (S 630) 3 + 1)).toInt64))) := by
  refine zCxr.of (ls0 := [some (.ref 0), some (.int (u)), some (.int (nI t))]) (by decide +kernel) rfl hl rfl (Nat.le_of_ble_eq_true rfl) hf (by first | exact (fun v9 M9 q9 => by rw [q9.2]) | exact (fun v9 M9 q9 => q9.fl) | exact (fun v9 M9 q9 => q9.elim)) ?_
  have h20 := h.b.2.2.1.2
  have h4 := h.b.2.1.2
  have hcy := h.b.1.2.2
  have hcy2 := h.b.1.2.1
  have hpe := h.b.2.2.2.1.2
  refine s_iload_n (zdk hX8_add 0 rfl) rfl ?_
  refine s_iconstv (v := nI 1) (zdk hX8_add 1 rfl) zc_iconst_1 ?_
  refine s_sipushv (v := nI 999) (zdk hX8_add 2 rfl) zc_sipush_999 ?_
  refine s_callSXa [.int (u), .int (nI 1), .int (nI 999)] (zdk hX8_add 3 rfl) cw_X8_206 rfl (Nat.le_of_ble_eq_true rfl) (by decide) (c_X8_requireWithin hl hf (u) (nI 1) (nI 999)) rfl (fun x9 M9 q9 => ?_) (fun v9 M9 q9 => ?_)
  · obtain ⟨e9, rfl⟩ := q9
    obtain ⟨e7, rfl⟩ := eo_x e9
    exact absurd (hu) e7
  obtain ⟨e9, r9, rfl⟩ := q9
  cases r9
  refine s_aload_n (zdk hX8_add 4 rfl) rfl ?_
  refine s_iload_n (zdk hX8_add 5 rfl) rfl ?_
  refine s_callVXa (ci := 8) [.int (nI t)] (zdk hX8_add 6 rfl) cw_X8_125 (hx.K) (by decide) rfl rfl rfl (Nat.le_of_ble_eq_true rfl) (by decide) (c_X8_requireTier hl hx h hf (nI t)) rfl (fun x9 M9 q9 => ?_) (fun v9 M9 q9 => ?_)
  · obtain ⟨e9, rfl⟩ := q9
    obtain ⟨e7, rfl⟩ := eo_x e9
    exact absurd (inN_of ht9 (by omega)) e7
  obtain ⟨e9, r9, rfl⟩ := q9
  cases r9
  refine s_aload_n (zdk hX8_add 7 rfl) rfl ?_
  refine s_getR (zdk hX8_add 8 rfl) fw_X8_40 rfl (hx.K) (show _ = some 630 from (hx.r (i := 4) rfl)) ?_
  refine s_getI (zdk hX8_add 9 rfl) fw_X8_100 rfl (h.K) ?_
  refine s_topi (b := nI (gN (S 630) 3)) (h.v4) ?_
  refine s_bipushv (v := nI 20) (zdk hX8_add 10 rfl) zc_bipush_20 ?_
  refine s_icmp_lt 28 (zdk hX8_add 11 rfl) (by decide) (fun c22 => ?_) (fun c22 => ?_)
  · have n22 : gN (S 630) 3 < 20 := nlt' c22 (by omega) (by omega)
    refine s_aload_n (zdk hX8_add 14 rfl) rfl ?_
    refine s_getR (zdk hX8_add 15 rfl) fw_X8_40 rfl (hx.K) (show _ = some 630 from (hx.r (i := 4) rfl)) ?_
    refine s_iload_n (zdk hX8_add 16 rfl) rfl ?_
    refine s_iload_n (zdk hX8_add 17 rfl) rfl ?_
    refine s_callV0 (ci := 5) [.int (nI t), .int (u)] (zdk hX8_add 18 rfl) cw_X8_256 (h.K) (by decide) rfl rfl rfl (Nat.le_of_ble_eq_true rfl) (by decide) (c_X5_hasRoomFor hl h ht9 u) ?_
    refine s_if_ne 43 (zdk hX8_add 19 rfl) (by decide) (fun c37 => ?_) (fun c37 => ?_)
    · have b37 : zfull (S 630) (nI t) (gN (S 630) 3) + u ≤ gt (S 630) t 0 := b01_ne c37
      refine s_aload_n (zdk hX8_add 22 rfl) rfl ?_
      refine s_getR (zdk hX8_add 23 rfl) fw_X8_33 rfl (hx.K) (show _ = some 12 from (hx.r (i := 3) rfl)) ?_
      refine s_aload_n (zdk hX8_add 24 rfl) rfl ?_
      refine s_getR (zdk hX8_add 25 rfl) fw_X8_40 rfl (hx.K) (show _ = some 630 from (hx.r (i := 4) rfl)) ?_
      refine s_callV1 (ci := 1) [.ref 630] (zdk hX8_add 26 rfl) cw_X8_81 (hx.hi.1) (by decide) rfl rfl rfl (Nat.le_of_ble_eq_true rfl) (by decide) (c_remember2 hl hx hW hc hc8 hd hd8) ?_
      intro v2 M2 q2
      have q3 := q2.1
      cases q3
      have hx2 : xSh M2 := q2.xs hx hd8
      have h2 : rSt M2 630 (S 630) p := q2.st h hd8
      refine s_aload_n (zdk hX8_add 27 rfl) rfl ?_
      refine s_getR (zdk hX8_add 28 rfl) fw_X8_40 rfl (hx2.K) (show _ = some 630 from (hx2.r (i := 4) rfl)) ?_
      refine s_lconstv (v := lN 0) (zdk hX8_add 29 rfl) rfl ?_
      refine s_iload_n (zdk hX8_add 30 rfl) rfl ?_
      refine s_iload_n (zdk hX8_add 31 rfl) rfl ?_
      refine s_iconstv (v := nI 0) (zdk hX8_add 32 rfl) zc_iconst_0 ?_
      refine s_callV1 (ci := 5) [.long (lN 0), .int (u), .int (nI t), .int (nI 0)] (zdk hX8_add 33 rfl) cw_X8_260 (h2.K) (by decide) rfl rfl rfl (Nat.le_of_ble_eq_true rfl) (by decide) (c_X5_putFile hl h2 (nm := lN 0) (w := fun _ => 0) (by decide) (by omega) ht9 u (nI 0)) ?_
      intro v3 M3 q4
      obtain ⟨q5, e3, h3⟩ := q4
      cases q5
      have hx3 : xSh M3 := hx2.keep e3.1 (fun b hb => (e3.2 b (by omega)).2.2)
      refine s_aload_n (zdk hX8_add 34 rfl) rfl ?_
      refine s_getR (zdk hX8_add 35 rfl) fw_X8_40 rfl (hx3.K) (show _ = some 630 from (hx3.r (i := 4) rfl)) ?_
      refine s_getI (zdk hX8_add 36 rfl) fw_X8_100 rfl (h3.K) ?_
      refine s_topi (b := nI (gN (S 630) 3 + 1)) ((h3.v4).trans (congrArg nI (gN_e (by omega)))) ?_
      refine s_iconstv (v := nI 1) (zdk hX8_add 37 rfl) zc_iconst_1 ?_
      refine s_isub (zdk hX8_add 38 rfl) ?_
      refine s_topi (b := nI (gN (S 630) 3 + 1 - 1)) (pk_sub (by omega)) ?_
      refine s_ireturn (zdk hX8_add 39 rfl) rfl rfl ?_
      exact ⟨rfl, uP_of q2 hd8 e3 h3⟩
    · have b37 : ¬ (zfull (S 630) (nI t) (gN (S 630) 3) + u ≤ gt (S 630) t 0) := b01_eq c37
      exact absurd hr2 b37
  · have n22 : 20 ≤ gN (S 630) 3 := nge' c22 (by omega) (by omega)
    exact absurd hr (by omega)
end
