/-! ===== more that changes one store ===== -/
theorem rSt.tR4 {M : zMem} {s : Nat} {g : Nat → Int64} {p : Nat → Nat} (h : rSt M s g p) {t : Nat} (ht : t < 4) : zR M (s + 1) t = some (s + 5 + 3 * t) := (h.1.2.2.2.2.1 t ht).1
theorem rSt.tS4 {M : zMem} {s : Nat} {g : Nat → Int64} {p : Nat → Nat} (h : rSt M s g p) {t : Nat} (ht : t < 4) : tSh M (s + 5 + 3 * t) := (h.1.2.2.2.2.1 t ht).2
theorem rSt.rR20 {M : zMem} {s : Nat} {g : Nat → Int64} {p : Nat → Nat} (h : rSt M s g p) {f : Nat} (hf : f < 20) : zR M (s + 2) f = some (s + 17 + 3 * p f) := (h.1.2.2.2.2.2.2.1 f hf).1
theorem rSt.rS20 {M : zMem} {s : Nat} {g : Nat → Int64} {p : Nat → Nat} (h : rSt M s g p) {f : Nat} (hf : f < 20) : rSh M (s + 17 + 3 * p f) := h.1.2.2.2.2.2.1 (p f) (h.pL hf)
theorem rSt.mg {M : zMem} {s : Nat} {g : Nat → Int64} {p : Nat → Nat} (h : rSt M s g p) (h0 : 0 < gN g 5) {k : Nat} (hk : k < 5) : zI M (s + 3 + 1) ((gN g 5 - 1) * 5 + k) = gm g (gN g 5 - 1) k := h.mv (by omega) hk
/-- the latest move is undone -/
def oLf (g : Nat → Int64) : Nat := gN g (1078 + 5 * (gN g 5 - 1) + 0)
def oLa (g : Nat → Int64) : Nat := gN g (1078 + 5 * (gN g 5 - 1) + 1)
def oLb (g : Nat → Int64) : Nat := gN g (1078 + 5 * (gN g 5 - 1) + 2)
def oBk (g : Nat → Int64) : Nat → Int64 := zwL (oPays (oPays (zwL g (58 + 51 * oLf g + 1) (nI (oLa g)).toInt64) (oLa g) 2 (-(gm g (gN g 5 - 1) 3).toInt64)) (oLb g) 2 (-(gm g (gN g 5 - 1) 4).toInt64)) 5 (nI (gN g 5 - 1)).toInt64
theorem sub64 (x y : Int64) : x - y = x + -y := Int64.sub_eq_add_neg x y
theorem gBd.mF {g : Nat → Int64} (h : gBd g) (h0 : 0 < gN g 5) : gm g (gN g 5 - 1) 0 = nI (oLf g) ∧ oLf g < gN g 3 := (h.2.2.2.2.2.2 (gN g 5 - 1) (by omega)).1
theorem gBd.mA {g : Nat → Int64} (h : gBd g) (h0 : 0 < gN g 5) : gm g (gN g 5 - 1) 1 = nI (oLa g) ∧ oLa g < gN g 2 := (h.2.2.2.2.2.2 (gN g 5 - 1) (by omega)).2.1
theorem gBd.mB {g : Nat → Int64} (h : gBd g) (h0 : 0 < gN g 5) : gm g (gN g 5 - 1) 2 = nI (oLb g) ∧ oLb g < gN g 2 := (h.2.2.2.2.2.2 (gN g 5 - 1) (by omega)).2.2
section
variable {l : Launch} {G : zG}
theorem c_X5_carryBack (hl : l.stackTraces = false) {M : zMem} {s : Nat} {g : Nat → Int64} {p : Nat → Nat} (h : rSt M s g p) (h0 : 0 < gN g 5) : zCm l G mX5_carryBack 2 40 0 0 [.ref s] M (zU M s none (oBk g) p) := by
  refine zCu.of (ls0 := [some (.ref s), none]) (by decide +kernel) rfl hl rfl (Nat.le_of_ble_eq_true rfl) ?_
  refine s_aload_n (zdk hX5_carryBack 0 rfl) rfl ?_
  refine s_getR (zdk hX5_carryBack 1 rfl) fw_X5_42 rfl (h.K) (h.r7) ?_
  refine s_iconstv (v := nI 1) (zdk hX5_carryBack 2 rfl) zc_iconst_1 ?_
  refine s_callV0 (ci := 2) [.int (nI 1)] (zdk hX5_carryBack 3 rfl) cw_X5_149 (h.mS.1) (by decide) rfl rfl rfl (Nat.le_of_ble_eq_true rfl) (by decide) (c_X2_latest (k := 1) hl h.mS h.mv0 h0 h.b.2.2.2.2.1.2 (by omega)) ?_
  refine s_topi (b := nI (oLa g)) ((h.mg h0 (by omega)).trans (h.b.mA h0).1) ?_
  refine s_istore_n (zdk hX5_carryBack 4 rfl) (Nat.le_of_ble_eq_true rfl) ?_
  refine s_ls (ls' := [some (.ref s), some (.int (nI (oLa g)))]) rfl ?_
  refine s_aload_n (zdk hX5_carryBack 5 rfl) rfl ?_
  refine s_getR (zdk hX5_carryBack 6 rfl) fw_X5_29 rfl (h.K) (h.r5) ?_
  refine s_iload_n (zdk hX5_carryBack 7 rfl) rfl ?_
  refine s_aaloadN (N := 4) (j := (oLa g)) (zdk hX5_carryBack 8 rfl) (h.tK) (by decide) (h.tN) (h.tL (h.b.mA h0).2) (by decide) (h.tR (h.b.mA h0).2) ?_
  refine s_getR (zdk hX5_carryBack 9 rfl) fw_X5_141 rfl ((h.tS (h.b.mA h0).2).1) ((h.tS (h.b.mA h0).2).2.2.1) ?_
  refine s_iconstv (v := nI 2) (zdk hX5_carryBack 10 rfl) zc_iconst_2 ?_
  refine s_dup2ir (zdk hX5_carryBack 11 rfl) ?_
  refine s_laloadN (N := 3) (j := 2) (zdk hX5_carryBack 12 rfl) ((h.tS (h.b.mA h0).2).2.2.2.2.2.1) ((h.tS (h.b.mA h0).2).2.2.2.2.2.2) (by omega) (by decide) ?_
  refine s_topl (b := gp g ((oLa g)) (2)) (h.tp (h.b.mA h0).2 _ (by omega)) ?_
  refine s_aload_n (zdk hX5_carryBack 13 rfl) rfl ?_
  refine s_getR (zdk hX5_carryBack 14 rfl) fw_X5_42 rfl (h.K) (h.r7) ?_
  refine s_iconstv (v := nI 3) (zdk hX5_carryBack 15 rfl) zc_iconst_3 ?_
  refine s_callV0 (ci := 2) [.int (nI 3)] (zdk hX5_carryBack 16 rfl) cw_X5_149 (h.mS.1) (by decide) rfl rfl rfl (Nat.le_of_ble_eq_true rfl) (by decide) (c_X2_latest (k := 3) hl h.mS h.mv0 h0 h.b.2.2.2.2.1.2 (by omega)) ?_
  refine s_topi (b := gm g (gN g 5 - 1) 3) (h.mg h0 (by omega)) ?_
  refine s_i2l (zdk hX5_carryBack 17 rfl) ?_
  refine s_lsub (zdk hX5_carryBack 18 rfl) ?_
  refine s_topl (b := gp g (oLa g) 2 + -(gm g (gN g 5 - 1) 3).toInt64) (sub64 _ _) ?_
  refine s_lastoreN (N := 3) (j := 2) (zdk hX5_carryBack 19 rfl) ((h.tS (h.b.mA h0).2).2.2.2.2.2.1) ((h.tS (h.b.mA h0).2).2.2.2.2.2.2) (by omega) (by decide) ?_
  refine s_to (P := fun M2 => zag M M2 (fun b => b < s ∨ s + 77 ≤ b) ∧ rSt M2 s (oPays g (oLa g) 2 (-(gm g (gN g 5 - 1) 3).toInt64)) p) (M1 := (zsJ M ((s + 5 + 3 * ((oLa g))) + 2) (2) (gp g (oLa g) 2 + -(gm g (gN g 5 - 1) 3).toInt64))) ⟨(zag_J _ _ _ _).mono fun b hb => by have := h.tL (h.b.mA h0).2; omega, h.paid (h.b.mA h0).2 (k := 2) (by omega)⟩ ?_
  rintro M2 ⟨e2, h2⟩
  have n5 : gN (oPays g (oLa g) 2 (-(gm g (gN g 5 - 1) 3).toInt64)) 5 = gN g 5 := gN_eq (oPays_n (by omega))
  have n2 : gN (oPays g (oLa g) 2 (-(gm g (gN g 5 - 1) 3).toInt64)) 2 = gN g 2 := gN_eq (oPays_n (by omega))
  have n3 : gN (oPays g (oLa g) 2 (-(gm g (gN g 5 - 1) 3).toInt64)) 3 = gN g 3 := gN_eq (oPays_n (by omega))
  have h60 := h.b.2.2.2.2.1.2
  have m2 : ∀ k, k < 5 → gm (oPays g (oLa g) 2 (-(gm g (gN g 5 - 1) 3).toInt64)) (gN g 5 - 1) k = gm g (gN g 5 - 1) k := fun k hk => its_eq (oPays_n (by omega))
  have lb2 : oLb g < gN (oPays g (oLa g) 2 (-(gm g (gN g 5 - 1) 3).toInt64)) 2 := by rw [n2]; exact (h.b.mB h0).2
  refine s_aload_n (zdk hX5_carryBack 20 rfl) rfl ?_
  refine s_getR (zdk hX5_carryBack 21 rfl) fw_X5_29 rfl (h2.K) (h2.r5) ?_
  refine s_aload_n (zdk hX5_carryBack 22 rfl) rfl ?_
  refine s_getR (zdk hX5_carryBack 23 rfl) fw_X5_42 rfl (h2.K) (h2.r7) ?_
  refine s_iconstv (v := nI 2) (zdk hX5_carryBack 24 rfl) zc_iconst_2 ?_
  refine s_callV0 (ci := 2) [.int (nI 2)] (zdk hX5_carryBack 25 rfl) cw_X5_149 (h2.mS.1) (by decide) rfl rfl rfl (Nat.le_of_ble_eq_true rfl) (by decide) (c_X2_latest (k := 2) (n := gN g 5) hl h2.mS (h2.mv0.trans (by rw [n5])) h0 h60 (by omega)) ?_
  refine s_topi (b := nI (oLb g)) ((h2.mv (by rw [n5]; omega) (by omega)).trans ((m2 2 (by omega)).trans (h.b.mB h0).1)) ?_
  refine s_aaloadN (N := 4) (j := (oLb g)) (zdk hX5_carryBack 26 rfl) (h2.tK) (by decide) (h2.tN) (h2.tL lb2) (by decide) (h2.tR lb2) ?_
  refine s_getR (zdk hX5_carryBack 27 rfl) fw_X5_141 rfl ((h2.tS lb2).1) ((h2.tS lb2).2.2.1) ?_
  refine s_iconstv (v := nI 2) (zdk hX5_carryBack 28 rfl) zc_iconst_2 ?_
  refine s_dup2ir (zdk hX5_carryBack 29 rfl) ?_
  refine s_laloadN (N := 3) (j := 2) (zdk hX5_carryBack 30 rfl) ((h2.tS lb2).2.2.2.2.2.1) ((h2.tS lb2).2.2.2.2.2.2) (by omega) (by decide) ?_
  refine s_topl (b := gp (oPays g (oLa g) 2 (-(gm g (gN g 5 - 1) 3).toInt64)) ((oLb g)) (2)) (h2.tp lb2 _ (by omega)) ?_
  refine s_aload_n (zdk hX5_carryBack 31 rfl) rfl ?_
  refine s_getR (zdk hX5_carryBack 32 rfl) fw_X5_42 rfl (h2.K) (h2.r7) ?_
  refine s_iconstv (v := nI 4) (zdk hX5_carryBack 33 rfl) zc_iconst_4 ?_
  refine s_callV0 (ci := 2) [.int (nI 4)] (zdk hX5_carryBack 34 rfl) cw_X5_149 (h2.mS.1) (by decide) rfl rfl rfl (Nat.le_of_ble_eq_true rfl) (by decide) (c_X2_latest (k := 4) (n := gN g 5) hl h2.mS (h2.mv0.trans (by rw [n5])) h0 h60 (by omega)) ?_
  refine s_topi (b := gm g (gN g 5 - 1) 4) ((h2.mv (by rw [n5]; omega) (by omega)).trans (m2 4 (by omega))) ?_
  refine s_i2l (zdk hX5_carryBack 35 rfl) ?_
  refine s_lsub (zdk hX5_carryBack 36 rfl) ?_
  refine s_topl (b := gp (oPays g (oLa g) 2 (-(gm g (gN g 5 - 1) 3).toInt64)) (oLb g) 2 + -(gm g (gN g 5 - 1) 4).toInt64) (sub64 _ _) ?_
  refine s_lastoreN (N := 3) (j := 2) (zdk hX5_carryBack 37 rfl) ((h2.tS lb2).2.2.2.2.2.1) ((h2.tS lb2).2.2.2.2.2.2) (by omega) (by decide) ?_
  refine s_to (P := fun M3 => zag M M3 (fun b => b < s ∨ s + 77 ≤ b) ∧ rSt M3 s (oPays (oPays g (oLa g) 2 (-(gm g (gN g 5 - 1) 3).toInt64)) (oLb g) 2 (-(gm g (gN g 5 - 1) 4).toInt64)) p) (M1 := (zsJ M2 ((s + 5 + 3 * ((oLb g))) + 2) (2) (gp (oPays g (oLa g) 2 (-(gm g (gN g 5 - 1) 3).toInt64)) (oLb g) 2 + -(gm g (gN g 5 - 1) 4).toInt64))) ⟨e2.trans ((zag_J _ _ _ _).mono fun b hb => by have := h2.tL lb2; omega), h2.paid lb2 (k := 2) (by omega)⟩ ?_
  rintro M3 ⟨e3, h3⟩
  have n53 : gN (oPays (oPays g (oLa g) 2 (-(gm g (gN g 5 - 1) 3).toInt64)) (oLb g) 2 (-(gm g (gN g 5 - 1) 4).toInt64)) 5 = gN g 5 := (gN_eq (oPays_n (by omega))).trans n5
  have m3 : ∀ k, k < 5 → gm (oPays (oPays g (oLa g) 2 (-(gm g (gN g 5 - 1) 3).toInt64)) (oLb g) 2 (-(gm g (gN g 5 - 1) 4).toInt64)) (gN g 5 - 1) k = gm g (gN g 5 - 1) k := fun k hk => (its_eq (oPays_n (by omega))).trans (m2 k hk)
  have lf3 : oLf g < gN (oPays (oPays g (oLa g) 2 (-(gm g (gN g 5 - 1) 3).toInt64)) (oLb g) 2 (-(gm g (gN g 5 - 1) 4).toInt64)) 3 := by rw [gN_eq (oPays_n (by omega)), n3]; exact (h.b.mF h0).2
  have la3 : oLa g < gN (oPays (oPays g (oLa g) 2 (-(gm g (gN g 5 - 1) 3).toInt64)) (oLb g) 2 (-(gm g (gN g 5 - 1) 4).toInt64)) 2 := by rw [gN_eq (oPays_n (by omega)), n2]; exact (h.b.mA h0).2
  have lf20 := h.fL (h.b.mF h0).2
  have hp3 := h3.pL lf20
  refine s_aload_n (zdk hX5_carryBack 38 rfl) rfl ?_
  refine s_getR (zdk hX5_carryBack 39 rfl) fw_X5_35 rfl (h3.K) (h3.r6) ?_
  refine s_aload_n (zdk hX5_carryBack 40 rfl) rfl ?_
  refine s_getR (zdk hX5_carryBack 41 rfl) fw_X5_42 rfl (h3.K) (h3.r7) ?_
  refine s_iconstv (v := nI 0) (zdk hX5_carryBack 42 rfl) zc_iconst_0 ?_
  refine s_callV0 (ci := 2) [.int (nI 0)] (zdk hX5_carryBack 43 rfl) cw_X5_149 (h3.mS.1) (by decide) rfl rfl rfl (Nat.le_of_ble_eq_true rfl) (by decide) (c_X2_latest (k := 0) (n := gN g 5) hl h3.mS (h3.mv0.trans (by rw [n53])) h0 h60 (by omega)) ?_
  refine s_topi (b := nI (oLf g)) ((h3.mv (by rw [n53]; omega) (by omega)).trans ((m3 0 (by omega)).trans (h.b.mF h0).1)) ?_
  refine s_aaloadN (N := 20) (j := (oLf g)) (zdk hX5_carryBack 44 rfl) (h3.fK) (by decide) (h3.fN) (h3.fL lf3) (by decide) (h3.rR lf3) ?_
  refine s_iload_n (zdk hX5_carryBack 45 rfl) rfl ?_
  refine s_putI (zdk hX5_carryBack 46 rfl) fw_X5_89 rfl pw_0_2 ((h3.rS lf3).1) ?_
  refine s_to (P := fun M4 => zag M M4 (fun b => b < s ∨ s + 77 ≤ b) ∧ rSt M4 s (zwL (oPays (oPays g (oLa g) 2 (-(gm g (gN g 5 - 1) 3).toInt64)) (oLb g) 2 (-(gm g (gN g 5 - 1) 4).toInt64)) (58 + 51 * oLf g + 1) (nI (oLa g)).toInt64) p) (M1 := (zsI M3 (s + 17 + 3 * p ((oLf g))) 2 (nI (oLa g)))) ⟨e3.trans ((zag_I _ _ _ _).mono fun b hb => by omega), h3.home lf3 la3⟩ ?_
  rintro M4 ⟨e4, h4⟩
  have n54 : gN (zwL (oPays (oPays g (oLa g) 2 (-(gm g (gN g 5 - 1) 3).toInt64)) (oLb g) 2 (-(gm g (gN g 5 - 1) 4).toInt64)) (58 + 51 * oLf g + 1) (nI (oLa g)).toInt64) 5 = gN g 5 := (gN_n (by omega)).trans n53
  refine s_aload_n (zdk hX5_carryBack 47 rfl) rfl ?_
  refine s_getR (zdk hX5_carryBack 48 rfl) fw_X5_42 rfl (h4.K) (h4.r7) ?_
  refine s_dupr (zdk hX5_carryBack 49 rfl) ?_
  refine s_getI (zdk hX5_carryBack 50 rfl) fw_X5_58 rfl (h4.mS.1) ?_
  refine s_topi (b := nI (gN g 5)) (h4.mv0.trans (by rw [n54])) ?_
  refine s_iconstv (v := nI 1) (zdk hX5_carryBack 51 rfl) zc_iconst_1 ?_
  refine s_isub (zdk hX5_carryBack 52 rfl) ?_
  refine s_topi (b := nI (gN g 5 - 1)) (pk_sub (by omega)) ?_
  refine s_putI (zdk hX5_carryBack 53 rfl) fw_X5_58 rfl pw_2_0 (h4.mS.1) ?_
  refine s_return (zdk hX5_carryBack 54 rfl) rfl ?_
  exact ⟨rfl, e4.trans ((zag_I _ _ _ _).mono fun b hb => by omega), (h4.mct (n := gN g 5 - 1) (by omega)).cong (by unfold oBk; rw [oPays_zwL (by omega), oPays_zwL (by omega)])⟩
theorem rSt.begin {M M' : zMem} {s : Nat} {g g' : Nat → Int64} {p : Nat → Nat} (h : rSt M s g p) (e : zag M M' (fun b => b < s ∨ s + 77 ≤ b)) (er : ∀ b, zR M' b = zR M b) (hh : rHd M' s g') (hm : zI M' (s + 3) 0 = nI 0) (h2 : its g' 2 = nI 0) (h3 : its g' 3 = nI 0) (h4 : its g' 4 = nI (gN g' 4) ∧ gN g' 4 ≤ 9999) (h5 : its g' 5 = nI 0) (h0 : its g' 0 = nI (gN g' 0) ∧ 2 ≤ gN g' 0 ∧ gN g' 0 ≤ 12) : rSt M' s g' p := by
  have n2 : gN g' 2 = 0 := gN_of h2 (by decide)
  have n3 : gN g' 3 = 0 := gN_of h3 (by decide)
  have n5 : gN g' 5 = 0 := gN_of h5 (by decide)
  refine ⟨h.1.keep e.1 (fun b _ _ => er b), hh, ⟨hm.trans h5.symm, fun w hw => absurd hw (by omega)⟩, fun t ht => absurd ht (by omega), fun f hf => absurd hf (by omega), h0, ⟨by rw [n2]; exact h2, by omega⟩, ⟨by rw [n3]; exact h3, by omega⟩, h4, ⟨by rw [n5]; exact h5, by omega⟩, fun f hf => absurd hf (by omega), fun w hw => absurd hw (by omega)⟩
theorem c_X5_startAs (hl : l.stackTraces = false) {M : zMem} {s : Nat} {g : Nat → Int64} {p : Nat → Nat} (h : rSt M s g p) {c : Nat} {r : Int32} (hc : 2 ≤ c ∧ c ≤ 12) {g1 : Nat → Int64} (g0 : its g1 0 = nI c) (gr : its g1 1 = r) (g2 : its g1 2 = nI 0) (g3 : its g1 3 = nI 0) (g4 : its g1 4 = nI 0) (g5 : its g1 5 = nI 0) : zCm l G mX5_startAs 0 0 0 0 [.ref s, .int (nI c), .int r] M (zU M s none g1 p) := by
  refine zCu.of (ls0 := [some (.ref s), some (.int (nI c)), some (.int (r))]) (by decide +kernel) rfl hl rfl (Nat.le_of_ble_eq_true rfl) ?_
  refine s_aload_n (zdk hX5_startAs 0 rfl) rfl ?_
  refine s_iload_n (zdk hX5_startAs 1 rfl) rfl ?_
  refine s_putI (zdk hX5_startAs 2 rfl) fw_X5_9 rfl pw_5_0 (h.K) ?_
  refine s_aload_n (zdk hX5_startAs 3 rfl) rfl ?_
  refine s_iload_n (zdk hX5_startAs 4 rfl) rfl ?_
  refine s_putI (zdk hX5_startAs 5 rfl) fw_X5_15 rfl pw_5_1 (h.K) ?_
  refine s_aload_n (zdk hX5_startAs 6 rfl) rfl ?_
  refine s_iconstv (v := nI 0) (zdk hX5_startAs 7 rfl) zc_iconst_0 ?_
  refine s_putI (zdk hX5_startAs 8 rfl) fw_X5_18 rfl pw_5_2 (h.K) ?_
  refine s_aload_n (zdk hX5_startAs 9 rfl) rfl ?_
  refine s_iconstv (v := nI 0) (zdk hX5_startAs 10 rfl) zc_iconst_0 ?_
  refine s_putI (zdk hX5_startAs 11 rfl) fw_X5_21 rfl pw_5_3 (h.K) ?_
  refine s_aload_n (zdk hX5_startAs 12 rfl) rfl ?_
  refine s_iconstv (v := nI 0) (zdk hX5_startAs 13 rfl) zc_iconst_0 ?_
  refine s_putI (zdk hX5_startAs 14 rfl) fw_X5_24 rfl pw_5_4 (h.K) ?_
  refine s_aload_n (zdk hX5_startAs 15 rfl) rfl ?_
  refine s_getR (zdk hX5_startAs 16 rfl) fw_X5_42 rfl (h.K) (h.r7) ?_
  refine s_iconstv (v := nI 0) (zdk hX5_startAs 17 rfl) zc_iconst_0 ?_
  refine s_putI (zdk hX5_startAs 18 rfl) fw_X5_58 rfl pw_2_0 (h.mS.1) ?_
  refine s_return (zdk hX5_startAs 19 rfl) rfl ?_
  have ea : zI (zsI (zsI (zsI (zsI (zsI (zsI M s 0 (nI c)) s 1 r) s 2 (nI 0)) s 3 (nI 0)) s 4 (nI 0)) (s + 3) 0 (nI 0)) s = zw1 (zw1 (zw1 (zw1 (zw1 (zI M s) 0 (nI c)) 1 r) 2 (nI 0)) 3 (nI 0)) 4 (nI 0) := by
    rw [zI_In (show s ≠ s + 3 by omega), zI_Ie, zI_Ie, zI_Ie, zI_Ie, zI_Ie]
  have e : zag M (zsI (zsI (zsI (zsI (zsI (zsI M s 0 (nI c)) s 1 r) s 2 (nI 0)) s 3 (nI 0)) s 4 (nI 0)) (s + 3) 0 (nI 0)) (fun b => b < s ∨ s + 77 ≤ b) := by
    refine ⟨rfl, fun b hb => ⟨?_, rfl, rfl⟩⟩
    rw [zI_In (show b ≠ s + 3 by omega), zI_In (show b ≠ s by omega), zI_In (show b ≠ s by omega), zI_In (show b ≠ s by omega), zI_In (show b ≠ s by omega), zI_In (show b ≠ s by omega)]
  have n0 : gN g1 0 = c := gN_of g0 (by omega)
  have n4 : gN g1 4 = 0 := gN_of g4 (by decide)
  refine ⟨rfl, e, h.begin e (fun _ => rfl) ⟨?_, ?_, ?_, ?_, ?_⟩ ((congrFun zI_Ie 0).trans zw1_e) g2 g3 ⟨by rw [n4]; exact g4, by omega⟩ g5 ⟨by rw [n0]; exact g0, by omega⟩⟩
  · rw [ea]; exact g0.symm
  · rw [ea]; exact gr.symm
  · rw [ea]; exact g4.symm
  · rw [ea]; exact g2.symm
  · rw [ea]; exact g3.symm
theorem gBd.tct {g : Nat → Int64} {n : Nat} (h : gBd g) (hn : gN g 2 ≤ n) (h4 : n ≤ 4) : gBd (zwL g 2 (nI n).toInt64) := by
  obtain ⟨a0, a2, a3, a4, a5, af, aw⟩ := h
  refine ⟨?_, ?_, ?_, ?_, ?_, fun f hf => ?_, fun w hw => ?_⟩
  · rw [its_n (by decide), gN_n (by decide)]; exact a0
  · rw [its_e, i64, gN_e (by omega)]; exact ⟨rfl, h4⟩
  · rw [its_n (by decide), gN_n (by decide)]; exact a3
  · rw [its_n (by decide), gN_n (by decide)]; exact a4
  · rw [its_n (by decide), gN_n (by decide)]; exact a5
  · rw [gN_n (by decide)] at hf
    unfold gf
    rw [its_n (by omega), its_n (by omega), gN_n (j := 58 + 51 * f + 1) (by omega), gN_n (j := 58 + 51 * f + 4) (by omega), gN_e (by omega)]
    have := af f hf
    exact ⟨⟨this.1.1, by omega⟩, this.2⟩
  · rw [gN_n (by decide)] at hw
    unfold gm
    rw [its_n (by omega), its_n (by omega), its_n (by omega), gN_n (j := 1078 + 5 * w + 0) (by omega), gN_n (j := 1078 + 5 * w + 1) (by omega), gN_n (j := 1078 + 5 * w + 2) (by omega), gN_n (j := 3) (by decide), gN_e (by omega)]
    have := aw w hw
    exact ⟨this.1, ⟨this.2.1.1, by omega⟩, ⟨this.2.2.1, by omega⟩⟩
theorem gBd.fct {g : Nat → Int64} {n : Nat} (h : gBd g) (hn : gN g 3 ≤ n) (h4 : n ≤ 20) (hf : ∀ f, gN g 3 ≤ f → f < n → (gf g f 1 = nI (gN g (58 + 51 * f + 1)) ∧ gN g (58 + 51 * f + 1) < gN g 2) ∧ (gf g f 4 = nI (gN g (58 + 51 * f + 4)) ∧ gN g (58 + 51 * f + 4) ≤ 24)) : gBd (zwL g 3 (nI n).toInt64) := by
  obtain ⟨a0, a2, a3, a4, a5, af, aw⟩ := h
  refine ⟨?_, ?_, ?_, ?_, ?_, fun f hf' => ?_, fun w hw => ?_⟩
  · rw [its_n (by decide), gN_n (by decide)]; exact a0
  · rw [its_n (by decide), gN_n (by decide)]; exact a2
  · rw [its_e, i64, gN_e (by omega)]; exact ⟨rfl, h4⟩
  · rw [its_n (by decide), gN_n (by decide)]; exact a4
  · rw [its_n (by decide), gN_n (by decide)]; exact a5
  · rw [gN_e (by omega)] at hf'
    unfold gf
    rw [its_n (by omega), its_n (by omega), gN_n (j := 58 + 51 * f + 1) (by omega), gN_n (j := 58 + 51 * f + 4) (by omega), gN_n (j := 2) (by decide)]
    by_cases q : f < gN g 3
    · exact af f q
    · exact hf f (by omega) hf'
  · rw [gN_n (by decide)] at hw
    unfold gm
    rw [its_n (by omega), its_n (by omega), its_n (by omega), gN_n (j := 1078 + 5 * w + 0) (by omega), gN_n (j := 1078 + 5 * w + 1) (by omega), gN_n (j := 1078 + 5 * w + 2) (by omega), gN_n (j := 2) (by decide), gN_e (by omega)]
    have := aw w hw
    exact ⟨⟨this.1.1, by omega⟩, this.2⟩
theorem c_X5_putTier (hl : l.stackTraces = false) {M : zMem} {s : Nat} {g : Nat → Int64} {p : Nat → Nat} (h : rSt M s g p) {nm : Int64} {w : Nat → Int64} (hw : zpk w 0 8 = nm) (hn : gN g 2 < 4) : zCm l G mX5_putTier 1 24 0 0 [.ref s, .long nm] M (zU M s none (zwL (oTier g (gN g 2) w (zI M ((s + 5 + 3 * (gN g 2)) + 1))) 2 (nI (gN g 2 + 1)).toInt64) p) := by
  refine zCu.of (ls0 := [some (.ref s), some (.long (nm)), none]) (by decide +kernel) rfl hl rfl (Nat.le_of_ble_eq_true rfl) ?_
  refine s_aload_n (zdk hX5_putTier 0 rfl) rfl ?_
  refine s_getR (zdk hX5_putTier 1 rfl) fw_X5_29 rfl (h.K) (h.r5) ?_
  refine s_aload_n (zdk hX5_putTier 2 rfl) rfl ?_
  refine s_getI (zdk hX5_putTier 3 rfl) fw_X5_21 rfl (h.K) ?_
  refine s_topi (b := nI (gN g 2)) (h.v3) ?_
  refine s_aaloadN (N := 4) (j := (gN g 2)) (zdk hX5_putTier 4 rfl) (h.tK) (by decide) (h.tN) (hn) (by decide) (h.tR4 hn) ?_
  refine s_lload_n (zdk hX5_putTier 5 rfl) rfl ?_
  refine s_callV0 (ci := 6) [.long (nm)] (zdk hX5_putTier 6 rfl) cw_X5_115 ((h.tS4 hn).1) (by decide) rfl rfl rfl (Nat.le_of_ble_eq_true rfl) (by decide) (c_X6_startAs hl (h.tS4 hn) nm) ?_
  have q2 : gN (oTier g (gN g 2) w (zI M ((s + 5 + 3 * (gN g 2)) + 1))) 2 = gN g 2 := gN_eq (oTier_n (by omega) (by omega))
  have h1 : rSt (zsL (zsJ M (s + 5 + 3 * (gN g 2)) 0 nm) ((s + 5 + 3 * (gN g 2)) + 2) (zcn (fun _ => lN 0) (zJ M ((s + 5 + 3 * (gN g 2)) + 2)) 3)) s (oTier g (gN g 2) w (zI M ((s + 5 + 3 * (gN g 2)) + 1))) p := h.tier hn (zag_tstart.mono fun b hb => by omega) (fun _ _ _ => rfl) (fun k h1 h2 => oTier_n h1 h2) (fun _ => rTi.start hn hw) (h.b.tier fun k h1 h2 => oTier_n (by omega) (by omega))
  refine s_aload_n (zdk hX5_putTier 7 rfl) rfl ?_
  refine s_dupr (zdk hX5_putTier 8 rfl) ?_
  refine s_getI (zdk hX5_putTier 9 rfl) fw_X5_21 rfl (h.K) ?_
  refine s_topi (b := nI (gN g 2)) (h1.v3.trans (by rw [q2])) ?_
  refine s_iconstv (v := nI 1) (zdk hX5_putTier 10 rfl) zc_iconst_1 ?_
  refine s_iadd (zdk hX5_putTier 11 rfl) ?_
  refine s_topi (b := nI (gN g 2 + 1)) (nI_1 _) ?_
  refine s_putI (zdk hX5_putTier 12 rfl) fw_X5_21 rfl pw_5_3 (h.K) ?_
  refine s_return (zdk hX5_putTier 13 rfl) rfl ?_
  refine ⟨rfl, (zag_tstart.mono fun b hb => by omega).trans ((zag_I _ _ _ _).mono fun b hb => by omega), h1.tct (fun t q1 q3 => ?_) (h1.b.tct (by omega) (by omega))⟩
  rw [gN_e (by omega)] at q3
  obtain rfl : t = gN g 2 := by omega
  exact rTi.start hn hw
theorem c_X5_putFile (hl : l.stackTraces = false) {M : zMem} {s : Nat} {g : Nat → Int64} {p : Nat → Nat} (h : rSt M s g p) {nm : Int64} {w : Nat → Int64} (hw : zpk w 0 8 = nm) (hn : gN g 3 < 20) {t : Nat} (ht : t < gN g 2) (sz un : Int32) : zCm l G mX5_putFile 2 60 0 0 [.ref s, .long nm, .int sz, .int (nI t), .int un] M (zU M s none (zwL (oStart g (gN g 3) w sz (nI t) un) 3 (nI (gN g 3 + 1)).toInt64) p) := by
  refine zCu.of (ls0 := [some (.ref s), some (.long (nm)), none, some (.int (sz)), some (.int (nI t)), some (.int (un))]) (by decide +kernel) rfl hl rfl (Nat.le_of_ble_eq_true rfl) ?_
  refine s_aload_n (zdk hX5_putFile 0 rfl) rfl ?_
  refine s_getR (zdk hX5_putFile 1 rfl) fw_X5_35 rfl (h.K) (h.r6) ?_
  refine s_aload_n (zdk hX5_putFile 2 rfl) rfl ?_
  refine s_getI (zdk hX5_putFile 3 rfl) fw_X5_24 rfl (h.K) ?_
  refine s_topi (b := nI (gN g 3)) (h.v4) ?_
  refine s_aaloadN (N := 20) (j := (gN g 3)) (zdk hX5_putFile 4 rfl) (h.fK) (by decide) (h.fN) (hn) (by decide) (h.rR20 hn) ?_
  refine s_lload_n (zdk hX5_putFile 5 rfl) rfl ?_
  refine s_iload_n (zdk hX5_putFile 6 rfl) rfl ?_
  refine s_iload (zdk hX5_putFile 7 rfl) rfl ?_
  refine s_iload (zdk hX5_putFile 8 rfl) rfl ?_
  refine s_callV0 (ci := 0) [.long (nm), .int (sz), .int (nI t), .int (un)] (zdk hX5_putFile 9 rfl) cw_X5_117 ((h.rS20 hn).1) (by decide) rfl rfl rfl (Nat.le_of_ble_eq_true rfl) (by decide) (c_X0_startAs hl (h.rS20 hn) nm sz (nI t) un) ?_
  have hp := h.pL hn
  have ht4 := h.tL ht
  have q3 : gN (oStart g (gN g 3) w sz (nI t) un) 3 = gN g 3 := gN_eq (oStart_n (by omega))
  have q2 : gN (oStart g (gN g 3) w sz (nI t) un) 2 = gN g 2 := gN_eq (oStart_n (by omega))
  have h1 : rSt (zM_start M (s + 17 + 3 * p (gN g 3)) nm sz (nI t) un) s (oStart g (gN g 3) w sz (nI t) un) p := h.file hn zag_start rfl rfl rfl (fun k hk => oStart_n hk) (fun q => absurd q (by omega)) (h.b.file hn (fun k hk => oStart_n hk) (fun q => absurd q (by omega)))
  refine s_aload_n (zdk hX5_putFile 10 rfl) rfl ?_
  refine s_dupr (zdk hX5_putFile 11 rfl) ?_
  refine s_getI (zdk hX5_putFile 12 rfl) fw_X5_24 rfl (h.K) ?_
  refine s_topi (b := nI (gN g 3)) (h1.v4.trans (by rw [q3])) ?_
  refine s_iconstv (v := nI 1) (zdk hX5_putFile 13 rfl) zc_iconst_1 ?_
  refine s_iadd (zdk hX5_putFile 14 rfl) ?_
  refine s_topi (b := nI (gN g 3 + 1)) (nI_1 _) ?_
  refine s_putI (zdk hX5_putFile 15 rfl) fw_X5_24 rfl pw_5_4 (h.K) ?_
  refine s_return (zdk hX5_putFile 16 rfl) rfl ?_
  refine ⟨rfl, (zag_start.mono fun b hb => by omega).trans ((zag_I _ _ _ _).mono fun b hb => by omega), h1.fct (fun f q1 q9 => ?_) (fun f q1 q9 => ?_) (h1.b.fct (n := gN g 3 + 1) (by omega) (by omega) fun f q1 q9 => ?_)⟩
  · rw [gN_e (by omega)] at q9
    obtain rfl : f = gN g 3 := by omega
    exact rFi.start hw
  · rw [gN_e (by omega)] at q9
    obtain rfl : f = gN g 3 := by omega
    have e4 : its (oStart g (gN g 3) w sz (nI t) un) (58 + 51 * gN g 3 + 4) = nI 0 := its0 (oStart_z (k := 4) (by omega))
    rw [gN_of e4 (by decide)]
    omega
  · obtain rfl : f = gN g 3 := by omega
    have e1 : its (oStart g (gN g 3) w sz (nI t) un) (58 + 51 * gN g 3 + 1) = nI t := oStart_1
    have e4 : its (oStart g (gN g 3) w sz (nI t) un) (58 + 51 * gN g 3 + 4) = nI 0 := its0 (oStart_z (k := 4) (by omega))
    have n1 := gN_of e1 (by omega)
    have n4 := gN_of e4 (by decide)
    rw [n1, n4, q2]
    exact ⟨⟨e1, ht⟩, e4, by omega⟩
end
