/-! ===== the class reads a text ===== -/
/-- behind a text that was read into s -/
def sQ (M : zMem) (a s : Nat) (ge : Nat → Int64) (re : rRd) : zOut → zMem → Prop := fun o M1 => zag M M1 (fun c => c ≠ a ∧ (c < s ∨ s + 77 ≤ c)) ∧ zR M1 a = zR M a ∧ zI M1 a 0 = nI 0 ∧ ((re.2.2.2.2.1 = 0 ∧ o = .inl (some (.int (nI (gN ge 3)))) ∧ zI M1 a 1 = -1 ∧ (gRI ge ∧ 2 ≤ gN ge 2) ∧ ∃ q, rSt M1 s ge q) ∨ (¬ re.2.2.2.2.1 = 0 ∧ o = .inl (some (.int re.2.2.2.2.1)) ∧ zI M1 a 1 = re.2.2.2.2.2 ∧ ∃ h q, rSt M1 s h q))
theorem tQ.e4 {M M1 : zMem} {a n s : Nat} {u : Nat → Int32} {g' : Nat → Int64} {r' : rRd} {o : zOut} (h : tQ M a n s u g' r' o M1) (w : ¬ r'.2.2.2.2.1 = 0) : zI M1 a 4 = r'.2.2.2.2.1 ∧ zI M1 a 1 = r'.2.2.2.2.2 := by
  obtain ⟨-, -, -, -, h5, -⟩ := h
  rcases h5 with z | z
  · exact absurd z.1 w
  · exact z.2
theorem sQ_n {M N0 N1 : zMem} {a n s : Nat} {u : Nat → Int32} {g' ge : Nat → Int64} {re : rRd} {o : zOut} (hd : a + 2 ≤ s ∨ s + 77 ≤ a) (e0 : zag M N0 (fun c => c ≠ a)) (e1 : zR N0 a = zR M a) (t : tQ N0 a n s u g' re o N1) (w : ¬ re.2.2.2.2.1 = 0) : sQ M a s ge re (.inl (some (.int re.2.2.2.2.1))) (zsI N1 a 0 (nI 0)) := by
  have e4 := t.e4 w
  obtain ⟨-, t2, t3, -, -, h, q, hr, -⟩ := t
  have ez : zag N1 (zsI N1 a 0 (nI 0)) (fun c => c ≠ a) := zag_I N1 a 0 _
  refine ⟨((e0.mono fun c hc => hc.1).trans t2).trans (ez.mono fun c hc => hc.1), t3.trans e1, (congrFun zI_Ie 0).trans zw1_e, Or.inr ⟨w, rfl, ((congrFun zI_Ie 1).trans (zw1_n (by decide))).trans e4.2, h, q, hr.keep (ez.mono fun c hc => by omega)⟩⟩
theorem sQ_y {M N0 N1 : zMem} {a n s : Nat} {u : Nat → Int32} {ge : Nat → Int64} {re : rRd} {o : zOut} (hd : a + 2 ≤ s ∨ s + 77 ≤ a) (e0 : zag M N0 (fun c => c ≠ a)) (e1 : zR N0 a = zR M a) (e2 : zI N0 a 1 = -1) (t : tQ N0 a n s u ge re o N1) (w : re.2.2.2.2.1 = 0) (hg : gRI ge ∧ 2 ≤ gN ge 2) : sQ M a s ge re (.inl (some (.int (nI (gN ge 3))))) (zsI N1 a 0 (nI 0)) := by
  obtain ⟨m, -, q, hr⟩ := t.y w
  have ez : zag N1 (zsI N1 a 0 (nI 0)) (fun c => c ≠ a) := zag_I N1 a 0 _
  refine ⟨((e0.mono fun c hc => hc.1).trans m.1).trans (ez.mono fun c hc => hc.1), m.2.1.trans e1, (congrFun zI_Ie 0).trans zw1_e, Or.inl ⟨w, rfl, (((congrFun zI_Ie 1).trans (zw1_n (by decide))).trans m.2.2.2).trans e2, hg, q, hr.keep (ez.mono fun c hc => by omega)⟩⟩
section
variable {l : Launch} {G : zG}
theorem c_X4_readStore (hl : l.stackTraces = false) {M : zMem} {a n s : Nat} {u : Nat → Int32} (hb : eB M a n u) (hd : a + 2 ≤ s ∨ s + 77 ≤ a) (hu1 : ∀ j, j < n → ¬ u j = -1) {g0 : Nat → Int64} {q : Nat → Nat} (hg : rSt M s g0 q) {w0 : Int32} {gb ge : Nat → Int64} {re : rRd} (hrel : rLd u n (oBeg gb) (rTk u n (zsk u n (n - 0) 0) (0, w0)) ge re) : zCm l G mX4_readStore 8 280 0 0 [.ref a, .ref s] M (sQ M a s ge re) := by
  obtain ⟨g1r, r1, k9, g4r, r4, k2, r5, hH, hT, hF, hre⟩ := hrel
  have g1 := oBeg_i1 (g := gb)
  have g2 := oBeg_i (g := gb) (k := 2) (by decide) (by decide)
  have g3 := oBeg_i (g := gb) (k := 3) (by decide) (by decide)
  have g4 := oBeg_i (g := gb) (k := 4) (by decide) (by decide)
  have g5 := oBeg_i (g := gb) (k := 5) (by decide) (by decide)
  have hHI := fun w => head_RI hH w
  have s0w : eSy u n 0 (rTk u n (zsk u n (n - 0) 0) (0, w0)) := ⟨Nat.zero_le n, by rw [rTk_wr], by rw [rTk_wr]⟩
  refine zCm.of0 (ls0 := [some (.ref a), some (.ref s), none]) (by decide +kernel) rfl hl rfl (Nat.le_of_ble_eq_true rfl) (fun v' M' q => q.1.1) (fun x M' q => by rcases q.2.2.2 with z | z <;> exact absurd z.2.1 (by simp)) ?_
  refine s_aload_n (zdk hX4_readStore 0 rfl) rfl ?_
  refine s_iconstv (v := nI 0) (zdk hX4_readStore 1 rfl) zc_iconst_0 ?_
  refine s_putI (zdk hX4_readStore 2 rfl) fw_X4_22 rfl pw_4_3 (hb.1.1) ?_
  refine s_aload_n (zdk hX4_readStore 3 rfl) rfl ?_
  refine s_iconstv (v := (-1)) (zdk hX4_readStore 4 rfl) zc_iconst_m1 ?_
  refine s_putI (zdk hX4_readStore 5 rfl) fw_X4_15 rfl pw_4_1 (hb.1.1) ?_
  have e0 : zag M (zsI (zsI M a 3 (nI 0)) a 1 (-1)) (fun c => c ≠ a) := (zag_I M a 3 _).trans (zag_I _ a 1 _)
  have hb0 : eB (zsI (zsI M a 3 (nI 0)) a 1 (-1)) a n u := hb.mv hd (e0.mono fun c hc => hc.1) rfl ((congrFun zI_Ie 0).trans ((zw1_n (by decide)).trans ((congrFun zI_Ie 0).trans (zw1_n (by decide)))))
  have s0 := hg.keep (e0.mono fun c hc => by omega)
  have p0 : zI (zsI (zsI M a 3 (nI 0)) a 1 (-1)) a 3 = nI 0 := (congrFun zI_Ie 3).trans ((zw1_n (by decide)).trans ((congrFun zI_Ie 3).trans zw1_e))
  have m0 : zI (zsI (zsI M a 3 (nI 0)) a 1 (-1)) a 1 = -1 := (congrFun zI_Ie 1).trans zw1_e
  refine s_aload_n (zdk hX4_readStore 6 rfl) rfl ?_
  refine s_aload_n (zdk hX4_readStore 7 rfl) rfl ?_
  refine s_callV1 (ci := 4) [.ref s] (zdk hX4_readStore 8 rfl) cw_X4_38 (hb0.1.1) (by decide) rfl rfl rfl (Nat.le_of_ble_eq_true rfl) (by decide) (c_X4_readHead hl hb0 hd p0 s0w s0 g1 g2 g3 g4 g5 hH) ?_
  intro v9 M1 t1
  have t1c := t1
  obtain ⟨q8, -⟩ := t1c
  cases q8
  have hb1 : eB M1 a n u := hb0.mv hd t1.2.1 t1.2.2.1 t1.2.2.2.1
  refine s_if_eq 38 (zdk hX4_readStore 9 rfl) (by decide) (fun c15 => ?_) (fun c15 => ?_)
  · have b15 : ¬ (r1.2.2.2.2.1 = 0) := b01_eq c15
    refine s_iconstv (v := nI 0) (zdk hX4_readStore 20 rfl) zc_iconst_0 ?_
    refine s_istore_n (zdk hX4_readStore 21 rfl) (Nat.le_of_ble_eq_true rfl) ?_
    refine s_ls (ls' := [some (.ref a), some (.ref s), some (.int (nI 0))]) rfl ?_
    refine s_aload_n (zdk hX4_readStore 22 rfl) rfl ?_
    refine s_iconstv (v := nI 0) (zdk hX4_readStore 23 rfl) zc_iconst_0 ?_
    refine s_putI (zdk hX4_readStore 24 rfl) fw_X4_9 rfl pw_4_0 (hb1.1.1) ?_
    refine s_iload_n (zdk hX4_readStore 25 rfl) rfl ?_
    refine s_if_eq 56 (zdk hX4_readStore 26 rfl) (by decide) (fun c46 => ?_) (fun c46 => ?_)
    · refine s_aload_n (zdk hX4_readStore 30 rfl) rfl ?_
      refine s_getI (zdk hX4_readStore 31 rfl) fw_X4_25 rfl (hb1.1.1) ?_
      refine s_topi (b := r1.2.2.2.2.1) (((congrFun zI_Ie 4).trans (zw1_n (by decide))).trans (t1.e4 b15).1) ?_
      refine s_ireturn (zdk hX4_readStore 32 rfl) rfl rfl ?_
      have e5 : re = r1 := by
        have a1 := rTl_w _ _ _ b15 hT
        have a2 := rFs_w (by rw [a1.2]; exact b15) hF
        rw [← hre, a2.2, a1.2]
        exact if_neg (fun q9 => b15 q9.1)
      rw [e5]
      exact sQ_n hd e0 rfl t1 b15
    · exact absurd (by decide) c46
  · have b15 : r1.2.2.2.2.1 = 0 := b01_ne c15
    obtain ⟨mm1, ⟨p1, hp1, hs1⟩, qq1, hr1⟩ := t1.y b15
    have gi := hHI b15
    refine s_aload_n (zdk hX4_readStore 10 rfl) rfl ?_
    refine s_aload_n (zdk hX4_readStore 11 rfl) rfl ?_
    refine s_callV1 (ci := 4) [.ref s] (zdk hX4_readStore 12 rfl) cw_X4_42 (hb1.1.1) (by decide) rfl rfl rfl (Nat.le_of_ble_eq_true rfl) (by decide) (c_X4_readTiers hl hb1 hd hp1 hs1 hr1 gi.1 gi.2.2 gi.2.1 hT) ?_
    intro v9 M2 z2
    have t2c := z2.1
    obtain ⟨q8, -⟩ := t2c
    cases q8
    have hb2 : eB M2 a n u := hb1.mv hd z2.1.2.1 z2.1.2.2.1 z2.1.2.2.2.1
    refine s_if_eq 38 (zdk hX4_readStore 13 rfl) (by decide) (fun c23 => ?_) (fun c23 => ?_)
    · have b23 : ¬ (r4.2.2.2.2.1 = 0) := b01_eq c23
      refine s_iconstv (v := nI 0) (zdk hX4_readStore 20 rfl) zc_iconst_0 ?_
      refine s_istore_n (zdk hX4_readStore 21 rfl) (Nat.le_of_ble_eq_true rfl) ?_
      refine s_ls (ls' := [some (.ref a), some (.ref s), some (.int (nI 0))]) rfl ?_
      refine s_aload_n (zdk hX4_readStore 22 rfl) rfl ?_
      refine s_iconstv (v := nI 0) (zdk hX4_readStore 23 rfl) zc_iconst_0 ?_
      refine s_putI (zdk hX4_readStore 24 rfl) fw_X4_9 rfl pw_4_0 (hb2.1.1) ?_
      refine s_iload_n (zdk hX4_readStore 25 rfl) rfl ?_
      refine s_if_eq 56 (zdk hX4_readStore 26 rfl) (by decide) (fun c46 => ?_) (fun c46 => ?_)
      · refine s_aload_n (zdk hX4_readStore 30 rfl) rfl ?_
        refine s_getI (zdk hX4_readStore 31 rfl) fw_X4_25 rfl (hb2.1.1) ?_
        refine s_topi (b := r4.2.2.2.2.1) (((congrFun zI_Ie 4).trans (zw1_n (by decide))).trans (z2.1.e4 b23).1) ?_
        refine s_ireturn (zdk hX4_readStore 32 rfl) rfl rfl ?_
        have e5 : re = r4 := by
          have a2 := rFs_w b23 hF
          rw [← hre, a2.2]
          exact if_neg (fun q9 => b23 q9.1)
        rw [e5]
        exact sQ_n hd e0 rfl (mm1.tq z2.1) b23
      · exact absurd (by decide) c46
    · have b23 : r4.2.2.2.2.1 = 0 := b01_ne c23
      obtain ⟨m2, ⟨p2, hp2, hs2⟩, qq2, hr2⟩ := z2.1.y b23
      have mm2 := mm1.tr m2
      have gi2 := z2.2 b23
      refine s_aload_n (zdk hX4_readStore 14 rfl) rfl ?_
      refine s_aload_n (zdk hX4_readStore 15 rfl) rfl ?_
      refine s_callV1 (ci := 4) [.ref s] (zdk hX4_readStore 16 rfl) cw_X4_45 (hb2.1.1) (by decide) rfl rfl rfl (Nat.le_of_ble_eq_true rfl) (by decide) (c_X4_readFiles hl hb2 hd hu1 hp2 hs2 hr2 gi2.1 gi2.2.2 gi2.2.1 hF hre) ?_
      intro v9 M3 z3
      have t3c := z3.1
      obtain ⟨q8, -⟩ := t3c
      cases q8
      have hb3 : eB M3 a n u := hb2.mv hd z3.1.2.1 z3.1.2.2.1 z3.1.2.2.2.1
      refine s_if_eq 38 (zdk hX4_readStore 17 rfl) (by decide) (fun c31 => ?_) (fun c31 => ?_)
      · have b31 : ¬ (re.2.2.2.2.1 = 0) := b01_eq c31
        refine s_iconstv (v := nI 0) (zdk hX4_readStore 20 rfl) zc_iconst_0 ?_
        refine s_istore_n (zdk hX4_readStore 21 rfl) (Nat.le_of_ble_eq_true rfl) ?_
        refine s_ls (ls' := [some (.ref a), some (.ref s), some (.int (nI 0))]) rfl ?_
        refine s_aload_n (zdk hX4_readStore 22 rfl) rfl ?_
        refine s_iconstv (v := nI 0) (zdk hX4_readStore 23 rfl) zc_iconst_0 ?_
        refine s_putI (zdk hX4_readStore 24 rfl) fw_X4_9 rfl pw_4_0 (hb3.1.1) ?_
        refine s_iload_n (zdk hX4_readStore 25 rfl) rfl ?_
        refine s_if_eq 56 (zdk hX4_readStore 26 rfl) (by decide) (fun c46 => ?_) (fun c46 => ?_)
        · refine s_aload_n (zdk hX4_readStore 30 rfl) rfl ?_
          refine s_getI (zdk hX4_readStore 31 rfl) fw_X4_25 rfl (hb3.1.1) ?_
          refine s_topi (b := re.2.2.2.2.1) (((congrFun zI_Ie 4).trans (zw1_n (by decide))).trans (z3.1.e4 b31).1) ?_
          refine s_ireturn (zdk hX4_readStore 32 rfl) rfl rfl ?_
          have e5 : re = re := rfl
          exact sQ_n hd e0 rfl (mm2.tq z3.1) b31
        · exact absurd (by decide) c46
      · have b31 : re.2.2.2.2.1 = 0 := b01_ne c31
        obtain ⟨m3, -, qq3, hr3⟩ := z3.1.y b31
        have hr3z := hr3.keep ((zag_I M3 a 0 (nI 0)).mono fun c hc => by omega)
        refine s_iconstv (v := nI 1) (zdk hX4_readStore 18 rfl) zc_iconst_1 ?_
        refine s_goto 39 (zdk hX4_readStore 19 rfl) (by decide) ?_
        refine s_istore_n (zdk hX4_readStore 21 rfl) (Nat.le_of_ble_eq_true rfl) ?_
        refine s_ls (ls' := [some (.ref a), some (.ref s), some (.int (nI 1))]) rfl ?_
        refine s_aload_n (zdk hX4_readStore 22 rfl) rfl ?_
        refine s_iconstv (v := nI 0) (zdk hX4_readStore 23 rfl) zc_iconst_0 ?_
        refine s_putI (zdk hX4_readStore 24 rfl) fw_X4_9 rfl pw_4_0 (hb3.1.1) ?_
        refine s_iload_n (zdk hX4_readStore 25 rfl) rfl ?_
        refine s_if_eq 56 (zdk hX4_readStore 26 rfl) (by decide) (fun c46 => ?_) (fun c46 => ?_)
        · exact absurd c46 (by decide)
        · refine s_aload_n (zdk hX4_readStore 27 rfl) rfl ?_
          refine s_getI (zdk hX4_readStore 28 rfl) fw_X4_48 rfl (hr3z.K) ?_
          refine s_topi (b := nI (gN ge 3)) (hr3z.v4) ?_
          refine s_goto 60 (zdk hX4_readStore 29 rfl) (by decide) ?_
          refine s_ireturn (zdk hX4_readStore 32 rfl) rfl rfl ?_
          exact sQ_y hd e0 rfl m0 (mm2.tq z3.1) b31 (z3.2 b31)
end
