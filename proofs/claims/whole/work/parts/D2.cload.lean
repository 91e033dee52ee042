/-! ===== the face: load ===== -/
theorem zst_707 : zst 707 := Or.inl ⟨9, by omega, by omega⟩
/-- behind load -/
def ldP (M : zMem) (S : Nat → Nat → Int64) (c d : Nat) (ge : Nat → Int64) (re : rRd) : Option Value → zMem → Prop := fun v' M' =>
  ∃ M1, (zag M M1 (fun b => b ≠ 1 ∧ (b < 707 ∨ 784 ≤ b)) ∧ zR M1 1 = zR M 1 ∧ zI M1 1 0 = nI 0) ∧ ((re.2.2.2.2.1 = 0 ∧ zI M1 1 1 = -1 ∧ (gRI ge ∧ 2 ≤ gN ge 2) ∧ uP (some (.int (nI (gN ge 3)))) M1 (zup S 707 ge) c d ge v' M') ∨ (¬ re.2.2.2.2.1 = 0 ∧ zI M1 1 1 = re.2.2.2.2.2 ∧ v' = some (.int re.2.2.2.2.1) ∧ M' = M1 ∧ ∃ h, rW M1 (zup S 707 h)))
theorem xSh.keepR {M M' : zMem} (h : xSh M) (e : zag M M' (fun b => b ≠ 1 ∧ (b < 707 ∨ 784 ≤ b))) (er : zR M' 1 = zR M 1) : xSh M' := by
  refine h.keep e.1 (fun b hb => ?_)
  by_cases q : b = 1
  · rw [q]; exact er
  · exact (e.2 b (by omega)).2.2
theorem rW.up2 {M M' : zMem} {S : Nat → Nat → Int64} {s : Nat} {g : Nat → Int64} {p : Nat → Nat} (h : rW M S) (hs : zst s) (e : zag M M' (fun b => zblk b ∧ (b < s ∨ s + 77 ≤ b))) (hr : rSt M' s g p) : rW M' (zup S s g) := by
  intro s' hs'
  by_cases q : s' = s
  · rw [q, zup_e]; exact ⟨p, hr⟩
  · rw [zup_n q]
    obtain ⟨p', hp⟩ := h s' hs'
    have := zst_dj hs hs' q
    exact ⟨p', hp.keep (e.mono fun b hb => ⟨zst_blk hs' hb.1 hb.2, by omega⟩)⟩
theorem ldP.fl {M M' : zMem} {S : Nat → Nat → Int64} {c d : Nat} {ge : Nat → Int64} {re : rRd} {v : Option Value} (h : ldP M S c d ge re v M') : zF M' = zF M := by
  obtain ⟨M1, ⟨e1, -⟩, z | z⟩ := h
  · exact z.2.2.2.fl.trans (zsh_F e1.1)
  · rw [z.2.2.2.1]; exact zsh_F e1.1
section
variable {l : Launch} {G : zG}
theorem c_X8_load (hl : l.stackTraces = false) {M : zMem} {S : Nat → Nat → Int64} {p : Nat → Nat} (hx : xSh M) (hW : rW M S) (h : rSt M 630 (S 630) p) (hf : zF M = 1) {c d : Nat} (hc : zI M 12 0 = nI c) (hc8 : c ≤ 8) (hd : zI M 12 1 = nI d) (hd8 : d < 8) {n : Nat} {u : Nat → Int32} (hb : eB M 1 n u) (hu1 : ∀ j, j < n → ¬ u j = -1) {w0 : Int32} {gb ge : Nat → Int64} {re : rRd} (hrel : rLd u n (oBeg gb) (rTk u n (zsk u n (n - 0) 0) (0, w0)) ge re) : zCx2 l G mX8_load 10 400 5 30 [.ref 0] M (zXr none M (ldP M S c d ge re)) := by
  have hnw : re.2.2.2.2.1 ≤ 0 := rLd_nw hrel (by unfold nw; rw [rTk_wr]; exact Int32.le_refl 0)
  obtain ⟨pd0, hdr⟩ := hW 707 zst_707
  refine zCxr.of (ls0 := [some (.ref 0), none]) (by decide +kernel) rfl hl rfl (Nat.le_of_ble_eq_true rfl) hf (fun v9 M9 q9 => q9.fl) ?_
  refine s_aload_n (zdk hX8_load 0 rfl) rfl ?_
  refine s_getR (zdk hX8_load 1 rfl) fw_X8_10 rfl (hx.K) (show _ = some 1 from (hx.r (i := 0) rfl)) ?_
  refine s_aload_n (zdk hX8_load 2 rfl) rfl ?_
  refine s_getR (zdk hX8_load 3 rfl) fw_X8_44 rfl (hx.K) (show _ = some 707 from (hx.r (i := 5) rfl)) ?_
  refine s_callV1 (ci := 4) [.ref 707] (zdk hX8_load 4 rfl) cw_X8_77 (hx.rd.1) (by decide) rfl rfl rfl (Nat.le_of_ble_eq_true rfl) (by decide) (c_X4_readStore (a := 1) (s := 707) hl hb (by omega) hu1 hdr hrel) ?_
  intro v9 M1 q9
  obtain ⟨e1, e2, e3, q9⟩ := q9
  have hx1 : xSh M1 := hx.keepR (e1.mono fun b hb => ⟨hb.1, by omega⟩) e2
  have h1 : rSt M1 630 (S 630) p := h.keep (e1.mono fun b hb => by omega)
  obtain ⟨an, rfl⟩ : ∃ an, v9 = some (.int an) := by
    rcases q9 with ⟨-, z, -⟩ | ⟨-, z, -⟩
    · exact ⟨_, Sum.inl.inj z⟩
    · exact ⟨_, Sum.inl.inj z⟩
  refine s_istore_n (zdk hX8_load 5 rfl) (Nat.le_of_ble_eq_true rfl) ?_
  refine s_ls (ls' := [some (.ref 0), some (.int (an))]) rfl ?_
  refine s_iload_n (zdk hX8_load 6 rfl) rfl ?_
  refine s_if_lt 38 (zdk hX8_load 7 rfl) (by decide) (fun c13 => ?_) (fun c13 => ?_)
  · obtain ⟨w, z, e4, hh, qq, hr9⟩ : ¬ re.2.2.2.2.1 = 0 ∧ an = re.2.2.2.2.1 ∧ zI M1 1 1 = re.2.2.2.2.2 ∧ ∃ h q, rSt M1 707 h q := by
      rcases q9 with ⟨w, z, -, hgg, -⟩ | ⟨w, z, e4, h9⟩
      · have e : an = nI (gN ge 3) := by cases z; rfl
        rw [e] at c13
        exact absurd c13 (nI_pos (by have := hgg.1.1.2.2.1.2; omega))
      · exact ⟨w, by cases z; rfl, e4, h9⟩
    refine s_iload_n (zdk hX8_load 18 rfl) rfl ?_
    refine s_ireturn (zdk hX8_load 19 rfl) rfl rfl ?_
    refine ⟨rfl, ?_⟩
    refine ⟨M1, ⟨e1, e2, e3⟩, Or.inr ⟨w, e4, by rw [z], rfl, hh, ?_⟩⟩
    exact hW.up2 zst_707 (e1.mono fun b hb => ⟨by unfold zblk at hb; omega, by omega⟩) hr9
  · obtain ⟨w, z, e4, hgr, qq, hr9⟩ : re.2.2.2.2.1 = 0 ∧ an = nI (gN ge 3) ∧ zI M1 1 1 = -1 ∧ (gRI ge ∧ 2 ≤ gN ge 2) ∧ ∃ q, rSt M1 707 ge q := by
      rcases q9 with ⟨w, z, e4, h8, h9⟩ | ⟨w, z, -⟩
      · exact ⟨w, by cases z; rfl, e4, h8, h9⟩
      · have e : an = re.2.2.2.2.1 := by cases z; rfl
        rw [e] at c13
        exact absurd (Int32.lt_of_le_of_ne hnw w) c13
    have hW1 := hW.up2 zst_707 (e1.mono fun b hb => ⟨by unfold zblk at hb; omega, by omega⟩) hr9
    refine s_aload_n (zdk hX8_load 8 rfl) rfl ?_
    refine s_getR (zdk hX8_load 9 rfl) fw_X8_33 rfl (hx1.K) (show _ = some 12 from (hx1.r (i := 3) rfl)) ?_
    refine s_aload_n (zdk hX8_load 10 rfl) rfl ?_
    refine s_getR (zdk hX8_load 11 rfl) fw_X8_40 rfl (hx1.K) (show _ = some 630 from (hx1.r (i := 4) rfl)) ?_
    refine s_callV1 (ci := 1) [.ref 630] (zdk hX8_load 12 rfl) cw_X8_81 (hx1.hi.1) (by decide) rfl rfl rfl (Nat.le_of_ble_eq_true rfl) (by decide) (c_remember2 hl hx1 hW1 ((congrFun (e1.2 12 (by omega)).1 0).trans hc) hc8 ((congrFun (e1.2 12 (by omega)).1 1).trans hd) hd8) ?_
    intro v2 M2 q2
    have q3 := q2.1
    cases q3
    have hx2 : xSh M2 := q2.xs hx1 hd8
    have s6 : zup S 707 ge 630 = S 630 := zup_n (by omega)
    have h2 : rSt M2 630 (S 630) p := q2.st h1 hd8
    obtain ⟨pd, hdr2⟩ := q2.2.2.1 707 zst_707
    rw [zup_n (by omega), zup_e] at hdr2
    refine s_aload_n (zdk hX8_load 13 rfl) rfl ?_
    refine s_getR (zdk hX8_load 14 rfl) fw_X8_40 rfl (hx2.K) (show _ = some 630 from (hx2.r (i := 4) rfl)) ?_
    refine s_aload_n (zdk hX8_load 15 rfl) rfl ?_
    refine s_getR (zdk hX8_load 16 rfl) fw_X8_44 rfl (hx2.K) (show _ = some 707 from (hx2.r (i := 5) rfl)) ?_
    refine s_callV1 (ci := 5) [.ref 707] (zdk hX8_load 17 rfl) cw_X8_85 (h2.K) (by decide) rfl rfl rfl (Nat.le_of_ble_eq_true rfl) (by decide) (c_X5_copyFrom hl h2.1 (by omega) hdr2) ?_
    intro v5 M5 q5
    obtain ⟨q6, e5, h5⟩ := q5
    cases q6
    refine s_iload_n (zdk hX8_load 18 rfl) rfl ?_
    refine s_ireturn (zdk hX8_load 19 rfl) rfl rfl ?_
    have u9 := uP_of (v := some (.int (nI (gN ge 3)))) (S := zup S 707 ge) q2 hd8 e5 h5
    rw [z]
    exact ⟨rfl, M1, ⟨e1, e2, e3⟩, Or.inl ⟨w, e4, hgr, u9⟩⟩
end
