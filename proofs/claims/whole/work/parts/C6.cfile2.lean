/-! ===== the class reads a file, whole ===== -/
theorem nLe_of {x : Int32} {lo hi : Nat} (h1 : nI lo ≤ x) (h2 : x ≤ nI hi) (hb : hi < 100000) (hl : lo ≤ hi) : nLe x lo hi := by
  have hx : ¬ x < 0 := fun q => by
    have := Int32.lt_of_le_of_lt h1 q
    exact absurd this (nI_pos (by omega))
  obtain ⟨m, hm, rfl⟩ := nI_of hx
  exact ⟨m, rfl, (nI_leI (by omega) hm).mp h1, (nI_leI hm (by omega)).mp h2⟩
theorem nLe.mono {x : Int32} {lo hi lo' hi' : Nat} (h : nLe x lo hi) (h1 : lo' ≤ lo) (h2 : hi ≤ hi') : nLe x lo' hi' := by
  obtain ⟨m, e, a, b⟩ := h
  exact ⟨m, e, by omega, by omega⟩
section
variable {l : Launch} {G : zG}
theorem w_X4_readFile_70 (hl : l.stackTraces = false) {B N : zMem} {a n s : Nat} {u : Nat → Int32} (hd : a + 2 ≤ s ∨ s + 77 ≤ a) (hM : eM B N a s) (hbN : eB N a n u) {p : Nat} {ra r1 r3 r4 r5 r6 r7 : rRd} {v2 v7 nv : Int32} {x z : Int32 × rRd} (hp : zI N a 3 = nI p) (hs : eSy u n p (rNx u n ra)) (n6 : zJ N a 6 = zpl u ra.1 (ra.2.1 - ra.1)) {g : Nat → Int64} {q : Nat → Nat} (hr : rSt N s g q) (ht : gN g 3 < 20) {g2 : Nat → Int64} (h1 : rNx u n ra = r1) (hx : rTa u n (nI 1) (nI 999) r1 = x) (hv2 : rIw u 4 x.2 = v2) (hr3 : rMu u n v2 x.2 = r3) (hr4 : rMn r3 = r4) (hnv : rNa g2 u r4 11 13 (gN g2 2) = nv) (hr5 : (if nv = -1 then rFl r4 (-4) else r4) = r5) (hr6 : (if r5.2.2.2.2.1 = 0 ∧ gt g2 nv.toNatClampNeg 0 - zfull g2 nv (gN g2 3) < x.1 then rFl r5 (-6) else r5) = r6) (hr7 : rMu u n (nI 1) r6 = r7) (hv7 : rIw u 5 r7 = v7) (hz : (if v7 = 0 then (nI 0, r7) else rTa u n (nI 0) (nI 9999) (rNx u n r7)) = z) (hN : gNT g) (hrt : ∀ t, t < gN g 2 → nLe (gt g t 0) 1 99999) (hrf : ∀ f, f < gN g 3 → nLe (gf g f 0) 1 999) (eg : ∀ k, k < 58 → g2 k = g k) (eg2 : ∀ y, zfull g2 y (gN g2 3) = zfull g y (gN g 3)) (ew : zpk (rNm u ra) 0 8 = zpl u ra.1 (ra.2.1 - ra.1)) {g' : Nat → Int64} (hg' : ∀ d, nv = nI d → ∀ k, k < 1390 → g' k = zwL (oStart g (gN g 3) (rNm u ra) x.1 (nI d) z.1) 3 (nI (gN g 3 + 1)).toInt64 k) : zS l G mX4_readFile 6 200 0 0 70 [some (.ref a), some (.ref s), none, none, none, none] [] N (tQ B a n s u g' (rEn u n z.2)) := by
  have h24 := hr.b.2.1.2
  have eN2 : gN g2 2 = gN g 2 := gN_eq (eg 2 (by omega))
  have eg1 : ∀ t, t < 4 → gt g2 t 0 = gt g t 0 := fun t ht => its_eq (eg _ (by omega))
  refine s_aload_n (zdk hX4_readFile_0 35 rfl) rfl ?_
  refine s_getJ (zdk hX4_readFile_0 36 rfl) fw_X4_31 rfl (hbN.1.1) ?_
  refine s_topl (b := zpl u ra.1 (ra.2.1 - ra.1)) (n6) ?_
  refine s_lstore_n (zdk hX4_readFile_0 37 rfl) (Nat.le_of_ble_eq_true rfl) ?_
  refine s_ls (ls' := [some (.ref a), some (.ref s), some (.long (zpl u ra.1 (ra.2.1 - ra.1))), none, none, none]) rfl ?_
  refine s_aload_n (zdk hX4_readFile_0 38 rfl) rfl ?_
  refine s_iconstv (v := nI 1) (zdk hX4_readFile_0 39 rfl) zc_iconst_1 ?_
  refine s_sipushv (v := nI 999) (zdk hX4_readFile_0 40 rfl) zc_sipush_999 ?_
  refine s_callV1 (ci := 4) [.int (nI 1), .int (nI 999)] (zdk hX4_readFile_0 41 rfl) cw_X4_59 (hbN.1.1) (by decide) rfl rfl rfl (Nat.le_of_ble_eq_true rfl) (by decide) (e_num hl hbN hp hs (nI 1) (hi := nI 999) (by decide)) ?_
  intro v9 M1 q9
  rw [h1, hx] at q9
  obtain ⟨q8, k1, m1⟩ := q9
  cases q8
  have hb1 := hbN.keep k1
  have s1 := hr.keep (k1.1.mono (fun c hc => by omega))
  refine s_if_ne 88 (zdk hX4_readFile_0 42 rfl) (by decide) (fun c83 => ?_) (fun c83 => ?_)
  · have b83 : x.2.2.2.2.2.1 = 0 := b01_ne c83
    obtain ⟨e1, p1, hp1, hs1⟩ := k1.y b83
    refine s_aload_n (zdk hX4_readFile_0 45 rfl) rfl ?_
    refine s_getI (zdk hX4_readFile_0 46 rfl) fw_X4_28 rfl (hb1.1.1) ?_
    refine s_topi (b := x.1) (m1 b83) ?_
    refine s_istore (zdk hX4_readFile_0 47 rfl) (Nat.le_of_ble_eq_true rfl) ?_
    refine s_ls (ls' := [some (.ref a), some (.ref s), some (.long (zpl u ra.1 (ra.2.1 - ra.1))), none, some (.int (x.1)), none]) rfl ?_
    refine s_aload_n (zdk hX4_readFile_0 48 rfl) rfl ?_
    refine s_ldcS (tx := "on") (k := 4) (zdk hX4_readFile_0 49 rfl) (by decide +kernel) (by decide) ?_
    refine s_callV1 (ci := 4) [.ref (1000000 + 4)] (zdk hX4_readFile_0 50 rfl) cw_X4_55 (hb1.1.1) (by decide) rfl rfl rfl (Nat.le_of_ble_eq_true rfl) (by decide) (e_pass hl hb1 hp1 hs1 (w := 4) (by decide)) ?_
    intro v9 M2 q9
    rw [hv2, hr3] at q9
    obtain ⟨q8, k2⟩ := q9
    cases q8
    have hb2 := hb1.keep k2
    have s2 := s1.keep (k2.1.mono (fun c hc => by omega))
    refine s_if_eq 110 (zdk hX4_readFile_0 51 rfl) (by decide) (fun c100 => ?_) (fun c100 => ?_)
    · have b100 : ¬ (r3.2.2.2.2.1 = 0) := b01_eq c100
      refine s_iconstv (v := nI 0) (zdk hX4_readFile_0 55 rfl) zc_iconst_0 ?_
      refine s_ireturn (zdk hX4_readFile_0 56 rfl) rfl rfl ?_
      have e4 : r4 = r3 := by rw [← hr4, rMn_w b100]
      rw [fz4 hr5 hr6 hr7 hv7 hz (by rw [e4]; exact b100), e4]
      exact (hM.step k1 b83).qn b100 k2 s2
    · have b100 : r3.2.2.2.2.1 = 0 := b01_ne c100
      obtain ⟨e2, p2, hp2, hs2⟩ := k2.y b100
      refine s_aload_n (zdk hX4_readFile_0 52 rfl) rfl ?_
      refine s_callV1 (ci := 4) [] (zdk hX4_readFile_0 53 rfl) cw_X4_87 (hb2.1.1) (by decide) rfl rfl rfl (Nat.le_of_ble_eq_true rfl) (by decide) (e_name hl hb2 hp2 hs2) ?_
      intro v9 M3 q9
      rw [hr4] at q9
      obtain ⟨q8, k3, n3⟩ := q9
      cases q8
      have hb3 := hb2.keep k3
      have s3 := s2.keep (k3.1.mono (fun c hc => by omega))
      refine s_if_ne 112 (zdk hX4_readFile_0 54 rfl) (by decide) (fun c107 => ?_) (fun c107 => ?_)
      · have b107 : r4.2.2.2.2.1 = 0 := b01_ne c107
        rw [if_pos b107] at k3
        have ek := rMn_wr (r := r3) (by rw [hr4]; exact b107)
        have e4 : r4 = r3 := hr4.symm.trans ek.1
        have en2 : rNa g u r3 11 13 (gN g 2) = nv := by
          rw [← hnv, e4, eN2]
          unfold rNa
          rw [if_pos b100, if_pos b100]
          exact rNd_cg _ _ (fun q9 _ q8 j hj => (eg _ (by omega)).symm)
        have en : zfs (fun i => zpk g (6 + 13 * i + 5) 8) (zpl u r3.1 (r3.2.1 - r3.1)) ((gN g 2) - 0) 0 = nv := (nT_eq hN hs2 ek.2.1 ek.2.2).trans en2
        obtain ⟨f3, p3, hp3, hs3⟩ := k3.y (by rw [rNx_wr]; exact b100)
        have hx9 : nLe x.1 0 999 := by
          have m9 := rTa_wr (u := u) (n := n) (lo := nI 1) (hi := nI 999) (r := r1) (by rw [hx]; exact b83)
          have ex : x.1 = r1.2.2.2.1 := by rw [← hx, m9.2.2.2]
          rw [ex]
          exact (nLe_of m9.2.2.1.1 m9.2.2.1.2 (by omega) (by omega)).mono (by omega) (by omega)
        exact w_X4_readFile_112 hl hd (((hM.step k1 b83).step k2 b100).step k3 (by rw [rNx_wr]; exact b100)) hb3 hp3 hs3 (n3 b107).1 (n3 b107).2 b100 e4 s3 ht en en2 hr5 hr6 hr7 hv7 hz hrt hrf hx9 eg1 eg2 ew hg'
      · have b107 : ¬ (r4.2.2.2.2.1 = 0) := b01_eq c107
        refine s_iconstv (v := nI 0) (zdk hX4_readFile_0 55 rfl) zc_iconst_0 ?_
        refine s_ireturn (zdk hX4_readFile_0 56 rfl) rfl rfl ?_
        rw [if_neg b107] at k3
        rw [fz4 hr5 hr6 hr7 hv7 hz b107]
        exact ((hM.step k1 b83).step k2 b100).qn b107 k3 s3
  · have b83 : ¬ (x.2.2.2.2.2.1 = 0) := b01_eq c83
    refine s_iconstv (v := nI 0) (zdk hX4_readFile_0 43 rfl) zc_iconst_0 ?_
    refine s_ireturn (zdk hX4_readFile_0 44 rfl) rfl rfl ?_
    have e4 : r4 = x.2 := by rw [← hr4, ← hr3, rMu_w b83, rMn_w b83]
    rw [fz4 hr5 hr6 hr7 hv7 hz (by rw [e4]; exact b83), e4]
    exact hM.qn b83 k1 s1
theorem c_X4_readFile_e (hl : l.stackTraces = false) {M : zMem} {a n s : Nat} {u : Nat → Int32} (hb : eB M a n u) (hd : a + 2 ≤ s ∨ s + 77 ≤ a) {p : Nat} {r : rRd} (hp : zI M a 3 = nI p) (hs : eSy u n p r) {g : Nat → Int64} {q : Nat → Nat} (hg : rSt M s g q) (hw : rIw u 3 r = 0) (g' : Nat → Int64) : zCm l G mX4_readFile 6 200 0 0 [.ref a, .ref s] M (tQ M a n s u g' (rFl r (-2))) := by
  have em : rMu u n (rIw u 3 r) r = rFl r (-2) := if_pos hw
  refine zCm.of0 (ls0 := [some (.ref a), some (.ref s), none, none, none, none]) (by decide +kernel) rfl hl rfl (Nat.le_of_ble_eq_true rfl) (fun v' M' q => q.2.1.1) (fun x M' q => by cases q.1) ?_
  refine s_aload_n (zdk hX4_readFile_0 0 rfl) rfl ?_
  refine s_ldcS (tx := "file") (k := 3) (zdk hX4_readFile_0 1 rfl) (by decide +kernel) (by decide) ?_
  refine s_callV1 (ci := 4) [.ref (1000000 + 3)] (zdk hX4_readFile_0 2 rfl) cw_X4_65 (hb.1.1) (by decide) rfl rfl rfl (Nat.le_of_ble_eq_true rfl) (by decide) (e_word hl hb hp hs (w := 3) (by decide)) ?_
  intro v9 M1 q9
  obtain ⟨q8, k1, z1, y1⟩ := q9
  cases q8
  have hb1 := hb.keep k1
  have r1 := hg.keep (k1.1.mono (fun c hc => by omega))
  refine s_if_eq 29 (zdk hX4_readFile_0 3 rfl) (by decide) (fun c6 => ?_) (fun c6 => ?_)
  · refine s_aload_n (zdk hX4_readFile_0 14 rfl) rfl ?_
    refine s_ldcS (tx := "file") (k := 3) (zdk hX4_readFile_0 15 rfl) (by decide +kernel) (by decide) ?_
    refine s_callV1 (ci := 4) [.ref (1000000 + 3)] (zdk hX4_readFile_0 16 rfl) cw_X4_55 (hb1.1.1) (by decide) rfl rfl rfl (Nat.le_of_ble_eq_true rfl) (by decide) (e_pass hl hb1 z1 hs.at (w := 3) (by decide)) ?_
    intro v9 M2 q9
    rw [em] at q9
    obtain ⟨q8, k2⟩ := q9
    cases q8
    have hb2 := hb1.keep k2
    have r2 := r1.keep (k2.1.mono (fun c hc => by omega))
    refine s_if_eq 45 (zdk hX4_readFile_0 17 rfl) (by decide) (fun c35 => ?_) (fun c35 => ?_)
    · have b35 : ¬ ((rFl r (-2)).2.2.2.2.1 = 0) := b01_eq c35
      refine s_iconstv (v := nI 0) (zdk hX4_readFile_0 21 rfl) zc_iconst_0 ?_
      refine s_ireturn (zdk hX4_readFile_0 22 rfl) rfl rfl ?_
      exact tQ_n b35 (k1.tr hs.2.1 k2) r2
    · have b35 : (rFl r (-2)).2.2.2.2.1 = 0 := b01_ne c35
      rw [rFl_w hs.2.1] at b35
      exact absurd b35 (by decide)
  · exact absurd hw c6
theorem c_X4_readFile (hl : l.stackTraces = false) {M : zMem} {a n s : Nat} {u : Nat → Int32} (hb : eB M a n u) (hd : a + 2 ≤ s ∨ s + 77 ≤ a) {p : Nat} {r : rRd} (hp : zI M a 3 = nI p) (hs : eSy u n p r) {g : Nat → Int64} {q : Nat → Nat} (hg : rSt M s g q) (hN : gNT g) (hNF : gNF g) (h3 : g 3 = (nI (gN g 3)).toInt64) (hrt : ∀ t, t < gN g 2 → nLe (gt g t 0) 1 99999) (hrf : ∀ f, f < gN g 3 → nLe (gf g f 0) 1 999) {g' : Nat → Int64} {r' : rRd} (hf : rFR u n (gN g 3) g r g' r') (hw : ¬ rIw u 3 r = 0) : zCm l G mX4_readFile 6 200 0 0 [.ref a, .ref s] M (tQ M a n s u g' r') := by
  have h320 := hg.b.2.2.1.2
  obtain ⟨r0, ra, rb, nv, rc, h9, ha, hb9, hn, hc, hh⟩ := hf
  refine zCm.of0 (ls0 := [some (.ref a), some (.ref s), none, none, none, none]) (by decide +kernel) rfl hl rfl (Nat.le_of_ble_eq_true rfl) (fun v' M' q => q.2.1.1) (fun x M' q => by cases q.1) ?_
  refine s_aload_n (zdk hX4_readFile_0 0 rfl) rfl ?_
  refine s_ldcS (tx := "file") (k := 3) (zdk hX4_readFile_0 1 rfl) (by decide +kernel) (by decide) ?_
  refine s_callV1 (ci := 4) [.ref (1000000 + 3)] (zdk hX4_readFile_0 2 rfl) cw_X4_65 (hb.1.1) (by decide) rfl rfl rfl (Nat.le_of_ble_eq_true rfl) (by decide) (e_word hl hb hp hs (w := 3) (by decide)) ?_
  intro v9 M1 q9
  obtain ⟨q8, k1, z1, y1⟩ := q9
  cases q8
  have hb1 := hb.keep k1
  have r1 := hg.keep (k1.1.mono (fun c hc => by omega))
  refine s_if_eq 29 (zdk hX4_readFile_0 3 rfl) (by decide) (fun c6 => ?_) (fun c6 => ?_)
  · exact absurd c6 hw
  · refine s_aload_n (zdk hX4_readFile_0 4 rfl) rfl ?_
    refine s_getI (zdk hX4_readFile_0 5 rfl) fw_X4_48 rfl (r1.K) ?_
    refine s_topi (b := nI (gN g 3)) (r1.v4) ?_
    refine s_bipushv (v := nI 20) (zdk hX4_readFile_0 6 rfl) zc_bipush_20 ?_
    refine s_icmp_ne 29 (zdk hX4_readFile_0 7 rfl) (by decide) (fun c15 => ?_) (fun c15 => ?_)
    · have n15 : ¬ (gN g 3) = 20 := nne c15
      have ht : gN g 3 < 20 := by omega
      rw [if_neg n15] at h9
      subst h9
      rw [show rMu u n (nI 1) r = rNx u n r from (if_neg (by decide)).trans (if_pos hs.2.1)] at ha
      have em : rMu u n (rIw u 3 r) r = ra := ((if_neg hw).trans (if_pos hs.2.1)).trans ha
      have wa : ra.2.2.2.2.1 = 0 := by rw [← ha, rNx_wr]; exact hs.2.1
      refine s_aload_n (zdk hX4_readFile_0 14 rfl) rfl ?_
      refine s_ldcS (tx := "file") (k := 3) (zdk hX4_readFile_0 15 rfl) (by decide +kernel) (by decide) ?_
      refine s_callV1 (ci := 4) [.ref (1000000 + 3)] (zdk hX4_readFile_0 16 rfl) cw_X4_55 (hb1.1.1) (by decide) rfl rfl rfl (Nat.le_of_ble_eq_true rfl) (by decide) (e_pass hl hb1 z1 hs.at (w := 3) (by decide)) ?_
      intro v9 M2 q9
      rw [em] at q9
      obtain ⟨q8, k2⟩ := q9
      cases q8
      have hb2 := hb1.keep k2
      have r2 := r1.keep (k2.1.mono (fun c hc => by omega))
      refine s_if_eq 45 (zdk hX4_readFile_0 17 rfl) (by decide) (fun c35 => ?_) (fun c35 => ?_)
      · have b35 : ¬ (ra.2.2.2.2.1 = 0) := b01_eq c35
        exact absurd wa b35
      · have b35 : ra.2.2.2.2.1 = 0 := b01_ne c35
        obtain ⟨e2, p2, hp2, hs2⟩ := k2.y b35
        refine s_aload_n (zdk hX4_readFile_0 18 rfl) rfl ?_
        refine s_callV1 (ci := 4) [] (zdk hX4_readFile_0 19 rfl) cw_X4_87 (hb2.1.1) (by decide) rfl rfl rfl (Nat.le_of_ble_eq_true rfl) (by decide) (e_name hl hb2 hp2 hs2) ?_
        intro v9 M3 q9
        rw [hb9] at q9
        obtain ⟨q8, k3, n3⟩ := q9
        cases q8
        have hb3 := hb2.keep k3
        have r3 := r2.keep (k3.1.mono (fun c hc => by omega))
        refine s_if_ne 47 (zdk hX4_readFile_0 20 rfl) (by decide) (fun c42 => ?_) (fun c42 => ?_)
        · have b42 : rb.2.2.2.2.1 = 0 := b01_ne c42
          rw [if_pos b42] at k3
          have eb : rb = ra := hb9.symm.trans (rMn_wr (by rw [hb9]; exact b42)).1
          have ek := (rMn_wr (r := ra) (by rw [hb9]; exact b42)).2
          have en : zfs (fun i => zpk g (58 + 51 * i + 6) 8) (zpl u ra.1 (ra.2.1 - ra.1)) ((gN g 3) - 0) 0 = nv := by rw [nF_eq hNF hs2 ek.1 ek.2, ← eb]; exact hn
          have ew := rNm_g hs2 ek.1 ek.2
          refine s_aload_n (zdk hX4_readFile_0 23 rfl) rfl ?_
          refine s_aload_n (zdk hX4_readFile_0 24 rfl) rfl ?_
          refine s_getJ (zdk hX4_readFile_0 25 rfl) fw_X4_31 rfl (hb3.1.1) ?_
          refine s_topl (b := zpl u ra.1 (ra.2.1 - ra.1)) ((n3 b42).1) ?_
          refine s_callV0 (ci := 5) [.long (zpl u ra.1 (ra.2.1 - ra.1))] (zdk hX4_readFile_0 26 rfl) cw_X4_123 (r3.K) (by decide) rfl rfl rfl (Nat.le_of_ble_eq_true rfl) (by decide) (c_X5_fileNamed hl r3 _) ?_
          refine s_topi (b := nv) (en) ?_
          refine s_iconstv (v := (-1)) (zdk hX4_readFile_0 27 rfl) zc_iconst_m1 ?_
          refine s_icmp_eq 70 (zdk hX4_readFile_0 28 rfl) (by decide) (fun c56 => ?_) (fun c56 => ?_)
          · have e3 : rc = ra := by rw [← hc, if_pos c56, eb]
            rcases hh with ⟨w, hq⟩ | ⟨w, -⟩
            · obtain ⟨g2, r1, x, v2, q3, r4, nv5, r5, r6, r7, v7, z, hg2, f1, hx, hv2, hr3, hr4, hnv, hr5, hr6, hr7, hv7, hz, he, her, ok⟩ := hq
              subst e3
              obtain ⟨f9, p3, hp3, hs3⟩ := k3.y (by rw [rNx_wr]; exact wa)
              have eg : ∀ k, k < 58 + 51 * gN g 3 → g2 k = g k := fun k hk => by rw [← hg2, rPn_n (by omega), oB0_n (by omega)]
              rw [her]
              refine w_X4_readFile_70 hl hd (((eM.refl.step k1 hs.2.1).step k2 wa).step k3 (by rw [rNx_wr]; exact wa)) hb3 hp3 hs3 (n3 b42).1 r3 ht f1 hx hv2 hr3 hr4 hnv hr5 hr6 hr7 hv7 hz hN hrt hrf (fun k hk => eg k (by omega)) (fun y => ?_) ew.2.2 (fun d hd9 k hk => ?_)
              · rw [gN_eq (eg 3 (by omega))]
                exact zfull_cg _ (fun f hf => ⟨its_eq (eg _ (by omega)), its_eq (eg _ (by omega))⟩)
              · rw [he, hd9]
                exact file_row ht h3 hg2 k
            · exact absurd (by rw [e3]; exact wa) w
          · refine s_aload_n (zdk hX4_readFile_0 29 rfl) rfl ?_
            refine s_bipushv (v := (-5)) (zdk hX4_readFile_0 30 rfl) zc_bipush_m5 ?_
            refine s_aload_n (zdk hX4_readFile_0 31 rfl) rfl ?_
            refine s_getI (zdk hX4_readFile_0 32 rfl) fw_X4_35 rfl (hb3.1.1) ?_
            refine s_topi (b := nI ra.1) ((n3 b42).2) ?_
            refine s_callV0 (ci := 4) [.int ((-5)), .int (nI ra.1)] (zdk hX4_readFile_0 33 rfl) cw_X4_84 (hb3.1.1) (by decide) rfl rfl rfl (Nat.le_of_ble_eq_true rfl) (by decide) (c_X4_fail hl hb3.1 (-5) (nI ra.1)) ?_
            refine s_ireturn (zdk hX4_readFile_0 34 rfl) rfl rfl ?_
            have e : rc = rFl ra (-5) := by rw [← hc, if_neg c56, eb]
            have w5 : ¬ rc.2.2.2.2.1 = 0 := by rw [e, rFl_w wa]; decide
            rcases hh with ⟨w, -⟩ | ⟨w, -, e2, -⟩
            · exact absurd w w5
            · rw [e2]
              exact tQ_n w5 (by rw [e]; exact (k1.tr hs.2.1 k2).tr wa (eR_fail k3.1 k3.2.1 k3.2.2.1 wa (by decide) rfl)) (r3.keep (((zag_I M3 a 4 (-5)).trans (zag_I _ a 1 _)).mono (fun c hc => by omega)))
        · have b42 : ¬ (rb.2.2.2.2.1 = 0) := b01_eq c42
          refine s_iconstv (v := nI 0) (zdk hX4_readFile_0 21 rfl) zc_iconst_0 ?_
          refine s_ireturn (zdk hX4_readFile_0 22 rfl) rfl rfl ?_
          have e : rc = rb := by rw [← hc, ← hn, rNa_w b42, if_pos rfl]
          rw [if_neg b42] at k3
          rcases hh with ⟨w, -⟩ | ⟨w, -, e2, -⟩
          · exact absurd (by rw [← e]; exact w) b42
          · rw [e2, e]; exact tQ_n b42 ((k1.tr hs.2.1 k2).tr wa k3) r3
    · have n15 : gN g 3 = 20 := neq c15 (by omega) (by omega)
      refine s_aload_n (zdk hX4_readFile_0 8 rfl) rfl ?_
      refine s_bipushv (v := (-7)) (zdk hX4_readFile_0 9 rfl) zc_bipush_m7 ?_
      refine s_aload_n (zdk hX4_readFile_0 10 rfl) rfl ?_
      refine s_getI (zdk hX4_readFile_0 11 rfl) fw_X4_22 rfl (hb1.1.1) ?_
      refine s_topi (b := nI r.1) (z1) ?_
      refine s_callV0 (ci := 4) [.int ((-7)), .int (nI r.1)] (zdk hX4_readFile_0 12 rfl) cw_X4_84 (hb1.1.1) (by decide) rfl rfl rfl (Nat.le_of_ble_eq_true rfl) (by decide) (c_X4_fail hl hb1.1 (-7) (nI r.1)) ?_
      refine s_ireturn (zdk hX4_readFile_0 13 rfl) rfl rfl ?_
      have w9 : ¬ r0.2.2.2.2.1 = 0 := by rw [← h9, if_pos n15, rFl_w hs.2.1]; decide
      have ea : ra = r0 := ha.symm.trans (rMu_w w9)
      have e : rc = ra := rX_w hb9 hn hc (by rw [ea]; exact w9)
      rcases hh with ⟨q9, -⟩ | ⟨q9, -, e2, -⟩
      · rw [e, ea] at q9
        exact absurd q9 w9
      · rw [e2, e, ea, ← h9, if_pos n15]
        exact tQ_n (by rw [rFl_w hs.2.1]; decide) (k1.tr hs.2.1 (eR_fail (zag.refl _ _) rfl rfl hs.2.1 (by decide) rfl)) (r1.keep (((zag_I M1 a 4 (-7)).trans (zag_I _ a 1 _)).mono (fun c hc => by omega)))
end
