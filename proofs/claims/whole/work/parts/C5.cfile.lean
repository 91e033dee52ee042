/-! ===== the class reads a file ===== -/
section
variable {l : Launch} {G : zG}
theorem w_X4_readFile_197 (hl : l.stackTraces = false) {B N : zMem} {a n s : Nat} {u : Nat → Int32} (hd : a + 2 ≤ s ∨ s + 77 ≤ a) (hM : eM B N a s) (hbN : eB N a n u) {p : Nat} {z : Int32 × rRd} (hp : zI N a 3 = nI p) (hs : eSy u n p z.2) (hz5 : zI N a 5 = z.1) {g : Nat → Int64} {q : Nat → Nat} (hr : rSt N s g q) (ht : gN g 3 < 20) {ra : rRd} {nm : Int64} (ew : zpk (rNm u ra) 0 8 = nm) {d : Nat} (hd2 : d < gN g 2) {x : Int32} {g' : Nat → Int64} (hg' : ∀ k, k < 1390 → g' k = zwL (oStart g (gN g 3) (rNm u ra) x (nI d) z.1) 3 (nI (gN g 3 + 1)).toInt64 k) : zS l G mX4_readFile 6 200 0 0 197 [some (.ref a), some (.ref s), some (.long (nm)), none, some (.int (x)), some (.int (nI d))] [] N (tQ B a n s u g' (rEn u n z.2)) := by
  refine s_aload_n (zdk hX4_readFile_1 40 rfl) rfl ?_
  refine s_lload_n (zdk hX4_readFile_1 41 rfl) rfl ?_
  refine s_iload (zdk hX4_readFile_1 42 rfl) rfl ?_
  refine s_iload (zdk hX4_readFile_1 43 rfl) rfl ?_
  refine s_aload_n (zdk hX4_readFile_1 44 rfl) rfl ?_
  refine s_getI (zdk hX4_readFile_1 45 rfl) fw_X4_28 rfl (hbN.1.1) ?_
  refine s_topi (b := z.1) (hz5) ?_
  refine s_callV1 (ci := 5) [.long (nm), .int (x), .int (nI d), .int (z.1)] (zdk hX4_readFile_1 46 rfl) cw_X4_133 (hr.K) (by decide) rfl rfl rfl (Nat.le_of_ble_eq_true rfl) (by decide) (c_X5_putFile hl hr (w := rNm u ra) ew ht hd2 x z.1) ?_
  intro v9 M1 q9
  obtain ⟨q8, a3, r3⟩ := q9
  cases q8
  have hb1 := hbN.st hd a3
  have hp1 := (congrFun (a3.2 a (by omega)).1 3).trans hp
  refine s_aload_n (zdk hX4_readFile_1 47 rfl) rfl ?_
  refine s_callV1 (ci := 4) [] (zdk hX4_readFile_1 48 rfl) cw_X4_72 (hb1.1.1) (by decide) rfl rfl rfl (Nat.le_of_ble_eq_true rfl) (by decide) (e_semi hl hb1 hp1 hs) ?_
  intro v9 M2 q9
  obtain ⟨q8, k2⟩ := q9
  cases q8
  have hb2 := hb1.keep k2
  have r2 := r3.keep (k2.1.mono (fun c hc => by omega))
  refine s_ireturn (zdk hX4_readFile_1 49 rfl) rfl nar01 ?_
  exact (hM.st (by omega) a3).q k2 (r2.ext hg') (fun _ => rfl)
theorem w_X4_readFile_161 (hl : l.stackTraces = false) {B N : zMem} {a n s : Nat} {u : Nat → Int32} (hd : a + 2 ≤ s ∨ s + 77 ≤ a) (hM : eM B N a s) (hbN : eB N a n u) {p : Nat} {r7 : rRd} {v7 : Int32} {z : Int32 × rRd} (hp : zI N a 3 = nI p) (hs : eSy u n p r7) (hv7 : rIw u 5 r7 = v7) (hz : (if v7 = 0 then (nI 0, r7) else rTa u n (nI 0) (nI 9999) (rNx u n r7)) = z) {g : Nat → Int64} {q : Nat → Nat} (hr : rSt N s g q) (ht : gN g 3 < 20) {ra : rRd} {nm : Int64} (ew : zpk (rNm u ra) 0 8 = nm) {d : Nat} (hd2 : d < gN g 2) {x : Int32} {g' : Nat → Int64} (hg' : ∀ k, k < 1390 → g' k = zwL (oStart g (gN g 3) (rNm u ra) x (nI d) z.1) 3 (nI (gN g 3 + 1)).toInt64 k) : zS l G mX4_readFile 6 200 0 0 161 [some (.ref a), some (.ref s), some (.long (nm)), none, some (.int (x)), some (.int (nI d))] [] N (tQ B a n s u g' (rEn u n z.2)) := by
  refine s_aload_n (zdk hX4_readFile_1 22 rfl) rfl ?_
  refine s_iconstv (v := nI 0) (zdk hX4_readFile_1 23 rfl) zc_iconst_0 ?_
  refine s_putI (zdk hX4_readFile_1 24 rfl) fw_X4_28 rfl pw_4_5 (hbN.1.1) ?_
  have k0 : eR N (zsI N a 5 (nI 0)) a n u r7 := eR_go (p := p) (zag_I N a 5 _) rfl ((congrFun zI_Ie 0).trans (zw1_n (by decide))) ((congrFun zI_Ie 1).trans (zw1_n (by decide))) (((congrFun zI_Ie 3).trans (zw1_n (by decide))).trans hp) hs
  have hb0 := hbN.keep k0
  have r0 := hr.keep (k0.1.mono (fun c hc => by omega))
  have z0 : zI (zsI N a 5 (nI 0)) a 5 = nI 0 := (congrFun zI_Ie 5).trans zw1_e
  have p0 : zI (zsI N a 5 (nI 0)) a 3 = nI p := ((congrFun zI_Ie 3).trans (zw1_n (by decide))).trans hp
  have hM0 := hM.step k0 hs.2.1
  refine s_aload_n (zdk hX4_readFile_1 25 rfl) rfl ?_
  refine s_ldcS (tx := "pin") (k := 5) (zdk hX4_readFile_1 26 rfl) (by decide +kernel) (by decide) ?_
  refine s_callV1 (ci := 4) [.ref (1000000 + 5)] (zdk hX4_readFile_1 27 rfl) cw_X4_65 (hb0.1.1) (by decide) rfl rfl rfl (Nat.le_of_ble_eq_true rfl) (by decide) (e_word hl hb0 p0 hs (w := 5) (by decide)) ?_
  intro v9 M1 q9
  rw [hv7] at q9
  obtain ⟨q8, k1, z1, y1⟩ := q9
  cases q8
  have hb1 := hb0.keep k1
  have r1 := r0.keep (k1.1.mono (fun c hc => by omega))
  refine s_if_eq 197 (zdk hX4_readFile_1 28 rfl) (by decide) (fun c172 => ?_) (fun c172 => ?_)
  · rw [if_pos c172] at hz
    subst hz
    exact w_X4_readFile_197 hl hd (hM0.step k1 hs.2.1) hb1 z1 hs.at (y1.trans z0) r1 ht ew hd2 hg'
  · rw [if_neg c172] at hz
    have em : rMu u n v7 r7 = rNx u n r7 := (if_neg c172).trans (if_pos hs.2.1)
    refine s_aload_n (zdk hX4_readFile_1 29 rfl) rfl ?_
    refine s_ldcS (tx := "pin") (k := 5) (zdk hX4_readFile_1 30 rfl) (by decide +kernel) (by decide) ?_
    refine s_callV1 (ci := 4) [.ref (1000000 + 5)] (zdk hX4_readFile_1 31 rfl) cw_X4_55 (hb1.1.1) (by decide) rfl rfl rfl (Nat.le_of_ble_eq_true rfl) (by decide) (e_pass hl hb1 z1 hs.at (w := 5) (by decide)) ?_
    intro v9 M2 q9
    rw [hv7, em] at q9
    obtain ⟨q8, k2⟩ := q9
    cases q8
    have hb2 := hb1.keep k2
    have r2 := r1.keep (k2.1.mono (fun c hc => by omega))
    refine s_if_eq 195 (zdk hX4_readFile_1 32 rfl) (by decide) (fun c181 => ?_) (fun c181 => ?_)
    · have b181 : ¬ ((rNx u n r7).2.2.2.2.1 = 0) := b01_eq c181
      exact absurd hs.nx.2.1 b181
    · have b181 : (rNx u n r7).2.2.2.2.1 = 0 := b01_ne c181
      obtain ⟨e2, p2, hp2, hs2⟩ := k2.y b181
      refine s_aload_n (zdk hX4_readFile_1 33 rfl) rfl ?_
      refine s_iconstv (v := nI 0) (zdk hX4_readFile_1 34 rfl) zc_iconst_0 ?_
      refine s_sipushv (v := nI 9999) (zdk hX4_readFile_1 35 rfl) zc_sipush_9999 ?_
      refine s_callV1 (ci := 4) [.int (nI 0), .int (nI 9999)] (zdk hX4_readFile_1 36 rfl) cw_X4_59 (hb2.1.1) (by decide) rfl rfl rfl (Nat.le_of_ble_eq_true rfl) (by decide) (e_num hl hb2 hp2 hs2 (nI 0) (hi := nI 9999) (by decide)) ?_
      intro v9 M3 q9
      rw [hz] at q9
      obtain ⟨q8, k3, m3⟩ := q9
      cases q8
      have hb3 := hb2.keep k3
      have r3 := r2.keep (k3.1.mono (fun c hc => by omega))
      refine s_if_ne 197 (zdk hX4_readFile_1 37 rfl) (by decide) (fun c192 => ?_) (fun c192 => ?_)
      · have b192 : z.2.2.2.2.2.1 = 0 := b01_ne c192
        obtain ⟨e3, p3, hp3, hs3⟩ := k3.y b192
        exact w_X4_readFile_197 hl hd (((hM0.step k1 hs.2.1).step k2 b181).step k3 b192) hb3 hp3 hs3 (m3 b192) r3 ht ew hd2 hg'
      · have b192 : ¬ (z.2.2.2.2.2.1 = 0) := b01_eq c192
        refine s_iconstv (v := nI 0) (zdk hX4_readFile_1 38 rfl) zc_iconst_0 ?_
        refine s_ireturn (zdk hX4_readFile_1 39 rfl) rfl rfl ?_
        rw [rEn_w b192]
        exact ((hM0.step k1 hs.2.1).step k2 b181).qn b192 k3 r3
theorem w_X4_readFile_112 (hl : l.stackTraces = false) {B N : zMem} {a n s : Nat} {u : Nat → Int32} (hd : a + 2 ≤ s ∨ s + 77 ≤ a) (hM : eM B N a s) (hbN : eB N a n u) {p : Nat} {r3 r4 r5 r6 r7 : rRd} {v7 nv x : Int32} {z : Int32 × rRd} (hp : zI N a 3 = nI p) (hs : eSy u n p (rNx u n r3)) (n6 : zJ N a 6 = zpl u r3.1 (r3.2.1 - r3.1)) (n7 : zI N a 7 = nI r3.1) (ws : r3.2.2.2.2.1 = 0) (e4 : r4 = r3) {g : Nat → Int64} {q : Nat → Nat} (hr : rSt N s g q) (ht : gN g 3 < 20) {g2 : Nat → Int64} (en : zfs (fun i => zpk g (6 + 13 * i + 5) 8) (zpl u r3.1 (r3.2.1 - r3.1)) ((gN g 2) - 0) 0 = nv) (en2 : rNa g u r3 11 13 (gN g 2) = nv) (hr5 : (if nv = -1 then rFl r4 (-4) else r4) = r5) (hr6 : (if r5.2.2.2.2.1 = 0 ∧ gt g2 nv.toNatClampNeg 0 - zfull g2 nv (gN g2 3) < x then rFl r5 (-6) else r5) = r6) (hr7 : rMu u n (nI 1) r6 = r7) (hv7 : rIw u 5 r7 = v7) (hz : (if v7 = 0 then (nI 0, r7) else rTa u n (nI 0) (nI 9999) (rNx u n r7)) = z) (hrt : ∀ t, t < gN g 2 → nLe (gt g t 0) 1 99999) (hrf : ∀ f, f < gN g 3 → nLe (gf g f 0) 1 999) (hx9 : nLe x 0 999) (eg1 : ∀ t, t < 4 → gt g2 t 0 = gt g t 0) (eg2 : ∀ y, zfull g2 y (gN g2 3) = zfull g y (gN g 3)) {ra : rRd} {nm : Int64} (ew : zpk (rNm u ra) 0 8 = nm) {g' : Nat → Int64} (hg' : ∀ d, nv = nI d → ∀ k, k < 1390 → g' k = zwL (oStart g (gN g 3) (rNm u ra) x (nI d) z.1) 3 (nI (gN g 3 + 1)).toInt64 k) : zS l G mX4_readFile 6 200 0 0 112 [some (.ref a), some (.ref s), some (.long (nm)), none, some (.int (x)), none] [] N (tQ B a n s u g' (rEn u n z.2)) := by
  have h24 := hr.b.2.1.2
  refine s_aload_n (zdk hX4_readFile_0 57 rfl) rfl ?_
  refine s_aload_n (zdk hX4_readFile_0 58 rfl) rfl ?_
  refine s_getJ (zdk hX4_readFile_0 59 rfl) fw_X4_31 rfl (hbN.1.1) ?_
  refine s_topl (b := zpl u r3.1 (r3.2.1 - r3.1)) (n6) ?_
  refine s_callV0 (ci := 5) [.long (zpl u r3.1 (r3.2.1 - r3.1))] (zdk hX4_readFile_1 0 rfl) cw_X4_90 (hr.K) (by decide) rfl rfl rfl (Nat.le_of_ble_eq_true rfl) (by decide) (c_X5_tierNamed hl hr _) ?_
  refine s_topi (b := nv) (en) ?_
  refine s_istore (zdk hX4_readFile_1 1 rfl) (Nat.le_of_ble_eq_true rfl) ?_
  refine s_ls (ls' := [some (.ref a), some (.ref s), some (.long (nm)), none, some (.int (x)), some (.int (nv))]) rfl ?_
  refine s_iload (zdk hX4_readFile_1 2 rfl) rfl ?_
  refine s_iconstv (v := (-1)) (zdk hX4_readFile_1 3 rfl) zc_iconst_m1 ?_
  refine s_icmp_ne 139 (zdk hX4_readFile_1 4 rfl) (by decide) (fun c125 => ?_) (fun c125 => ?_)
  · have e5 : r5 = r4 := by rw [← hr5, if_neg c125]
    obtain ⟨d, hd2, rfl⟩ : ∃ d, d < gN g 2 ∧ nv = nI d := by
      rw [show rNa g u r3 11 13 (gN g 2) = rNd g u r3 11 13 (gN g 2) 0 from if_pos ws] at en2
      rcases rNd_in (g := g) (u := u) (r := r3) (b := 11) (sz := 13) (gN g 2) 0 with q8 | ⟨d, -, q5, q6, -⟩
      · exact absurd (en2.symm.trans q8) c125
      · exact ⟨d, by omega, en2.symm.trans q6⟩
    have hd4 : d < 4 := by omega
    refine s_aload_n (zdk hX4_readFile_1 11 rfl) rfl ?_
    refine s_iload (zdk hX4_readFile_1 12 rfl) rfl ?_
    refine s_iload (zdk hX4_readFile_1 13 rfl) rfl ?_
    refine s_callV0 (ci := 5) [.int (nI d), .int (x)] (zdk hX4_readFile_1 14 rfl) cw_X4_128 (hr.K) (by decide) rfl rfl rfl (Nat.le_of_ble_eq_true rfl) (by decide) (c_X5_hasRoomFor hl hr (t := d) hd2 x) ?_
    refine s_if_ne 161 (zdk hX4_readFile_1 15 rfl) (by decide) (fun c147 => ?_) (fun c147 => ?_)
    · have b147 : zfull g (nI d) (gN g 3) + x ≤ gt g d 0 := b01_ne c147
      have e6 : r6 = r5 := by
        rw [← hr6]
        refine if_neg (fun q9 => ?_)
        have q8 := q9.2
        rw [nI_clamp (by omega), eg1 d hd4, eg2] at q8
        exact (room_g (x := nI d) (by omega) (hrt d hd2) hrf hx9).mp b147 q8
      have e7 : r7 = rNx u n r3 := by
        rw [← hr7, e6, e5, e4]
        exact (if_neg (by decide)).trans (if_pos ws)
      rw [← e7] at hs
      exact w_X4_readFile_161 hl hd hM hbN hp hs hv7 hz hr ht ew hd2 (hg' d rfl)
    · have b147 : ¬ (zfull g (nI d) (gN g 3) + x ≤ gt g d 0) := b01_eq c147
      refine s_aload_n (zdk hX4_readFile_1 16 rfl) rfl ?_
      refine s_bipushv (v := (-6)) (zdk hX4_readFile_1 17 rfl) zc_bipush_m6 ?_
      refine s_aload_n (zdk hX4_readFile_1 18 rfl) rfl ?_
      refine s_getI (zdk hX4_readFile_1 19 rfl) fw_X4_35 rfl (hbN.1.1) ?_
      refine s_topi (b := nI r3.1) (n7) ?_
      refine s_callV0 (ci := 4) [.int ((-6)), .int (nI r3.1)] (zdk hX4_readFile_1 20 rfl) cw_X4_84 (hbN.1.1) (by decide) rfl rfl rfl (Nat.le_of_ble_eq_true rfl) (by decide) (c_X4_fail hl hbN.1 (-6) (nI r3.1)) ?_
      refine s_ireturn (zdk hX4_readFile_1 21 rfl) rfl rfl ?_
      have ex : r6 = rFl r3 (-6) := by
        rw [← hr6, e5, e4]
        refine if_pos ⟨ws, ?_⟩
        rw [nI_clamp (by omega), eg1 d hd4, eg2]
        exact Classical.byContradiction fun q8 => b147 ((room_g (x := nI d) (by omega) (hrt d hd2) hrf hx9).mpr q8)
      have w9 : ¬ r6.2.2.2.2.1 = 0 := by rw [ex]; rw [rFl_w ws]; decide
      rw [fz6 hr7 hv7 hz w9]
      exact hM.qn w9 (by rw [ex]; exact eR_fail (zag.refl _ _) rfl rfl ws (by decide) rfl) (hr.keep (((zag_I N a 4 _).trans (zag_I _ a 1 _)).mono (fun c hc => by omega)))
  · refine s_aload_n (zdk hX4_readFile_1 5 rfl) rfl ?_
    refine s_bipushv (v := (-4)) (zdk hX4_readFile_1 6 rfl) zc_bipush_m4 ?_
    refine s_aload_n (zdk hX4_readFile_1 7 rfl) rfl ?_
    refine s_getI (zdk hX4_readFile_1 8 rfl) fw_X4_35 rfl (hbN.1.1) ?_
    refine s_topi (b := nI r3.1) (n7) ?_
    refine s_callV0 (ci := 4) [.int ((-4)), .int (nI r3.1)] (zdk hX4_readFile_1 9 rfl) cw_X4_84 (hbN.1.1) (by decide) rfl rfl rfl (Nat.le_of_ble_eq_true rfl) (by decide) (c_X4_fail hl hbN.1 (-4) (nI r3.1)) ?_
    refine s_ireturn (zdk hX4_readFile_1 10 rfl) rfl rfl ?_
    have ex : r5 = rFl r3 (-4) := by rw [← hr5, if_pos c125, e4]
    have w9 : ¬ r5.2.2.2.2.1 = 0 := by rw [ex]; rw [rFl_w ws]; decide
    rw [fz5 hr6 hr7 hv7 hz w9]
    exact hM.qn w9 (by rw [ex]; exact eR_fail (zag.refl _ _) rfl rfl ws (by decide) rfl) (hr.keep (((zag_I N a 4 _).trans (zag_I _ a 1 _)).mono (fun c hc => by omega)))
end
