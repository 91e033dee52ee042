/-! ===== going back ===== -/
/-- a row below 1390, another behind -/
def zcut (g h : Nat → Int64) : Nat → Int64 := fun k => if k < 1390 then h k else g k
theorem zcut_lo {g h : Nat → Int64} {k : Nat} (hk : k < 1390) : zcut g h k = h k := if_pos hk
theorem zcut_c {K g h : Nat → Int64} {a : Nat} (e : ∀ k, k < 1390 → K (a + k) = h k) : va_cpy K g a 0 1390 = zcut g h := by
  funext k
  unfold va_cpy zcut
  by_cases q : k < 1390
  · rw [if_pos (by omega), if_pos q, ← e k q]
    exact congrArg K (by omega)
  · rw [if_neg (by omega), if_neg q]
theorem gInv_cut {g h : Nat → Int64} (i : gInv h) : gInv (zcut g h) := gInv_lo i (fun k hk => zcut_lo (by omega))
section
variable {l : Launch} {G : zG} {y1 y2 y8 : zMD} {as : List Value} {M : zMem} {S : Nat → Nat → Int64} {c d n w fr lo : Nat} {u v : Nat → Int32} {e : Int32} {sl : Nat → Int32} {cd : Nat → Nat} {xs : List Nat} {P : Option Value → zMem → Prop}
theorem opD_q {C : Option Value → Prop} {r : Value} (hC : C (some r)) (hI : IV M S c d n u w v e sl) (h8 : zCx2 l G y8 10 400 5 30 [.ref 0] M (zXr none M (zP1 (some r) M))) (hr : fr ≤ 7 ∧ lo ≤ 240) (h9 : ∀ M1, mSh M1 → zCm l G y2 fr lo 0 0 [.ref 941] (zsL M1 942 (S 630)) (zD (some r) (zsL (zsI M1 941 6 (nI 0)) 942 (S 630)))) : opD l G C y8 y2 M := by
  refine opD_u hC (r := some r) (e' := e) (v' := v) hI (by decide) (zCm.of2 h8 fun x M' q => by cases q.1) (fun v0 M1 q => ?_) hI.1 hr fun M1 hf => ?_
  · obtain ⟨-, q1, rfl⟩ := q
    exact ⟨q1, hI.2.1, zag.refl _ _⟩
  · have := h9 M1 hf.m
    rw [hf.id] at this
    refine this.imp fun v0 M2 q => ?_
    obtain ⟨q1, rfl⟩ := q
    have e1 : zsL (zsI M1 941 6 (nI 0)) 942 (S 630) = zsI M1 941 6 (nI 0) := (hf.th (t := nI 0)).id
    rw [e1]
    exact ⟨q1, hf.th, zag_th⟩
theorem opD_p {C : Option Value → Prop} {r : Value} {g' : Nat → Int64} (hC : C (some r)) (hI : IV M S c d n u w v e sl) (h8 : zCx2 l G y8 10 400 5 30 [.ref 0] M (zXr none M (uP (some r) M S c d g'))) (hg : gInv g') (hr : fr ≤ 7 ∧ lo ≤ 240) (h9 : ∀ M1, mSh M1 → zI M1 941 5 = nI c → zCm l G y2 fr lo 0 0 [.ref 941] (zsL M1 942 (S 630)) (zD (some r) (zsL (KP M1 c (S 630)) 942 g'))) : opD l G C y8 y2 M := by
  refine opD_u hC (r := some r) (e' := e) (v' := v) hI (by decide) (zCm.of2 h8 fun x M' q => by cases q.1) (fun v0 M1 q => ?_) (hI.1.up hg) hr fun M1 hf => ?_
  · have := hI.2.1.up q.2
    exact ⟨q.2.1, this.1, this.2⟩
  · have := h9 M1 hf.m hf.c5
    rw [hf.id] at this
    refine this.imp fun v0 M2 q => ?_
    obtain ⟨q1, rfl⟩ := q
    exact ⟨q1, hf.kp hI.1, zag_KP⟩
end
theorem gOK.un {S : Nat → Nat → Int64} {c d n w : Nat} {u : Nat → Int32} {sl : Nat → Int32} (h : gOK S c d n u w sl) (h0 : 0 < c) : gOK (zup S 630 (zcut (S 630) (S (14 + 77 * ((d + 7) % 8))))) (c - 1) ((d + 7) % 8) n u w sl := by
  obtain ⟨h1, h2, h3, h4, h5, h6, h7, h8⟩ := h
  refine ⟨by omega, Nat.mod_lt _ (by decide), h3, h4, h5, ?_, fun i hi => ?_, fun s hs hz => by rw [zup_n (by omega)]; exact h8 s hs hz⟩
  · rw [zup_e]
    have := h7 (c - 1) (by omega)
    rw [show (d + 8 - c + (c - 1)) % 8 = (d + 7) % 8 by omega] at this
    exact gInv_cut this
  · have hm : ((d + 7) % 8 + 8 - (c - 1) + i) % 8 < 8 := Nat.mod_lt _ (by decide)
    rw [zup_n (by omega), show ((d + 7) % 8 + 8 - (c - 1) + i) % 8 = (d + 8 - c + i) % 8 by omega]
    exact h7 i (by omega)
theorem zup_ext {S : Nat → Nat → Int64} {a : Nat} {g h : Nat → Int64} (e : ∀ k, k < 1390 → g k = h k) (s k : Nat) (hk : k < 1390) : zup S a g s k = zup S a h s k := by
  by_cases q : s = a
  · rw [q, zup_e, zup_e]; exact e k hk
  · rw [zup_n q, zup_n q]
theorem gOK.sv {S : Nat → Nat → Int64} {c d n w s : Nat} {u : Nat → Int32} {sl : Nat → Int32} (h : gOK S c d n u w sl) (hs : s < 2) : gOK (zup S (787 + 77 * s) (S 630)) c d n u w (zw1 sl s (nI 1)) := by
  obtain ⟨h1, h2, h3, h4, h5, h6, h7, h8⟩ := h
  refine ⟨h1, h2, h3, h4, h5, ?_, fun i hi => ?_, fun t ht hz => ?_⟩
  · rw [zup_n (by omega)]; exact h6
  · have hm : (d + 8 - c + i) % 8 < 8 := Nat.mod_lt _ (by decide)
    rw [zup_n (by omega)]; exact h7 i hi
  · by_cases q : t = s
    · rw [q, zup_e]; exact h6
    · rw [zup_n (by omega)]
      exact h8 t ht (fun z => hz ((if_neg q).trans z))
section
variable {l : Launch} {G : zG} {M : zMem}
theorem op_close (hl : l.stackTraces = false) (hI : INV M) : opD l G cJ mX8_close mX9_close M := by
  obtain ⟨S, c, d, n, u, w, v, e, sl, hI⟩ := hI
  have hg := hI.g
  have hf20 := hg.f20
  have ht4 := hg.t4
  obtain ⟨p, hs⟩ := hI.W 630 zst_now
  by_cases h9 : gN (S 630) 4 = 9999
  · exact opD_q ⟨_, rfl⟩ hI (c_X8_close_x hl hI.x hI.W hs hI.F hI.hc hI.c8 hI.hd hI.d8 h9) (by decide) (fun M1 hm => c_X9_close_x hl hm hg.1 (hg.i 4 (by omega)) h9)
  · refine opD_p ⟨_, rfl⟩ (fr := 5) (lo := 124) hI (c_X8_close hl hI.x hI.W hs hI.F hI.hc hI.c8 hI.hd hI.d8 h9) (gInv_end hg (by have := hg.1.2.2.2.1.2; omega)) (by decide) (fun M1 hm h5 => ?_)
    have := c_X9_close (G := G) hl hm hg.1 h5 hI.c8 h9 (hg.i 4 (by omega))
    rw [rEnd_o hg.1 hg.s, rEndV_o hg.1 hg.s] at this
    exact this
theorem op_unmove (hl : l.stackTraces = false) (hI : INV M) : opD l G cI mX8_unmove mX9_unmove M := by
  obtain ⟨S, c, d, n, u, w, v, e, sl, hI⟩ := hI
  have hg := hI.g
  have hf20 := hg.f20
  have ht4 := hg.t4
  obtain ⟨p, hs⟩ := hI.W 630 zst_now
  by_cases h0 : gN (S 630) 5 = 0
  · exact opD_q ⟨_, rfl⟩ hI (c_X8_unmove_0 hl hI.x hI.W hs hI.F hI.hc hI.c8 hI.hd hI.d8 h0) (by decide) (fun M1 hm => c_X9_unmove_0 hl hm hg.1 hg.2.1 h0)
  · have h0' : 0 < gN (S 630) 5 := by omega
    have hw := hg.1.2.2.2.2.2.2 (gN (S 630) 5 - 1) (by omega)
    have f9 : oLf (S 630) < gN (S 630) 3 := hw.1.2
    have t9 : oLa (S 630) < gN (S 630) 2 := hw.2.1.2
    have hroom := room_g (x := nI (oLa (S 630))) hg.f20 (hg.2.2.2.2.1.2.1 _ t9).1 (fun f hf => (hg.2.2.2.2.1.2.2 f hf).1) ((hg.2.2.2.2.1.2.2 _ f9).1.mono (lo' := 0) (hi' := 999) (by decide) (by decide))
    by_cases hr : zfull (S 630) (nI (oLa (S 630))) (gN (S 630) 3) + gf (S 630) (oLf (S 630)) 0 ≤ gt (S 630) (oLa (S 630)) 0
    · exact opD_p ⟨_, rfl⟩ hI (c_X8_unmove hl hI.x hI.W hs hI.F hI.hc hI.c8 hI.hd hI.d8 h0' hr) (gInv_bk hg h0') (by decide) (fun M1 hm h5 => c_X9_unmove hl hm hg.1 hg.2.1 h5 hI.c8 h0' (hroom.mp hr))
    · exact opD_q ⟨_, rfl⟩ hI (c_X8_unmove_r hl hI.x hI.W hs hI.F hI.hc hI.c8 hI.hd hI.d8 h0' hr) (by decide) (fun M1 hm => c_X9_unmove_r hl hm hg.1 hg.2.1 h0' (Classical.not_not.mp (fun q => hr (hroom.mpr q))))
theorem op_undo (hl : l.stackTraces = false) (hI : INV M) : opI l G mL_undo mX9_undo [] M := by
  obtain ⟨S, c, d, n, u, w, v, e, sl, hI⟩ := hI
  have hg := hI.g
  have hf20 := hg.f20
  have ht4 := hg.t4
  obtain ⟨p, hs⟩ := hI.W 630 zst_now
  by_cases h0 : c = 0
  · subst h0
    exact opI_x hI (fun Q1 h hw => c_L_undo hl hI.K h hw) (c_X8_undo_x hl hI.x hI.W hs hI.F hI.hc hI.c8 hI.hd hI.d8 rfl) (by decide) (by decide) (by decide) (fun hm => c_X9_undo_x hl hm (by have := hI.2.2.1.c5; exact this))
  · have h0' : 0 < c := by omega
    refine opI_u (r := nI (c - 1)) (e' := e) (v' := v) (fr := 1) (lo := 30) hI (fun Q1 h hw => c_L_undo hl hI.K h hw) (c_X8_undo hl hI.x hI.W hs hI.F hI.hc hI.c8 hI.hd hI.d8 h0') (fun v0 M1 q => ?_) (hI.1.un h0') (by decide) (fun M1 hf => ?_)
    · have := hI.2.1.un q.2
      exact ⟨q.1, this.1.ext (zup_ext fun k hk => zcut_lo hk), this.2⟩
    · have := c_X9_undo (G := G) (g := S 630) hl hf.m hf.c5 hI.c8 h0'
      rw [hf.id] at this
      refine this.imp fun v0 M2 q => ?_
      obtain ⟨q1, rfl⟩ := q
      have hd8 := hI.d8
      have hc8 := hI.c8
      obtain ⟨z1, z2, z3, z4, z5, z6⟩ := hf
      rw [zcut_c (h := S (14 + 77 * ((d + 7) % 8))) (fun k hk => by rw [z4 (c - 1) (by omega) k hk, show (d + 8 - c + (c - 1)) % 8 = (d + 7) % 8 by omega])]
      refine ⟨⟨q1, ⟨z1.keep rfl rfl, by rw [zup_e]; rfl, rfl, fun i hi k hk => ?_, fun s hs => ?_, z6⟩, ?_⟩, rfl⟩
      · have hm : ((d + 7) % 8 + 8 - (c - 1) + i) % 8 < 8 := Nat.mod_lt _ (by decide)
        rw [zup_n (by omega), show ((d + 7) % 8 + 8 - (c - 1) + i) % 8 = (d + 8 - c + i) % 8 by omega]
        exact z4 i (by omega) k hk
      · rw [zup_n (by omega)]
        exact z5 s hs
      · exact ⟨rfl, fun b hb => ⟨(if_neg (by omega)).trans (if_neg (by omega)), if_neg (by omega), rfl⟩⟩
theorem op_restore (hl : l.stackTraces = false) (hI : INV M) (a : Int32) : opI l G mL_restore mX9_restore [.int a] M := by
  obtain ⟨S, c, d, n, u, w, v, e, sl, hI⟩ := hI
  have hg := hI.g
  have hf20 := hg.f20
  have ht4 := hg.t4
  obtain ⟨p, hs⟩ := hI.W 630 zst_now
  by_cases hx : inN a 2
  · obtain ⟨s, rfl, s9⟩ := inN_nat hx (by omega)
    have hz5 := (hI.2.1.2.2.2.2.2.2.2.2.2 s s9)
    have hz9 := (hI.2.2.1.2.2.2.2.1 s s9).1
    by_cases hz : sl s = 0
    · exact opI_x hI (fun Q1 h hw => c_L_restore hl hI.K _ h hw) (c_X8_restore_e hl hI.x hI.W hs hI.F hI.hc hI.c8 hI.hd hI.d8 s9 (hz5.trans hz)) (by decide) (by decide) (by decide) (fun hm => c_X9_restore_e hl hm s9 (hz9.trans hz))
    · have hgs := hI.1.2.2.2.2.2.2.2 s s9 hz
      have hup := hI.1.up (gInv_cut (g := S 630) hgs)
      refine opI_u (r := nI (gN (S (787 + 77 * s)) 4)) (e' := e) (v' := v) (fr := 2) (lo := 52) hI (fun Q1 h hw => c_L_restore hl hI.K _ h hw) (c_X8_restore hl hI.x hI.W hs hI.F hI.hc hI.c8 hI.hd hI.d8 s9 (fun q => hz (hz5.symm.trans q))) (fun v0 M1 q => ?_) hup (by decide) (fun M1 hf => ?_)
      · have := hI.2.1.up q
        exact ⟨q.1, this.1.ext (zup_ext fun k hk => zcut_lo hk), this.2⟩
      · have := c_X9_restore (G := G) (g := S 630) hl hf.m hf.c5 hI.c8 s9 (fun q => hz ((hf.2.2.2.2.1 s s9).1.symm.trans q))
        rw [hf.id, zcut_c (h := S (787 + 77 * s)) (fun k hk => (hf.2.2.2.2.1 s s9).2 hz k hk)] at this
        refine this.imp fun v0 M2 q => ?_
        obtain ⟨q1, rfl⟩ := q
        refine ⟨⟨q1.trans ?_, hf.kp hI.1, zag_KP⟩, rfl⟩
        rw [show its (zcut (S 630) (S (787 + 77 * s))) 4 = its (S (787 + 77 * s)) 4 from congrArg Int64.toInt32 (zcut_lo (by omega)), hgs.1.2.2.2.1.1]
  · exact opI_y hI (fun Q1 h hw => c_L_restore hl hI.K _ h hw) (c_X8_restore_x hl hI.x hI.W hs hI.F hI.hc hI.c8 hI.hd hI.d8 a hx) (by decide) (fun M1 hm => c_X9_restore_x hl hm a hx) ⟨2, by simp only [eo, if_neg hx], by decide, rfl, by decide⟩
theorem op_save (hl : l.stackTraces = false) (hI : INV M) (a : Int32) : opV l G mL_save mX9_save [.int a] M := by
  obtain ⟨S, c, d, n, u, w, v, e, sl, hI⟩ := hI
  have hg := hI.g
  have hf20 := hg.f20
  have ht4 := hg.t4
  obtain ⟨p, hs⟩ := hI.W 630 zst_now
  obtain ⟨ho, hc, hf, hO⟩ := hI
  have hI : IV M S c d n u w v e sl := ⟨ho, hc, hf, hO⟩
  by_cases hx : inN a 2
  · obtain ⟨s, rfl, s9⟩ := inN_nat hx (by omega)
    refine (c_L_save hl hI.K _ (c_X8_save hl hI.x hI.W hs hI.F hI.hc hI.c8 hI.hd hI.d8 s9) ⟨fun v0 M' q => ⟨q.2.1, (zsh_F q.2.2.1.1).trans hO.2.2⟩, fun x M' q => by cases q.1⟩).imp fun v0 M1 q => ?_
    rcases q with ⟨⟨-, -, q1⟩, q2⟩ | ⟨x, ⟨q1, -⟩, -⟩
    · obtain ⟨z2, z3⟩ := hc.sv q1
      have f1 := hf.bel z3
      refine ⟨_, q2, opR_th (r := none) (th := nI 0) (fr := 1) (lo := 30) (e' := e) (v' := v) f1.m (by decide) ?_ (ho.sv s9) z2 (hO.keep z3.1) fun M3 y1 y2 y3 => ⟨rfl, y1, y3⟩⟩
      have := c_X9_save (G := G) (g := S 630) hl f1.m s9
      rw [f1.id] at this
      refine this.imp fun v1 M2 q => ?_
      obtain ⟨p1, rfl⟩ := q
      have e0 : (S 630) = zJ M1 942 := f1.2.1.symm
      obtain ⟨k1, k2, k3, k4, k5, k6⟩ := f1
      refine ⟨⟨p1, ⟨k1.keep rfl rfl, by rw [zup_n (by omega)]; rfl, k3, fun i hi k hk => ?_, fun t ht => ?_, k6⟩, ?_⟩, rfl⟩
      · have hm : (d + 8 - c + i) % 8 < 8 := Nat.mod_lt _ (by decide)
        rw [zup_n (by omega)]
        exact k4 i hi k hk
      · refine ⟨?_, fun hz k hk => ?_⟩
        · show (if t = s then nI 1 else zI M1 946 t) = if t = s then nI 1 else sl t
          rw [(k5 t ht).1]
        · show va_cpy (S 630) (zJ M1 945) 0 (1390 * s) 1390 (1390 * t + k) = _
          unfold va_cpy
          by_cases z : t = s
          · rw [if_pos (by omega), z, zup_e]
            exact congrArg (S 630) (by omega)
          · rw [if_neg (by omega), zup_n (by omega)]
            exact (k5 t ht).2 (fun q => hz ((if_neg z).trans q)) k hk
      · exact ⟨rfl, fun b hb => ⟨(if_neg (by omega)).trans (if_neg (by omega)), (if_neg (by omega)).trans (if_neg (by omega)), rfl⟩⟩
    · cases q1
  · have h8 := c_X8_save_x (G := G) hl hI.x hI.W hs hI.F hI.hc hI.c8 hI.hd hI.d8 a hx
    rw [show eo (inN a 2) 2 none = some 2 by simp only [eo, if_neg hx]] at h8
    refine (c_L_save hl hI.K _ h8 ⟨fun v0 M' q => (by cases q.1), fun x M' q => ?_⟩).imp fun v0 M1 q => ?_
    · obtain ⟨q1, rfl⟩ := q
      cases q1
      exact ⟨by decide, hO.2.2⟩
    · rcases q with ⟨q1, -⟩ | ⟨x, ⟨q1, rfl⟩, q2⟩
      · cases q1.1
      · refine ⟨_, q2, opR_th (r := none) (th := nI 1) (fr := 1) (lo := 30) (e' := e) (v' := v) hf.m (by decide) ?_ ho hc hO fun M3 y1 y2 y3 => ⟨rfl, y1, y3⟩⟩
        have := c_X9_save_x (G := G) (g := S 630) hl hf.m a hx
        rw [hf.id] at this
        refine this.imp fun v1 M2 q => ?_
        obtain ⟨p1, rfl⟩ := q
        have e1 : zsL (zsI M1 941 6 (nI 1)) 942 (S 630) = zsI M1 941 6 (nI 1) := (hf.th (t := nI 1)).id
        rw [e1]
        exact ⟨⟨p1, hf.th, zag_th⟩, zI_thr⟩
end
