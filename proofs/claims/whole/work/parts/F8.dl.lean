/-! ===== drop, load ===== -/
theorem zphi_len (x : Int32) (r : Nat → Int32) : (zphi x r).length ≤ 1 := by
  unfold zphi
  split
  · simp
  · split <;> simp
theorem fm_len (x : Int32) (h : Nat → Nat → Int32) : ∀ L : List Nat, (L.flatMap (fun w => zphi x (h w))).length ≤ L.length
  | [] => by simp
  | a :: t => by
    have h1 := zphi_len x (h a)
    have h2 := fm_len x h t
    rw [List.flatMap_cons, List.length_append, List.length_cons]
    omega
theorem zphi_0 {g : Nat → Int64} {w k : Nat} {x : Int32} {r : Nat → Int32} (h : r ∈ zphi x (grow g w)) (hk : 5 ≤ k) : r k = 0 := by
  have h0 : grow g w k = 0 := if_neg (by omega)
  unfold zphi at h
  split at h
  · cases h
  · split at h
    · rw [List.mem_singleton.mp h]; exact h0
    · rw [List.mem_singleton.mp h]
      show (if k = 0 then _ else grow g w k) = 0
      rw [if_neg (by omega)]
      exact h0
/-- one row that a going leaves -/
theorem zDr_ex {g : Nat → Int64} {f : Nat} (hb : gBd g) : ∃ g', zDr g f g' := by
  obtain ⟨L, hL⟩ : ∃ L, (List.range (gN g 5)).flatMap (fun w => zphi (nI f) (grow g w)) = L := ⟨_, rfl⟩
  have h60 := hb.2.2.2.2.1.2
  have h20 := hb.2.2.1.2
  have hz0 : ∀ r, r ∈ L → ∀ k, 5 ≤ k → r k = 0 := by
    rw [← hL]
    intro r hr k hk
    obtain ⟨w', -, hr'⟩ := List.mem_flatMap.mp hr
    exact zphi_0 hr' hk
  have hl : L.length ≤ 60 := by
    have := fm_len (nI f) (grow g) (List.range (gN g 5))
    rw [hL, List.length_range] at this
    omega
  refine ⟨fun k => if k = 3 then (nI (gN g 3 - 1)).toInt64 else if k = 5 then (nI L.length).toInt64 else if k < 58 ∨ 1378 ≤ k then g k else if k < 1078 then g (if (k - 58) / 51 < f then k else k + 51) else ((L[(k - 1078) / 5]?.getD (fun _ => 0)) ((k - 1078) % 5)).toInt64, fun k hk h3 h5 => ?_, ?_, fun f' hf' k hk => ?_, fun k hk => ?_, L.length, hl, ?_, ?_⟩
  · dsimp only
    rw [if_neg h3, if_neg h5, if_pos (Or.inl hk)]
  · show (nI (gN g 3 - 1)).toInt64.toInt32 = _
    exact i64 _
  · dsimp only
    rw [if_neg (by omega), if_neg (by omega), if_neg (by omega), if_pos (by omega), show (58 + 51 * f' + k - 58) / 51 = f' by omega]
    by_cases q : f' < f
    · rw [if_pos q, if_pos q]
    · rw [if_neg q, if_neg q]
      exact congrArg g (by omega)
  · dsimp only
    rw [if_neg (by omega), if_neg (by omega), if_pos (Or.inr hk)]
  · show (nI L.length).toInt64.toInt32 = _
    exact i64 _
  · rw [hL]
    apply List.ext_getElem
    · rw [List.length_map, List.length_range]
    · intro w h1 h2
      rw [List.length_map, List.length_range] at h1
      rw [List.getElem_map, List.getElem_range]
      funext k
      unfold grow
      by_cases q : k < 5
      · rw [if_pos q]
        show its _ (1078 + 5 * w + k) = _
        unfold its
        dsimp only
        rw [if_neg (by omega), if_neg (by omega), if_neg (by omega), if_neg (by omega), show (1078 + 5 * w + k - 1078) / 5 = w by omega, show (1078 + 5 * w + k - 1078) % 5 = k by omega, List.getElem?_eq_getElem h2]
        exact i64 _
      · rw [if_neg q]
        have hm : L[w] ∈ L := List.getElem_mem h2
        exact (hz0 _ hm k (by omega)).symm
/-- two such rows hold the same of what lives -/
theorem rSt.dr2 {M : zMem} {s f : Nat} {g g' g9 : Nat → Int64} {p : Nat → Nat} (h : rSt M s g' p) (hb : gBd g) (z : zDr g f g') (z9 : zDr g f g9) (hb9 : gBd g9) : rSt M s g9 p := by
  obtain ⟨h1, h2, h3, h4, h5, h6⟩ := h
  obtain ⟨a1, a2, a3, a4, m, a5, a6, a7⟩ := z
  obtain ⟨b1, b2, b3, b4, m9, b5, b6, b7⟩ := z9
  have h20 := hb.2.2.1.2
  have ht4 := hb.2.1.2
  have lo : ∀ k, k < 58 → k ≠ 3 → k ≠ 5 → g9 k = g' k := fun k q1 q2 q3 => (b1 k q1 q2 q3).trans (a1 k q1 q2 q3).symm
  have hm : m9 = m := by
    have := congrArg List.length (b7.trans a7.symm)
    simpa using this
  subst hm
  have i3 : its g9 3 = its g' 3 := b2.trans a2.symm
  have i5 : its g9 5 = its g' 5 := b6.trans a6.symm
  have n3 : gN g' 3 = gN g 3 - 1 := by unfold gN at *; rw [a2]; exact nI_clamp (by omega)
  have N3 : gN g9 3 = gN g' 3 := by unfold gN; rw [i3]
  have N5 : gN g9 5 = gN g' 5 := by unfold gN; rw [i5]
  have n5 : gN g' 5 = m9 := by unfold gN; rw [a6]; exact nI_clamp (by omega)
  have N2 : gN g9 2 = gN g' 2 := gN_eq (lo 2 (by omega) (by omega) (by omega))
  have g2 : gN g' 2 ≤ 4 := h6.2.1.2
  refine ⟨h1, ⟨?_, ?_, ?_, ?_, ?_⟩, ⟨?_, fun w hw k hk => ?_⟩, fun t ht => ?_, fun f' hf' => ?_, hb9⟩
  · rw [its_eq (lo 0 (by omega) (by omega) (by omega))]; exact h2.1
  · rw [its_eq (lo 1 (by omega) (by omega) (by omega))]; exact h2.2.1
  · rw [its_eq (lo 4 (by omega) (by omega) (by omega))]; exact h2.2.2.1
  · rw [its_eq (lo 2 (by omega) (by omega) (by omega))]; exact h2.2.2.2.1
  · rw [i3]; exact h2.2.2.2.2
  · rw [i5]; exact h3.1
  · rw [N5] at hw
    rw [h3.2 w hw k hk]
    have e := b7.trans a7.symm
    have e2 : grow g9 w = grow g' w := by
      have := congrArg (fun L => L[w]?) e
      simp only [List.getElem?_map] at this
      rw [List.getElem?_range (by omega)] at this
      simpa using this
    have := congrFun e2 k
    unfold grow at this
    rw [if_pos hk, if_pos hk] at this
    exact this.symm
  · rw [N2] at ht
    exact (h4 t ht).keep (fun b _ _ => ⟨rfl, rfl⟩) (fun k hk => lo _ (by omega) (by omega) (by omega)) (fun k hk => (b4 _ (by omega)).trans (a4 _ (by omega)).symm)
  · rw [N3] at hf'
    refine (h5 f' hf').keep (h6.2.2.2.2.2.1 f' hf').2.2 (fun b _ _ => ⟨rfl, rfl⟩) (fun k hk => ?_)
    rw [n3] at hf'
    exact (b3 f' hf' k hk).trans (a3 f' hf' k hk).symm
theorem CLs.row {M : zMem} {S : Nat → Nat → Int64} {c d n w : Nat} {u v : Nat → Int32} {e : Int32} {sl : Nat → Int32} {g' g9 : Nat → Int64} (h : CLs M (zup S 630 g') c d n u w v e sl) (hr : ∀ p, rSt M 630 g' p → rSt M 630 g9 p) : CLs M (zup S 630 g9) c d n u w v e sl := by
  obtain ⟨h1, h2, h3⟩ := h
  refine ⟨h1, fun s hs => ?_, h3⟩
  obtain ⟨p, hp⟩ := h2 s hs
  by_cases q : s = 630
  · subst q
    rw [zup_e] at hp ⊢
    exact ⟨p, hr p hp⟩
  · rw [zup_n q] at hp ⊢
    exact ⟨p, hp⟩
section
variable {l : Launch} {G : zG} {M : zMem}
theorem op_drop (hl : l.stackTraces = false) (hI : INV M) (a : Int32) : opI l G mL_drop mX9_drop [.int a] M := by
  obtain ⟨S, c, d, n, u, w, v, e, sl, hI⟩ := hI
  have hg := hI.g
  have hf20 := hg.f20
  have ht4 := hg.t4
  obtain ⟨p, hs⟩ := hI.W 630 zst_now
  by_cases hx : inN a (gN (S 630) 3)
  · obtain ⟨f, rfl, f9⟩ := inN_nat hx (by omega)
    obtain ⟨g', hz⟩ := zDr_ex (f := f) hg.1
    have h8 := c_X8_drop (G := G) hl hI.x hI.W hs hI.F hI.hc hI.c8 hI.hd hI.d8 f9 hz
    obtain ⟨ho, hc, hf, hO⟩ := hI
    have hI : IV M S c d n u w v e sl := ⟨ho, hc, hf, hO⟩
    refine (c_L_drop hl hI.K _ h8 ⟨fun v0 M' q => ?_, fun x M' q => by cases q.1⟩).imp fun v0 M1 q => ?_
    · have := hO.keep q.2.2.1.1
      exact ⟨⟨_, q.2.1⟩, this⟩
    · rcases q with ⟨x, M2, ⟨-, q1⟩, q2, rfl⟩ | ⟨x, ⟨q1, -⟩, -⟩
      · obtain ⟨z2, z3⟩ := hc.up q1
        have z1 := q1.1
        have f1 := (hf.bel z3).out (x := x.toInt64)
        have h9 := c_X9_drop (G := G) hl f1.m hg.1 f1.c5 hI.c8 hg.2.1 f9
        rw [f1.id] at h9
        refine ⟨_, q2, f1.m.1, 3, 70, by decide, h9.imp fun v2 M3 q3 => ?_⟩
        obtain ⟨q4, g9, rfl, d9, i9⟩ := q3
        have hg9 : gInv g9 := gInv_drop hg f9 d9 i9
        refine ⟨_, rfl, nI (gN (S 630) 3 - 1), Sum.inl.inj q4, rfl, fun _ => ?_, ?_⟩
        · cases z1
          exact zJ_out (M := M2)
        · exact inv_of (ho.up hg9) ((z2.row fun p hp => hp.dr2 hg.1 hz d9 hg9.1).out) ((hO.keep z3.1).keep rfl) (f1.kp ho) zag_KP
      · cases q1
  · exact opI_y hI (fun Q1 h hw => c_L_drop hl hI.K _ h hw) (c_X8_drop_x hl hI.x hI.W hs hI.F hI.hc hI.c8 hI.hd hI.d8 a hx) (by decide) (fun M1 hm => c_X9_drop_x hl hm hg.1 a hx) (hx1 hx)
end
theorem CLs.up0 {M M1 : zMem} {S : Nat → Nat → Int64} {c d n w : Nat} {u v : Nat → Int32} {e : Int32} {sl : Nat → Int32} {r v' : Option Value} {g' : Nat → Int64} (h1 : xSh M) (h5 : zI M 1 0 = nI n) (h6 : zI M 2 = u) (h7 : zI M 3 0 = nI w) (h8 : ∀ j, j < w → zI M 4 j = v j) (h9 : zI M 1 1 = e) (h10 : ∀ s, s < 2 → zI M 785 s = sl s) (q : uP r M S c d g' v' M1) : CLs M1 (zup (zup S (14 + 77 * d) (S 630)) 630 g') (min 8 (c + 1)) ((d + 1) % 8) n u w v e sl ∧ zag M M1 cLo := by
  obtain ⟨-, q2, q3, q4, q5, q6⟩ := q
  refine ⟨⟨h1.keep q2.1 (fun b hb => ?_), q3, q4, q5, ?_, ?_, ?_, fun j hj => ?_, ?_, fun s hs => ?_⟩, q2.mono fun b hb => by unfold cLo at hb; unfold zblk; omega⟩
  · by_cases z : b = 12
    · rw [z]; exact q6
    · exact (q2.2 b ⟨z, by unfold zblk; omega⟩).2.2
  · rw [(q2.2 1 ⟨by omega, by unfold zblk; omega⟩).1]; exact h5
  · rw [(q2.2 2 ⟨by omega, by unfold zblk; omega⟩).1]; exact h6
  · rw [(q2.2 3 ⟨by omega, by unfold zblk; omega⟩).1]; exact h7
  · rw [(q2.2 4 ⟨by omega, by unfold zblk; omega⟩).1]; exact h8 j hj
  · rw [(q2.2 1 ⟨by omega, by unfold zblk; omega⟩).1]; exact h9
  · rw [(q2.2 785 ⟨by omega, by unfold zblk; omega⟩).1]; exact h10 s hs
theorem gOK.dr {S : Nat → Nat → Int64} {c d n w : Nat} {u : Nat → Int32} {sl : Nat → Int32} {h : Nat → Int64} (o : gOK S c d n u w sl) : gOK (zup S 707 h) c d 0 u w sl := by
  obtain ⟨h1, h2, h3, h4, h5, h6, h7, h8⟩ := o
  refine ⟨h1, h2, by omega, fun j hj => by omega, h5, by rw [zup_n (by decide)]; exact h6, fun i hi => ?_, fun s hs hz => by rw [zup_n (by omega)]; exact h8 s hs hz⟩
  have hm : (d + 8 - c + i) % 8 < 8 := Nat.mod_lt _ (by decide)
  rw [zup_n (by omega)]
  exact h7 i hi
theorem gOK.cut {S : Nat → Nat → Int64} {c d n w : Nat} {u : Nat → Int32} {sl : Nat → Int32} {h : Nat → Int64} (o : gOK S c d n u w sl) : gOK (zup S 630 (zcut h (S 630))) c d n u w sl := by
  obtain ⟨h1, h2, h3, h4, h5, h6, h7, h8⟩ := o
  refine ⟨h1, h2, h3, h4, h5, by rw [zup_e]; exact gInv_cut h6, fun i hi => ?_, fun s hs hz => by rw [zup_n (by omega)]; exact h8 s hs hz⟩
  have hm : (d + 8 - c + i) % 8 < 8 := Nat.mod_lt _ (by decide)
  rw [zup_n (by omega)]
  exact h7 i hi
section
variable {l : Launch} {G : zG} {M : zMem}
theorem op_load (hl : l.stackTraces = false) (hI : INV M) : opD l G cI mX8_load mX9_load M := by
  obtain ⟨S, c, d, n, u, w, v, e, sl, hI⟩ := hI
  have hg := hI.g
  have hf20 := hg.f20
  have ht4 := hg.t4
  obtain ⟨p, hs⟩ := hI.W 630 zst_now
  obtain ⟨ho, hc, hf, hO⟩ := hI
  have hI : IV M S c d n u w v e sl := ⟨ho, hc, hf, hO⟩
  obtain ⟨k1, k2, k3, k4, k5, k6, k7, k8, k9, k10⟩ := hc
  have hc : CLs M S c d n u w v e sl := ⟨k1, k2, k3, k4, k5, k6, k7, k8, k9, k10⟩
  obtain ⟨ge, re, hrel⟩ := rLd_ex (u := u) (n := n) (g := S 630) (w0 := zI M 941 14)
  have h8 := c_X8_load (G := G) hl hI.x hI.W hs hI.F hI.hc hI.c8 hI.hd hI.d8 (n := n) (u := u) ⟨k1.rd, k5, ho.2.2.1, k6⟩ ho.2.2.2.1 hrel
  refine ⟨10, 400, 5, 30, by decide, (zCm.of2 h8 fun x M' q => by cases q.1).imp fun v0 M1 q => ?_⟩
  refine ⟨v0, rfl, ?_⟩
  obtain ⟨-, Ma, ⟨q1, q2, q3⟩, q4⟩ := q
  have xa : xSh Ma := k1.keepR q1 q2
  have c2 : zI Ma 2 = u := by rw [(q1.2 2 (by omega)).1]; exact k6
  have c3 : zI Ma 3 0 = nI w := by rw [(q1.2 3 (by omega)).1]; exact k7
  have c4 : ∀ j, j < w → zI Ma 4 j = v j := by rw [(q1.2 4 (by omega)).1]; exact k8
  have c7 : ∀ s, s < 2 → zI Ma 785 s = sl s := by rw [(q1.2 785 (by omega)).1]; exact k10
  have ca : zag M Ma cLo := q1.mono fun b hb => by unfold cLo at hb; omega
  rcases q4 with ⟨w0, e1, ⟨r1, r2⟩, q5⟩ | ⟨w0, e1, rfl, rfl, h, hW9⟩
  · obtain ⟨z2, z3⟩ := CLs.up0 (e := -1) xa q3 c2 c3 c4 e1 c7 q5
    have zz := ca.trans z3
    have f1 := hf.bel zz
    have h9 := c_X9_load (G := G) (g := S 630) hl f1.m f1.2.2.2.2.2.2.1 f1.2.2.2.2.2.1 ho.2.2.1 f1.c5 ho.1
    rw [f1.id] at h9
    have gi : gInv ge := r1.inv r2
    refine ⟨⟨_, q5.1⟩, f1.m.1, 7, 240, by decide, h9.imp fun v2 M3 q6 => ?_⟩
    obtain ⟨w1, ge', re', ⟨e2, hr'⟩, q7⟩ := q6
    rw [(zz.2 941 (by unfold cLo; omega)).1] at e2
    subst e2
    obtain ⟨rfl, rfl⟩ := rLd_det hrel hr'
    rcases q7 with ⟨q8, -⟩ | ⟨-, q8, rfl⟩
    · exact absurd w0 q8
    · refine ⟨_, rfl, (Sum.inl.inj q8).trans q5.1.symm, ?_⟩
      refine inv_of (ho.dr.up gi) z2 (hO.keep zz.1) ?_ ⟨rfl, fun b hb => ⟨?_, ?_, rfl⟩⟩
      · obtain ⟨p1, p2, p3, p4, p5, p6, p7, p8, p9, p10⟩ := f1
        have hd8 := ho.2.1
        have hc8 := ho.1
        refine ⟨p1.keep rfl rfl, by rw [zup_e]; rfl, rfl, fun i hi k hk => ?_, fun s hs => ?_, rfl, p7, p8, p9, rfl⟩
        · rw [ring_up hc8 hd8 hi]
          show kQ c (zJ M1 944) (va_cpy (S 630) (zJ M1 943) 0 0 1390) (1390 * i + k) = _
          rw [kQ_at hc8 hi hk]
          have e9 : va_cpy (S 630) (zJ M1 943) 0 0 1390 k = S 630 k := by
            unfold va_cpy
            rw [if_pos (by omega)]
            exact congrArg (S 630) (by omega)
          split
          · rw [e9, zup_n (by decide)]
          · split
            · have hm : (d + 8 - c + (i + 1)) % 8 < 8 := Nat.mod_lt _ (by decide)
              rw [zup_n (by omega)]
              exact p4 (i + 1) (by omega) k hk
            · have hm : (d + 8 - c + i) % 8 < 8 := Nat.mod_lt _ (by decide)
              rw [zup_n (by omega)]
              exact p4 i (by omega) k hk
        · rw [zup_sl hd8 hs, zup_n (by omega)]
          exact p5 s hs
      · have n1 : b ≠ 941 := by omega
        funext j
        simp [zI, zsL, zsI, zu, zur, rdM, ldA, n1]
      · have n1 : b ≠ 942 := by omega
        have n2 : b ≠ 943 := by omega
        have n3 : b ≠ 944 := by omega
        funext j
        simp [zJ, zsL, zsI, zu, zur, rdM, ldA, n1, n2, n3]
  · have z0 : CLs M1 (zup S 707 h) c d 0 u w v re.2.2.2.2.2 sl := ⟨xa, hW9, by rw [(q1.2 12 (by omega)).1]; exact k3, by rw [(q1.2 12 (by omega)).1]; exact k4, q3, c2, c3, c4, e1, c7⟩
    have f1 := hf.bel ca
    have h9 := c_X9_load (G := G) (g := S 630) hl f1.m f1.2.2.2.2.2.2.1 f1.2.2.2.2.2.1 ho.2.2.1 f1.c5 ho.1
    rw [f1.id] at h9
    refine ⟨⟨_, rfl⟩, f1.m.1, 7, 240, by decide, h9.imp fun v2 M3 q6 => ?_⟩
    obtain ⟨w1, ge', re', ⟨e2, hr'⟩, q7⟩ := q6
    rw [(ca.2 941 (by unfold cLo; omega)).1] at e2
    subst e2
    obtain ⟨rfl, rfl⟩ := rLd_det hrel hr'
    rcases q7 with ⟨-, q8, rfl⟩ | ⟨q8, -⟩
    · refine ⟨_, rfl, Sum.inl.inj q8, ?_⟩
      have o2 : gOK (zup (zup S 707 h) 630 (zcut ge (S 630))) c d 0 u w sl := by
        have := (ho.dr (h := h)).cut (h := ge)
        rw [zup_n (show (630 : Nat) ≠ 707 by decide)] at this
        exact this
      have z2 : CLs M1 (zup (zup S 707 h) 630 (zcut ge (S 630))) c d 0 u w v re.2.2.2.2.2 sl := z0.ext (fun s k hk => by
        by_cases q : s = 630
        · rw [q, zup_e, zup_n (by decide)]
          exact zcut_lo hk
        · rw [zup_n q])
      refine inv_of o2 z2 (hO.keep ca.1) ?_ ⟨rfl, fun b hb => ⟨?_, ?_, rfl⟩⟩
      · obtain ⟨p1, p2, p3, p4, p5, p6, p7, p8, p9, p10⟩ := f1
        refine ⟨p1.keep rfl rfl, ?_, p3, fun i hi k hk => ?_, fun s hs => ?_, rfl, p7, p8, p9, rfl⟩
        · rw [zup_e]
          show va_cpy (va_cpy (S 630) (zJ M1 943) 0 0 1390) ge 0 0 1390 = _
          exact zcut_c (fun k hk => by
            unfold va_cpy
            rw [if_pos (by omega)]
            exact congrArg (S 630) (by omega))
        · have hm : (d + 8 - c + i) % 8 < 8 := Nat.mod_lt _ (by decide)
          rw [zup_n (by omega), zup_n (by omega)]
          exact p4 i hi k hk
        · rw [zup_n (by omega), zup_n (by omega)]
          exact p5 s hs
      · have n1 : b ≠ 941 := by omega
        funext j
        simp [zI, zsL, zsI, zu, zur, rdM, ldA, n1]
      · have n1 : b ≠ 942 := by omega
        have n2 : b ≠ 943 := by omega
        funext j
        simp [zJ, zsL, zsI, zu, zur, rdM, ldA, n1, n2]
    · exact absurd q8 w0
end
