/-! ===== what holds of a row while it is read ===== -/
def isI (v : Int64) : Prop := v = v.toInt32.toInt64
theorem isI_of (x : Int32) : isI x.toInt64 := by
  unfold isI
  rw [i64]
theorem isI_0 : isI 0 := by
  unfold isI
  decide
def gRI (g : Nat → Int64) : Prop := gBd g ∧ gIp g ∧ gNT g ∧ gNF g ∧ gRg g ∧ (∀ k, 1378 ≤ k → k < 1390 → g k = 0) ∧ gN g 4 = 0 ∧ gN g 5 = 0
theorem isI_rNm {u : Nat → Int32} {r : rRd} {k : Nat} : isI (rNm u r k) := by
  unfold rNm
  split
  · exact isI_of _
  · exact isI_of _
theorem gNm_eq {g h : Nat → Int64} {b c m : Nat} (e : ∀ k, k < 8 → h (c + k) = g (b + k)) (q : gNm g b m) : gNm h c m := by
  obtain ⟨q1, q2, q3⟩ := q
  refine ⟨q1, fun k hk => ?_, fun k h1 h2 => ?_⟩
  · obtain ⟨d, e1, d1, d2⟩ := q2 k hk
    exact ⟨d, (e k (by omega)).trans e1, d1, d2⟩
  · exact (e k h2).trans (q3 k h1 h2)
theorem rTn_w0 {u : Nat → Int32} {n t : Nat} {x : (Nat → Int64) × rRd} {m : Nat} (h : (rTn u n t x m).2.2.2.2.2.1 = 0) {j : Nat} (hj : j < m) : (rTa u n (rLo j) (rHi j) (rTn u n t x j).2).2.2.2.2.2.1 = 0 := Classical.byContradiction fun q => by
  have e := rTn_w (u := u) (n := n) (t := t) (x := x) (k := j + 1) q (m - (j + 1))
  rw [show j + 1 + (m - (j + 1)) = m by omega] at e
  rw [e] at h
  exact q h
theorem rLo_0 : rLo 0 = nI 1 := rfl
theorem rHi_0 : rHi 0 = nI 99999 := rfl
theorem rLo_s {j : Nat} (h : 0 < j) (h5 : j < 5) : rLo j = nI 0 := if_neg (nI_ne0 h (by omega))
theorem rHi_s {j : Nat} (h : 0 < j) (h5 : j < 5) : rHi j = nI 99 := if_neg (nI_ne0 h (by omega))
theorem gt_of {g : Nat → Int64} {t k : Nat} {x : Int32} (h : g (6 + 13 * t + k) = x.toInt64) : gt g t k = x := by
  show (g _).toInt32 = x
  rw [h, i64]
theorem gf_of {g : Nat → Int64} {f k : Nat} {x : Int32} (h : g (58 + 51 * f + k) = x.toInt64) : gf g f k = x := by
  show (g _).toInt32 = x
  rw [h, i64]
theorem nLe_ta {u : Nat → Int32} {n : Nat} {lo hi : Nat} {r : rRd} (hb : hi < 100000) (hl : lo ≤ hi) (h : (rTa u n (nI lo) (nI hi) r).2.2.2.2.2.1 = 0) : nLe (rTa u n (nI lo) (nI hi) r).1 lo hi := by
  have m := rTa_wr h
  rw [m.2.2.2]
  have hx : ¬ r.2.2.2.1 < 0 := fun q => absurd (Int32.lt_of_le_of_lt m.2.2.1.1 q) (nI_pos (by omega))
  obtain ⟨k, hk, e⟩ := nI_of hx
  rw [e] at m ⊢
  exact ⟨k, rfl, (nI_leI (by omega) hk).mp m.2.2.1.1, (nI_leI hk (by omega)).mp m.2.2.1.2⟩
/-- a tier more -/
theorem gRI_T {u : Nat → Int32} {n p : Nat} {g g' : Nat → Int64} {r r' : rRd} (h : rTR u n (gN g 2) g r g' r') (hs : eSy u n p r) (hg : gRI g) (h3 : gN g 3 = 0) (w' : r'.2.2.2.2.1 = 0) : gRI g' ∧ gN g' 3 = 0 ∧ gN g' 2 = gN g 2 + 1 := by
  obtain ⟨gb, gi, gt1, gf1, gr, g0, g4, g5⟩ := hg
  have fc := rTR_fc h gb.2.1.1 gb.2.1.2
  have gb' := rTR_gB h gb h3 g5
  have eo := fc.2.2.2.2.1
  have N3 : gN g' 3 = 0 := (gN_eq (eo 3 (by omega))).trans h3
  have N2 := (fc.2.2.2.1 w').2
  have N4 : gN g' 4 = 0 := (gN_eq (eo 4 (by omega))).trans g4
  have N5 : gN g' 5 = 0 := (gN_eq (eo 5 (by omega))).trans g5
  obtain ⟨r0, v1, ra, rb, nv, rc, h0, hv, ha, hb, hn, hc, hh⟩ := h
  rcases hh with ⟨w, Y, X, hY, hX, e1, e2, ok⟩ | ⟨w, e1, e2, ok⟩
  · have hw := rT_w (g := g) (by decide) h0 ha hb hc w
    have ht : gN g 2 < 4 := by have := hw.1; have := gb.2.1.2; omega
    have erc : rc = ra := hw.2.2.2.2.2.2.2.2.2.2
    rw [erc] at hY
    have hX5 := rTn_5 hY hX
    have h2 : g 2 = (nI (gN g 2)).toInt64 := by rw [← gb.2.1.1]; exact gi 2 (by omega) (fun f _ => by omega)
    have wX : X.2.2.2.2.2.1 = 0 := by
      rw [e2] at w'
      exact (rEn_wr w').1
    have hnum : ∀ j, j < 5 → ((fun j => (rTa u n (rLo j) (rHi j) (rTn u n (gN g 2) (rPn u ra g (6 + 13 * gN g 2 + 5) 8, rNx u n ra) j).2).1) j).toInt64 = X.1 (6 + 13 * gN g 2 + j) := fun j hj => by
      rw [← hX5]
      exact (rTn_at 5 hj).symm
    have row : ∀ k, k < 1390 → g' k = zwL (oTier g (gN g 2) (rNm u ra) (fun j => (rTa u n (rLo j) (rHi j) (rTn u n (gN g 2) (rPn u ra g (6 + 13 * gN g 2 + 5) 8, rNx u n ra) j).2).1)) 2 (nI (gN g 2 + 1)).toInt64 k := fun k hk => by
      rw [e1]
      exact tier_row ht h2 g0 hX5 _ hnum k hk
    generalize (fun j => (rTa u n (rLo j) (rHi j) (rTn u n (gN g 2) (rPn u ra g (6 + 13 * gN g 2 + 5) 8, rNx u n ra) j).2).1) = num at row hnum
    have hnum2 : ∀ j, j < 5 → num j = (rTa u n (rLo j) (rHi j) (rTn u n (gN g 2) (rPn u ra g (6 + 13 * gN g 2 + 5) 8, rNx u n ra) j).2).1 := fun j hj => by
      have q := hnum j hj
      rw [← hX5, rTn_at 5 hj] at q
      exact i64_inj q
    have rng : ∀ j, j < 5 → (rTa u n (rLo j) (rHi j) (rTn u n (gN g 2) (rPn u ra g (6 + 13 * gN g 2 + 5) 8, rNx u n ra) j).2).2.2.2.2.2.1 = 0 := fun j hj => rTn_w0 (by rw [hX5]; exact wX) hj
    have eN : ∀ j, j < 5 → g' (6 + 13 * gN g 2 + j) = (num j).toInt64 := fun j hj => by
      rw [row _ (by omega), zwL_n (by omega)]
      unfold oTier
      rw [if_pos (by omega)]
      congr 2
      omega
    have eM : ∀ k, k < 8 → g' (6 + 13 * gN g 2 + 5 + k) = rNm u ra (0 + k) := fun k hk => by
      rw [row _ (by omega), zwL_n (by omega)]
      unfold oTier
      rw [if_neg (by omega), if_pos (by omega)]
      congr 1
      omega
    have eE : ∀ k, k < 1390 → k ≠ 2 → (k < 6 + 13 * gN g 2 ∨ 6 + 13 * gN g 2 + 13 ≤ k) → g' k = g k := fun k hk q2 q => by
      rw [row k hk, zwL_n q2]
      unfold oTier
      rw [if_neg (by omega), if_neg (by omega)]
      split
      · exact (g0 k (by omega) hk).symm
      · rfl
    refine ⟨⟨gb', ?_, ?_, ?_, ?_, ?_, N4, N5⟩, N3, N2⟩
    · intro k hk hk2
      by_cases q2 : k = 2
      · rw [q2, row 2 (by omega), zwL_e]
        have := isI_of (nI (gN g 2 + 1))
        unfold isI at this
        have e : its g' 2 = nI (gN g 2 + 1) := by rw [← N2]; exact gb'.2.1.1
        rw [e]
      · by_cases q3 : 6 + 13 * gN g 2 ≤ k ∧ k < 6 + 13 * gN g 2 + 5
        · have e := eN (k - (6 + 13 * gN g 2)) (by omega)
          rw [show 6 + 13 * gN g 2 + (k - (6 + 13 * gN g 2)) = k by omega] at e
          unfold its
          rw [e, i64]
        · by_cases q4 : 6 + 13 * gN g 2 + 5 ≤ k ∧ k < 6 + 13 * gN g 2 + 13
          · have e := eM (k - (6 + 13 * gN g 2 + 5)) (by omega)
            rw [show 6 + 13 * gN g 2 + 5 + (k - (6 + 13 * gN g 2 + 5)) = k by omega] at e
            unfold its
            rw [e]
            exact isI_rNm
          · have e := eE k (by omega) q2 (by omega)
            unfold its
            rw [e]
            exact gi k hk hk2
    · intro t ht9
      rw [N2] at ht9
      by_cases q : t = gN g 2
      · rw [q]
        have hra : eSy u n r.2.1 ra := by rw [hw.2.2.2.2.1]; exact hs.nx
        have e9 := rNm_g hra hw.2.2.2.2.2.2.1 hw.2.2.2.2.2.2.2.1
        exact ⟨_, e9.2.1, gNm_eq (g := rNm u ra) (b := 0) eM e9.1⟩
      · obtain ⟨m, m0, hm⟩ := gt1 t (by omega)
        exact ⟨m, m0, gNm_eq (g := g) (fun k hk => eE _ (by omega) (by omega) (by omega)) hm⟩
    · intro f hf
      rw [N3] at hf
      omega
    · refine ⟨?_, fun t ht9 => ?_, fun f hf => by rw [N3] at hf; omega⟩
      · rw [its_eq (eE 1 (by omega) (by omega) (by omega))]
        exact gr.1
      · rw [N2] at ht9
        by_cases q : t = gN g 2
        · subst q
          refine ⟨?_, fun k k1 k5 => ?_⟩
          · rw [gt_of (eN 0 (by omega)), hnum2 0 (by omega)]
            have r0 := rng 0 (by omega)
            rw [rLo_0, rHi_0] at r0 ⊢
            exact nLe_ta (by omega) (by omega) r0
          · rw [gt_of (eN k k5), hnum2 k k5]
            have r0 := rng k k5
            rw [rLo_s (by omega) k5, rHi_s (by omega) k5] at r0 ⊢
            exact nLe_ta (by omega) (by omega) r0
        · have a := gr.2.1 t (by omega)
          have e : ∀ k, k < 5 → gt g' t k = gt g t k := fun k hk => its_eq (eE _ (by omega) (by omega) (by omega))
          refine ⟨by rw [e 0 (by omega)]; exact a.1, fun k k1 k5 => by rw [e k k5]; exact a.2 k k1 k5⟩
    · intro k k1 k2
      rw [eE k k2 (by omega) (by omega)]
      exact g0 k k1 k2
  · rw [e2] at w'
    exact absurd w' w
/-- a file more -/
theorem gRI_F {u : Nat → Int32} {n p : Nat} {g g' : Nat → Int64} {r r' : rRd} (h : rFR u n (gN g 3) g r g' r') (hs : eSy u n p r) (hg : gRI g) (w' : r'.2.2.2.2.1 = 0) : gRI g' ∧ gN g' 3 = gN g 3 + 1 ∧ gN g' 2 = gN g 2 := by
  obtain ⟨gb, gi, gt1, gf1, gr, g0, g4, g5⟩ := hg
  have fc := rFR_fc h gb.2.1.1 gb.2.1.2 gb.2.2.1.1 gb.2.2.1.2
  have gb' := rFR_gB h (fun _ => gb) w'
  have eo := fc.2.2.2.2
  have N3 := (fc.2.2.2.1 w').2
  have N0 : gN g' 0 = gN g 0 := gN_eq (eo 0 (by omega))
  have N2 : gN g' 2 = gN g 2 := gN_eq (eo 2 (by omega))
  have N4 : gN g' 4 = gN g 4 := gN_eq (eo 4 (by omega))
  have N5 : gN g' 5 = 0 := (gN_eq (eo 5 (by omega))).trans g5
  obtain ⟨r0, ra, rb, nv0, rc, h0, ha, hb0, hn, hc, hh⟩ := h
  rcases hh with ⟨w, hq⟩ | ⟨w, e1, e2, ok⟩
  · have hw := rT_w (g := g) (by decide) h0 ha hb0 hc w
    have ht : gN g 3 < 20 := by have := hw.1; have := gb.2.2.1.2; omega
    have erc : rc = ra := hw.2.2.2.2.2.2.2.2.2.2
    have h3 : g 3 = (nI (gN g 3)).toInt64 := by rw [← gb.2.2.1.1]; exact gi 3 (by omega) (fun f _ => by omega)
    obtain ⟨g2, r1, x, v2, r3, r4, nv, r5, r6, r7, v7, z, hg2, f1, hx, hv2, hr3, hr4, hnv, hr5, hr6, hr7, hv7, hz, he, her, ok⟩ := hq
    rw [her] at w'
    have hf := rFQ_w (t := gN g 3) hx hr3 hr4 hr5 hr6 hr7 hz w'
    have eg2 : ∀ k, k < 58 + 51 * gN g 3 → g2 k = g k := fun k q => by rw [← hg2, rPn_n (by omega), oB0_n (by omega)]
    have hd : ∃ d, nv = nI d := by
      have c : r4.2.2.2.2.1 = 0 := by rw [← hf.2.2.2.2.2.1]; exact hf.2.2.2.2.1
      rw [show rNa g2 u r4 11 13 (gN g2 2) = rNd g2 u r4 11 13 (gN g2 2) 0 from if_pos c] at hnv
      rcases rNd_in (g := g2) (u := u) (r := r4) (b := 11) (sz := 13) (gN g2 2) 0 with q | ⟨d, -, h5, h6, -⟩
      · exact absurd (hnv.symm.trans q) hf.2.2.2.2.2.2.1
      · exact ⟨d, hnv.symm.trans h6⟩
    obtain ⟨d, rfl⟩ := hd
    rw [erc] at hg2
    have row : ∀ k, g' k = zwL (oStart g (gN g 3) (rNm u ra) x.1 (nI d) z.1) 3 (nI (gN g 3 + 1)).toInt64 k := fun k => by
      rw [he]
      exact file_row ht h3 hg2 k
    have sz : nLe x.1 1 999 := by
      have e : x.1 = (rTa u n (nI 1) (nI 999) r1).1 := by rw [hx]
      rw [e]
      refine nLe_ta (by omega) (by omega) ?_
      rw [hx, hf.2.2.2.2.2.2.2.2.2.2.2.2.2.2.2.2.1, rNx_wr]
      exact hf.2.2.2.2.2.2.2.2.2.2.2.2.1
    have pn : nLe z.1 0 9999 := by
      by_cases q : v7 = 0
      · rw [if_pos q] at hz
        rw [← hz]
        exact ⟨0, rfl, by omega, by omega⟩
      · rw [if_neg q] at hz
        have e : z.1 = (rTa u n (nI 0) (nI 9999) (rNx u n r7)).1 := by rw [hz]
        rw [e]
        refine nLe_ta (by omega) (by omega) ?_
        rw [hz]
        exact hf.2.2.2.2.2.2.2.2.2.2.2.2.2.2.2.2.2.2.1
    have eE : ∀ k, k ≠ 3 → (k < 58 + 51 * gN g 3 ∨ 58 + 51 * gN g 3 + 51 ≤ k) → g' k = g k := fun k q3 q => by
      rw [row k, zwL_n q3]
      unfold oStart
      rw [if_neg (by omega)]
    have eI : ∀ j, j < 51 → g' (58 + 51 * gN g 3 + j) = (if j = 0 then x.1.toInt64 else if j = 1 then (nI d).toInt64 else if j = 3 then z.1.toInt64 else if 6 ≤ j ∧ j < 14 then rNm u ra (j - 6) else if 14 ≤ j ∧ j < 26 then (-1 : Int32).toInt64 else 0) := fun j hj => by
      rw [row _, zwL_n (by omega)]
      unfold oStart
      rw [if_pos (by omega)]
      by_cases j0 : j = 0
      · rw [if_pos (by omega), if_pos j0]
      · rw [if_neg (by omega), if_neg j0]
        by_cases j1 : j = 1
        · rw [if_pos (by omega), if_pos j1]
        · rw [if_neg (by omega), if_neg j1]
          by_cases j3 : j = 3
          · rw [if_pos (by omega), if_pos j3]
          · rw [if_neg (by omega), if_neg j3]
            by_cases j6 : 6 ≤ j ∧ j < 14
            · rw [if_pos (by omega), if_pos j6]
              congr 1
              omega
            · rw [if_neg (by omega), if_neg j6]
              by_cases j9 : 14 ≤ j ∧ j < 26
              · rw [if_pos (by omega), if_pos j9]
              · rw [if_neg (by omega), if_neg j9]
    have G4 : gN g' (58 + 51 * gN g 3 + 4) = 0 := gN_of (n := 0) (by
      have e : g' (58 + 51 * gN g 3 + 4) = 0 := (eI 4 (by omega)).trans (show _ = (0 : Int64) from rfl)
      show (g' (58 + 51 * gN g 3 + 4)).toInt32 = nI 0
      rw [e]
      decide) (by omega)
    refine ⟨⟨gb', ?_, ?_, ?_, ?_, ?_, by rw [N4]; exact g4, N5⟩, N3, N2⟩
    · intro k hk hk2
      by_cases q3 : k = 3
      · subst q3
        have e : its g' 3 = nI (gN g 3 + 1) := by rw [← N3]; exact gb'.2.2.1.1
        rw [e, row 3, zwL_e]
      · by_cases q4 : 58 + 51 * gN g 3 ≤ k ∧ k < 58 + 51 * gN g 3 + 51
        · have e := eI (k - (58 + 51 * gN g 3)) (by omega)
          rw [show 58 + 51 * gN g 3 + (k - (58 + 51 * gN g 3)) = k by omega] at e
          show isI (g' k)
          rw [e]
          split
          · exact isI_of _
          · split
            · exact isI_of _
            · split
              · exact isI_of _
              · split
                · exact isI_rNm
                · split
                  · exact isI_of _
                  · exact isI_0
        · show isI (g' k)
          rw [eE k q3 (by omega)]
          exact gi k hk hk2
    · intro t ht9
      rw [N2] at ht9
      obtain ⟨m, m0, hm⟩ := gt1 t ht9
      have := gb.2.1.2
      exact ⟨m, m0, gNm_eq (g := g) (fun k hk => eE _ (by omega) (by omega)) hm⟩
    · intro f hf9
      rw [N3] at hf9
      by_cases q : f = gN g 3
      · rw [q]
        have hra : eSy u n r.2.1 ra := by rw [hw.2.2.2.2.1]; exact hs.nx
        refine ⟨_, gNm_eq (g := rNm u ra) (b := 0) (fun k hk => ?_) (rNm_g hra hw.2.2.2.2.2.2.1 hw.2.2.2.2.2.2.2.1).1⟩
        rw [show 58 + 51 * gN g 3 + 6 + k = 58 + 51 * gN g 3 + (6 + k) by omega, eI (6 + k) (by omega), if_neg (by omega), if_neg (by omega), if_neg (by omega), if_pos (by omega)]
        congr 1
        omega
      · obtain ⟨m, hm⟩ := gf1 f (by omega)
        exact ⟨m, gNm_eq (g := g) (fun k hk => eE _ (by omega) (by omega)) hm⟩
    · refine ⟨?_, fun t ht9 => ?_, fun f hf9 => ?_⟩
      · rw [its_eq (eE 1 (by omega) (by omega))]
        exact gr.1
      · rw [N2] at ht9
        have a := gr.2.1 t ht9
        have := gb.2.1.2
        have e : ∀ k, k < 5 → gt g' t k = gt g t k := fun k hk => its_eq (eE _ (by omega) (by omega))
        exact ⟨by rw [e 0 (by omega)]; exact a.1, fun k k1 k5 => by rw [e k k5]; exact a.2 k k1 k5⟩
      · rw [N3] at hf9
        by_cases q : f = gN g 3
        · subst q
          refine ⟨?_, ?_, ?_, by rw [G4]; omega, fun j hj => Or.inl ?_, fun j hj => by rw [G4] at hj; omega⟩
          · rw [gf_of (x := x.1) (eI 0 (by omega))]
            exact sz
          · rw [gf_of (x := nI 0) (((eI 2 (by omega)).trans (show _ = (0 : Int64) from rfl)).trans (by decide))]
            exact ⟨0, rfl, by omega, by omega⟩
          · rw [gf_of (x := z.1) (eI 3 (by omega))]
            exact pn
          · show (g' (58 + 51 * gN g 3 + 14 + j)).toInt32 = -1
            rw [show 58 + 51 * gN g 3 + 14 + j = 58 + 51 * gN g 3 + (14 + j) by omega, eI (14 + j) (by omega), if_neg (by omega), if_neg (by omega), if_neg (by omega), if_neg (by omega), if_pos (by omega), i64]
        · have a := gr.2.2 f (by omega)
          have e : ∀ k, k < 51 → g' (58 + 51 * f + k) = g (58 + 51 * f + k) := fun k hk => eE _ (by omega) (by omega)
          have ei : ∀ k, k < 51 → gf g' f k = gf g f k := fun k hk => its_eq (e k hk)
          have E4 : gN g' (58 + 51 * f + 4) = gN g (58 + 51 * f + 4) := gN_eq (e 4 (by omega))
          have es : ∀ j, j < 12 → gs g' f j = gs g f j := fun j hj => its_eq (by have := e (14 + j) (by omega); rw [← Nat.add_assoc] at this; exact this)
          have k24 := gb.keL (f := f) (by omega)
          have eu : ∀ j, j < 24 → gu g' f j = gu g f j := fun j hj => its_eq (by have := e (26 + j) (by omega); rw [← Nat.add_assoc] at this; exact this)
          refine ⟨by rw [ei 0 (by omega)]; exact a.1, by rw [ei 2 (by omega)]; exact a.2.1, by rw [ei 3 (by omega)]; exact a.2.2.1, by rw [E4, N4]; exact a.2.2.2.1, fun j hj => ?_, fun j hj => ?_⟩
          · rw [es j hj, N0]
            exact a.2.2.2.2.1 j hj
          · rw [E4] at hj
            rw [eu j (by omega)]
            exact a.2.2.2.2.2 j hj
    · intro k k1 k2
      rw [eE k (by omega) (by omega)]
      exact g0 k k1 k2
  · rw [e2] at w'
    exact absurd w' w
