/-! ===== the invariant is kept: learning, a period's end, tiers, files ===== -/
theorem nI_div8 {d : Nat} (hd : d < 100000000) : (-(nI d)) / nI 8 = -(nI (d / 8)) := by
  have hd8 : d / 8 ≤ d := Nat.div_le_self d 8
  have e1 : (nI d).toInt = (d : Int) := nI_toInt (by omega)
  have e2 : (nI (d / 8)).toInt = ((d / 8 : Nat) : Int) := nI_toInt (by omega)
  have b : ∀ x : Int, -100000000 ≤ x → x ≤ 100000000 → x.bmod (2 ^ 32) = x := fun x h1 h2 => by
    rw [Int.bmod_eq_of_le (by omega) (by omega)]
  have n1 : (-(nI d)).toInt = -(d : Int) := by rw [Int32.toInt_neg, e1, b _ (by omega) (by omega)]
  apply Int32.toInt_inj.mp
  rw [Int32.toInt_div_of_ne_right _ _ (by decide), n1, Int32.toInt_neg, e2, b _ (by omega) (by omega), show (nI 8).toInt = 8 by decide, Int.neg_tdiv]
  rfl
theorem zlv_ok {old u rate : Int32} (ho : old = -1 ∨ nLe old 0 159984) (hu : nLe u 0 9999) (hr : nLe rate 1 8) : nLe (zlv old u rate) 0 159984 := by
  obtain ⟨x, ex, -, hx⟩ := hu
  obtain ⟨r, er, hr1, hr8⟩ := hr
  unfold zlv
  rw [ex, er, pk_mul]
  rcases ho with q | q
  · rw [if_pos q]
    exact ⟨16 * x, rfl, by omega, by omega⟩
  · rw [if_neg (q.n1 (by omega))]
    obtain ⟨a, ea, -, ha⟩ := q
    rw [ea]
    have m8 : ∀ d : Nat, d * r / 8 ≤ d := fun d => by
      have : d * r ≤ d * 8 := Nat.mul_le_mul (Nat.le_refl d) hr8
      omega
    by_cases c : a ≤ 16 * x
    · have m := m8 (16 * x - a)
      have mm : (16 * x - a) * r ≤ 159984 * 8 := Nat.mul_le_mul (by omega) hr8
      rw [pk_sub c, pk_mul, pk_div (by omega) (by omega) (by omega), nI_add]
      exact ⟨_, rfl, by omega, by omega⟩
    · have m := m8 (a - 16 * x)
      have mm : (a - 16 * x) * r ≤ 159984 * 8 := Nat.mul_le_mul (by omega) hr8
      have e1 : nI (16 * x) - nI a = -(nI (a - 16 * x)) := by rw [← pk_sub (by omega), Int32.neg_sub]
      rw [e1, Int32.neg_mul, pk_mul, nI_div8 (by omega), ← Int32.sub_eq_add_neg, pk_sub (by omega)]
      exact ⟨_, rfl, by omega, by omega⟩
/-- what changes one file's row alone -/
theorem gInv_row {g g' : Nat → Int64} {f : Nat} (h : gInv g) (hf : f < gN g 3) (e : ∀ k, k < 1378 → (k < 58 + 51 * f ∨ 58 + 51 * f + 51 ≤ k) → g' k = g k) (hb' : gBd g') (hI : ∀ k, k < 50 → isI (g' (58 + 51 * f + k))) (hn : ∀ k, 6 ≤ k → k < 14 → g' (58 + 51 * f + k) = g (58 + 51 * f + k)) (hr' : gRf g' f) : gInv g' := by
  obtain ⟨hb, hi, hT, hF, hr, h0⟩ := h
  have h4 := hb.2.1.2
  have h20 := hb.2.2.1.2
  have eN : ∀ k, k < 58 → gN g' k = gN g k := fun k hk => gN_eq (e k (by omega) (by omega))
  refine ⟨hb', fun k hk hk2 => ?_, fun t ht => ?_, fun f' hf' => ?_, ⟨by rw [its_eq (e 1 (by omega) (by omega))]; exact hr.1, fun t ht => ?_, fun f' hf' => ?_⟩, by rw [eN 2 (by omega)]; exact h0⟩
  · by_cases q : 58 + 51 * f ≤ k ∧ k < 58 + 51 * f + 51
    · have z := hI (k - (58 + 51 * f)) (by have := hk2 f (by omega); omega)
      rw [show 58 + 51 * f + (k - (58 + 51 * f)) = k by omega] at z
      exact z
    · show isI (g' k)
      rw [e k hk (by omega)]; exact hi k hk hk2
  · rw [eN 2 (by omega)] at ht
    obtain ⟨m, m0, hm⟩ := hT t ht
    exact ⟨m, m0, gNm_eq (g := g) (fun k hk => e _ (by omega) (by omega)) hm⟩
  · rw [eN 3 (by omega)] at hf'
    obtain ⟨m, hm⟩ := hF f' hf'
    refine ⟨m, gNm_eq (g := g) (fun k hk => ?_) hm⟩
    by_cases q : f' = f
    · rw [q]
      have := hn (6 + k) (by omega) (by omega)
      rw [← Nat.add_assoc] at this
      exact this
    · exact e _ (by omega) (by omega)
  · rw [eN 2 (by omega)] at ht
    exact gRt_cg (fun k hk => e _ (by omega) (by omega)) (hr.2.1 t ht)
  · rw [eN 3 (by omega)] at hf'
    by_cases q : f' = f
    · rw [q]; exact hr'
    · exact gRf_cg (fun k hk => e _ (by omega) (by omega)) (eN 0 (by omega)) (by rw [eN 4 (by omega)]; exact Nat.le_refl _) (hb.keL hf') (hr.2.2 f' hf')
/-- what two rows say of one file, where they agree -/
theorem gRf_q {g : Nat → Int64} {f : Nat} : gRf g f ↔ nLe (gf g f 0) 1 999 ∧ nLe (gf g f 2) 0 9999 ∧ nLe (gf g f 3) 0 9999 ∧ gN g (58 + 51 * f + 4) ≤ gN g 4 ∧ sOk (gs g f) (gN g 0) ∧ uOk (gu g f) (gN g (58 + 51 * f + 4)) := Iff.rfl
/-! forgetting and learning again -/
theorem gs_w {g : Nat → Int64} {f ph j : Nat} {v : Int32} (hj : j < 12) : gs (zwL g (58 + 51 * f + 14 + ph) v.toInt64) f j = if j = ph then v else gs g f j := by
  by_cases q : j = ph
  · rw [if_pos q, q]
    exact its_e2.trans (i64 v)
  · rw [if_neg q]
    exact its_eq (zwL_n (by omega))
theorem learn_ok {g : Nat → Int64} {f ph : Nat} {u : Int32} {c : Nat} (hp : ph < c) (hc : c ≤ 12) (hs : sOk (gs g f) c) (hr : nLe (its g 1) 1 8) (hu : nLe u 0 9999) : sOk (gs (oLearn g f ph u) f) c := by
  intro j hj
  unfold oLearn
  rw [gs_w hj]
  by_cases q : j = ph
  · rw [if_pos q]
    refine Or.inr ⟨by omega, zlv_ok ?_ hu hr⟩
    rcases hs ph (by omega) with z | z
    · exact Or.inl z
    · exact Or.inr z.2
  · rw [if_neg q]; exact hs j hj
theorem oRe_s {g : Nat → Int64} {f n : Nat} (hc : 2 ≤ gN g 0 ∧ gN g 0 ≤ 12) (hr : nLe (its g 1) 1 8) (hu : uOk (gu g f) n) : ∀ i, i ≤ n → sOk (gs (oRe g f n i) f) (gN g 0)
  | 0, _ => fun j hj => Or.inl (by
    show (oForget g f (58 + 51 * f + 14 + j)).toInt32 = -1
    unfold oForget
    rw [if_pos (by omega), i64])
  | i + 1, hi => by
    have ih := oRe_s hc hr hu i (by omega)
    have hc1 : 0 < gN g 0 ∧ gN g 0 ≤ 12 := ⟨by omega, hc.2⟩
    have e1 : its (oRe g f n i) 1 = its g 1 := oRe_its1 hc1 i
    exact learn_ok (Nat.mod_lt _ hc1.1) hc.2 ih (by rw [e1]; exact hr) (hu i (by omega))
theorem oReA_row {g : Nat → Int64} (hc : 0 < gN g 0 ∧ gN g 0 ≤ 12) {f k : Nat} (hf : f < 20) (hk : k < 51) : ∀ d, f + 1 + d ≤ 20 → oReA g (f + 1 + d) (58 + 51 * f + k) = oReA g (f + 1) (58 + 51 * f + k)
  | 0, _ => rfl
  | d + 1, hd => by
    have e0 : gN (oReA g (f + 1 + d)) 0 = gN g 0 := gN_eq (oReA_n hc _ (Or.inl (by omega)) (by omega))
    show oRe (oReA g (f + 1 + d)) (f + 1 + d) _ _ (58 + 51 * f + k) = _
    rw [oRe_n (by omega) (by rw [e0]; exact hc)]
    exact oReA_row hc hf hk d (by omega)
theorem oReA_s {g : Nat → Int64} (hc : 2 ≤ gN g 0 ∧ gN g 0 ≤ 12) (hr : nLe (its g 1) 1 8) {f n : Nat} (hf : f < n) (hn : n ≤ 20) (h24 : gN g (58 + 51 * f + 4) ≤ 24) (hu : uOk (gu g f) (gN g (58 + 51 * f + 4))) : sOk (gs (oReA g n) f) (gN g 0) := by
  have hc1 : 0 < gN g 0 ∧ gN g 0 ≤ 12 := ⟨by omega, hc.2⟩
  have en : ∀ i, i ≤ 20 → ∀ k, k < 58 → oReA g i k = g k := fun i hi k hk => oReA_n hc1 i (Or.inl hk) hi
  have ef : ∀ i, i ≤ 20 → ∀ q, q < 51 → (q < 14 ∨ 26 ≤ q) → oReA g i (58 + 51 * f + q) = g (58 + 51 * f + q) := fun i hi q hq hq2 => oReA_n hc1 i (Or.inr (fun _ f' q' h1 h2 h3 => by
    have : f' = f := by omega
    omega)) hi
  have e0 : gN (oReA g f) 0 = gN g 0 := gN_eq (en f (by omega) 0 (by omega))
  have e4 : gN (oReA g f) (58 + 51 * f + 4) = gN g (58 + 51 * f + 4) := gN_eq (ef f (by omega) 4 (by omega) (by omega))
  have hs : sOk (gs (oReA g (f + 1)) f) (gN g 0) := by
    have z := oRe_s (g := oReA g f) (f := f) (n := gN (oReA g f) (58 + 51 * f + 4)) (by rw [e0]; exact hc) (by rw [its_eq (en f (by omega) 1 (by omega))]; exact hr) (fun j hj => by
      rw [e4] at hj
      have e := ef f (by omega) (26 + j) (by omega) (by omega)
      rw [← Nat.add_assoc] at e
      rw [show gu (oReA g f) f j = gu g f j from its_eq e]
      exact hu j hj) _ (Nat.le_refl _)
    rw [e0] at z
    exact z
  intro j hj
  have e := oReA_row hc1 (f := f) (k := 14 + j) (by omega) (by omega) (n - (f + 1)) (by omega)
  rw [show f + 1 + (n - (f + 1)) = n by omega, ← Nat.add_assoc] at e
  rw [show gs (oReA g n) f j = gs (oReA g (f + 1)) f j from its_eq e]
  exact hs j hj
theorem isI_re {g : Nat → Int64} {f n k : Nat} (h : isI (g k)) : ∀ i, isI (oRe g f n i k)
  | 0 => by
    show isI (oForget g f k)
    unfold oForget
    split
    · exact isI_of _
    · exact h
  | i + 1 => by
    show isI (zwL (oRe g f n i) (58 + 51 * f + 14 + (gN g 4 - n + i) % gN g 0) _ k)
    by_cases q : k = 58 + 51 * f + 14 + (gN g 4 - n + i) % gN g 0
    · rw [q, zwL_e]; exact isI_of _
    · rw [zwL_n q]; exact isI_re h i
theorem isI_reA {g : Nat → Int64} {k : Nat} (h : isI (g k)) : ∀ i, isI (oReA g i k)
  | 0 => h
  | i + 1 => isI_re (isI_reA h i) _
theorem gInv_learn {g : Nat → Int64} {y r : Nat} (h : gInv g) (hy : 2 ≤ y ∧ y ≤ 12) (hr : 1 ≤ r ∧ r ≤ 8) : gInv (oReA (zwL (zwL g 0 (nI y).toInt64) 1 (nI r).toInt64) (gN g 3)) := by
  obtain ⟨hb, hi, hT, hF, hrg, h0⟩ := h
  have h4 := hb.2.1.2
  have h20 := hb.2.2.1.2
  have hb1 : gBd (zwL (zwL g 0 (nI y).toInt64) 1 (nI r).toInt64) := (hb.cyc hy).rat
  have hi1 : gIp (zwL (zwL g 0 (nI y).toInt64) 1 (nI r).toInt64) := gIp_w (gIp_w hi (isI_of _)) (isI_of _)
  have e1 : ∀ k, 2 ≤ k → zwL (zwL g 0 (nI y).toInt64) 1 (nI r).toInt64 k = g k := fun k hk => (zwL_n (by omega)).trans (zwL_n (by omega))
  have N0 : gN (zwL (zwL g 0 (nI y).toInt64) 1 (nI r).toInt64) 0 = y := gN_of (n := y) ((its_eq (zwL_n (by decide))).trans (its_e2.trans (i64 _))) (by omega)
  have I1 : its (zwL (zwL g 0 (nI y).toInt64) 1 (nI r).toInt64) 1 = nI r := its_e2.trans (i64 _)
  have N3 : gN (zwL (zwL g 0 (nI y).toInt64) 1 (nI r).toInt64) 3 = gN g 3 := gN_eq (e1 3 (by omega))
  generalize zwL (zwL g 0 (nI y).toInt64) 1 (nI r).toInt64 = g1 at hb1 hi1 e1 N0 I1 N3 ⊢
  have hc1 : 0 < gN g1 0 ∧ gN g1 0 ≤ 12 := by rw [N0]; omega
  have hb2 : gBd (oReA g1 (gN g 3)) := hb1.reA _ (by rw [N3]; exact Nat.le_refl _)
  have eh : ∀ k, k < 58 → oReA g1 (gN g 3) k = g1 k := fun k hk => oReA_n hc1 _ (Or.inl hk) h20
  have ef : ∀ f, f < 20 → ∀ q, q < 51 → (q < 14 ∨ 26 ≤ q) → oReA g1 (gN g 3) (58 + 51 * f + q) = g1 (58 + 51 * f + q) := fun f hf q hq hq2 => oReA_n hc1 _ (Or.inr (fun _ f' q' h1 h2 h3 => by
    have : f' = f := by omega
    omega)) h20
  have eN : ∀ k, 2 ≤ k → k < 58 → gN (oReA g1 (gN g 3)) k = gN g k := fun k h2 hk => gN_eq ((eh k hk).trans (e1 k h2))
  have n0 : gN (oReA g1 (gN g 3)) 0 = y := (gN_eq (eh 0 (by omega))).trans N0
  refine ⟨hb2, fun k hk hk2 => isI_reA (hi1 k hk hk2) _, fun t ht => ?_, fun f hf => ?_, ⟨?_, fun t ht => ?_, fun f hf => ?_⟩, by rw [eN 2 (by omega) (by omega)]; exact h0⟩
  · rw [eN 2 (by omega) (by omega)] at ht
    obtain ⟨m, m0, hm⟩ := hT t ht
    exact ⟨m, m0, gNm_eq (g := g) (fun k hk => (eh _ (by omega)).trans (e1 _ (by omega))) hm⟩
  · rw [eN 3 (by omega) (by omega)] at hf
    obtain ⟨m, hm⟩ := hF f hf
    refine ⟨m, gNm_eq (g := g) (fun k hk => ?_) hm⟩
    have e := ef f (by omega) (6 + k) (by omega) (by omega)
    rw [← Nat.add_assoc] at e
    exact e.trans (e1 _ (by omega))
  · rw [its_eq (eh 1 (by omega)), I1]
    exact ⟨r, rfl, hr.1, hr.2⟩
  · rw [eN 2 (by omega) (by omega)] at ht
    exact gRt_cg (fun k hk => (eh _ (by omega)).trans (e1 _ (by omega))) (hrg.2.1 t ht)
  · rw [eN 3 (by omega) (by omega)] at hf
    have a := hrg.2.2 f hf
    have k24 := hb.keL hf
    have ei : ∀ k, k < 14 → gf (oReA g1 (gN g 3)) f k = gf g f k := fun k hk => its_eq ((ef f (by omega) k (by omega) (by omega)).trans (e1 _ (by omega)))
    have E4 : gN (oReA g1 (gN g 3)) (58 + 51 * f + 4) = gN g (58 + 51 * f + 4) := gN_eq ((ef f (by omega) 4 (by omega) (by omega)).trans (e1 _ (by omega)))
    have E4' : gN g1 (58 + 51 * f + 4) = gN g (58 + 51 * f + 4) := gN_eq (e1 _ (by omega))
    have eu : ∀ j, j < 24 → gu (oReA g1 (gN g 3)) f j = gu g f j := fun j hj => its_eq (by
      have e := ef f (by omega) (26 + j) (by omega) (by omega)
      rw [← Nat.add_assoc] at e
      exact e.trans (e1 _ (by omega)))
    have eu1 : ∀ j, gu g1 f j = gu g f j := fun j => its_eq (e1 _ (by omega))
    refine ⟨by rw [ei 0 (by omega)]; exact a.1, by rw [ei 2 (by omega)]; exact a.2.1, by rw [ei 3 (by omega)]; exact a.2.2.1, by rw [E4, eN 4 (by omega) (by omega)]; exact a.2.2.2.1, ?_, fun j hj => by rw [E4] at hj; rw [eu j (by omega)]; exact a.2.2.2.2.2 j hj⟩
    have z := oReA_s (g := g1) (f := f) (n := gN g 3) (by rw [N0]; exact hy) (by rw [I1]; exact ⟨r, rfl, hr.1, hr.2⟩) hf h20 (by rw [E4']; exact k24) (fun j hj => by rw [E4'] at hj; rw [eu1 j]; exact a.2.2.2.2.2 j hj)
    rw [n0, ← N0]
    exact z
/-! a tier's number -/
theorem gInv_tier {g : Nat → Int64} {t w : Nat} {v : Int32} (h : gInv g) (ht : t < gN g 2) (hw : w < 5) (h0 : w = 0 → nLe v 1 99999) (h1 : ¬ w = 0 → nLe v 0 99) : gInv (zwL g (6 + 13 * t + w) v.toInt64) := by
  obtain ⟨hb, hi, hT, hF, hr, h2⟩ := h
  have h4 := hb.2.1.2
  have h20 := hb.2.2.1.2
  have en : ∀ k, k ≠ 6 + 13 * t + w → zwL g (6 + 13 * t + w) v.toInt64 k = g k := fun k hk => zwL_n hk
  have eN : ∀ k, k < 6 → gN (zwL g (6 + 13 * t + w) v.toInt64) k = gN g k := fun k hk => gN_eq (en k (by omega))
  refine ⟨hb.tier (fun k hk _ => en k (by omega)), gIp_w hi (isI_of v), fun t' ht' => ?_, fun f hf => ?_, ⟨by rw [its_eq (en 1 (by omega))]; exact hr.1, fun t' ht' => ?_, fun f hf => ?_⟩, by rw [eN 2 (by omega)]; exact h2⟩
  · rw [eN 2 (by omega)] at ht'
    obtain ⟨m, m0, hm⟩ := hT t' ht'
    exact ⟨m, m0, gNm_eq (g := g) (fun k hk => en _ (by omega)) hm⟩
  · rw [eN 3 (by omega)] at hf
    obtain ⟨m, hm⟩ := hF f hf
    exact ⟨m, gNm_eq (g := g) (fun k hk => en _ (by omega)) hm⟩
  · rw [eN 2 (by omega)] at ht'
    by_cases q : t' = t
    · subst q
      have a := hr.2.1 t' ht'
      have ev : gt (zwL g (6 + 13 * t' + w) v.toInt64) t' w = v := its_e2.trans (i64 v)
      have ei : ∀ k, k ≠ w → gt (zwL g (6 + 13 * t' + w) v.toInt64) t' k = gt g t' k := fun k hk => its_eq (en _ (by omega))
      refine ⟨?_, fun k k1 k5 => ?_⟩
      · by_cases z : w = 0
        · rw [← z, ev]; exact h0 z
        · rw [ei 0 (by omega)]; exact a.1
      · by_cases z : k = w
        · rw [z, ev]; exact h1 (by omega)
        · rw [ei k z]; exact a.2 k k1 k5
    · exact gRt_cg (fun k hk => en _ (by omega)) (hr.2.1 t' ht')
  · rw [eN 3 (by omega)] at hf
    exact gRf_cg (fun k hk => en _ (by omega)) (eN 0 (by omega)) (by rw [eN 4 (by omega)]; exact Nat.le_refl _) (hb.keL hf) (hr.2.2 f hf)
/-! a file goes -/
theorem gInv_drop {g g' : Nat → Int64} {f : Nat} (h : gInv g) (hf : f < gN g 3) (hz : zDr g f g') (hi' : gIp g') : gInv g' := by
  obtain ⟨hb, hi, hT, hF, hr, h0⟩ := h
  have h4 := hb.2.1.2
  have h20 := hb.2.2.1.2
  have hb' := hb.drop hf hz
  obtain ⟨z1, z2, z3, z4, -⟩ := hz
  have N3 : gN g' 3 = gN g 3 - 1 := gN_of z2 (by omega)
  have eN : ∀ k, k < 58 → k ≠ 3 → k ≠ 5 → gN g' k = gN g k := fun k h1 h2 h3 => gN_eq (z1 k h1 h2 h3)
  refine ⟨hb', hi', fun t ht => ?_, fun f' hf' => ?_, ⟨by rw [its_eq (z1 1 (by omega) (by omega) (by omega))]; exact hr.1, fun t ht => ?_, fun f' hf' => ?_⟩, by rw [eN 2 (by omega) (by omega) (by omega)]; exact h0⟩
  · rw [eN 2 (by omega) (by omega) (by omega)] at ht
    obtain ⟨m, m0, hm⟩ := hT t ht
    exact ⟨m, m0, gNm_eq (g := g) (fun k hk => z1 _ (by omega) (by omega) (by omega)) hm⟩
  · rw [N3] at hf'
    have hq : (if f' < f then f' else f' + 1) < gN g 3 := by split <;> omega
    obtain ⟨m, hm⟩ := hF _ hq
    refine ⟨m, gNm_eq (g := g) (fun k hk => ?_) hm⟩
    have e := z3 f' hf' (6 + k) (by omega)
    rw [← Nat.add_assoc, ← Nat.add_assoc] at e
    exact e
  · rw [eN 2 (by omega) (by omega) (by omega)] at ht
    exact gRt_cg (fun k hk => z1 _ (by omega) (by omega) (by omega)) (hr.2.1 t ht)
  · rw [N3] at hf'
    have hq : (if f' < f then f' else f' + 1) < gN g 3 := by split <;> omega
    exact gRf_cg (f := if f' < f then f' else f' + 1) (fun k hk => z3 f' hf' k hk) (eN 0 (by omega) (by omega) (by omega)) (by rw [eN 4 (by omega) (by omega) (by omega)]; exact Nat.le_refl _) (hb.keL hq) (hr.2.2 _ hq)
