/-! ===== the questions ===== -/
theorem hq1 {α : Type} {A : Prop} [Decidable A] {x0 : Nat} {v r z : α} (h : A → v = r) : (eo A x0 none = none ∧ t1 A 1 = 0 ∧ v1 A v z = r) ∨ ∃ x, eo A x0 none = some x ∧ x ∈ [x0] ∧ t1 A 1 = (fun _ : Nat => 1) x ∧ ¬ nI ((fun _ : Nat => 1) x) = nI 0 := by
  by_cases a : A
  · exact Or.inl ⟨by simp [eo, a], by simp [t1, a], by rw [← h a]; simp [v1, a]⟩
  · exact Or.inr ⟨x0, by simp [eo, a], by simp, by simp [t1, a], by show ¬ nI 1 = nI 0; decide⟩
theorem hq22 {α : Type} {A B : Prop} [Decidable A] [Decidable B] {v r z : α} (h : A → B → v = r) : (eo A 2 (eo B 2 none) = none ∧ t2 A B 1 1 = 0 ∧ v2 A B v z = r) ∨ ∃ x, eo A 2 (eo B 2 none) = some x ∧ x ∈ [2] ∧ t2 A B 1 1 = (fun _ : Nat => 1) x ∧ ¬ nI ((fun _ : Nat => 1) x) = nI 0 := by
  by_cases a : A
  · by_cases b : B
    · exact Or.inl ⟨by simp [eo, a, b], by simp [t2, a, b], by rw [← h a b]; simp [v2, a, b]⟩
    · exact Or.inr ⟨2, by simp [eo, a, b], by simp, by simp [t2, a, b], by show ¬ nI 1 = nI 0; decide⟩
  · exact Or.inr ⟨2, by simp [eo, a], by simp, by simp [t2, a], by show ¬ nI 1 = nI 0; decide⟩
theorem hq21 {α : Type} {A B : Prop} [Decidable A] [Decidable B] {v r z : α} (h : A → B → v = r) : (eo A 2 (eo B 1 none) = none ∧ t2 A B 1 2 = 0 ∧ v2 A B v z = r) ∨ ∃ x, eo A 2 (eo B 1 none) = some x ∧ x ∈ [2, 1] ∧ t2 A B 1 2 = (fun x : Nat => if x = 2 then 1 else 2) x ∧ ¬ nI ((fun x : Nat => if x = 2 then 1 else 2) x) = nI 0 := by
  by_cases a : A
  · by_cases b : B
    · exact Or.inl ⟨by simp [eo, a, b], by simp [t2, a, b], by rw [← h a b]; simp [v2, a, b]⟩
    · exact Or.inr ⟨1, by simp [eo, a, b], by simp, by simp [t2, a, b], by show ¬ nI 2 = nI 0; decide⟩
  · exact Or.inr ⟨2, by simp [eo, a], by simp, by simp [t2, a], by show ¬ nI 1 = nI 0; decide⟩
theorem gInv.i {g : Nat → Int64} (h : gInv g) (k : Nat) (hk : k < 6) : g k = (its g k).toInt64 := h.2.1 k (by omega) (fun f hf => by omega)
theorem gInv.c12 {g : Nat → Int64} (h : gInv g) : gN g 0 ≤ 12 := h.1.1.2.2
theorem gInv.fR {g : Nat → Int64} (h : gInv g) {f a : Nat} (hf : f < gN g 3) : zfR g f a = zfc (gs g f) (zph g a) := zfR_c (h.s f hf) h.c12
theorem gInv.f20 {g : Nat → Int64} (h : gInv g) : gN g 3 ≤ 20 := h.1.2.2.1.2
theorem gInv.t4 {g : Nat → Int64} (h : gInv g) : gN g 2 ≤ 4 := h.1.2.1.2
theorem gInv.p12 {g : Nat → Int64} (h : gInv g) (i : Nat) : zph g i < 12 := by
  have h0 := h.1.1
  have : zph g i = (gN g 4 + i) % gN g 0 := by
    first | rfl | (unfold zph; rfl)
  rw [this]
  have := Nat.mod_lt (gN g 4 + i) (show 0 < gN g 0 by omega)
  omega
theorem cnt_eq {g : Nat → Int64} (h : gInv g) {w : Nat} (hw : w < 8) : rCnt g w = vCnt g w := by
  obtain ⟨⟨a0, -⟩, ⟨a2, -⟩, ⟨a3, -⟩, ⟨a4, -⟩, -⟩ := h.1
  unfold rCnt vCnt
  by_cases c5 : w < 5
  · rw [if_pos c5]
    have : w = 0 ∨ w = 1 ∨ w = 2 ∨ w = 3 ∨ w = 4 := by omega
    rcases this with rfl | rfl | rfl | rfl | rfl
    · exact a0
    · rfl
    · exact a2
    · exact a3
    · exact a4
  · rw [if_neg c5]
    have : w = 5 ∨ w = 6 ∨ w = 7 := by omega
    rcases this with rfl | rfl | rfl
    · rfl
    · rfl
    · exact sizes_eq h.1
theorem tir_eq {g : Nat → Int64} (h : gInv g) {t w : Nat} (hw : w < 8) : rTir g t w = vTir g t w := by
  unfold rTir vTir
  by_cases c5 : w < 5
  · rw [if_pos c5, if_pos c5]
  · rw [if_neg c5, if_neg c5]
    by_cases c6 : w = 5
    · rw [if_pos c6, if_pos c6]
    · rw [if_neg c6, if_neg c6]
      by_cases c7 : w = 6
      · rw [if_pos c7, if_pos c7]
      · rw [if_neg c7, if_neg c7]
        exact (zbu_mu (gN g 3) (by have := h.f20; omega) (fun f hf => ⟨h.fR hf, zfc_nat (h.s f hf) (h.p12 0)⟩)).1
theorem fil_eq {g : Nat → Int64} (h : gInv g) {f w : Nat} (hf : f < gN g 3) (hw : w < 10) : rFil g f w = vFil g f w := by
  have hs := h.s f hf
  have hc := h.c12
  unfold rFil vFil
  by_cases c4 : w < 4
  · rw [if_pos c4]
    have : w = 0 ∨ w = 1 ∨ w = 2 ∨ w = 3 := by omega
    rcases this with rfl | rfl | rfl | rfl <;> rfl
  · rw [if_neg c4]
    have : w = 4 ∨ w = 5 ∨ w = 6 ∨ w = 7 ∨ w = 8 ∨ w = 9 := by omega
    rcases this with rfl | rfl | rfl | rfl | rfl | rfl <;> simp only [Nat.reduceEqDiff, reduceIte]
    · exact (zkn_12 hs hc).symm
    · exact zsoR_b hs hc
    · exact zsoR_s hs hc
section
variable {l : Launch} {G : zG} {M : zMem}
theorem op_count (hl : l.stackTraces = false) (hI : INV M) (a : Int32) : opI l G mL_count mX9_count [.int a] M := by
  obtain ⟨S, c, d, n, u, w, v, e, sl, hI⟩ := hI
  have hg := hI.g
  obtain ⟨p, hs⟩ := hI.W 630 zst_now
  exact opI_q hI (fun Q1 h hw => c_L_count hl hI.K a h hw) (c_X8_count hl hI.x hs hI.F a) (by decide) (fun M1 hm => c_X9_count hl hm hg.1 (hg.i 4 (by omega)) a) (hq1 (fun h => by obtain ⟨k, rfl, k9⟩ := inN_nat h (by omega); rw [nI_cl k9 (by omega)]; exact cnt_eq hg k9))
theorem op_tier (hl : l.stackTraces = false) (hI : INV M) (a b : Int32) : opI l G mL_tier mX9_tier [.int a, .int b] M := by
  obtain ⟨S, c, d, n, u, w, v, e, sl, hI⟩ := hI
  have hg := hI.g
  obtain ⟨p, hs⟩ := hI.W 630 zst_now
  exact opI_q hI (fun Q1 h hw => c_L_tier hl hI.K a b h hw) (c_X8_tier hl hI.x hs hI.F a b) (by decide) (fun M1 hm => c_X9_tier hl hm hg.1 a b) (hq21 (fun h1 h2 => by obtain ⟨k, rfl, k9⟩ := inN_nat h2 (by omega); rw [nI_cl k9 (by omega)]; exact tir_eq hg k9))
theorem op_file (hl : l.stackTraces = false) (hI : INV M) (a b : Int32) : opI l G mL_file mX9_file [.int a, .int b] M := by
  obtain ⟨S, c, d, n, u, w, v, e, sl, hI⟩ := hI
  have hg := hI.g
  obtain ⟨p, hs⟩ := hI.W 630 zst_now
  exact opI_q hI (fun Q1 h hw => c_L_file hl hI.K a b h hw) (c_X8_file hl hI.x hs hI.F a b) (by decide) (fun M1 hm => c_X9_file hl hm hg.1 (hg.i 4 (by omega)) a b) (hq21 (fun h1 h2 => by have hf20 := hg.f20; obtain ⟨j, rfl, j9⟩ := inN_nat h1 (by omega); obtain ⟨k, rfl, k9⟩ := inN_nat h2 (by omega); rw [nI_cl j9 (by omega), nI_cl k9 (by omega)]; exact fil_eq hg j9 k9))
theorem op_season (hl : l.stackTraces = false) (hI : INV M) (a b : Int32) : opI l G mL_season mX9_season [.int a, .int b] M := by
  obtain ⟨S, c, d, n, u, w, v, e, sl, hI⟩ := hI
  have hg := hI.g
  obtain ⟨p, hs⟩ := hI.W 630 zst_now
  exact opI_q hI (fun Q1 h hw => c_L_season hl hI.K a b h hw) (c_X8_season hl hI.x hs hI.F a b) (by decide) (fun M1 hm => c_X9_season hl hm hg.1 a b) (hq22 (fun h1 h2 => rfl))
theorem op_kept (hl : l.stackTraces = false) (hI : INV M) (a b : Int32) : opI l G mL_kept mX9_kept [.int a, .int b] M := by
  obtain ⟨S, c, d, n, u, w, v, e, sl, hI⟩ := hI
  have hg := hI.g
  obtain ⟨p, hs⟩ := hI.W 630 zst_now
  exact opI_q hI (fun Q1 h hw => c_L_kept hl hI.K a b h hw) (c_X8_kept hl hI.x hs hI.F a b) (by decide) (fun M1 hm => c_X9_kept hl hm hg.1 a b) (hq22 (fun h1 h2 => rfl))
theorem op_forecast (hl : l.stackTraces = false) (hI : INV M) (a b : Int32) : opI l G mL_forecast mX9_forecast [.int a, .int b] M := by
  obtain ⟨S, c, d, n, u, w, v, e, sl, hI⟩ := hI
  have hg := hI.g
  obtain ⟨p, hs⟩ := hI.W 630 zst_now
  exact opI_q hI (fun Q1 h hw => c_L_forecast hl hI.K a b h hw) (c_X8_forecast hl hI.x hs hI.F a b) (by decide) (fun M1 hm => c_X9_forecast hl hm hg.1 a b) (hq21 (fun h1 h2 => by have hf20 := hg.f20; obtain ⟨j, rfl, j9⟩ := inN_nat h1 (by omega); rw [nI_cl j9 (by omega)]; exact hg.fR j9))
theorem op_off (hl : l.stackTraces = false) (hI : INV M) (a : Int32) : opJ l G mL_off mX9_off [.int a] M := by
  obtain ⟨S, c, d, n, u, w, v, e, sl, hI⟩ := hI
  have hg := hI.g
  obtain ⟨p, hs⟩ := hI.W 630 zst_now
  exact opJ_q hI (fun Q1 h hw => c_L_off hl hI.K a h hw) (c_X8_off hl hI.x hs hI.F a) (by decide) (fun M1 hm => c_X9_off hl hm hg.1 a) (hq1 (fun h => rfl))
theorem op_cycleOf (hl : l.stackTraces = false) (hI : INV M) (a : Int32) : opI l G mL_cycleOf mX9_cycleOf [.int a] M := by
  obtain ⟨S, c, d, n, u, w, v, e, sl, hI⟩ := hI
  have hg := hI.g
  obtain ⟨p, hs⟩ := hI.W 630 zst_now
  exact opI_q hI (fun Q1 h hw => c_L_cycleOf hl hI.K a h hw) (c_X8_cycleOf hl hI.x hs hI.F a) (by decide) (fun M1 hm => c_X9_cycleOf hl hm hg.1 a) (hq1 (fun h => by have hf20 := hg.f20; obtain ⟨j, rfl, j9⟩ := inN_nat h (by omega); rw [nI_cl j9 (by omega)]; exact own_eq (hg.u j j9) (hg.1.2.2.2.2.2.1 j j9).2.2))
theorem op_account (hl : l.stackTraces = false) (hI : INV M) (a b : Int32) : opJ l G mL_account mX9_account [.int a, .int b] M := by
  obtain ⟨S, c, d, n, u, w, v, e, sl, hI⟩ := hI
  have hg := hI.g
  obtain ⟨p, hs⟩ := hI.W 630 zst_now
  exact opJ_q hI (fun Q1 h hw => c_L_account hl hI.K a b h hw) (c_X8_account hl hI.x hs hI.F a b) (by decide) (fun M1 hm => c_X9_account hl hm hg.1 a b) (hq21 (fun h1 h2 => by have ht4 := hg.t4; obtain ⟨k, rfl, k9⟩ := inN_nat h2 (by omega); rw [nI_cl k9 (by omega)]; rcases h1 with rfl | h1; exact (rSum_all (by omega) _).trans (if_pos rfl).symm; obtain ⟨j, rfl, j9⟩ := inN_nat h1 (by omega); rw [nI_cl j9 (by omega), if_neg (nI_ne1 (by omega)), rSum_one (by omega) (by omega) _ (by omega), if_pos j9]))
theorem op_cost (hl : l.stackTraces = false) (hI : INV M) (a b b2 : Int32) : opJ l G mL_cost mX9_cost [.int a, .int b, .int b2] M := by
  obtain ⟨S, c, d, n, u, w, v, e, sl, hI⟩ := hI
  have hg := hI.g
  have hf20 := hg.f20
  have ht4 := hg.t4
  obtain ⟨p, hs⟩ := hI.W 630 zst_now
  have h8 := c_X8_cost (G := G) hl hI.x hs hI.F a b b2
  by_cases h1 : inN a (gN (S 630) 3)
  · by_cases h2 : inN b (gN (S 630) 2)
    · by_cases h3 : nI 1 ≤ b2 ∧ b2 ≤ nI 24
      · obtain ⟨i, rfl, i9⟩ := inN_nat h1 (by omega)
        obtain ⟨j, rfl, j9⟩ := inN_nat h2 (by omega)
        obtain ⟨k, rfl, k1, k9⟩ := nLe_of (lo := 1) (hi := 24) h3.1 h3.2 (by decide) (by decide)
        rw [nI_cl i9 (by omega), nI_cl j9 (by omega), nI_cl (show k < 25 by omega) (by omega)] at h8
        refine opJ_q hI (fun Q1 h hw => c_L_cost hl hI.K _ _ _ h hw) h8 (by decide) (fun M1 hm => c_X9_cost hl hm hg.1 i9 j9 k1 k9) (Or.inl ⟨by simp only [eo, if_pos h1, if_pos h2, if_pos h3], rfl, ?_⟩)
        show zco (S 630) i j (nI k) (zfsR (S 630) i k) = _
        rw [zfsR_c (hg.s i i9) hg.c12]
      · refine opJ_q hI (fun Q1 h hw => c_L_cost hl hI.K _ _ _ h hw) h8 (by decide) (fun M1 hm => c_X9_cost_x hl hm hg.1 a b b2 (fun q => h3 q.2)) (Or.inr ⟨1, by simp only [eo, if_pos h1, if_pos h2, if_neg h3], by simp, by simp only [t2, if_pos (show inN a (gN (S 630) 3) ∧ inN b (gN (S 630) 2) from ⟨h1, h2⟩), if_neg h3]; rfl, by show ¬ nI 2 = nI 0; decide⟩)
    · refine opJ_q hI (fun Q1 h hw => c_L_cost hl hI.K _ _ _ h hw) h8 (by decide) (fun M1 hm => c_X9_cost_x hl hm hg.1 a b b2 (fun q => h2 q.1.2)) (Or.inr ⟨2, by simp only [eo, if_pos h1, if_neg h2], by simp, by simp only [t2, if_neg (show ¬ (inN a (gN (S 630) 3) ∧ inN b (gN (S 630) 2)) from fun q => h2 q.2)]; rfl, by show ¬ nI 1 = nI 0; decide⟩)
  · refine opJ_q hI (fun Q1 h hw => c_L_cost hl hI.K _ _ _ h hw) h8 (by decide) (fun M1 hm => c_X9_cost_x hl hm hg.1 a b b2 (fun q => h1 q.1.1)) (Or.inr ⟨2, by simp only [eo, if_neg h1], by simp, by simp only [t2, if_neg (show ¬ (inN a (gN (S 630) 3) ∧ inN b (gN (S 630) 2)) from fun q => h1 q.1)]; rfl, by show ¬ nI 1 = nI 0; decide⟩)
end
