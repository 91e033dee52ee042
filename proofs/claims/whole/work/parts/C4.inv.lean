/-! ===== what holds of a store's row: its ranges ===== -/
def nLe (x : Int32) (lo hi : Nat) : Prop := ∃ m, x = nI m ∧ lo ≤ m ∧ m ≤ hi
def gRt (g : Nat → Int64) (t : Nat) : Prop := nLe (gt g t 0) 1 99999 ∧ ∀ k, 1 ≤ k → k < 5 → nLe (gt g t k) 0 99
def gRf (g : Nat → Int64) (f : Nat) : Prop := nLe (gf g f 0) 1 999 ∧ nLe (gf g f 2) 0 9999 ∧ nLe (gf g f 3) 0 9999 ∧ gN g (58 + 51 * f + 4) ≤ gN g 4 ∧ (∀ j, j < 12 → gs g f j = -1 ∨ (j < gN g 0 ∧ nLe (gs g f j) 0 159984)) ∧ ∀ j, j < gN g (58 + 51 * f + 4) → nLe (gu g f j) 0 9999
def gRg (g : Nat → Int64) : Prop := nLe (its g 1) 1 8 ∧ (∀ t, t < gN g 2 → gRt g t) ∧ ∀ f, f < gN g 3 → gRf g f
/-- the whole of it -/
def gInv (g : Nat → Int64) : Prop := gBd g ∧ gIp g ∧ gNT g ∧ gNF g ∧ gRg g ∧ 0 < gN g 2
theorem zfull_nat {g : Nat → Int64} {x : Int32} : ∀ n, (∀ f, f < n → nLe (gf g f 0) 1 999) → ∃ S, S ≤ 999 * n ∧ zfull g x n = nI S
  | 0, _ => ⟨0, by omega, rfl⟩
  | n + 1, h => by
    obtain ⟨S, hS, e⟩ := zfull_nat (g := g) (x := x) n (fun f hf => h f (by omega))
    unfold zfull
    by_cases c : gf g n 1 = x
    · obtain ⟨m, em, -, h2⟩ := h n (by omega)
      rw [if_pos c, e, em, nI_add]
      exact ⟨S + m, by omega, rfl⟩
    · rw [if_neg c]
      exact ⟨S, by omega, e⟩
theorem room_iff {S R z : Nat} (hS : S ≤ 20000) (hR : R ≤ 99999) (hz : z ≤ 999) : (nI S + nI z ≤ nI R) ↔ ¬ (nI R - nI S < nI z) := by
  rw [nI_add, nI_leI (by omega) (by omega), Int32.lt_iff_toInt_lt, pk_sub_toInt (by omega) (by omega), nI_toInt (by omega)]
  omega
theorem room_g {g : Nat → Int64} {t n : Nat} {x z : Int32} (hn : n ≤ 20) (hr : nLe (gt g t 0) 1 99999) (hf : ∀ f, f < n → nLe (gf g f 0) 1 999) (hz : nLe z 0 999) : (zfull g x n + z ≤ gt g t 0) ↔ ¬ (gt g t 0 - zfull g x n < z) := by
  obtain ⟨S, hS, e⟩ := zfull_nat (g := g) (x := x) n hf
  obtain ⟨R, eR, -, hR⟩ := hr
  obtain ⟨m, em, -, hm⟩ := hz
  rw [e, eR, em]
  exact room_iff (by omega) hR hm
theorem zfull_cg {g h : Nat → Int64} {x : Int32} : ∀ n, (∀ f, f < n → gf g f 1 = gf h f 1 ∧ gf g f 0 = gf h f 0) → zfull g x n = zfull h x n
  | 0, _ => rfl
  | n + 1, e => by
    unfold zfull
    rw [zfull_cg n (fun f hf => e f (by omega)), (e n (by omega)).1, (e n (by omega)).2]
theorem rSm_cg {g h : Nat → Int64} {u : Nat → Int32} {r : rRd} {b : Nat} : ∀ k, (∀ i, i < k → g (b + i) = h (b + i)) → rSm g u r b k = rSm h u r b k
  | 0, _ => rfl
  | k + 1, e => by
    unfold rSm
    rw [rSm_cg k (fun i hi => e i (by omega)), e k (by omega)]
theorem rNd_cg {g h : Nat → Int64} {u : Nat → Int32} {r : rRd} {b sz : Nat} : ∀ f i, (∀ q, i ≤ q → q < i + f → ∀ j, j < 8 → g (b + sz * q + j) = h (b + sz * q + j)) → rNd g u r b sz f i = rNd h u r b sz f i
  | 0, _, _ => rfl
  | f + 1, i, e => by
    unfold rNd
    rw [rSm_cg 8 (fun j hj => e i (by omega) (by omega) j hj), rNd_cg f (i + 1) (fun q q1 q2 => e q (by omega) (by omega))]
/-! what is left of a file's text where something was wrong -/
theorem rIw_n {u : Nat → Int32} {w : Nat} {r : rRd} (h : ¬ r.2.2.2.2.1 = 0) : rIw u w r = 0 := (if_neg (fun q => h q.1)).trans (by decide)
theorem fz7 {u : Nat → Int32} {n : Nat} {v7 : Int32} {r7 : rRd} {z : Int32 × rRd} (hv7 : rIw u 5 r7 = v7) (hz : (if v7 = 0 then (nI 0, r7) else rTa u n (nI 0) (nI 9999) (rNx u n r7)) = z) (w : ¬ r7.2.2.2.2.1 = 0) : rEn u n z.2 = r7 := by
  rw [rIw_n w] at hv7
  rw [if_pos hv7.symm] at hz
  rw [← hz]
  exact rEn_w w
theorem fz6 {u : Nat → Int32} {n : Nat} {v7 : Int32} {r6 r7 : rRd} {z : Int32 × rRd} (hr7 : rMu u n (nI 1) r6 = r7) (hv7 : rIw u 5 r7 = v7) (hz : (if v7 = 0 then (nI 0, r7) else rTa u n (nI 0) (nI 9999) (rNx u n r7)) = z) (w : ¬ r6.2.2.2.2.1 = 0) : rEn u n z.2 = r6 := by
  rw [rMu_w w] at hr7
  subst hr7
  exact fz7 hv7 hz w
theorem fz5 {u : Nat → Int32} {n : Nat} {v7 : Int32} {r5 r6 r7 : rRd} {z : Int32 × rRd} {C : Prop} [Decidable C] (hr6 : (if r5.2.2.2.2.1 = 0 ∧ C then rFl r5 (-6) else r5) = r6) (hr7 : rMu u n (nI 1) r6 = r7) (hv7 : rIw u 5 r7 = v7) (hz : (if v7 = 0 then (nI 0, r7) else rTa u n (nI 0) (nI 9999) (rNx u n r7)) = z) (w : ¬ r5.2.2.2.2.1 = 0) : rEn u n z.2 = r5 := by
  rw [if_neg (fun q => w q.1)] at hr6
  subst hr6
  exact fz6 hr7 hv7 hz w
theorem fz4 {u : Nat → Int32} {n : Nat} {v7 nv : Int32} {r4 r5 r6 r7 : rRd} {z : Int32 × rRd} {C : Prop} [Decidable C] (hr5 : (if nv = -1 then rFl r4 (-4) else r4) = r5) (hr6 : (if r5.2.2.2.2.1 = 0 ∧ C then rFl r5 (-6) else r5) = r6) (hr7 : rMu u n (nI 1) r6 = r7) (hv7 : rIw u 5 r7 = v7) (hz : (if v7 = 0 then (nI 0, r7) else rTa u n (nI 0) (nI 9999) (rNx u n r7)) = z) (w : ¬ r4.2.2.2.2.1 = 0) : rEn u n z.2 = r4 := by
  have e : r5 = r4 := by
    rw [← hr5]
    split
    · exact rFl_n w
    · rfl
  subst e
  exact fz5 hr6 hr7 hv7 hz w
/-- the row of a file that was read -/
theorem file_row {g g2 : Nat → Int64} {u : Nat → Int32} {ra : rRd} {x z : Int32} {d : Nat} (ht : gN g 3 < 20) (h3 : g 3 = (nI (gN g 3)).toInt64) (hg2 : rPn u ra (oB0 g (gN g 3)) (58 + 51 * gN g 3 + 6) 8 = g2) (k : Nat) :
    zwL (zwL (zwL (zwL g2 (58 + 51 * gN g 3 + 0) x.toInt64) (58 + 51 * gN g 3 + 1) (nI d).toInt64) (58 + 51 * gN g 3 + 3) z.toInt64) 3 ((zwL (zwL (zwL g2 (58 + 51 * gN g 3 + 0) x.toInt64) (58 + 51 * gN g 3 + 1) (nI d).toInt64) (58 + 51 * gN g 3 + 3) z.toInt64) 3 + lN 1) k = zwL (oStart g (gN g 3) (rNm u ra) x (nI d) z) 3 (nI (gN g 3 + 1)).toInt64 k := by
  have e2 : ∀ k, (k < 58 + 51 * gN g 3 ∨ 58 + 51 * gN g 3 + 51 ≤ k) → g2 k = g k := fun k q => by rw [← hg2, rPn_n (by omega), oB0_n q]
  by_cases q3 : k = 3
  · rw [q3, zwL_e, zwL_e, zwL_n (by omega), zwL_n (by omega), zwL_n (by omega), e2 3 (by omega), h3, nI_l (by omega), nI_l (by omega), lN_add]
  · rw [zwL_n q3, zwL_n q3]
    unfold oStart
    by_cases qf : 58 + 51 * gN g 3 ≤ k ∧ k < 58 + 51 * gN g 3 + 51
    · rw [if_pos qf]
      by_cases a0 : k = 58 + 51 * gN g 3 + 0
      · rw [if_pos a0, a0, zwL_n (by omega), zwL_n (by omega), zwL_e]
      · rw [if_neg a0]
        by_cases a1 : k = 58 + 51 * gN g 3 + 1
        · rw [if_pos a1, a1, zwL_n (by omega), zwL_e]
        · rw [if_neg a1]
          by_cases a3 : k = 58 + 51 * gN g 3 + 3
          · rw [if_pos a3, a3, zwL_e]
          · rw [if_neg a3, zwL_n a3, zwL_n a1, zwL_n a0, ← hg2]
            by_cases an : 58 + 51 * gN g 3 + 6 ≤ k ∧ k < 58 + 51 * gN g 3 + 14
            · rw [if_pos an]
              exact if_pos (by omega)
            · rw [if_neg an, rPn_n (by omega)]
              show oFoN (oZeN g (gN g 3) 51) (gN g 3) 12 k = _
              unfold oFoN oZeN
              by_cases a9 : 58 + 51 * gN g 3 + 14 ≤ k ∧ k < 58 + 51 * gN g 3 + 26
              · rw [if_pos a9, if_pos (by omega)]
              · rw [if_neg a9, if_neg (show ¬ (58 + 51 * gN g 3 + 14 ≤ k ∧ k < 58 + 51 * gN g 3 + 14 + 12) by omega), if_pos qf]
                rfl
    · rw [if_neg qf, zwL_n (by omega), zwL_n (by omega), zwL_n (by omega), e2 k (by omega)]
