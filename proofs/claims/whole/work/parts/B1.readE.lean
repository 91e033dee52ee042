/-! ===== the reference reads: what it means that nothing was wrong ===== -/
theorem rFl_wr {r : rRd} {c : Int32} (hc : ¬ c = 0) : ¬ (rFl r c).2.2.2.2.1 = 0 := by
  by_cases h : r.2.2.2.2.1 = 0
  · rw [rFl_w h]; exact hc
  · rw [rFl_n h]; exact h
theorem rTk_wr {u : Nat → Int32} {n j : Nat} {q : Int32 × Int32} : (rTk u n j q).2.2.2.2 = q := by
  unfold rTk
  split
  · rfl
  · split
    · rfl
    · split
      · rfl
      · rfl
theorem rNx_wr {u : Nat → Int32} {n : Nat} {r : rRd} : (rNx u n r).2.2.2.2 = r.2.2.2.2 := rTk_wr
theorem rMu_wr {u : Nat → Int32} {n : Nat} {v : Int32} {r : rRd} (h : (rMu u n v r).2.2.2.2.1 = 0) : r.2.2.2.2.1 = 0 ∧ ¬ v = 0 ∧ rMu u n v r = rNx u n r := by
  by_cases hv : v = 0
  · have e : rMu u n v r = rFl r (-2) := if_pos hv
    rw [e] at h
    exact absurd h (rFl_wr (by decide))
  · have e : rMu u n v r = if r.2.2.2.2.1 = 0 then rNx u n r else r := if_neg hv
    by_cases hr : r.2.2.2.2.1 = 0
    · exact ⟨hr, hv, by rw [e, if_pos hr]⟩
    · rw [e, if_neg hr] at h
      exact absurd h hr
theorem rMn_wr {r : rRd} (h : (rMn r).2.2.2.2.1 = 0) : rMn r = r ∧ r.2.2.1 = 0 ∧ r.2.1 - r.1 ≤ 8 := by
  by_cases hv : r.2.2.1 = 0 ∧ r.2.1 - r.1 ≤ 8
  · exact ⟨if_pos hv, hv⟩
  · have e : rMn r = rFl r (-2) := if_neg hv
    rw [e] at h
    exact absurd h (rFl_wr (by decide))
theorem rTa_wr {u : Nat → Int32} {n : Nat} {lo hi : Int32} {r : rRd} (h : (rTa u n lo hi r).2.2.2.2.2.1 = 0) : r.2.2.2.2.1 = 0 ∧ r.2.2.1 = 1 ∧ (lo ≤ r.2.2.2.1 ∧ r.2.2.2.1 ≤ hi) ∧ rTa u n lo hi r = (r.2.2.2.1, rNx u n r) := by
  by_cases h1 : r.2.2.2.2.1 = 0
  · by_cases h2 : r.2.2.1 = 1
    · by_cases h3 : lo ≤ r.2.2.2.1 ∧ r.2.2.2.1 ≤ hi
      · exact ⟨h1, h2, h3, (if_neg (fun q => q h1)).trans ((if_neg (fun q => q h2)).trans (if_neg (fun q => q h3)))⟩
      · have e : rTa u n lo hi r = (0, rFl r (-3)) := (if_neg (fun q => q h1)).trans ((if_neg (fun q => q h2)).trans (if_pos h3))
        rw [e] at h
        exact absurd h (rFl_wr (by decide))
    · have e : rTa u n lo hi r = (0, rFl r (-2)) := (if_neg (fun q => q h1)).trans (if_pos h2)
      rw [e] at h
      exact absurd h (rFl_wr (by decide))
  · have e : rTa u n lo hi r = (0, r) := if_pos h1
    rw [e] at h
    exact absurd h h1
/-- a name that is found is one of the rows' -/
theorem rNd_in {g : Nat → Int64} {u : Nat → Int32} {r : rRd} {b sz : Nat} : ∀ (f i : Nat), rNd g u r b sz f i = -1 ∨ ∃ d, i ≤ d ∧ d < i + f ∧ rNd g u r b sz f i = nI d ∧ ¬ rSm g u r (b + sz * d) 8 = 0
  | 0, i => Or.inl rfl
  | f + 1, i => by
    unfold rNd
    by_cases c : rSm g u r (b + sz * i) 8 = 0
    · rw [if_pos c]
      rcases rNd_in (g := g) (u := u) (r := r) (b := b) (sz := sz) f (i + 1) with h | ⟨d, h1, h2, h3, h4⟩
      · exact Or.inl h
      · exact Or.inr ⟨d, by omega, by omega, h3, h4⟩
    · rw [if_neg c]
      exact Or.inr ⟨i, Nat.le_refl i, by omega, rfl, c⟩

section
end
