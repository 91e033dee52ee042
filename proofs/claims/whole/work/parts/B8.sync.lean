/-! ===== where the class's reader and the reference's stand together ===== -/
theorem rTk_1 {u : Nat → Int32} {n j : Nat} {q : Int32 × Int32} : (rTk u n j q).1 = j := by
  unfold rTk
  split
  · rfl
  · split
    · rfl
    · split
      · rfl
      · rfl
theorem zsk_end {u : Nat → Int32} {n : Nat} : ∀ k i, n ≤ i + k → n ≤ zsk u n k i ∨ ¬ u (zsk u n k i) = nI 32
  | 0, i, h => Or.inl h
  | k + 1, i, h => by
    unfold zsk
    by_cases c : u i = nI 32
    · rw [if_pos c]
      exact zsk_end k (i + 1) (by omega)
    · rw [if_neg c]
      exact Or.inr c
theorem zsk_id {u : Nat → Int32} {n p j : Nat} (hj : zsk u n (n - p) p = j) : zsk u n (n - j) j = j := by
  have h := zsk_end (u := u) (n := n) (n - p) p (by omega)
  rw [hj] at h
  exact zsk_n h
theorem zLl_2 {w : Nat} (hw : w < 6) : 2 ≤ zLl.getD w 0 := by
  match w, hw with
  | 0, _ => decide
  | 1, _ => decide
  | 2, _ => decide
  | 3, _ => decide
  | 4, _ => decide
  | 5, _ => decide
/-- at p the class's reader stands, in r the reference's; nothing is wrong -/
def eSy (u : Nat → Int32) (n p : Nat) (r : rRd) : Prop := p ≤ n ∧ r.2.2.2.2.1 = 0 ∧ r = rTk u n (zsk u n (n - p) p) r.2.2.2.2
abbrev lett (x : Int32) : Prop := nI 97 ≤ x ∧ x ≤ nI 122
abbrev digi (x : Int32) : Prop := nI 48 ≤ x ∧ x ≤ nI 57
theorem digi_nl {x : Int32} (h : digi x) : ¬ lett x := fun q => absurd (Int32.le_trans q.1 h.2) (by decide)
theorem zew_gt {u : Nat → Int32} {n j : Nat} (h : j < n) (q : lett (u j)) : j < zew u n (n - j) j := by
  rw [zew_y h q]
  have := zew_ge (u := u) (n := n) (n - (j + 1)) (j + 1)
  omega
theorem eSy_cs {u : Nat → Int32} {n p : Nat} {r : rRd} (h : eSy u n p r) {j : Nat} (hj : zsk u n (n - p) p = j) :
    r.1 = j ∧ p ≤ j ∧ j ≤ n ∧ ((n ≤ j ∧ r.2.2.1 = 3 ∧ r.2.1 = j ∧ zew u n (n - j) j = j) ∨ (j < n ∧ lett (u j) ∧ r.2.2.1 = 0 ∧ r.2.1 = zew u n (n - j) j ∧ j < zew u n (n - j) j) ∨
      (j < n ∧ digi (u j) ∧ r.2.2.1 = 1 ∧ r.2.1 = (zrR u (n - j) j (nI 0)).1 ∧ r.2.2.2.1 = (zrR u (n - j) j (nI 0)).2 ∧ zew u n (n - j) j = j) ∨ (j < n ∧ ¬ lett (u j) ∧ ¬ digi (u j) ∧ r.2.2.1 = 2 ∧ r.2.1 = j + 1 ∧ zew u n (n - j) j = j)) := by
  obtain ⟨hp, hw, hr⟩ := h
  have hz := zsk_in (u := u) (n := n) (n - p) p
  rw [hj] at hr hz
  refine ⟨(congrArg Prod.fst hr).trans rTk_1, hz.1, by omega, ?_⟩
  by_cases a : n ≤ j
  · have e : r = (j, j, 3, nI 0, r.2.2.2.2) := hr.trans (if_pos a)
    exact Or.inl ⟨a, congrArg (fun q : rRd => q.2.2.1) e, congrArg (fun q : rRd => q.2.1) e, zew_n (Or.inl a)⟩
  · have hjn : j < n := by omega
    by_cases b : lett (u j)
    · have e : r = (j, zew u n (n - j) j, 0, nI 0, r.2.2.2.2) := hr.trans ((if_neg a).trans (if_pos b))
      exact Or.inr (Or.inl ⟨hjn, b, congrArg (fun q : rRd => q.2.2.1) e, congrArg (fun q : rRd => q.2.1) e, zew_gt hjn b⟩)
    · have ez : zew u n (n - j) j = j := zew_n (Or.inr b)
      by_cases d : digi (u j)
      · have e : r = (j, (zrR u (n - j) j (nI 0)).1, 1, (zrR u (n - j) j (nI 0)).2, r.2.2.2.2) := hr.trans ((if_neg a).trans ((if_neg b).trans (if_pos d)))
        exact Or.inr (Or.inr (Or.inl ⟨hjn, d, congrArg (fun q : rRd => q.2.2.1) e, congrArg (fun q : rRd => q.2.1) e, congrArg (fun q : rRd => q.2.2.2.1) e, ez⟩))
      · have e : r = (j, j + 1, 2, nI 0, r.2.2.2.2) := hr.trans ((if_neg a).trans ((if_neg b).trans (if_neg d)))
        exact Or.inr (Or.inr (Or.inr ⟨hjn, b, d, congrArg (fun q : rRd => q.2.2.1) e, congrArg (fun q : rRd => q.2.1) e, ez⟩))
theorem eSy.ok {u : Nat → Int32} {n p : Nat} {r : rRd} (h : eSy u n p r) : rOk n r := by
  obtain ⟨hp, hw, hr⟩ := h
  have hz := zsk_in (u := u) (n := n) (n - p) p
  rw [hr]
  exact rTk_ok (by omega)
theorem eSy.nx {u : Nat → Int32} {n p : Nat} {r : rRd} (h : eSy u n p r) : eSy u n r.2.1 (rNx u n r) := by
  refine ⟨h.ok.2.1, ?_, ?_⟩
  · rw [rNx_wr]; exact h.2.1
  · conv => rhs; rw [rNx_wr]
    rfl
/-- it stands at the token's beginning just as well -/
theorem eSy.at {u : Nat → Int32} {n p : Nat} {r : rRd} (h : eSy u n p r) : eSy u n r.1 r := by
  have c := eSy_cs h rfl
  refine ⟨by rw [c.1]; exact c.2.2.1, h.2.1, ?_⟩
  rw [c.1, zsk_id rfl]
  exact h.2.2
theorem zwq_rIw {u : Nat → Int32} {n p w : Nat} {r : rRd} (h : eSy u n p r) (hw : w < 6) : zwq u n p w = rIw u w r := by
  obtain ⟨j, hj⟩ : ∃ j, zsk u n (n - p) p = j := ⟨_, rfl⟩
  have c := eSy_cs h hj
  have h2 := zLl_2 hw
  unfold zwq rIw
  rw [hj, c.1]
  have w0 := h.2.1
  rcases c.2.2.2 with ⟨-, k, -, e⟩ | ⟨-, -, k, e, -⟩ | ⟨-, -, k, -, -, e⟩ | ⟨-, -, -, k, -, e⟩
  · rw [if_neg (by omega), if_neg (fun q => absurd (q.2.1.symm.trans k) (by decide))]
  · rw [e]
    by_cases q : zew u n (n - j) j - j = zLl.getD w 0
    · rw [if_pos q, if_pos ⟨w0, k, q⟩]
    · rw [if_neg q, if_neg (fun z => q z.2.2)]
  · rw [if_neg (by omega), if_neg (fun q => absurd (q.2.1.symm.trans k) (by decide))]
  · rw [if_neg (by omega), if_neg (fun q => absurd (q.2.1.symm.trans k) (by decide))]
theorem rMn_iff {u : Nat → Int32} {n p j : Nat} {r : rRd} (h : eSy u n p r) (hj : zsk u n (n - p) p = j) : (r.2.2.1 = 0 ∧ r.2.1 - r.1 ≤ 8) ↔ ¬ (zew u n (n - j) j = j ∨ 8 < zew u n (n - j) j - j) := by
  have c := eSy_cs h hj
  rw [c.1]
  rcases c.2.2.2 with ⟨-, k, -, e⟩ | ⟨-, -, k, e, g⟩ | ⟨-, -, k, -, -, e⟩ | ⟨-, -, -, k, -, e⟩
  · exact ⟨fun q => absurd q.1 (by omega), fun q => absurd (Or.inl e) q⟩
  · rw [e]
    exact ⟨fun q z => by rcases z with z | z <;> omega, fun q => ⟨k, by omega⟩⟩
  · exact ⟨fun q => absurd q.1 (by omega), fun q => absurd (Or.inl e) q⟩
  · exact ⟨fun q => absurd q.1 (by omega), fun q => absurd (Or.inl e) q⟩
theorem rDg_iff {u : Nat → Int32} {n p j : Nat} {r : rRd} (h : eSy u n p r) (hj : zsk u n (n - p) p = j) : digi (zrb u n j) ↔ r.2.2.1 = 1 := by
  have c := eSy_cs h hj
  rcases c.2.2.2 with ⟨a, k, -, e⟩ | ⟨a, b, k, e, g⟩ | ⟨a, b, k, -, -, e⟩ | ⟨a, b, d, k, -, e⟩
  · exact ⟨fun q => absurd q.1 (by rw [show zrb u n j = -1 from if_neg (by omega)]; decide), fun q => by omega⟩
  · rw [show zrb u n j = u j from if_pos a]
    exact ⟨fun q => absurd b (digi_nl q), fun q => by omega⟩
  · rw [show zrb u n j = u j from if_pos a]
    exact ⟨fun _ => k, fun _ => b⟩
  · rw [show zrb u n j = u j from if_pos a]
    exact ⟨fun q => absurd q d, fun q => by omega⟩
theorem rEn_iff {u : Nat → Int32} {n p j : Nat} {r : rRd} (h : eSy u n p r) (hj : zsk u n (n - p) p = j) : (r.2.2.1 = 2 ∧ zrb u n r.1 = nI 59) ↔ zrb u n j = nI 59 := by
  have c := eSy_cs h hj
  rw [c.1]
  refine ⟨fun q => q.2, fun q => ⟨?_, q⟩⟩
  rcases c.2.2.2 with ⟨a, k, -, e⟩ | ⟨a, b, k, e, g⟩ | ⟨a, b, k, -, -, e⟩ | ⟨a, b, d, k, -, e⟩
  · rw [show zrb u n j = -1 from if_neg (by omega)] at q
    exact absurd q (by decide)
  · rw [show zrb u n j = u j from if_pos a] at q
    rw [q] at b
    exact absurd b.1 (by decide)
  · rw [show zrb u n j = u j from if_pos a] at q
    rw [q] at b
    exact absurd b.2 (by decide)
  · exact k
theorem rEn_be {u : Nat → Int32} {n p j : Nat} {r : rRd} (h : eSy u n p r) (hj : zsk u n (n - p) p = j) (e : zrb u n j = nI 59) : r.2.1 = j + 1 := by
  have k2 := ((rEn_iff h hj).mpr e).1
  have c := eSy_cs h hj
  rcases c.2.2.2 with ⟨a, k, -, e⟩ | ⟨a, b, k, e, g⟩ | ⟨a, b, k, -, -, e⟩ | ⟨a, b, d, k, q, e⟩
  · omega
  · omega
  · omega
  · exact q
/-! numbers that grow no more behind their range -/
def nR (x z : Int32) : Prop := ∃ m k, x = nI m ∧ z = nI k ∧ ((m = k ∧ m ≤ 999999) ∨ (99999 < m ∧ m ≤ 999999 ∧ 99999 < k ∧ k ≤ 1000000))
theorem digi_nat {b : Int32} (h : digi b) : ∃ d, b = nI d ∧ 48 ≤ d ∧ d ≤ 57 := by
  obtain ⟨d, hd, rfl⟩ := nI_of (x := b) (fun q => absurd (Int32.lt_of_le_of_lt h.1 q) (by decide))
  exact ⟨d, rfl, (nI_leI (by omega) hd).mp h.1, (nI_leI hd (by omega)).mp h.2⟩
theorem nR_st {x z b : Int32} (h : nR x z) (hb : digi b) : nR (zdg b x) (zmi (nI 1000000) (nI 10 * z + b - nI 48)) := by
  obtain ⟨m, k, rfl, rfl, hh⟩ := h
  obtain ⟨d, rfl, d1, d2⟩ := digi_nat hb
  have ez : nI 10 * nI k + nI d - nI 48 = nI (10 * k + d - 48) := by rw [pk_mul, nI_add, pk_sub (by omega)]
  have ex : nI m * nI 10 + nI d - nI 48 = nI (m * 10 + d - 48) := by rw [pk_mul, nI_add, pk_sub (by omega)]
  have e2 : zmi (nI 1000000) (nI 10 * nI k + nI d - nI 48) = nI (min 1000000 (10 * k + d - 48)) := by
    rw [ez]
    unfold zmi
    by_cases q : 1000000 ≤ 10 * k + d - 48
    · rw [if_pos ((nI_leI (by omega) (by omega)).mpr q)]
      congr 1
      omega
    · rw [if_neg (fun z => q ((nI_leI (by omega) (by omega)).mp z))]
      congr 1
      omega
  rw [e2]
  unfold zdg
  by_cases q : m ≤ 99999
  · rw [if_pos ((nI_leI (by omega) (by omega)).mpr q), ex]
    exact ⟨_, _, rfl, rfl, Or.inl (by omega)⟩
  · rw [if_neg (fun z => q ((nI_leI (by omega) (by omega)).mp z))]
    exact ⟨_, _, rfl, rfl, Or.inr (by omega)⟩
theorem zrn_R {u : Nat → Int32} {n : Nat} : ∀ k i x z, nR x z → (zrn u n k i x).1 = (zrR u k i z).1 ∧ nR (zrn u n k i x).2 (zrR u k i z).2
  | 0, i, x, z, h => ⟨rfl, h⟩
  | k + 1, i, x, z, h => by
    unfold zrn zrR
    by_cases c : nI 48 ≤ u i ∧ u i ≤ nI 57
    · rw [if_pos c, if_pos c]
      exact zrn_R k (i + 1) _ _ (nR_st h c)
    · rw [if_neg c, if_neg c]
      exact ⟨rfl, h⟩
theorem nR_0 : nR (nI 0) (nI 0) := ⟨0, 0, rfl, rfl, Or.inl ⟨rfl, by omega⟩⟩
theorem nR_in {x z lo hi : Int32} (h : nR x z) (hh : hi ≤ nI 99999) : (lo ≤ x ∧ x ≤ hi ↔ lo ≤ z ∧ z ≤ hi) ∧ (x ≤ hi → x = z) := by
  obtain ⟨m, k, rfl, rfl, ⟨rfl, -⟩ | ⟨a, b, c, d⟩⟩ := h
  · exact ⟨Iff.rfl, fun _ => rfl⟩
  · have h1 : ¬ nI m ≤ hi := fun q => by
      have := (nI_leI (a := m) (b := 99999) (by omega) (by omega)).mp (Int32.le_trans q hh)
      omega
    have h2 : ¬ nI k ≤ hi := fun q => by
      have := (nI_leI (a := k) (b := 99999) (by omega) (by omega)).mp (Int32.le_trans q hh)
      omega
    exact ⟨⟨fun q => absurd q.2 h1, fun q => absurd q.2 h2⟩, fun q => absurd q h1⟩
