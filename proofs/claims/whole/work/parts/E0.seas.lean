/-! ===== both sides' answers over one row: seasons ===== -/
/-- seasons: unknown, or within the cycle and not below 0 -/
def sOk (u : Nat → Int32) (c : Nat) : Prop := ∀ j, j < 12 → u j = -1 ∨ (j < c ∧ nLe (u j) 0 159984)
theorem nLe.n1 {x : Int32} {lo hi : Nat} (h : nLe x lo hi) (hh : hi < 2147483648) : ¬ x = -1 := fun q => by
  obtain ⟨m, e, -, h2⟩ := h
  rw [e] at q
  have : ¬ nI m < 0 := nI_pos (by omega)
  rw [q] at this
  exact this (by decide)
theorem sOk.b {u : Nat → Int32} {c j : Nat} (h : sOk u c) (hj : j < 12) (hc : c ≤ j) : u j = -1 := by
  rcases h j hj with q | q
  · exact q
  · omega
theorem zkn_c {u : Nat → Int32} {c : Nat} (h : sOk u c) : ∀ d, c + d ≤ 12 → zkn u (c + d) = zkn u c
  | 0, _ => rfl
  | d + 1, hd => by
    show zkn u (c + d + 1) = _
    unfold zkn
    rw [if_pos (h.b (by omega) (by omega)), zkn_c h d (by omega)]
    cases c <;> rfl
theorem zkn_12 {u : Nat → Int32} {c : Nat} (h : sOk u c) (hc : c ≤ 12) : zkn u 12 = zkn u c := by
  have := zkn_c h (12 - c) (by omega)
  rw [show c + (12 - c) = 12 by omega] at this
  exact this
theorem zsm_c {u : Nat → Int32} {c : Nat} (h : sOk u c) : ∀ d, c + d ≤ 12 → zsm u (c + d) = zsm u c
  | 0, _ => rfl
  | d + 1, hd => by
    show zsm u (c + d + 1) = _
    unfold zsm
    rw [if_pos (h.b (by omega) (by omega)), zsm_c h d (by omega)]
    cases c <;> rfl
theorem zsm_12 {u : Nat → Int32} {c : Nat} (h : sOk u c) (hc : c ≤ 12) : zsm u 12 = zsm u c := by
  have := zsm_c h (12 - c) (by omega)
  rw [show c + (12 - c) = 12 by omega] at this
  exact this
theorem nI_a0 (x : Int32) : x + nI 0 = x := Int32.add_zero x
theorem zsm_x {u : Nat → Int32} {c : Nat} (h : sOk u c) : ∀ n, n ≤ 12 → zsm u n = zsx u n
  | 0, _ => rfl
  | n + 1, hn => by
    unfold zsm zsx
    rw [zsm_x h n (by omega)]
    rcases h n (by omega) with q | ⟨-, q⟩
    · rw [if_pos q, q, show zmx (nI 0) (-1) = nI 0 by decide, nI_a0]
    · rw [if_neg (q.n1 (by omega))]
      obtain ⟨m, e, -, h2⟩ := q
      rw [e]
      congr 1
      unfold zmx
      by_cases z : nI m ≤ nI 0
      · have : m ≤ 0 := (nI_leI (by omega) (by omega)).mp z
        rw [if_pos z, show m = 0 by omega]
      · rw [if_neg z]
theorem zfR_c {g : Nat → Int64} {f a : Nat} (h : sOk (gs g f) (gN g 0)) (hc : gN g 0 ≤ 12) : zfR g f a = zfc (gs g f) (zph g a) := by
  unfold zfR zfc zmn
  rw [zkn_12 h hc, zsm_12 h hc, zsm_x h (gN g 0) hc]
theorem zfsR_c {g : Nat → Int64} {f : Nat} (h : sOk (gs g f) (gN g 0)) (hc : gN g 0 ≤ 12) : ∀ n, zfsR g f n = zfsum g f n
  | 0 => rfl
  | n + 1 => by
    unfold zfsR zfsum
    rw [zfsR_c h hc n, zfR_c h hc]
/-! how many are known, their sum, as numbers -/
theorem zkn_nat {u : Nat → Int32} : ∀ n, n ≤ 12 → ∃ K, zkn u n = nI K ∧ K ≤ n
  | 0, _ => ⟨0, rfl, Nat.le_refl 0⟩
  | n + 1, hn => by
    obtain ⟨K, e, h⟩ := zkn_nat (u := u) n (by omega)
    unfold zkn
    by_cases q : u n = -1
    · rw [if_pos q]; exact ⟨K, e, by omega⟩
    · rw [if_neg q, e, nI_add]; exact ⟨K + 1, rfl, by omega⟩
theorem zsm_nat {u : Nat → Int32} {c : Nat} (h : sOk u c) : ∀ n, n ≤ 12 → ∃ S, zsm u n = nI S ∧ S ≤ 159984 * n
  | 0, _ => ⟨0, rfl, by omega⟩
  | n + 1, hn => by
    obtain ⟨S, e, hS⟩ := zsm_nat h n (by omega)
    unfold zsm
    rcases h n (by omega) with q | ⟨-, q⟩
    · rw [if_pos q]; exact ⟨S, e, by omega⟩
    · rw [if_neg (q.n1 (by omega))]
      obtain ⟨m, em, -, h2⟩ := q
      rw [e, em, nI_add]
      exact ⟨S + m, rfl, by omega⟩
theorem zmn_nat {u : Nat → Int32} {c : Nat} (h : sOk u c) : nLe (zmn u) 0 2000000 := by
  obtain ⟨K, eK, hK⟩ := zkn_nat (u := u) 12 (by omega)
  obtain ⟨S, eS, hS⟩ := zsm_nat h 12 (by omega)
  unfold zmn
  by_cases q : zkn u 12 = 0
  · rw [if_pos q]; exact ⟨0, rfl, by omega, by omega⟩
  · rw [if_neg q, eS, eK]
    have k0 : 0 < K := by
      rcases Nat.eq_zero_or_pos K with z | z
      · rw [eK, z] at q
        exact absurd (by decide) q
      · exact z
    rw [pk_div (by omega) k0 (by omega)]
    exact ⟨S / K, rfl, Nat.zero_le _, by have := Nat.div_le_self S K; omega⟩
theorem zfc_nat {u : Nat → Int32} {c p : Nat} (h : sOk u c) (hp : p < 12) : nLe (zfc u p) 0 2000000 := by
  unfold zfc
  by_cases q : u p = -1
  · rw [if_pos q]; exact zmn_nat h
  · rw [if_neg q]
    rcases h p hp with z | ⟨-, z⟩
    · exact absurd z q
    · exact z.mono (by omega) (by omega)
/-! the busiest phase, the spread -/
theorem m1_le {x : Int32} {lo hi : Nat} (h : nLe x lo hi) (hh : hi < 2147483648) : (-1 : Int32) ≤ x ∧ ¬ x ≤ -1 := by
  obtain ⟨m, e, -, h2⟩ := h
  have : ¬ nI m < 0 := nI_pos (by omega)
  rw [e]
  constructor
  · exact Int32.le_trans (by decide) (Int32.not_lt.mp this)
  · exact fun q => this (Int32.lt_of_le_of_lt q (by decide))
theorem zso_c {u : Nat → Int32} {c : Nat} (h : sOk u c) : ∀ d, c + d ≤ 12 → zso u (c + d) = zso u c
  | 0, _ => rfl
  | d + 1, hd => by
    show zso u (c + d + 1) = _
    rw [zso, if_pos (h.b (by omega) (by omega)), zso_c h d (by omega)]
theorem zso_12 {u : Nat → Int32} {c : Nat} (h : sOk u c) (hc : c ≤ 12) : zso u 12 = zso u c := by
  have := zso_c h (12 - c) (by omega)
  rw [show c + (12 - c) = 12 by omega] at this
  exact this
/-- where they stand after n phases -/
theorem zso_bp {u : Nat → Int32} {c : Nat} (h : sOk u c) : ∀ n, n ≤ 12 → (zbp u n).1 = (zso u n).1 ∧ (((zso u n).1 = -1 ∧ (zso u n).2 = -1 ∧ (zbp u n).2 = -1) ∨ (¬ (zso u n).1 = -1 ∧ ¬ (zso u n).2 = -1 ∧ (zbp u n).2 = u (zso u n).1.toNatClampNeg ∧ nLe (zbp u n).2 0 159984)) ∧ (∀ j, j < n → u j ≤ (zbp u n).2)
  | 0, _ => ⟨rfl, Or.inl ⟨rfl, rfl, rfl⟩, fun j hj => by omega⟩
  | n + 1, hn => by
    obtain ⟨i1, i2, i3⟩ := zso_bp h n (by omega)
    rcases h n (by omega) with q | ⟨-, q⟩
    · have e1 : zso u (n + 1) = zso u n := by rw [zso, if_pos q]
      have l1 : (-1 : Int32) ≤ (zbp u n).2 := by
        rcases i2 with z | z
        · rw [z.2.2]; decide
        · exact (m1_le z.2.2.2 (by omega)).1
      have e2 : zbp u (n + 1) = zbp u n := by rw [zbp, if_pos (by rw [q]; exact l1)]
      rw [e1, e2]
      refine ⟨i1, i2, fun j hj => ?_⟩
      by_cases e : j = n
      · rw [e, q]; exact l1
      · exact i3 j (by omega)
    · have qn := q.n1 (by omega)
      have e1 : zso u (n + 1) = (if (zso u n).1 = (-1) ∨ ¬ u n ≤ u (zso u n).1.toNatClampNeg then nI n else (zso u n).1, if (zso u n).2 = (-1) then u n else zmi (zso u n).2 (u n)) := by rw [zso, if_neg qn]
      have s2 : ¬ (zso u (n + 1)).2 = -1 := by
        rw [e1]
        show ¬ (if (zso u n).2 = (-1) then u n else zmi (zso u n).2 (u n)) = -1
        split
        · exact qn
        · next z =>
          unfold zmi
          split
          · exact z
          · exact qn
      by_cases z : (zso u n).1 = (-1) ∨ ¬ u n ≤ u (zso u n).1.toNatClampNeg
      · have z1 : (zso u (n + 1)).1 = nI n := by rw [e1]; exact if_pos z
        have zb : ¬ u n ≤ (zbp u n).2 := by
          rcases i2 with y | y
          · rw [y.2.2]; exact (m1_le q (by omega)).2
          · rcases z with z | z
            · exact absurd z y.1
            · rw [y.2.2.1]; exact z
        have e2 : zbp u (n + 1) = (nI n, u n) := by rw [zbp, if_neg zb]
        rw [e2, z1]
        refine ⟨rfl, Or.inr ⟨nI_ne1 (by omega), s2, by rw [nI_clamp (by omega)], q⟩, fun j hj => ?_⟩
        by_cases e : j = n
        · rw [e]; exact Int32.le_refl _
        · exact Int32.le_trans (i3 j (by omega)) (Int32.le_of_lt (Int32.not_le.mp zb))
      · have z1 : (zso u (n + 1)).1 = (zso u n).1 := by rw [e1]; exact if_neg z
        have y : ¬ (zso u n).1 = -1 := fun y => z (Or.inl y)
        have z2 : u n ≤ u (zso u n).1.toNatClampNeg := Classical.byContradiction fun y => z (Or.inr y)
        rcases i2 with x | x
        · exact absurd x.1 y
        · have zb : u n ≤ (zbp u n).2 := by rw [x.2.2.1]; exact z2
          have e2 : zbp u (n + 1) = zbp u n := by rw [zbp, if_pos zb]
          rw [e2, z1]
          refine ⟨i1, Or.inr ⟨y, s2, x.2.2.1, x.2.2.2⟩, fun j hj => ?_⟩
          by_cases e : j = n
          · rw [e]; exact zb
          · exact i3 j (by omega)
theorem zlt_so {u : Nat → Int32} {c : Nat} {G : Int32} (h : sOk u c) : ∀ n, n ≤ 12 → (∀ j, j < n → u j ≤ G) → zlt u G n = if (zso u n).2 = -1 then G else (zso u n).2
  | 0, _, _ => rfl
  | n + 1, hn, hG => by
    have i := zlt_so h n (by omega) (fun j hj => hG j (by omega))
    rcases h n (by omega) with q | ⟨-, q⟩
    · rw [zlt, if_pos q, zso, if_pos q]; exact i
    · have qn := q.n1 (by omega)
      rw [zlt, if_neg qn, zso, if_neg qn, i]
      show _ = if (if (zso u n).2 = (-1) then u n else zmi (zso u n).2 (u n)) = -1 then G else (if (zso u n).2 = (-1) then u n else zmi (zso u n).2 (u n))
      by_cases z : (zso u n).2 = -1
      · rw [if_pos z, if_pos z, if_neg qn]
        by_cases y : G ≤ u n
        · rw [if_pos y]; exact Int32.le_antisymm y (hG n (by omega))
        · rw [if_neg y]
      · rw [if_neg z, if_neg z]
        have zm : ¬ zmi (zso u n).2 (u n) = -1 := by
          unfold zmi
          split
          · exact z
          · exact qn
        rw [if_neg zm]
        rfl
theorem zsoR_b {u : Nat → Int32} {c : Nat} (h : sOk u c) (hc : c ≤ 12) : zsoR u c true = (zbp u 12).1 := by
  have i := (zso_bp h 12 (by omega)).1
  rw [i, zso_12 h hc]
  rfl
theorem zsoR_s {u : Nat → Int32} {c : Nat} (h : sOk u c) (hc : c ≤ 12) : zsoR u c false = zspr u := by
  have i := zso_bp h 12 (by omega)
  unfold zsoR zspr
  rw [← zso_12 h hc, i.1]
  show (if (zso u 12).1 = -1 then nI 0 else u (zso u 12).1.toNatClampNeg - (zso u 12).2) = _
  by_cases z : (zso u 12).1 = -1
  · rw [if_pos z, if_pos z]
  · rw [if_neg z, if_neg z]
    rcases i.2.1 with y | y
    · exact absurd y.1 z
    · rw [zlt_so h 12 (by omega) i.2.2, if_neg y.2.1, y.2.2.1]
