/-! ===== names, packed and in rows ===== -/
def nmV (f : Nat → Nat) : Nat → Nat
  | 0 => 0
  | k + 1 => nmV f k * 32 + f k
theorem nmV_lt {f : Nat → Nat} : ∀ m, (∀ k, k < m → 1 ≤ f k ∧ f k ≤ 26) → nmV f m < 32 ^ m
  | 0, _ => Nat.one_pos
  | m + 1, h => by
    have h1 := nmV_lt m (fun k hk => h k (by omega))
    have h2 := h m (by omega)
    rw [Nat.pow_succ]
    show nmV f m * 32 + f m < _
    omega
theorem nmV_inj {f f' : Nat → Nat} : ∀ m m', (∀ k, k < m → 1 ≤ f k ∧ f k ≤ 26) → (∀ k, k < m' → 1 ≤ f' k ∧ f' k ≤ 26) → nmV f m = nmV f' m' → m = m' ∧ ∀ k, k < m → f k = f' k
  | 0, 0, _, _, _ => ⟨rfl, fun k hk => by omega⟩
  | 0, m' + 1, _, h', e => by
    have h2 := h' m' (by omega)
    have e' : 0 = nmV f' m' * 32 + f' m' := e
    omega
  | m + 1, 0, h, _, e => by
    have h2 := h m (by omega)
    have e' : nmV f m * 32 + f m = 0 := e
    omega
  | m + 1, m' + 1, h, h', e => by
    have h1 := h m (by omega)
    have h2 := h' m' (by omega)
    have e' : nmV f m * 32 + f m = nmV f' m' * 32 + f' m' := e
    have e1 : nmV f m = nmV f' m' := by omega
    have e2 : f m = f' m' := by omega
    have i := nmV_inj m m' (fun k hk => h k (by omega)) (fun k hk => h' k (by omega)) e1
    obtain ⟨rfl, i2⟩ := i
    refine ⟨rfl, fun k hk => ?_⟩
    by_cases q : k = m
    · rw [q]; exact e2
    · exact i2 k (by omega)
theorem nmV_eq {f f' : Nat → Nat} : ∀ m, (∀ k, k < m → f k = f' k) → nmV f m = nmV f' m
  | 0, _ => rfl
  | m + 1, h => by
    show nmV f m * 32 + f m = nmV f' m * 32 + f' m
    rw [nmV_eq m (fun k hk => h k (by omega)), h m (by omega)]
/-- m letters from b on, then nothing -/
def gNm (g : Nat → Int64) (b m : Nat) : Prop := m ≤ 8 ∧ (∀ k, k < m → ∃ d, g (b + k) = (nI (96 + d)).toInt64 ∧ 1 ≤ d ∧ d ≤ 26) ∧ ∀ k, m ≤ k → k < 8 → g (b + k) = 0
def fD (g : Nat → Int64) (b k : Nat) : Nat := (its g (b + k)).toNatClampNeg - 96
theorem gNm.d {g : Nat → Int64} {b m : Nat} (h : gNm g b m) {k : Nat} (hk : k < m) : g (b + k) = (nI (96 + fD g b k)).toInt64 ∧ 1 ≤ fD g b k ∧ fD g b k ≤ 26 := by
  obtain ⟨d, e, d1, d2⟩ := h.2.1 k hk
  have q : fD g b k = d := by
    unfold fD its
    rw [e, i64, nI_clamp (by omega)]
    omega
  rw [q]
  exact ⟨e, d1, d2⟩
theorem let_v {d : Nat} (h1 : 1 ≤ d) (h2 : d ≤ 26) : (nI (96 + d) - nI 97 + nI 1).toInt64 = lN d := by
  rw [pk_sub (by omega), nI_add, show 96 + d - 97 + 1 = d by omega]
  exact nI_l (by omega)
theorem let_n {d : Nat} (h1 : 1 ≤ d) (h2 : d ≤ 26) : ¬ (nI (96 + d)).toInt64 = 0 := fun q => by
  rw [nI_l (by omega)] at q
  have := (lN_eq (a := 96 + d) (b := 0) (by omega) (by omega)).mp q
  omega
theorem sh5 (v : Nat) : lN v <<< (5 : Int64) = lN (v * 32) := by
  rw [show (5 : Int64) = ((nI 5).toInt64 &&& 63) by decide]
  exact wb_shl v (by decide)
theorem zpk_V {g : Nat → Int64} {b m : Nat} (h : gNm g b m) : ∀ k, k ≤ 8 → zpk g b k = lN (nmV (fD g b) (min k m))
  | 0, _ => by rw [Nat.zero_min]; rfl
  | k + 1, hk => by
    unfold zpk
    by_cases q : k < m
    · have d := h.d q
      rw [if_neg (by rw [d.1]; exact let_n d.2.1 d.2.2), zpk_V h k (by omega)]
      have ei : its g (b + k) = nI (96 + fD g b k) := by
        show (g (b + k)).toInt32 = _
        rw [d.1, i64]
      rw [ei, let_v d.2.1 d.2.2, sh5, lN_add, Nat.min_eq_left (by omega), Nat.min_eq_left (by omega)]
      rfl
    · rw [if_pos (h.2.2 k (by omega) (by omega)), zpk_V h k (by omega), Nat.min_eq_right (by omega), Nat.min_eq_right (by omega)]
theorem lett_nat {x : Int32} (h : lett x) : ∃ d, x = nI (96 + d) ∧ 1 ≤ d ∧ d ≤ 26 := by
  obtain ⟨e, he, rfl⟩ := nI_of (x := x) (fun q => absurd (Int32.lt_of_le_of_lt h.1 q) (by decide))
  have h1 := (nI_leI (by omega) he).mp h.1
  have h2 := (nI_leI he (by omega)).mp h.2
  exact ⟨e - 96, by congr 1; omega, by omega, by omega⟩
theorem zew_l {u : Nat → Int32} {n : Nat} : ∀ k i q, i ≤ q → q < zew u n k i → lett (u q)
  | 0, i, q, h1, h2 => by
    have : q < i := h2
    omega
  | k + 1, i, q, h1, h2 => by
    unfold zew at h2
    by_cases c : nI 97 ≤ u i ∧ u i ≤ nI 122
    · rw [if_pos c] at h2
      by_cases e : q = i
      · rw [e]; exact c
      · exact zew_l k (i + 1) q (by omega) h2
    · rw [if_neg c] at h2
      omega
/-- the word at hand as a row -/
theorem rNm_g {u : Nat → Int32} {n p : Nat} {r : rRd} (h : eSy u n p r) (hk : r.2.2.1 = 0) (h8 : r.2.1 - r.1 ≤ 8) : gNm (rNm u r) 0 (r.2.1 - r.1) ∧ 0 < r.2.1 - r.1 ∧ zpk (rNm u r) 0 8 = zpl u r.1 (r.2.1 - r.1) := by
  obtain ⟨j, hj⟩ : ∃ j, zsk u n (n - p) p = j := ⟨_, rfl⟩
  have c := eSy_cs h hj
  have c1 := c.1
  have hl : ∀ k, k < r.2.1 - r.1 → lett (u (r.1 + k)) := fun k hk2 => by
    rcases c.2.2.2 with ⟨a, k, -, e⟩ | ⟨a, b, k, e, g⟩ | ⟨a, b, k, -, -, e⟩ | ⟨a, b, d, k, -, e⟩
    · omega
    · exact zew_l (n := n) (n - j) j _ (by omega) (by omega)
    · omega
    · omega
  have hp : 0 < r.2.1 - r.1 := by
    rcases c.2.2.2 with ⟨a, k, -, e⟩ | ⟨a, b, k, e, g⟩ | ⟨a, b, k, -, -, e⟩ | ⟨a, b, d, k, -, e⟩ <;> omega
  have hg : gNm (rNm u r) 0 (r.2.1 - r.1) := by
    refine ⟨h8, fun k hk2 => ?_, fun k hk1 hk2 => ?_⟩
    · obtain ⟨d, e, d1, d2⟩ := lett_nat (hl k hk2)
      refine ⟨d, ?_, d1, d2⟩
      rw [Nat.zero_add, ← e]
      exact if_pos (by omega)
    · rw [Nat.zero_add]
      exact (if_neg (by omega)).trans (by decide)
  refine ⟨hg, hp, ?_⟩
  rw [zpk_V hg 8 (by omega), Nat.min_eq_right h8]
  have : ∀ m, m ≤ r.2.1 - r.1 → lN (nmV (fD (rNm u r) 0) m) = zpl u r.1 m := by
    intro m
    induction m with
    | zero => intro _; rfl
    | succ m ih =>
      intro hm
      have d := hg.d (k := m) (by omega)
      have eu : u (r.1 + m) = nI (96 + fD (rNm u r) 0 m) := by
        have e := d.1
        rw [Nat.zero_add, show rNm u r m = (u (r.1 + m)).toInt64 from if_pos (by omega)] at e
        have := congrArg Int64.toInt32 e
        rw [i64, i64] at this
        exact this
      unfold zpl
      rw [← ih (by omega), eu, let_v d.2.1 d.2.2, wb_shl _ (by decide), lN_add]
      rfl
  exact this _ (Nat.le_refl _)
theorem rSm_iff {g : Nat → Int64} {u : Nat → Int32} {r : rRd} {b : Nat} : ∀ k, ¬ rSm g u r b k = 0 ↔ ∀ i, i < k → g (b + i) = rNm u r i
  | 0 => ⟨fun _ i hi => by omega, fun _ => (show ¬ nI 1 = 0 by decide)⟩
  | k + 1 => by
    unfold rSm
    have ih := rSm_iff (g := g) (u := u) (r := r) (b := b) k
    by_cases c : ¬ rSm g u r b k = 0 ∧ g (b + k) = rNm u r k
    · rw [if_pos c]
      refine ⟨fun _ i hi => ?_, fun _ => by decide⟩
      by_cases q : i = k
      · rw [q]; exact c.2
      · exact ih.mp c.1 i (by omega)
    · rw [if_neg c]
      exact ⟨fun q => absurd rfl q, fun q => absurd ⟨ih.mpr (fun i hi => q i (by omega)), q k (by omega)⟩ c⟩
theorem zpk_eq2 {g w : Nat → Int64} {b c : Nat} : ∀ k, (∀ i, i < k → g (b + i) = w (c + i)) → zpk g b k = zpk w c k
  | 0, _ => rfl
  | k + 1, h => by
    unfold zpk its
    rw [zpk_eq2 k (fun i hi => h i (by omega)), h k (by omega)]
theorem nm_iff {g w : Nat → Int64} {b m m' : Nat} (h : gNm g b m) (h' : gNm w 0 m') : zpk g b 8 = zpk w 0 8 ↔ ∀ i, i < 8 → g (b + i) = w i := by
  constructor
  · intro e i hi
    rw [zpk_V h 8 (by omega), zpk_V h' 8 (by omega), Nat.min_eq_right h.1, Nat.min_eq_right h'.1] at e
    have l1 := nmV_lt m (fun k hk => (h.d hk).2)
    have l2 := nmV_lt m' (fun k hk => (h'.d hk).2)
    have p1 : (32 : Nat) ^ m ≤ 32 ^ 8 := Nat.pow_le_pow_right (by decide) h.1
    have p2 : (32 : Nat) ^ m' ≤ 32 ^ 8 := Nat.pow_le_pow_right (by decide) h'.1
    have p3 : (32 : Nat) ^ 8 < 2 ^ 63 := by decide
    have e2 := congrArg Int64.toInt e
    rw [pf_lI (by omega), pf_lI (by omega)] at e2
    have v := nmV_inj m m' (fun k hk => (h.d hk).2) (fun k hk => (h'.d hk).2) (Int.ofNat.inj e2)
    obtain ⟨rfl, v2⟩ := v
    by_cases q : i < m
    · rw [(h.d q).1, v2 i q, ← (h'.d q).1, Nat.zero_add]
    · have := h'.2.2 i (by omega) hi
      rw [Nat.zero_add] at this
      rw [h.2.2 i (by omega) hi, this]
  · intro e
    exact zpk_eq2 8 (fun i hi => by rw [Nat.zero_add]; exact e i hi)
theorem zfs_rNd {h : Nat → Int64} {x : Int64} {g : Nat → Int64} {u : Nat → Int32} {r : rRd} {b sz : Nat} : ∀ f i, (∀ q, i ≤ q → q < i + f → (h q = x ↔ ¬ rSm g u r (b + sz * q) 8 = 0)) → zfs h x f i = rNd g u r b sz f i
  | 0, _, _ => rfl
  | f + 1, i, e => by
    have ei := e i (by omega) (by omega)
    unfold zfs rNd
    by_cases c : rSm g u r (b + sz * i) 8 = 0
    · rw [if_neg (fun q => (ei.mp q) c), if_pos c]
      exact zfs_rNd f (i + 1) (fun q q1 q2 => e q (by omega) (by omega))
    · rw [if_pos (ei.mpr c), if_neg c]
