/-! ===== both sides' answers over one row: cycles, sizes, sums ===== -/
theorem zab_nat {a b : Nat} (ha : a ≤ 100000) (hb : b ≤ 100000) : zab (nI a - nI b) = nI (max a b - min a b) := by
  unfold zab
  by_cases q : a < b
  · have h : nI a - nI b < 0 := by
      rw [Int32.lt_iff_toInt_lt, pk_sub_toInt (by omega) (by omega)]
      show (a : Int) - b < 0
      omega
    rw [if_pos h, Int32.neg_sub, pk_sub (by omega)]
    congr 1
    omega
  · have h : ¬ nI a - nI b < 0 := by
      rw [Int32.lt_iff_toInt_lt, pk_sub_toInt (by omega) (by omega)]
      show ¬ (a : Int) - b < 0
      omega
    rw [if_neg h, pk_sub (by omega)]
    congr 1
    omega
/-- uses that were kept -/
def uOk (u : Nat → Int32) (n : Nat) : Prop := ∀ j, j < n → nLe (u j) 0 9999
theorem zdf_nat {u : Nat → Int32} {n c : Nat} (h : uOk u n) : ∀ i, i + c ≤ n → zdR u c i = zdf u c i ∧ ∃ S, zdf u c i = nI S ∧ S ≤ 9999 * i
  | 0, _ => ⟨rfl, 0, rfl, by omega⟩
  | i + 1, hi => by
    obtain ⟨e, S, eS, hS⟩ := zdf_nat (c := c) h i (by omega)
    obtain ⟨a, ea, -, ha⟩ := h i (by omega)
    obtain ⟨b, eb, -, hb⟩ := h (i + c) (by omega)
    unfold zdR zdf
    rw [e, show c + i = i + c by omega, ea, eb, zab_nat (by omega) (by omega), zab_nat (by omega) (by omega), Nat.max_comm, Nat.min_comm, eS, nI_add]
    exact ⟨rfl, _, rfl, by omega⟩
theorem lN_ltN {a b : Nat} (ha : a < 2 ^ 31) (hb : b < 2 ^ 31) : lN a < lN b ↔ a < b := lN_lt ha hb
theorem zoR_c {u : Nat → Int32} {n : Nat} (h : uOk u n) (hn : n ≤ 24) : ∀ k, k + 1 < n ∨ k = 0 → zoR u n k = (zoc u n k).1 ∧ (¬ (zoc u n k).1 = -1 → ∃ b, (zoc u n k).1 = nI b ∧ 2 ≤ b ∧ b < k + 2 ∧ (zoc u n k).2.1 = zdf u b (n - b) ∧ (zoc u n k).2.2 = nI (n - b))
  | 0, _ => ⟨rfl, fun q => absurd rfl q⟩
  | k + 1, hk => by
    obtain ⟨i1, i2⟩ := zoR_c h hn k (by omega)
    have hkn : k + 2 < n := by omega
    obtain ⟨ec, S, eS, hS⟩ := zdf_nat (c := k + 2) h (n - (k + 2)) (by omega)
    have key : (zoR u n k = (-1) ∨ zoS u n (k + 2) * ((nI n).toInt64 - (zoR u n k).toInt64) < zoS u n (zoR u n k).toNatClampNeg * ((nI n).toInt64 - (nI (k + 2)).toInt64)) ↔ ((zoc u n k).1 = (-1) ∨ zdf u (k + 2) (n - (k + 2)) * (zoc u n k).2.2 < (zoc u n k).2.1 * nI (n - (k + 2))) := by
      rw [i1]
      by_cases q : (zoc u n k).1 = -1
      · exact ⟨fun _ => Or.inl q, fun _ => Or.inl q⟩
      · obtain ⟨b, e1, b1, b2, e2, e3⟩ := i2 q
        obtain ⟨eb, T, eT, hT⟩ := zdf_nat (c := b) h (n - b) (by omega)
        rw [e2, e3, e1, nI_clamp (by omega)]
        unfold zoS
        rw [ec, eb, eS, eT]
        have hS' : S ≤ 9999 * 24 := by omega
        have hT' : T ≤ 9999 * 24 := by omega
        rw [nI_l (n := S) (by omega), nI_l (n := T) (by omega), nI_l (n := n) (by omega), nI_l (n := b) (by omega), nI_l (n := k + 2) (by omega), lN_sub (by omega), lN_sub (by omega), lN_mul, lN_mul, pk_mul, pk_mul]
        have m1 : S * (n - b) ≤ 9999 * 24 * 24 := Nat.mul_le_mul hS' (by omega)
        have m2 : T * (n - (k + 2)) ≤ 9999 * 24 * 24 := Nat.mul_le_mul hT' (by omega)
        rw [lN_lt (by omega) (by omega), nI_ltI (by omega) (by omega)]
    unfold zoR zoc
    by_cases q : (zoc u n k).1 = (-1) ∨ zdf u (k + 2) (n - (k + 2)) * (zoc u n k).2.2 < (zoc u n k).2.1 * nI (n - (k + 2))
    · rw [if_pos (key.mpr q), if_pos q]
      exact ⟨rfl, fun _ => ⟨k + 2, rfl, by omega, by omega, rfl, rfl⟩⟩
    · rw [if_neg (fun z => q (key.mp z)), if_neg q]
      refine ⟨i1, fun z => ?_⟩
      obtain ⟨b, e1, b1, b2, e2⟩ := i2 z
      exact ⟨b, e1, b1, by omega, e2⟩
theorem own_eq {g : Nat → Int64} {f : Nat} (h : uOk (gu g f) (gN g (58 + 51 * f + 4))) (hn : gN g (58 + 51 * f + 4) ≤ 24) : rOwn g f = vOwn g f := by
  unfold rOwn vOwn
  refine (zoR_c h hn _ ?_).1
  unfold zon
  omega
/-! sizes over the tiers -/
theorem zszT_add {g : Nat → Int64} {n m : Nat} {x : Int32} (hm : gf g n 1 = nI m) (hm9 : m < 100) : ∀ T, T ≤ 100 → (∀ A : Nat → Int32, (∀ t, A t = zfull g (nI t) n) → ∀ S : Nat → Int32, (S 0 = nI 0 ∧ ∀ t, S (t + 1) = S t + zfull g (nI t) (n + 1)) → ∀ S' : Nat → Int32, (S' 0 = nI 0 ∧ ∀ t, S' (t + 1) = S' t + A t) → S T = S' T + (if m < T then gf g n 0 else nI 0))
  | 0, _, A, hA, S, hS, S', hS' => by
    rw [hS.1, hS'.1, if_neg (by omega)]
    rfl
  | T + 1, hT, A, hA, S, hS, S', hS' => by
    have e : zfull g (nI T) (n + 1) = if gf g n 1 = nI T then zfull g (nI T) n + gf g n 0 else zfull g (nI T) n := rfl
    rw [hS.2, hS'.2, zszT_add (x := x) hm hm9 T (by omega) A hA S hS S' hS', hA, e, hm]
    by_cases q : m = T
    · rw [q, if_pos rfl, if_neg (by omega), if_pos (by omega), nI_a0, Int32.add_assoc]
    · rw [if_neg (fun z => q ((nI_eq (by omega) (by omega)).mp z))]
      by_cases q2 : m < T
      · rw [if_pos q2, if_pos (by omega), Int32.add_assoc, Int32.add_comm (gf g n 0), Int32.add_assoc]
      · rw [if_neg q2, if_neg (by omega), nI_a0, nI_a0]
def szT (g : Nat → Int64) (n : Nat) : Nat → Int32
  | 0 => nI 0
  | t + 1 => szT g n t + zfull g (nI t) n
theorem szT_0 (g : Nat → Int64) : ∀ T, szT g 0 T = nI 0
  | 0 => rfl
  | T + 1 => by
    show szT g 0 T + nI 0 = _
    rw [szT_0 g T, nI_a0]
theorem szT_eq {g : Nat → Int64} {T : Nat} (hT : T ≤ 100) : ∀ n, (∀ f, f < n → ∃ m, gf g f 1 = nI m ∧ m < T) → szT g n T = zsza g n
  | 0, _ => szT_0 g T
  | n + 1, h => by
    obtain ⟨m, e, hm⟩ := h n (by omega)
    have := zszT_add (x := 0) e (by omega) T hT (fun t => zfull g (nI t) n) (fun _ => rfl) (szT g (n + 1)) ⟨rfl, fun _ => rfl⟩ (szT g n) ⟨rfl, fun _ => rfl⟩
    rw [this, if_pos hm, szT_eq hT n (fun f hf => h f (by omega))]
    rfl
theorem zszT_sz (g : Nat → Int64) : ∀ T, zszT g T = szT g (gN g 3) T
  | 0 => rfl
  | T + 1 => by
    show zszT g T + _ = szT g (gN g 3) T + _
    rw [zszT_sz g T]
theorem sizes_eq {g : Nat → Int64} (hb : gBd g) : zszT g (gN g 2) = zsza g (gN g 3) := by
  have h4 := hb.2.1.2
  rw [zszT_sz]
  exact szT_eq (by omega) _ (fun f hf => ⟨_, hb.on hf, hb.onL hf⟩)
/-! the busiest file -/
theorem zbu_mu {g : Nat → Int64} {x : Int32} : ∀ n, n ≤ 100 → (∀ f, f < n → zfR g f 0 = zfc (gs g f) (zph g 0) ∧ nLe (zfc (gs g f) (zph g 0)) 0 2000000) → zbu g x n = (zmu g x (zph g 0) n).1 ∧ (((zmu g x (zph g 0) n).1 = -1 ∧ (zmu g x (zph g 0) n).2 = -1) ∨ ∃ j, j < n ∧ (zmu g x (zph g 0) n).1 = nI j ∧ (zmu g x (zph g 0) n).2 = zfR g j 0)
  | 0, _, _ => ⟨rfl, Or.inl ⟨rfl, rfl⟩⟩
  | n + 1, hn, h => by
    obtain ⟨i1, i2⟩ := zbu_mu (x := x) n (by omega) (fun f hf => h f (by omega))
    obtain ⟨e, l⟩ := h n (by omega)
    have key : (gf g n 1 = x ∧ (zbu g x n = (-1) ∨ ¬ zfR g n 0 ≤ zfR g (zbu g x n).toNatClampNeg 0)) ↔ (gf g n 1 = x ∧ ¬ zfc (gs g n) (zph g 0) ≤ (zmu g x (zph g 0) n).2) := by
      rw [i1, ← e]
      rcases i2 with z | ⟨j, hj, z1, z2⟩
      · rw [z.1, z.2]
        have := (m1_le l (by omega)).2
        rw [← e] at this
        exact ⟨fun q => ⟨q.1, this⟩, fun q => ⟨q.1, Or.inl rfl⟩⟩
      · rw [z1, z2, nI_clamp (by omega)]
        have nj : ¬ nI j = -1 := nI_ne1 (by omega)
        exact ⟨fun q => ⟨q.1, by rcases q.2 with y | y; exact absurd y nj; exact y⟩, fun q => ⟨q.1, Or.inr q.2⟩⟩
    unfold zbu zmu
    by_cases q : gf g n 1 = x ∧ ¬ zfc (gs g n) (zph g 0) ≤ (zmu g x (zph g 0) n).2
    · rw [if_pos (key.mpr q), if_pos q]
      exact ⟨rfl, Or.inr ⟨n, by omega, rfl, e.symm⟩⟩
    · rw [if_neg (fun z => q (key.mp z)), if_neg q]
      refine ⟨i1, ?_⟩
      rcases i2 with z | ⟨j, hj, z⟩
      · exact Or.inl z
      · exact Or.inr ⟨j, by omega, z⟩
/-! the common cycle -/
theorem vOwn_at (g : Nat → Int64) (f : Nat) : vOwn g f = -1 ∨ ∃ j, 2 ≤ j ∧ j ≤ 12 ∧ vOwn g f = nI j := by
  unfold vOwn
  rcases zoc_at (gu g f) (gN g (58 + 51 * f + 4)) (zon (gN g (58 + 51 * f + 4))) with q | ⟨j, h1, h2, h3⟩
  · exact Or.inl q
  · refine Or.inr ⟨j, h1, ?_, h3⟩
    unfold zon at h2
    omega
theorem zCf_c {g : Nat → Int64} {r : Nat → Int32} {c : Nat} (hc : c ≤ 12) : ∀ n, (∀ f, f < n → rOwn g f = vOwn g f) → r c = nI 0 → zCf g r n c = rNc g c n
  | 0, _, h => h
  | n + 1, ho, h => by
    have i := zCf_c hc n (fun f hf => ho f (by omega)) h
    unfold zCf rNc
    rw [ho n (by omega)]
    rcases vOwn_at g n with q | ⟨j, h1, h2, h3⟩
    · rw [if_pos q, q, if_neg (fun z => nI_ne1 (j := c) (by omega) z.symm)]
      exact i
    · rw [h3, if_neg (nI_ne1 (by omega)), nI_clamp (by omega)]
      by_cases e : c = j
      · subst e
        rw [zw1_e, if_pos rfl, i]
      · rw [zw1_n e, if_neg (fun z => e ((nI_eq (by omega) (by omega)).mp z).symm)]
        exact i
theorem zBc_m {g : Nat → Int64} {r : Nat → Int32} : ∀ k, (∀ c, 2 ≤ c → c < k + 2 → r c = rNc g c (gN g 3)) → zBc r k = rCm g k
  | 0, _ => rfl
  | k + 1, h => by
    unfold zBc rCm
    rw [zBc_m k (fun c h1 h2 => h c h1 (by omega)), h (k + 2) (by omega) (by omega)]
/-! what was paid -/
theorem rSum2_3 {g : Nat → Int64} {x : Int32} {w t : Nat} {s : Int64} : rSum2 g x w t 3 s = s + (if (x = (-1) ∨ x = nI t) ∧ (w = 3 ∨ w = 0) then gp g t 0 else lN 0) + (if (x = (-1) ∨ x = nI t) ∧ (w = 3 ∨ w = 1) then gp g t 1 else lN 0) + (if (x = (-1) ∨ x = nI t) ∧ (w = 3 ∨ w = 2) then gp g t 2 else lN 0) := rfl
theorem lN_a0 (x : Int64) : x + lN 0 = x := Int64.add_zero x
theorem rSum2_y {g : Nat → Int64} {x : Int32} {w t : Nat} {s : Int64} (hx : x = (-1) ∨ x = nI t) (hw : w ≤ 3) : rSum2 g x w t 3 s = s + zpd (gp g t) w := by
  rw [rSum2_3]
  unfold zpd
  match w, hw with
  | 0, _ => rw [if_pos ⟨hx, Or.inr rfl⟩, if_neg (fun q => by rcases q.2 with z | z <;> omega), if_neg (fun q => by rcases q.2 with z | z <;> omega), if_neg (by omega), lN_a0, lN_a0]
  | 1, _ => rw [if_neg (fun q => by rcases q.2 with z | z <;> omega), if_pos ⟨hx, Or.inr rfl⟩, if_neg (fun q => by rcases q.2 with z | z <;> omega), if_neg (by omega), lN_a0, lN_a0]
  | 2, _ => rw [if_neg (fun q => by rcases q.2 with z | z <;> omega), if_neg (fun q => by rcases q.2 with z | z <;> omega), if_pos ⟨hx, Or.inr rfl⟩, if_neg (by omega), lN_a0, lN_a0]
  | 3, _ => rw [if_pos ⟨hx, Or.inl rfl⟩, if_pos ⟨hx, Or.inl rfl⟩, if_pos ⟨hx, Or.inl rfl⟩, if_pos rfl, Int64.add_assoc, Int64.add_assoc, Int64.add_assoc]
theorem rSum2_n {g : Nat → Int64} {x : Int32} {w t : Nat} {s : Int64} (hx : ¬ (x = (-1) ∨ x = nI t)) : rSum2 g x w t 3 s = s := by
  rw [rSum2_3, if_neg (fun q => hx q.1), if_neg (fun q => hx q.1), if_neg (fun q => hx q.1), lN_a0, lN_a0, lN_a0]
theorem rSum_all {g : Nat → Int64} {w : Nat} (hw : w ≤ 3) : ∀ T, rSum g (-1) w T = zpa g w T
  | 0 => rfl
  | T + 1 => by
    unfold rSum zpa
    rw [rSum2_y (Or.inl rfl) hw, rSum_all hw T]
theorem rSum_one {g : Nat → Int64} {w m : Nat} (hw : w ≤ 3) (hm : m < 1000) : ∀ T, T ≤ 1000 → rSum g (nI m) w T = if m < T then zpd (gp g m) w else lN 0
  | 0, _ => (if_neg (by omega)).symm
  | T + 1, hT => by
    have nm : ¬ nI m = -1 := nI_ne1 (by omega)
    unfold rSum
    rw [rSum_one hw hm T (by omega)]
    by_cases q : m = T
    · subst q
      rw [rSum2_y (Or.inr rfl) hw, if_neg (by omega), if_pos (by omega)]
      exact Int64.zero_add _
    · rw [rSum2_n (fun z => by rcases z with z | z; exact nm z; exact q ((nI_eq (by omega) (by omega)).mp z))]
      by_cases q2 : m < T
      · rw [if_pos q2, if_pos (by omega)]
      · rw [if_neg q2, if_neg (by omega)]
