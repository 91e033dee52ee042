/-! ===== both sides' answers over one row: what is written ===== -/
/-- the same was written, and no more than B -/
def wq (a b : zWr) (B : Nat) : Prop := a.1 = b.1 ∧ a.1 ≤ B ∧ ∀ k, k < a.1 → a.2 k = b.2 k
theorem wq.mono {a b : zWr} {B C : Nat} (h : wq a b B) (hc : B ≤ C) : wq a b C := ⟨h.1, by have := h.2.1; omega, h.2.2⟩
theorem wq_put {a b : zWr} {B : Nat} {v w : Int32} (h : wq a b B) (hB : B < 256) (e : v = w) : wq (wPut a v) (rPut b w) (B + 1) := by
  obtain ⟨h1, h2, h3⟩ := h
  have ea : wPut a v = (a.1 + 1, zw1 a.2 a.1 v) := if_pos (by omega)
  rw [ea]
  refine ⟨show a.1 + 1 = b.1 + 1 by omega, show a.1 + 1 ≤ B + 1 by omega, fun k hk => ?_⟩
  have hk' : k < a.1 + 1 := hk
  show zw1 a.2 a.1 v k = zw1 b.2 b.1 w k
  rw [← h1, e]
  by_cases q : k = a.1
  · rw [q, zw1_e, zw1_e]
  · rw [zw1_n q, zw1_n q]
    exact h3 k (by omega)
theorem nmV_d {f : Nat → Nat} {m : Nat} (h : ∀ k, k < m → 1 ≤ f k ∧ f k ≤ 26) : ∀ k, k ≤ m → nmV f m / 32 ^ k = nmV f (m - k)
  | 0, _ => by rw [Nat.pow_zero, Nat.div_one, Nat.sub_zero]
  | k + 1, hk => by
    rw [Nat.pow_succ, ← Nat.div_div_eq_div_mul, nmV_d h k (by omega)]
    have e : m - k = (m - (k + 1)) + 1 := by omega
    have hf := h (m - (k + 1)) (by omega)
    rw [e]
    show (nmV f (m - (k + 1)) * 32 + f (m - (k + 1))) / 32 = _
    omega
/-- the letters of a name, one behind the other -/
theorem zLt_lt {V k : Nat} (hV : V < 2 ^ 40) (hk : k < 8) : zLt (lN V) k = nI (V / 32 ^ k % 32) := by
  unfold zLt
  have hD : ((((nI (5 * k)).toInt64 &&& 63)).toBitVec.smod 64).toNat = 5 * k := by
    rw [wb_c (5 * k) (by omega), wb_tb, wb_sm (5 * k) (by omega), BitVec.toNat_ofNat, Nat.mod_eq_of_lt (by omega)]
  rw [pf_shr hD (by omega), lN_i, show (31 : Nat) = 2 ^ 5 - 1 from rfl, nx_and, Nat.and_two_pow_sub_one_eq_mod, Nat.pow_mul]
theorem zLt_V {g : Nat → Int64} {b m k : Nat} (h : gNm g b m) (hk : k < 8) : zLt (lN (nmV (fD g b) m)) k = if k < m then nI (fD g b (m - 1 - k)) else nI 0 := by
  have l1 := nmV_lt m (fun k hk => (h.d hk).2)
  have p1 : (32 : Nat) ^ m ≤ 32 ^ 8 := Nat.pow_le_pow_right (by decide) h.1
  have p3 : (32 : Nat) ^ 8 = 2 ^ 40 := by decide
  rw [zLt_lt (by omega) hk]
  by_cases q : k < m
  · rw [if_pos q, nmV_d (fun k hk => (h.d hk).2) k (by omega)]
    have e : m - k = (m - 1 - k) + 1 := by omega
    have hf := (h.d (k := m - 1 - k) (by omega)).2
    rw [e]
    show nI ((nmV (fD g b) (m - 1 - k) * 32 + fD g b (m - 1 - k)) % 32) = _
    congr 1
    omega
  · rw [if_neg q]
    have p2 : (32 : Nat) ^ m ≤ 32 ^ k := Nat.pow_le_pow_right (by decide) (by omega)
    rw [Nat.div_eq_of_lt (by omega)]
theorem zpn_hi {g : Nat → Int64} {b m : Nat} (h : gNm g b m) (a : zWr) : ∀ d, m + d ≤ 8 → zpn (lN (nmV (fD g b) m)) (m + d) a = zpn (lN (nmV (fD g b) m)) m a
  | 0, _ => rfl
  | d + 1, hd => by
    have ez : zLt (lN (nmV (fD g b) m)) (m + d) = nI 0 := (zLt_V h (by omega)).trans (if_neg (by omega))
    have e1 : zpn (lN (nmV (fD g b) m)) (m + (d + 1)) a = zpn (lN (nmV (fD g b) m)) (m + d) (if zLt (lN (nmV (fD g b) m)) (m + d) ≤ 0 then a else wPut a (nI 97 + zLt (lN (nmV (fD g b) m)) (m + d) - nI 1)) := rfl
    rw [e1, ez, if_pos (by decide), zpn_hi h a d (by omega)]
theorem zpn_rsn {g : Nat → Int64} {b m : Nat} (h : gNm g b m) : ∀ j, j ≤ m → ∀ (a c : zWr) (B : Nat), wq a c B → B + j ≤ 256 → wq (zpn (lN (nmV (fD g b) m)) j a) (rsn g b (8 - (m - j)) c (m - j)) (B + j)
  | 0, _, a, c, B, hq, _ => by
    have m8 := h.1
    show wq a (rsn g b (8 - m) c m) B
    by_cases q : m = 8
    · rw [q]; exact hq
    · rw [rsn_s (by omega), if_pos (by rw [h.2.2 m (Nat.le_refl m) (by omega)]; decide)]
      exact hq
  | j + 1, hj, a, c, B, hq, hB => by
    have m8 := h.1
    have d := h.d (k := m - (j + 1)) (by omega)
    have ei : its g (b + (m - (j + 1))) = nI (96 + fD g b (m - (j + 1))) := by
      show (g _).toInt32 = _
      rw [d.1, i64]
    have ep : ¬ g (b + (m - (j + 1))) ≤ lN 0 := by
      rw [d.1, nI_l (by omega), lN_le (by omega) (by omega)]
      omega
    rw [rsn_s (by omega), if_neg ep, ei, show 8 - (m - (j + 1) + 1) = 8 - (m - j) by omega, show m - (j + 1) + 1 = m - j by omega]
    have ez : zLt (lN (nmV (fD g b) m)) j = nI (fD g b (m - (j + 1))) := by
      rw [zLt_V h (by omega), if_pos (show j < m by omega), show m - 1 - j = m - (j + 1) by omega]
    have e1 : zpn (lN (nmV (fD g b) m)) (j + 1) a = zpn (lN (nmV (fD g b) m)) j (if zLt (lN (nmV (fD g b) m)) j ≤ 0 then a else wPut a (nI 97 + zLt (lN (nmV (fD g b) m)) j - nI 1)) := rfl
    have en : ¬ nI (fD g b (m - (j + 1))) ≤ 0 := nI_nle (by omega) (by omega)
    rw [e1, ez, if_neg en, show B + (j + 1) = (B + 1) + j by omega]
    refine zpn_rsn h j (by omega) _ _ (B + 1) (wq_put hq (by omega) ?_) (by omega)
    rw [nI_add, pk_sub (by omega)]
    congr 1
    omega
/-- a name, without a dash -/
theorem name_q {g : Nat → Int64} {b m B : Nat} {a c : zWr} (h : gNm g b m) (hq : wq a c B) (hB : B + 8 ≤ 256) : wq (zpn (zpk g b 8) 8 a) (rsn g b 8 c 0) (B + 8) := by
  have m8 := h.1
  rw [zpk_V h 8 (by omega), Nat.min_eq_right m8]
  have e := zpn_hi h a (8 - m) (by omega)
  rw [show m + (8 - m) = 8 by omega] at e
  rw [e]
  have z := zpn_rsn h m (Nat.le_refl m) a c B hq (by omega)
  rw [Nat.sub_self, Nat.sub_zero] at z
  exact z.mono (by omega)
theorem nmV_0 {f : Nat → Nat} {m : Nat} (h : ∀ k, k < m → 1 ≤ f k ∧ f k ≤ 26) : nmV f m = 0 ↔ m = 0 := by
  cases m with
  | zero => exact ⟨fun _ => rfl, fun _ => rfl⟩
  | succ m =>
    have := h m (by omega)
    refine ⟨fun q => ?_, fun q => by omega⟩
    have q' : nmV f m * 32 + f m = 0 := q
    omega
theorem zpk_0 {g : Nat → Int64} {b m : Nat} (h : gNm g b m) : zpk g b 8 = lN 0 ↔ m = 0 := by
  have m8 := h.1
  rw [zpk_V h 8 (by omega), Nat.min_eq_right m8]
  have l1 := nmV_lt m (fun k hk => (h.d hk).2)
  have p1 : (32 : Nat) ^ m ≤ 32 ^ 8 := Nat.pow_le_pow_right (by decide) h.1
  have p3 : (32 : Nat) ^ 8 = 2 ^ 40 := by decide
  rw [← nmV_0 (fun k hk => (h.d hk).2)]
  constructor
  · intro e
    have e2 := congrArg Int64.toInt e
    rw [pf_lI (by omega), pf_lI (by omega)] at e2
    exact Int.ofNat.inj e2
  · intro e
    rw [e]
theorem tname_q {g : Nat → Int64} {b m B : Nat} {a c : zWr} (h : gNm g b m) (h0 : 0 < m) (hq : wq a c B) (hB : B + 8 ≤ 256) : wq (zwn (zpk g b 8) a) (rsn g b 8 c 0) (B + 8) := by
  unfold zwn
  rw [if_neg (fun q => by have := (zpk_0 h).mp q; omega)]
  exact name_q h hq hB
theorem fname_q {g : Nat → Int64} {f m B : Nat} {a c : zWr} (h : gNm g (58 + 51 * f + 6) m) (hq : wq a c B) (hB : B + 8 ≤ 256) : wq (zwn (zpk g (58 + 51 * f + 6) 8) a) (rsn g (58 + 51 * f + 6) 8 (if gf g f 6 = 0 then rPut c (nI 45) else c) 0) (B + 8) := by
  unfold zwn
  by_cases q : m = 0
  · have e6 : gf g f 6 = 0 := by
      have := h.2.2 0 (by omega) (by omega)
      show (g (58 + 51 * f + 6)).toInt32 = 0
      rw [Nat.add_zero] at this
      rw [this]
      decide
    rw [if_pos ((zpk_0 h).mpr q), if_pos e6]
    subst q
    have e := zpn_hi h (wPut a (nI 45)) 8 (by omega)
    rw [zpk_V h 8 (by omega), Nat.min_eq_right (by omega)]
    rw [Nat.zero_add] at e
    rw [e]
    have e9 : rsn g (58 + 51 * f + 6) 8 (rPut c (nI 45)) 0 = rPut c (nI 45) := if_pos (by
      have := h.2.2 0 (by omega) (by omega)
      rw [this]
      decide)
    rw [e9]
    exact (wq_put hq (by omega) rfl).mono (by omega)
  · have d := h.d (k := 0) (by omega)
    have e6 : ¬ gf g f 6 = 0 := by
      show ¬ (g (58 + 51 * f + 6)).toInt32 = 0
      have d1 := d.1
      rw [Nat.add_zero] at d1
      rw [d1, i64]
      exact nI_ne0 (by omega) (by omega)
    rw [if_neg (fun z => q ((zpk_0 h).mp z)), if_neg e6]
    exact name_q h hq hB
/-! files on a tier, tiers -/
def cnt (g : Nat → Int64) (x : Int32) : Nat → Nat
  | 0 => 0
  | f + 1 => if gf g f 1 = x then cnt g x f + 1 else cnt g x f
theorem pf_q {g : Nat → Int64} {t B : Nat} {a c : zWr} (hq : wq a c B) : ∀ n, (∀ f, f < n → ∃ m, gNm g (58 + 51 * f + 6) m) → B + 9 * cnt g (nI t) n ≤ 256 → wq (zpf g (nI t) a n).2 (rpf g t c n).2 (B + 9 * cnt g (nI t) n) ∧ ((zpf g (nI t) a n).1 = 0 ↔ 0 < (rpf g t c n).1)
  | 0, _, _ => ⟨hq, ⟨fun q => absurd q (show ¬ nI 1 = 0 by decide), fun q => absurd q (Nat.lt_irrefl 0)⟩⟩
  | f + 1, hn, hB => by
    by_cases q : gf g f 1 = nI t
    · have ec : cnt g (nI t) (f + 1) = cnt g (nI t) f + 1 := if_pos q
      rw [ec] at hB ⊢
      obtain ⟨i1, i2⟩ := pf_q (t := t) hq f (fun f hf => hn f (by omega)) (by omega)
      obtain ⟨m, hm⟩ := hn f (by omega)
      have ez : zpf g (nI t) a (f + 1) = (nI 0, zwn (zpk g (58 + 51 * f + 6) 8) (if (zpf g (nI t) a f).1 = 0 then wPut (zpf g (nI t) a f).2 (nI 44) else (zpf g (nI t) a f).2)) := if_pos q
      have er : rpf g t c (f + 1) = ((rpf g t c f).1 + 1, rsn g (58 + 51 * f + 6) 8 (if gf g f 6 = 0 then rPut (if 0 < (rpf g t c f).1 then rPut (rpf g t c f).2 (nI 44) else (rpf g t c f).2) (nI 45) else (if 0 < (rpf g t c f).1 then rPut (rpf g t c f).2 (nI 44) else (rpf g t c f).2)) 0) := if_pos q
      rw [ez, er]
      refine ⟨?_, ⟨fun _ => Nat.succ_pos _, fun _ => rfl⟩⟩
      have key : wq (if (zpf g (nI t) a f).1 = 0 then wPut (zpf g (nI t) a f).2 (nI 44) else (zpf g (nI t) a f).2) (if 0 < (rpf g t c f).1 then rPut (rpf g t c f).2 (nI 44) else (rpf g t c f).2) (B + 9 * cnt g (nI t) f + 1) := by
        by_cases z : 0 < (rpf g t c f).1
        · rw [if_pos (i2.mpr z), if_pos z]
          exact wq_put i1 (by omega) rfl
        · rw [if_neg (fun y => z (i2.mp y)), if_neg z]
          exact i1.mono (by omega)
      exact (fname_q hm key (by omega)).mono (by omega)
    · have ec : cnt g (nI t) (f + 1) = cnt g (nI t) f := if_neg q
      rw [ec] at hB ⊢
      have ez : zpf g (nI t) a (f + 1) = zpf g (nI t) a f := if_neg q
      have er : rpf g t c (f + 1) = rpf g t c f := if_neg q
      rw [ez, er]
      exact pf_q hq f (fun f hf => hn f (by omega)) hB
theorem cnt_mono {g : Nat → Int64} {x : Int32} : ∀ {n m : Nat}, n ≤ m → cnt g x n ≤ cnt g x m := by
  intro n m h
  induction m with
  | zero => rw [show n = 0 by omega]; exact Nat.le_refl _
  | succ m ih =>
    by_cases q : n = m + 1
    · rw [q]; exact Nat.le_refl _
    · have := ih (by omega)
      show _ ≤ (if gf g m 1 = x then cnt g x m + 1 else cnt g x m)
      split <;> omega
def cntT (g : Nat → Int64) (n : Nat) : Nat → Nat
  | 0 => 0
  | t + 1 => cntT g n t + cnt g (nI t) n
theorem cntT_le {g : Nat → Int64} {T : Nat} (hT : T ≤ 4) : ∀ n, cntT g n T ≤ n
  | 0 => by
    have : ∀ T, cntT g 0 T = 0 := fun T => by
      induction T with
      | zero => rfl
      | succ T ih => show cntT g 0 T + 0 = 0; omega
    rw [this]
    exact Nat.le_refl _
  | n + 1 => by
    have ih := cntT_le (g := g) hT n
    have : ∀ T, T ≤ 4 → cntT g (n + 1) T ≤ cntT g n T + (if (∃ t, t < T ∧ gf g n 1 = nI t) then 1 else 0) := fun T => by
      induction T with
      | zero => intro _; exact Nat.zero_le _
      | succ T ih2 =>
        intro hT4
        have i := ih2 (by omega)
        show cntT g (n + 1) T + (if gf g n 1 = nI T then cnt g (nI T) n + 1 else cnt g (nI T) n) ≤ cntT g n T + cnt g (nI T) n + _
        by_cases q : gf g n 1 = nI T
        · have nq : ¬ ∃ t, t < T ∧ gf g n 1 = nI t := fun ⟨t, h1, h2⟩ => by
            have := (nI_eq (by omega) (by omega)).mp (h2.symm.trans q)
            omega
          rw [if_neg nq] at i
          rw [if_pos q, if_pos ⟨T, by omega, q⟩]
          omega
        · rw [if_neg q]
          by_cases z : ∃ t, t < T ∧ gf g n 1 = nI t
          · rw [if_pos z] at i
            obtain ⟨t, h1, h2⟩ := z
            rw [if_pos ⟨t, by omega, h2⟩]
            omega
          · rw [if_neg z] at i
            rw [if_neg (fun ⟨t, h1, h2⟩ => by
              by_cases y : t = T
              · rw [y] at h2; exact q h2
              · exact z ⟨t, by omega, h2⟩)]
            omega
    have h := this T hT
    have : (if (∃ t, t < T ∧ gf g n 1 = nI t) then 1 else 0) ≤ 1 := by split <;> omega
    omega
theorem cntT_mono {g : Nat → Int64} {n : Nat} : ∀ {t T : Nat}, t ≤ T → cntT g n t ≤ cntT g n T := by
  intro t T h
  induction T with
  | zero => rw [show t = 0 by omega]; exact Nat.le_refl _
  | succ T ih =>
    by_cases q : t = T + 1
    · rw [q]; exact Nat.le_refl _
    · have := ih (by omega)
      show _ ≤ cntT g n T + _
      omega
theorem hd_q {g : Nat → Int64} {t m B : Nat} {a c : zWr} (ht : t < 4) (h : gNm g (6 + 13 * t + 5) m) (h0 : 0 < m) (hq : wq a c B) (hB : B + 10 ≤ 256) : wq (wPut (zwn (zpk g (6 + 13 * t + 5) 8) (if nI t ≤ 0 then a else wPut a (nI 32))) (nI 58)) (rhd g t c) (B + 10) := by
  unfold rhd
  have key : wq (if nI t ≤ 0 then a else wPut a (nI 32)) (if 0 < t then rPut c (nI 32) else c) (B + 1) := by
    by_cases z : 0 < t
    · rw [if_neg (nI_nle z (by omega)), if_pos z]
      exact wq_put hq (by omega) rfl
    · rw [show t = 0 by omega, if_pos (by decide), if_neg (by omega)]
      exact hq.mono (by omega)
  exact (wq_put (tname_q h h0 key (by omega)) (by omega) rfl).mono (by omega)
theorem wt_q {g : Nat → Int64} {u : Nat → Int32} {r : Nat → Int32} (hb : gBd g) (hT : gNT g) (hF : gNF g) : ∀ T, T ≤ gN g 2 → wq (zwt g u T) (rwt g (0, r) T) (10 * T + 9 * cntT g (gN g 3) T)
  | 0, _ => ⟨rfl, Nat.zero_le _, fun k hk => absurd hk (Nat.not_lt_zero k)⟩
  | T + 1, hT9 => by
    have h4 := hb.2.1.2
    have h20 := hb.2.2.1.2
    have c1 := cntT_le (g := g) (T := T + 1) (by omega) (gN g 3)
    have c2 : cntT g (gN g 3) (T + 1) = cntT g (gN g 3) T + cnt g (nI T) (gN g 3) := rfl
    have i := wt_q (u := u) (r := r) hb hT hF T (by omega)
    obtain ⟨m, m0, hm⟩ := hT T (by omega)
    have h1 := hd_q (by omega) hm m0 i (by omega)
    have h2 := (pf_q (t := T) h1 (gN g 3) (fun f hf => hF f hf) (by omega)).1
    exact h2.mono (by omega)
/-- the reference's row is long enough -/
theorem rWb_ok {g : Nat → Int64} {u r : Nat → Int32} (hb : gBd g) (hT : gNT g) (hF : gNF g) : rWb g (0, r) := by
  intro t ht
  have h4 := hb.2.1.2
  have h20 := hb.2.2.1.2
  have c1 := cntT_le (g := g) (T := t + 1) (by omega) (gN g 3)
  have c2 : cntT g (gN g 3) (t + 1) = cntT g (gN g 3) t + cnt g (nI t) (gN g 3) := rfl
  have i := wt_q (u := u) (r := r) hb hT hF t (by omega)
  obtain ⟨m, m0, hm⟩ := hT t ht
  have h1 := hd_q (by omega) hm m0 i (by omega)
  refine ⟨by rw [← i.1]; have := i.2.1; omega, fun f hf => ?_⟩
  have cm := cnt_mono (g := g) (x := nI t) hf
  have h2 := (pf_q (t := t) h1 f (fun f' hf' => hF f' (by omega)) (by omega)).1
  rw [← h2.1]
  have := h2.2.1
  omega
