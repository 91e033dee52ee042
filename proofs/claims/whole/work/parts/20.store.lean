/-! ===== what a store's cells hold ===== -/
def its (g : Nat → Int64) (k : Nat) : Int32 := (g k).toInt32
def gN (g : Nat → Int64) (k : Nat) : Nat := (its g k).toNatClampNeg
def gt (g : Nat → Int64) (t k : Nat) : Int32 := its g (6 + 13 * t + k)
def gf (g : Nat → Int64) (f k : Nat) : Int32 := its g (58 + 51 * f + k)
def gs (g : Nat → Int64) (f : Nat) : Nat → Int32 := fun p => its g (58 + 51 * f + 14 + p)
def gu (g : Nat → Int64) (f : Nat) : Nat → Int32 := fun j => its g (58 + 51 * f + 26 + j)
def go (g : Nat → Int64) (f : Nat) : Int64 := g (58 + 51 * f + 50)
def gm (g : Nat → Int64) (w k : Nat) : Int32 := its g (1078 + 5 * w + k)
def gp (g : Nat → Int64) (t k : Nat) : Int64 := g (1378 + 3 * t + k)
/-- a name of letters from b, packed -/
def zpk (g : Nat → Int64) (b : Nat) : Nat → Int64
  | 0 => 0
  | j + 1 => if g (b + j) = 0 then zpk g b j else (zpk g b j <<< 5) + (its g (b + j) - nI 97 + nI 1).toInt64
theorem zpk_eq {g h : Nat → Int64} {b : Nat} : ∀ n, (∀ j, j < n → g (b + j) = h (b + j)) → zpk g b n = zpk h b n
  | 0, _ => rfl
  | n + 1, e => by
    unfold zpk
    rw [zpk_eq n (fun j hj => e j (by omega)), e n (by omega), show its g (b + n) = its h (b + n) from congrArg Int64.toInt32 (e n (by omega))]
/-- bounds of what counts and what points -/
def gBd (g : Nat → Int64) : Prop :=
  (its g 0 = nI (gN g 0) ∧ 2 ≤ gN g 0 ∧ gN g 0 ≤ 12) ∧ (its g 2 = nI (gN g 2) ∧ gN g 2 ≤ 4) ∧ (its g 3 = nI (gN g 3) ∧ gN g 3 ≤ 20) ∧ (its g 4 = nI (gN g 4) ∧ gN g 4 ≤ 9999) ∧ (its g 5 = nI (gN g 5) ∧ gN g 5 ≤ 60)
  ∧ (∀ f, f < gN g 3 → (gf g f 1 = nI (gN g (58 + 51 * f + 1)) ∧ gN g (58 + 51 * f + 1) < gN g 2) ∧ (gf g f 4 = nI (gN g (58 + 51 * f + 4)) ∧ gN g (58 + 51 * f + 4) ≤ 24))
  ∧ (∀ w, w < gN g 5 → (gm g w 0 = nI (gN g (1078 + 5 * w + 0)) ∧ gN g (1078 + 5 * w + 0) < gN g 3) ∧ (gm g w 1 = nI (gN g (1078 + 5 * w + 1)) ∧ gN g (1078 + 5 * w + 1) < gN g 2) ∧ (gm g w 2 = nI (gN g (1078 + 5 * w + 2)) ∧ gN g (1078 + 5 * w + 2) < gN g 2))
/-- a tier's row, a file's row, the moves, the head -/
def rTi (M : zMem) (a : Nat) (g : Nat → Int64) (t : Nat) : Prop := zJ M a 0 = zpk g (6 + 13 * t + 5) 8 ∧ (∀ k, k < 5 → zI M (a + 1) k = gt g t k) ∧ (∀ k, k < 3 → zJ M (a + 2) k = gp g t k)
def rFi (M : zMem) (a : Nat) (g : Nat → Int64) (f : Nat) : Prop := zJ M a 0 = zpk g (58 + 51 * f + 6) 8 ∧ zI M a 1 = gf g f 0 ∧ zI M a 2 = gf g f 1 ∧ zI M a 3 = gf g f 2 ∧ zI M a 4 = gf g f 3 ∧ zI M a 5 = gf g f 5 ∧ zJ M a 6 = go g f ∧ zI M a 7 = gf g f 4 ∧ (∀ j, j < 12 → zI M (a + 2) j = gs g f j) ∧ (∀ j, j < gN g (58 + 51 * f + 4) → zI M (a + 1) j = gu g f j)
def rMv (M : zMem) (s : Nat) (g : Nat → Int64) : Prop := zI M (s + 3) 0 = its g 5 ∧ ∀ w, w < gN g 5 → ∀ k, k < 5 → zI M (s + 3 + 1) (w * 5 + k) = gm g w k
def rHd (M : zMem) (s : Nat) (g : Nat → Int64) : Prop := zI M s 0 = its g 0 ∧ zI M s 1 = its g 1 ∧ zI M s 2 = its g 4 ∧ zI M s 3 = its g 2 ∧ zI M s 4 = its g 3
/-- the shape of a store from s: its file rows in the order p -/
def sSh (M : zMem) (s : Nat) (p : Nat → Nat) : Prop :=
  (zK M s = 6 ∧ zR M s 5 = some (s + 1) ∧ zR M s 6 = some (s + 2) ∧ zR M s 7 = some (s + 3)) ∧ (zK M (s + 1) = 16 ∧ zN M (s + 1) = 4) ∧ (zK M (s + 2) = 14 ∧ zN M (s + 2) = 20) ∧ vSh M (s + 3)
  ∧ (∀ t, t < 4 → zR M (s + 1) t = some (s + 5 + 3 * t) ∧ tSh M (s + 5 + 3 * t)) ∧ (∀ q, q < 20 → rSh M (s + 17 + 3 * q)) ∧ (∀ f, f < 20 → zR M (s + 2) f = some (s + 17 + 3 * p f) ∧ p f < 20) ∧ (∀ f f', f < 20 → f' < 20 → p f = p f' → f = f')
def rSt (M : zMem) (s : Nat) (g : Nat → Int64) (p : Nat → Nat) : Prop :=
  sSh M s p ∧ rHd M s g ∧ rMv M s g ∧ (∀ t, t < gN g 2 → rTi M (s + 5 + 3 * t) g t) ∧ (∀ f, f < gN g 3 → rFi M (s + 17 + 3 * p f) g f) ∧ gBd g
/-- agreement of two worlds on some cells -/
def zag (M M' : zMem) (P : Nat → Prop) : Prop := zsh M M' ∧ ∀ b, P b → zI M' b = zI M b ∧ zJ M' b = zJ M b ∧ zR M' b = zR M b
theorem zag.mono {M M' : zMem} {P P' : Nat → Prop} (h : zag M M' P) (hp : ∀ b, P' b → P b) : zag M M' P' := ⟨h.1, fun b q => h.2 b (hp b q)⟩
theorem zag.trans {M M' M'' : zMem} {P : Nat → Prop} (h : zag M M' P) (h' : zag M' M'' P) : zag M M'' P :=
  ⟨h'.1.trans h.1, fun b q => ⟨(h'.2 b q).1.trans (h.2 b q).1, (h'.2 b q).2.1.trans (h.2 b q).2.1, (h'.2 b q).2.2.trans (h.2 b q).2.2⟩⟩
theorem zag.refl (M : zMem) (P : Nat → Prop) : zag M M P := ⟨rfl, fun _ _ => ⟨rfl, rfl, rfl⟩⟩
theorem zag_I (M : zMem) (a k : Nat) (v : Int32) : zag M (zsI M a k v) (fun b => b ≠ a) := ⟨rfl, fun _ h => ⟨zI_In h, rfl, rfl⟩⟩
theorem zag_J (M : zMem) (a k : Nat) (v : Int64) : zag M (zsJ M a k v) (fun b => b ≠ a) := ⟨rfl, fun _ h => ⟨rfl, zJ_Jn h, rfl⟩⟩
theorem zag_A (M : zMem) (a : Nat) (g : Nat → Int32) : zag M (zsA M a g) (fun b => b ≠ a) := ⟨rfl, fun _ h => ⟨zI_An M g h, rfl, rfl⟩⟩
theorem zag_L (M : zMem) (a : Nat) (g : Nat → Int64) : zag M (zsL M a g) (fun b => b ≠ a) := ⟨rfl, fun _ h => ⟨rfl, zJ_Ln h, rfl⟩⟩
theorem zag_rSh {M M' : zMem} {a : Nat} {P : Nat → Prop} (h : zag M M' P) (h0 : P a) (q : rSh M a) : rSh M' a := by
  unfold rSh at *
  rw [zsh_K h.1, zsh_K h.1, zsh_K h.1, zsh_N h.1, zsh_N h.1, (h.2 a h0).2.2]
  exact q
theorem zag_tSh {M M' : zMem} {a : Nat} {P : Nat → Prop} (h : zag M M' P) (h0 : P a) (q : tSh M a) : tSh M' a := by
  unfold tSh at *
  rw [zsh_K h.1, zsh_K h.1, zsh_K h.1, zsh_N h.1, zsh_N h.1, (h.2 a h0).2.2]
  exact q
theorem zag_vSh {M M' : zMem} {a : Nat} {P : Nat → Prop} (h : zag M M' P) (h0 : P a) (q : vSh M a) : vSh M' a := by
  unfold vSh at *
  rw [zsh_K h.1, zsh_K h.1, zsh_N h.1, (h.2 a h0).2.2]
  exact q
/-- a world of the same shape, where the rows' references are as they were -/
theorem sSh.keep {M M' : zMem} {s : Nat} {p : Nat → Nat} (h : sSh M s p) (e : zsh M M') (er : ∀ b, s ≤ b → b < s + 77 → zR M' b = zR M b) : sSh M' s p := by
  obtain ⟨⟨a1, a2, a3, a4⟩, ⟨b1, b2⟩, ⟨c1, c2⟩, d, t, q, f, j⟩ := h
  have kk := fun b => zsh_K e b
  have nn := fun b => zsh_N e b
  refine ⟨⟨by rw [kk]; exact a1, by rw [er s (by omega) (by omega)]; exact a2, by rw [er s (by omega) (by omega)]; exact a3, by rw [er s (by omega) (by omega)]; exact a4⟩, ⟨by rw [kk]; exact b1, by rw [nn]; exact b2⟩, ⟨by rw [kk]; exact c1, by rw [nn]; exact c2⟩, ?_, ?_, ?_, ?_, j⟩
  · unfold vSh at *
    rw [kk, kk, nn, er (s + 3) (by omega) (by omega)]
    exact d
  · intro i hi
    have := t i hi
    unfold tSh at *
    rw [kk, kk, kk, nn, nn, er (s + 1) (by omega) (by omega), er (s + 5 + 3 * i) (by omega) (by omega)]
    exact this
  · intro i hi
    have := q i hi
    unfold rSh at *
    rw [kk, kk, kk, nn, nn, er (s + 17 + 3 * i) (by omega) (by omega)]
    exact this
  · intro i hi
    rw [er (s + 2) (by omega) (by omega)]
    exact f i hi
theorem rTi.keep {M M' : zMem} {a t : Nat} {g g' : Nat → Int64} (h : rTi M a g t) (e : ∀ b, a ≤ b → b < a + 3 → zI M' b = zI M b ∧ zJ M' b = zJ M b) (eg : ∀ k, k < 13 → g' (6 + 13 * t + k) = g (6 + 13 * t + k)) (ep : ∀ k, k < 3 → g' (1378 + 3 * t + k) = g (1378 + 3 * t + k)) : rTi M' a g' t := by
  obtain ⟨a1, a2, a3⟩ := h
  refine ⟨?_, ?_, ?_⟩
  · rw [(e a (by omega) (by omega)).2, a1]
    exact zpk_eq 8 (fun j hj => by have := eg (5 + j) (by omega); rw [← Nat.add_assoc] at this; exact this.symm)
  · intro k hk
    rw [(e (a + 1) (by omega) (by omega)).1, a2 k hk]
    exact congrArg Int64.toInt32 (eg k (by omega)).symm
  · intro k hk
    rw [(e (a + 2) (by omega) (by omega)).2, a3 k hk]
    exact (ep k hk).symm
theorem rFi.keep {M M' : zMem} {a f : Nat} {g g' : Nat → Int64} (h : rFi M a g f) (hk : gN g (58 + 51 * f + 4) ≤ 24) (e : ∀ b, a ≤ b → b < a + 3 → zI M' b = zI M b ∧ zJ M' b = zJ M b) (eg : ∀ k, k < 51 → g' (58 + 51 * f + k) = g (58 + 51 * f + k)) : rFi M' a g' f := by
  obtain ⟨a1, a2, a3, a4, a5, a6, a7, a8, a9, a10⟩ := h
  have ei : ∀ k, k < 51 → its g (58 + 51 * f + k) = its g' (58 + 51 * f + k) := fun k hk => congrArg Int64.toInt32 (eg k hk).symm
  have e0 := e a (by omega) (by omega)
  refine ⟨?_, ?_, ?_, ?_, ?_, ?_, ?_, ?_, ?_, ?_⟩
  · rw [e0.2, a1]
    exact zpk_eq 8 (fun j hj => by have := eg (6 + j) (by omega); rw [← Nat.add_assoc] at this; exact this.symm)
  · rw [e0.1, a2]; exact ei _ (by omega)
  · rw [e0.1, a3]; exact ei _ (by omega)
  · rw [e0.1, a4]; exact ei _ (by omega)
  · rw [e0.1, a5]; exact ei _ (by omega)
  · rw [e0.1, a6]; exact ei _ (by omega)
  · rw [e0.2, a7]; exact (eg _ (by omega)).symm
  · rw [e0.1, a8]; exact ei _ (by omega)
  · intro j hj
    rw [(e (a + 2) (by omega) (by omega)).1, a9 j hj]
    have := ei (14 + j) (by omega)
    rw [← Nat.add_assoc] at this
    exact this
  · intro j hj
    have e4 : gN g' (58 + 51 * f + 4) = gN g (58 + 51 * f + 4) := congrArg Int32.toNatClampNeg (ei 4 (by omega)).symm
    rw [e4] at hj
    rw [(e (a + 1) (by omega) (by omega)).1, a10 j hj]
    have := ei (26 + j) (by omega)
    rw [← Nat.add_assoc] at this
    exact this
theorem gN_eq {g g' : Nat → Int64} {k : Nat} (h : g' k = g k) : gN g' k = gN g k := by unfold gN its; rw [h]
theorem its_eq {g g' : Nat → Int64} {k : Nat} (h : g' k = g k) : its g' k = its g k := by unfold its; rw [h]
theorem rSt.b {M : zMem} {s : Nat} {g : Nat → Int64} {p : Nat → Nat} (h : rSt M s g p) : gBd g := h.2.2.2.2.2
theorem rSt.keep {M M' : zMem} {s : Nat} {g : Nat → Int64} {p : Nat → Nat} (h : rSt M s g p) (e : zag M M' (fun b => s ≤ b ∧ b < s + 77)) : rSt M' s g p := by
  obtain ⟨h1, h2, h3, h4, h5, h6⟩ := h
  have e0 := e.2
  refine ⟨h1.keep e.1 (fun b q1 q2 => (e0 b ⟨q1, q2⟩).2.2), ?_, ?_, ?_, ?_, h6⟩
  · unfold rHd at *
    rw [(e0 s ⟨by omega, by omega⟩).1]
    exact h2
  · unfold rMv at *
    rw [(e0 (s + 3) ⟨by omega, by omega⟩).1, (e0 (s + 3 + 1) ⟨by omega, by omega⟩).1]
    exact h3
  · intro t ht
    have hb := h6.2.1.2
    exact (h4 t ht).keep (fun b q1 q2 => ⟨(e0 b ⟨by omega, by omega⟩).1, (e0 b ⟨by omega, by omega⟩).2.1⟩) (fun _ _ => rfl) (fun _ _ => rfl)
  · intro f hf
    have hb := h6.2.2.1.2
    have hp := (h1.2.2.2.2.2.2.1 f (by omega)).2
    exact (h5 f hf).keep (h6.2.2.2.2.2.1 f hf).2.2 (fun b q1 q2 => ⟨(e0 b ⟨by omega, by omega⟩).1, (e0 b ⟨by omega, by omega⟩).2.1⟩) (fun _ _ => rfl)
/-- one file's row changes -/
theorem rSt.file {M M' : zMem} {s f : Nat} {g g' : Nat → Int64} {p : Nat → Nat} (h : rSt M s g p) (hf : f < 20) (e : zag M M' (fun b => b < s + 17 + 3 * p f ∨ s + 17 + 3 * p f + 3 ≤ b)) (er : zR M' (s + 17 + 3 * p f) = zR M (s + 17 + 3 * p f)) (er1 : zR M' (s + 17 + 3 * p f + 1) = zR M (s + 17 + 3 * p f + 1)) (er2 : zR M' (s + 17 + 3 * p f + 2) = zR M (s + 17 + 3 * p f + 2))
    (eg : ∀ k, k < 58 + 51 * f ∨ 58 + 51 * f + 51 ≤ k → g' k = g k) (hr : f < gN g 3 → rFi M' (s + 17 + 3 * p f) g' f) (hb : gBd g') : rSt M' s g' p := by
  obtain ⟨h1, h2, h3, h4, h5, h6⟩ := h
  have e0 := e.2
  have hpf := (h1.2.2.2.2.2.2.1 f hf).2
  have c3 : gN g' 3 = gN g 3 := gN_eq (eg 3 (by omega))
  have c2 : gN g' 2 = gN g 2 := gN_eq (eg 2 (by omega))
  have c5 : gN g' 5 = gN g 5 := gN_eq (eg 5 (by omega))
  refine ⟨h1.keep e.1 (fun b q1 q2 => ?_), ?_, ?_, ?_, ?_, hb⟩
  · by_cases c : b < s + 17 + 3 * p f ∨ s + 17 + 3 * p f + 3 ≤ b
    · exact (e0 b c).2.2
    · rcases (by omega : b = s + 17 + 3 * p f ∨ b = s + 17 + 3 * p f + 1 ∨ b = s + 17 + 3 * p f + 2) with q | q | q
      · rw [q]; exact er
      · rw [q]; exact er1
      · rw [q]; exact er2
  · unfold rHd at *
    rw [(e0 s (by omega)).1, its_eq (eg 0 (by omega)), its_eq (eg 1 (by omega)), its_eq (eg 2 (by omega)), its_eq (eg 3 (by omega)), its_eq (eg 4 (by omega))]
    exact h2
  · unfold rMv at *
    rw [(e0 (s + 3) (by omega)).1, (e0 (s + 3 + 1) (by omega)).1, its_eq (eg 5 (by omega)), c5]
    refine ⟨h3.1, fun w hw k hk => ?_⟩
    rw [h3.2 w hw k hk]
    have := h6.2.2.2.2.1.2
    exact (its_eq (eg _ (by omega))).symm
  · intro t ht
    rw [c2] at ht
    have hb := h6.2.1.2
    exact (h4 t ht).keep (fun b q1 q2 => ⟨(e0 b (by omega)).1, (e0 b (by omega)).2.1⟩) (fun k hk => eg _ (by omega)) (fun k hk => eg _ (by omega))
  · intro f' hf'
    rw [c3] at hf'
    by_cases q : f' = f
    · rw [q]; exact hr (by omega)
    · have hb := h6.2.2.1.2
      have hp := (h1.2.2.2.2.2.2.1 f' (by omega)).2
      have hne : p f' ≠ p f := fun q2 => q (h1.2.2.2.2.2.2.2 f' f (by omega) hf q2)
      exact (h5 f' hf').keep (h6.2.2.2.2.2.1 f' hf').2.2 (fun b q1 q2 => ⟨(e0 b (by omega)).1, (e0 b (by omega)).2.1⟩) (fun k hk => eg _ (by omega))
/-- one tier's row changes -/
theorem rSt.tier {M M' : zMem} {s t : Nat} {g g' : Nat → Int64} {p : Nat → Nat} (h : rSt M s g p) (ht : t < 4) (e : zag M M' (fun b => b < s + 5 + 3 * t ∨ s + 5 + 3 * t + 3 ≤ b)) (er : ∀ b, s + 5 + 3 * t ≤ b → b < s + 5 + 3 * t + 3 → zR M' b = zR M b)
    (eg : ∀ k, (k < 6 + 13 * t ∨ 6 + 13 * t + 13 ≤ k) → (k < 1378 + 3 * t ∨ 1378 + 3 * t + 3 ≤ k) → g' k = g k) (hr : t < gN g 2 → rTi M' (s + 5 + 3 * t) g' t) (hb : gBd g') : rSt M' s g' p := by
  obtain ⟨h1, h2, h3, h4, h5, h6⟩ := h
  have e0 := e.2
  have c3 : gN g' 3 = gN g 3 := gN_eq (eg 3 (by omega) (by omega))
  have c2 : gN g' 2 = gN g 2 := gN_eq (eg 2 (by omega) (by omega))
  have c5 : gN g' 5 = gN g 5 := gN_eq (eg 5 (by omega) (by omega))
  refine ⟨h1.keep e.1 (fun b q1 q2 => ?_), ?_, ?_, ?_, ?_, hb⟩
  · by_cases c : b < s + 5 + 3 * t ∨ s + 5 + 3 * t + 3 ≤ b
    · exact (e0 b c).2.2
    · exact er b (by omega) (by omega)
  · unfold rHd at *
    rw [(e0 s (by omega)).1, its_eq (eg 0 (by omega) (by omega)), its_eq (eg 1 (by omega) (by omega)), its_eq (eg 2 (by omega) (by omega)), its_eq (eg 3 (by omega) (by omega)), its_eq (eg 4 (by omega) (by omega))]
    exact h2
  · unfold rMv at *
    rw [(e0 (s + 3) (by omega)).1, (e0 (s + 3 + 1) (by omega)).1, its_eq (eg 5 (by omega) (by omega)), c5]
    refine ⟨h3.1, fun w hw k hk => ?_⟩
    rw [h3.2 w hw k hk]
    have := h6.2.2.2.2.1.2
    exact (its_eq (eg _ (by omega) (by omega))).symm
  · intro t' ht'
    rw [c2] at ht'
    by_cases q : t' = t
    · rw [q]; exact hr (by omega)
    · have hb := h6.2.1.2
      exact (h4 t' ht').keep (fun b q1 q2 => ⟨(e0 b (by omega)).1, (e0 b (by omega)).2.1⟩) (fun k hk => eg _ (by omega) (by omega)) (fun k hk => eg _ (by omega) (by omega))
  · intro f hf
    rw [c3] at hf
    have hb := h6.2.2.1.2
    have hp := (h1.2.2.2.2.2.2.1 f (by omega)).2
    exact (h5 f hf).keep (h6.2.2.2.2.2.1 f hf).2.2 (fun b q1 q2 => ⟨(e0 b (by omega)).1, (e0 b (by omega)).2.1⟩) (fun k hk => eg _ (by omega) (by omega))
/-- the head, the moves, the counts change -/
theorem rSt.head {M M' : zMem} {s : Nat} {g g' : Nat → Int64} {p : Nat → Nat} (h : rSt M s g p) (e : zag M M' (fun b => b ≠ s ∧ b ≠ s + 3 ∧ b ≠ s + 3 + 1)) (er : ∀ b, zR M' b = zR M b)
    (eg : ∀ k, 6 ≤ k → (k < 1078 ∨ 1378 ≤ k) → g' k = g k) (hh : rHd M' s g') (hm : rMv M' s g') (ht : ∀ t, gN g 2 ≤ t → t < gN g' 2 → rTi M' (s + 5 + 3 * t) g' t) (hf : ∀ f, gN g 3 ≤ f → f < gN g' 3 → rFi M' (s + 17 + 3 * p f) g' f) (hb : gBd g') : rSt M' s g' p := by
  obtain ⟨h1, h2, h3, h4, h5, h6⟩ := h
  have e0 := e.2
  refine ⟨h1.keep e.1 (fun b q1 q2 => er b), hh, hm, ?_, ?_, hb⟩
  · intro t ht'
    by_cases q : t < gN g 2
    · have hb := h6.2.1.2
      exact (h4 t q).keep (fun b q1 q2 => ⟨(e0 b (by omega)).1, (e0 b (by omega)).2.1⟩) (fun k hk => eg _ (by omega) (by omega)) (fun k hk => eg _ (by omega) (by omega))
    · exact ht t (by omega) ht'
  · intro f hf'
    by_cases q : f < gN g 3
    · have hb := h6.2.2.1.2
      have hp := (h1.2.2.2.2.2.2.1 f (by omega)).2
      exact (h5 f q).keep (h6.2.2.2.2.2.1 f q).2.2 (fun b q1 q2 => ⟨(e0 b (by omega)).1, (e0 b (by omega)).2.1⟩) (fun k hk => eg _ (by omega) (by omega))
    · exact hf f (by omega) hf'
/-- the stores of the world -/
def zst (s : Nat) : Prop := (∃ i, i < 10 ∧ s = 14 + 77 * i) ∨ (∃ i, i < 2 ∧ s = 787 + 77 * i)
def zblk (b : Nat) : Prop := (14 ≤ b ∧ b < 784) ∨ (787 ≤ b ∧ b < 941)
def rW (M : zMem) (S : Nat → Nat → Int64) : Prop := ∀ s, zst s → ∃ p, rSt M s (S s) p
def zup (S : Nat → Nat → Int64) (s : Nat) (g : Nat → Int64) : Nat → Nat → Int64 := fun b => if b = s then g else S b
theorem zup_e {S : Nat → Nat → Int64} {s : Nat} {g : Nat → Int64} : zup S s g s = g := if_pos rfl
theorem zup_n {S : Nat → Nat → Int64} {s b : Nat} {g : Nat → Int64} (h : b ≠ s) : zup S s g b = S b := if_neg h
theorem zst_dj {s s' : Nat} (h : zst s) (h' : zst s') (hn : s' ≠ s) : s' + 77 ≤ s ∨ s + 77 ≤ s' := by
  rcases h with ⟨i, hi, e⟩ | ⟨i, hi, e⟩ <;> rcases h' with ⟨j, hj, e'⟩ | ⟨j, hj, e'⟩ <;> omega
theorem zst_blk {s b : Nat} (h : zst s) (h1 : s ≤ b) (h2 : b < s + 77) : zblk b := by
  unfold zblk
  rcases h with ⟨i, hi, e⟩ | ⟨i, hi, e⟩ <;> omega
/-- one store changes -/
theorem rW.up {M M' : zMem} {S : Nat → Nat → Int64} {s : Nat} {g : Nat → Int64} {p : Nat → Nat} (h : rW M S) (hs : zst s) (e : zag M M' (fun b => b < s ∨ s + 77 ≤ b)) (hr : rSt M' s g p) : rW M' (zup S s g) := by
  intro s' hs'
  by_cases q : s' = s
  · rw [q, zup_e]; exact ⟨p, hr⟩
  · rw [zup_n q]
    obtain ⟨p', hp⟩ := h s' hs'
    have := zst_dj hs hs' q
    exact ⟨p', hp.keep (e.mono fun b hb => by omega)⟩
/-- no store changes -/
theorem rW.keep {M M' : zMem} {S : Nat → Nat → Int64} (h : rW M S) (e : zag M M' zblk) : rW M' S := by
  intro s hs
  obtain ⟨p, hp⟩ := h s hs
  exact ⟨p, hp.keep (e.mono fun b hb => zst_blk hs hb.1 hb.2)⟩
