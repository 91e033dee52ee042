/-! ===== a store as another ===== -/
def zcI (M M1 : zMem) (s : Nat) (p : Nat → Nat) (g : Nat → Int64) (nt nf : Nat) : Prop :=
  zag M M1 (fun b => b < s ∨ s + 77 ≤ b) ∧ sSh M1 s p ∧ rHd M1 s g ∧ (∀ t, t < nt → rTi M1 (s + 5 + 3 * t) g t) ∧ (∀ f, f < nf → rFi M1 (s + 17 + 3 * p f) g f)
theorem sSh.tR {M : zMem} {s : Nat} {p : Nat → Nat} (h : sSh M s p) {t : Nat} (ht : t < 4) : zR M (s + 1) t = some (s + 5 + 3 * t) := (h.2.2.2.2.1 t ht).1
theorem sSh.tS {M : zMem} {s : Nat} {p : Nat → Nat} (h : sSh M s p) {t : Nat} (ht : t < 4) : tSh M (s + 5 + 3 * t) := (h.2.2.2.2.1 t ht).2
theorem sSh.fR {M : zMem} {s : Nat} {p : Nat → Nat} (h : sSh M s p) {f : Nat} (hf : f < 20) : zR M (s + 2) f = some (s + 17 + 3 * p f) := (h.2.2.2.2.2.2.1 f hf).1
theorem sSh.pL {M : zMem} {s : Nat} {p : Nat → Nat} (h : sSh M s p) {f : Nat} (hf : f < 20) : p f < 20 := (h.2.2.2.2.2.2.1 f hf).2
theorem sSh.fS {M : zMem} {s : Nat} {p : Nat → Nat} (h : sSh M s p) {f : Nat} (hf : f < 20) : rSh M (s + 17 + 3 * p f) := h.2.2.2.2.2.1 (p f) (h.pL hf)
theorem sSh.K1 {M : zMem} {s : Nat} {p : Nat → Nat} (h : sSh M s p) : zK M (s + 1) = 14 + 2 := h.2.1.1
theorem sSh.K2 {M : zMem} {s : Nat} {p : Nat → Nat} (h : sSh M s p) : zK M (s + 2) = 14 + 0 := h.2.2.1.1
theorem rHd.keep {M M' : zMem} {s : Nat} {g : Nat → Int64} (h : rHd M s g) (e : zI M' s = zI M s) : rHd M' s g := by unfold rHd at *; rw [e]; exact h
theorem zcI.tier {M M1 : zMem} {s b i : Nat} {p : Nat → Nat} {g : Nat → Int64} (h : zcI M M1 s p g i 0) (hi : i < 4) (hb : b + 3 ≤ s ∨ s + 77 ≤ b) (hr : rTi M1 b g i) : zcI M (zM_tcopy M1 (s + 5 + 3 * i) b) s p g (i + 1) 0 := by
  obtain ⟨h1, h2, h3, h4, h5⟩ := h
  have ez := zag_tcopy (M := M1) (a := s + 5 + 3 * i) (b := b)
  refine ⟨h1.trans (ez.mono fun c hc => by omega), h2.keep ez.1 (fun _ _ _ => rfl), h3.keep (ez.2 s (by omega)).1, fun t ht => ?_, fun f hf => absurd hf (by omega)⟩
  by_cases q : t = i
  · rw [q]
    exact hr.copy (by omega) (fun _ _ => rfl) (fun _ _ => rfl)
  · exact (h4 t (by omega)).keep (fun c q1 q2 => ⟨(ez.2 c (by omega)).1, (ez.2 c (by omega)).2.1⟩) (fun _ _ => rfl) (fun _ _ => rfl)
theorem zcI.file {M M1 : zMem} {s b i nt : Nat} {p : Nat → Nat} {g : Nat → Int64} (h : zcI M M1 s p g nt i) (hg : gBd g) (hnt : nt ≤ 4) (hi : i < gN g 3) (hb : b + 3 ≤ s ∨ s + 77 ≤ b) (hr : rFi M1 b g i) : zcI M (zM_copy M1 (s + 17 + 3 * p i) b) s p g nt (i + 1) := by
  obtain ⟨h1, h2, h3, h4, h5⟩ := h
  have hF := hg.2.2.1.2
  have hp := h2.pL (f := i) (by omega)
  have ez := zag_copy (M := M1) (a := s + 17 + 3 * p i) (b := b)
  refine ⟨h1.trans (ez.mono fun c hc => by omega), h2.keep ez.1 (fun _ _ _ => rfl), h3.keep (ez.2 s (by omega)).1, fun t ht => ?_, fun f hf => ?_⟩
  · exact (h4 t ht).keep (fun c q1 q2 => ⟨(ez.2 c (by omega)).1, (ez.2 c (by omega)).2.1⟩) (fun _ _ => rfl) (fun _ _ => rfl)
  · by_cases q : f = i
    · rw [q]
      exact hr.copy (hg.keL hi) (fun _ _ => rfl)
    · have hp2 := h2.pL (f := f) (by omega)
      have hne : p f ≠ p i := fun q2 => q (h2.2.2.2.2.2.2.2 f i (by omega) (by omega) q2)
      exact (h5 f (by omega)).keep (hg.keL (by omega)) (fun c q1 q2 => ⟨(ez.2 c (by omega)).1, (ez.2 c (by omega)).2.1⟩) (fun _ _ => rfl)
theorem zag_vcopy {M : zMem} {a b n : Nat} : zag M (zM_vcopy M a b n) (fun c => c < a ∨ a + 2 ≤ c) := by
  unfold zM_vcopy
  exact ((zag_I _ _ _ _).mono fun c hc => by omega).trans ((zag_A _ _ _).mono fun c hc => by omega)
theorem zcI.fin {M M1 : zMem} {s s2 : Nat} {p p2 : Nat → Nat} {g : Nat → Int64} (h : zcI M M1 s p g (gN g 2) (gN g 3)) (h2 : rSt M1 s2 g p2) : zag M (zM_vcopy M1 (s + 3) (s2 + 3) (gN g 5)) (fun b => b < s ∨ s + 77 ≤ b) ∧ rSt (zM_vcopy M1 (s + 3) (s2 + 3) (gN g 5)) s g p := by
  obtain ⟨a1, a2, a3, a4, a5⟩ := h
  have hg := h2.b
  have h60 := hg.2.2.2.2.1.2
  have h4 := hg.2.1.2
  have h20 := hg.2.2.1.2
  have ez := zag_vcopy (M := M1) (a := s + 3) (b := s2 + 3) (n := gN g 5)
  refine ⟨a1.trans (ez.mono fun c hc => by omega), a2.keep ez.1 (fun _ _ _ => rfl), a3.keep (ez.2 s (by omega)).1, ⟨?_, fun w hw k hk => ?_⟩, fun t ht => ?_, fun f hf => ?_, hg⟩
  · unfold zM_vcopy
    rw [zI_An _ _ (show s + 3 ≠ s + 3 + 1 by omega), zI_Ie, zw1_e]
    exact hg.2.2.2.2.1.1.symm
  · unfold zM_vcopy
    rw [zI_A]
    have q : va_cpy (zI M1 (s2 + 3 + 1)) (zI M1 (s + 3 + 1)) 0 0 (gN g 5 * 5) (w * 5 + k) = zI M1 (s2 + 3 + 1) (0 + (w * 5 + k - 0)) := if_pos (by omega)
    rw [q, show 0 + (w * 5 + k - 0) = w * 5 + k by omega, h2.mv hw hk]
  · exact (a4 t ht).keep (fun c q1 q2 => ⟨(ez.2 c (by omega)).1, (ez.2 c (by omega)).2.1⟩) (fun _ _ => rfl) (fun _ _ => rfl)
  · have hp2 := a2.pL (f := f) (by omega)
    exact (a5 f hf).keep (hg.keL hf) (fun c q1 q2 => ⟨(ez.2 c (by omega)).1, (ez.2 c (by omega)).2.1⟩) (fun _ _ => rfl)
section
variable {l : Launch} {G : zG}
theorem w_X5_copyFrom_73 (hl : l.stackTraces = false) {M : zMem} {s s2 : Nat} {g : Nat → Int64} {p p2 : Nat → Nat} (hd : s2 + 77 ≤ s ∨ s + 77 ≤ s2) (hM : rSt M s2 g p2) : ∀ (k : Nat) (M1 : zMem) (i : Nat), zcI M M1 s p g (gN g 2) i → i ≤ gN g 3 → gN g 3 - i < k → zS l G mX5_copyFrom 2 60 0 0 73 [some (.ref s), some (.ref s2), some (.int (nI i))] [] M1 (zU M s none g p) := by
  intro k
  induction k with
  | zero => intros; omega
  | succ k ih =>
    intro M1 i hz hi hk
    have h2 := hM.keep (hz.1.mono fun b hb => by omega)
    have h20 := h2.b.2.2.1.2
    refine s_iload_n (zdk hX5_copyFrom 39 rfl) rfl ?_
    refine s_aload_n (zdk hX5_copyFrom 40 rfl) rfl ?_
    refine s_getI (zdk hX5_copyFrom 41 rfl) fw_X5_24 rfl (hz.2.1.1.1) ?_
    refine s_topi (b := nI (gN g 3)) (hz.2.2.1.2.2.2.2.trans h2.b.2.2.1.1) ?_
    refine s_icmp_ge 102 (zdk hX5_copyFrom 42 rfl) (by decide) (fun c78 => ?_) (fun c78 => ?_)
    · obtain rfl : i = (gN g 3) := by have := nle c78 (by omega) (by omega); omega
      refine s_aload_n (zdk hX5_copyFrom 54 rfl) rfl ?_
      refine s_getR (zdk hX5_copyFrom 55 rfl) fw_X5_42 rfl (hz.2.1.1.1) (hz.2.1.1.2.2.2) ?_
      refine s_aload_n (zdk hX5_copyFrom 56 rfl) rfl ?_
      refine s_getR (zdk hX5_copyFrom 57 rfl) fw_X5_42 rfl (h2.K) (h2.r7) ?_
      refine s_callV0 (ci := 2) [.ref (s2 + 3)] (zdk hX5_copyFrom 58 rfl) cw_X5_55 (hz.2.1.2.2.2.1.1) (by decide) rfl rfl rfl (Nat.le_of_ble_eq_true rfl) (by decide) (c_X2_copyFrom (n := gN g 5) hl hz.2.1.2.2.2.1 h2.mS (by omega) (by omega) h2.mv0 h2.b.2.2.2.2.1.2) ?_
      refine s_return (zdk hX5_copyFrom 59 rfl) rfl ?_
      have hq := hz.fin h2
      exact ⟨rfl, hq⟩
    · have hi2 : i < gN g 3 := nlt c78 (by omega) (by omega)
      have hp1 := hz.2.1.pL (f := i) (by omega)
      have hp2 := h2.pL (f := i) (by omega)
      refine s_aload_n (zdk hX5_copyFrom 43 rfl) rfl ?_
      refine s_getR (zdk hX5_copyFrom 44 rfl) fw_X5_35 rfl (hz.2.1.1.1) (hz.2.1.1.2.2.1) ?_
      refine s_iload_n (zdk hX5_copyFrom 45 rfl) rfl ?_
      refine s_aaloadN (N := 20) (j := i) (zdk hX5_copyFrom 46 rfl) (hz.2.1.K2) (by decide) (hz.2.1.2.2.1.2) ((by omega)) (by decide) (hz.2.1.fR (by omega)) ?_
      refine s_aload_n (zdk hX5_copyFrom 47 rfl) rfl ?_
      refine s_getR (zdk hX5_copyFrom 48 rfl) fw_X5_35 rfl (h2.K) (h2.r6) ?_
      refine s_iload_n (zdk hX5_copyFrom 49 rfl) rfl ?_
      refine s_aaloadN (N := 20) (j := i) (zdk hX5_copyFrom 50 rfl) (h2.fK) (by decide) (h2.fN) (h2.fL hi2) (by decide) (h2.rR hi2) ?_
      refine s_callV0 (ci := 0) [.ref (s2 + 17 + 3 * p2 i)] (zdk hX5_copyFrom 51 rfl) cw_X5_52 ((hz.2.1.fS (by omega)).1) (by decide) rfl rfl rfl (Nat.le_of_ble_eq_true rfl) (by decide) (c_X0_copyFrom hl (hz.2.1.fS (by omega)) (h2.rS hi2) (by omega) (by omega)) ?_
      refine s_to (P := fun M2 => zcI M M2 s p g (gN g 2) (i + 1)) (hz.file h2.b h2.b.2.1.2 hi2 (by omega) (h2.fi hi2)) ?_
      intro M2 hz2
      refine s_iinc (r := nI (i + 1)) (zdk hX5_copyFrom 52 rfl) (Nat.le_of_ble_eq_true rfl) rfl (nI_1 i) ?_
      refine s_ls (ls' := [some (.ref s), some (.ref s2), some (.int (nI (i + 1)))]) rfl ?_
      refine s_goto 73 (zdk hX5_copyFrom 53 rfl) (by decide) ?_
      exact ih M2 (i + 1) hz2 (by omega) (by omega)
theorem w_X5_copyFrom_42 (hl : l.stackTraces = false) {M : zMem} {s s2 : Nat} {g : Nat → Int64} {p p2 : Nat → Nat} (hd : s2 + 77 ≤ s ∨ s + 77 ≤ s2) (hM : rSt M s2 g p2) : ∀ (k : Nat) (M1 : zMem) (i : Nat), zcI M M1 s p g i 0 → i ≤ gN g 2 → gN g 2 - i < k → zS l G mX5_copyFrom 2 60 0 0 42 [some (.ref s), some (.ref s2), some (.int (nI i))] [] M1 (zU M s none g p) := by
  intro k
  induction k with
  | zero => intros; omega
  | succ k ih =>
    intro M1 i hz hi hk
    have h2 := hM.keep (hz.1.mono fun b hb => by omega)
    have h4 := h2.b.2.1.2
    refine s_iload_n (zdk hX5_copyFrom 22 rfl) rfl ?_
    refine s_aload_n (zdk hX5_copyFrom 23 rfl) rfl ?_
    refine s_getI (zdk hX5_copyFrom 24 rfl) fw_X5_21 rfl (hz.2.1.1.1) ?_
    refine s_topi (b := nI (gN g 2)) (hz.2.2.1.2.2.2.1.trans h2.b.2.1.1) ?_
    refine s_icmp_ge 71 (zdk hX5_copyFrom 25 rfl) (by decide) (fun c47 => ?_) (fun c47 => ?_)
    · obtain rfl : i = (gN g 2) := by have := nle c47 (by omega) (by omega); omega
      refine s_iconstv (v := nI 0) (zdk hX5_copyFrom 37 rfl) zc_iconst_0 ?_
      refine s_istore_n (zdk hX5_copyFrom 38 rfl) (Nat.le_of_ble_eq_true rfl) ?_
      refine s_ls (ls' := [some (.ref s), some (.ref s2), some (.int (nI 0))]) rfl ?_
      exact w_X5_copyFrom_73 hl hd hM (gN g 3 + 1) M1 0 hz (by omega) (by omega)
    · have hi2 : i < (gN g 2) := nlt c47 (by omega) (by omega)
      refine s_aload_n (zdk hX5_copyFrom 26 rfl) rfl ?_
      refine s_getR (zdk hX5_copyFrom 27 rfl) fw_X5_29 rfl (hz.2.1.1.1) (hz.2.1.1.2.1) ?_
      refine s_iload_n (zdk hX5_copyFrom 28 rfl) rfl ?_
      refine s_aaloadN (N := 4) (j := i) (zdk hX5_copyFrom 29 rfl) (hz.2.1.K1) (by decide) (hz.2.1.2.1.2) ((by omega)) (by decide) (hz.2.1.tR (by omega)) ?_
      refine s_aload_n (zdk hX5_copyFrom 30 rfl) rfl ?_
      refine s_getR (zdk hX5_copyFrom 31 rfl) fw_X5_29 rfl (h2.K) (h2.r5) ?_
      refine s_iload_n (zdk hX5_copyFrom 32 rfl) rfl ?_
      refine s_aaloadN (N := 4) (j := i) (zdk hX5_copyFrom 33 rfl) (h2.tK) (by decide) (h2.tN) (h2.tL hi2) (by decide) (h2.tR hi2) ?_
      refine s_callV0 (ci := 6) [.ref (s2 + 5 + 3 * i)] (zdk hX5_copyFrom 34 rfl) cw_X5_48 ((hz.2.1.tS (by omega)).1) (by decide) rfl rfl rfl (Nat.le_of_ble_eq_true rfl) (by decide) (c_X6_copyFrom hl (hz.2.1.tS (by omega)) (h2.tS hi2) (by omega) (by omega)) ?_
      refine s_to (P := fun M2 => zcI M M2 s p g (i + 1) 0) (hz.tier (by omega) (by omega) (h2.ti hi2)) ?_
      intro M2 hz2
      refine s_iinc (r := nI (i + 1)) (zdk hX5_copyFrom 35 rfl) (Nat.le_of_ble_eq_true rfl) rfl (nI_1 i) ?_
      refine s_ls (ls' := [some (.ref s), some (.ref s2), some (.int (nI (i + 1)))]) rfl ?_
      refine s_goto 42 (zdk hX5_copyFrom 36 rfl) (by decide) ?_
      exact ih M2 (i + 1) hz2 (by omega) (by omega)
theorem c_X5_copyFrom (hl : l.stackTraces = false) {M : zMem} {s s2 : Nat} {g : Nat → Int64} {p p2 : Nat → Nat} (hs : sSh M s p) (hd : s2 + 77 ≤ s ∨ s + 77 ≤ s2) (h2 : rSt M s2 g p2) : zCm l G mX5_copyFrom 2 60 0 0 [.ref s, .ref s2] M (zU M s none g p) := by
  refine zCu.of (ls0 := [some (.ref s), some (.ref s2), none]) (by decide +kernel) rfl hl rfl (Nat.le_of_ble_eq_true rfl) ?_
  refine s_aload_n (zdk hX5_copyFrom 0 rfl) rfl ?_
  refine s_aload_n (zdk hX5_copyFrom 1 rfl) rfl ?_
  refine s_getI (zdk hX5_copyFrom 2 rfl) fw_X5_9 rfl (h2.K) ?_
  refine s_topi (b := nI (gN g 0)) (h2.v0) ?_
  refine s_putI (zdk hX5_copyFrom 3 rfl) fw_X5_9 rfl pw_5_0 (hs.1.1) ?_
  refine s_aload_n (zdk hX5_copyFrom 4 rfl) rfl ?_
  refine s_aload_n (zdk hX5_copyFrom 5 rfl) rfl ?_
  refine s_getI (zdk hX5_copyFrom 6 rfl) fw_X5_15 rfl (h2.K) ?_
  refine s_topi (b := its g 1) ((by rw [zI_In (show s2 ≠ s by omega)]; exact h2.v1)) ?_
  refine s_putI (zdk hX5_copyFrom 7 rfl) fw_X5_15 rfl pw_5_1 (hs.1.1) ?_
  refine s_aload_n (zdk hX5_copyFrom 8 rfl) rfl ?_
  refine s_aload_n (zdk hX5_copyFrom 9 rfl) rfl ?_
  refine s_getI (zdk hX5_copyFrom 10 rfl) fw_X5_18 rfl (h2.K) ?_
  refine s_topi (b := nI (gN g 4)) ((by rw [zI_In (show s2 ≠ s by omega), zI_In (show s2 ≠ s by omega)]; exact h2.v2)) ?_
  refine s_putI (zdk hX5_copyFrom 11 rfl) fw_X5_18 rfl pw_5_2 (hs.1.1) ?_
  refine s_aload_n (zdk hX5_copyFrom 12 rfl) rfl ?_
  refine s_aload_n (zdk hX5_copyFrom 13 rfl) rfl ?_
  refine s_getI (zdk hX5_copyFrom 14 rfl) fw_X5_21 rfl (h2.K) ?_
  refine s_topi (b := nI (gN g 2)) ((by rw [zI_In (show s2 ≠ s by omega), zI_In (show s2 ≠ s by omega), zI_In (show s2 ≠ s by omega)]; exact h2.v3)) ?_
  refine s_putI (zdk hX5_copyFrom 15 rfl) fw_X5_21 rfl pw_5_3 (hs.1.1) ?_
  refine s_aload_n (zdk hX5_copyFrom 16 rfl) rfl ?_
  refine s_aload_n (zdk hX5_copyFrom 17 rfl) rfl ?_
  refine s_getI (zdk hX5_copyFrom 18 rfl) fw_X5_24 rfl (h2.K) ?_
  refine s_topi (b := nI (gN g 3)) ((by rw [zI_In (show s2 ≠ s by omega), zI_In (show s2 ≠ s by omega), zI_In (show s2 ≠ s by omega), zI_In (show s2 ≠ s by omega)]; exact h2.v4)) ?_
  refine s_putI (zdk hX5_copyFrom 19 rfl) fw_X5_24 rfl pw_5_4 (hs.1.1) ?_
  refine s_iconstv (v := nI 0) (zdk hX5_copyFrom 20 rfl) zc_iconst_0 ?_
  refine s_istore_n (zdk hX5_copyFrom 21 rfl) (Nat.le_of_ble_eq_true rfl) ?_
  refine s_ls (ls' := [some (.ref s), some (.ref s2), some (.int (nI 0))]) rfl ?_
  refine w_X5_copyFrom_42 hl hd h2 (gN g 2 + 1) _ 0 ⟨?_, ?_, ?_, fun t ht => absurd ht (by omega), fun f hf => absurd hf (by omega)⟩ (by omega) (by omega)
  · exact (((((zag_I _ _ _ _).mono fun b hb => by omega).trans ((zag_I _ _ _ _).mono fun b hb => by omega)).trans ((zag_I _ _ _ _).mono fun b hb => by omega)).trans ((zag_I _ _ _ _).mono fun b hb => by omega)).trans ((zag_I _ _ _ _).mono fun b hb => by omega)
  · exact hs.keep rfl (fun _ _ _ => rfl)
  · refine ⟨?_, ?_, ?_, ?_, ?_⟩
    · rw [zI_Ie, zI_Ie, zI_Ie, zI_Ie, zI_Ie]; exact h2.b.1.1.symm
    · rw [zI_Ie, zI_Ie, zI_Ie, zI_Ie, zI_Ie]; rfl
    · rw [zI_Ie, zI_Ie, zI_Ie, zI_Ie, zI_Ie]; exact h2.b.2.2.2.1.1.symm
    · rw [zI_Ie, zI_Ie, zI_Ie, zI_Ie, zI_Ie]; exact h2.b.2.1.1.symm
    · rw [zI_Ie, zI_Ie, zI_Ie, zI_Ie, zI_Ie]; exact h2.b.2.2.1.1.symm
end
