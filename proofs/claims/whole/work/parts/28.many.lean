/-! ===== what changes many files ===== -/
theorem zCm.imp {l : Launch} {G : zG} {y : zMD} {fr lo mc ms : Nat} {as : List Value} {M : zMem} {Q Q' : zOut → zMem → Prop} (h : zCm l G y fr lo mc ms as M Q) (hq : ∀ v M', Q (.inl v) M' → Q' (.inl v) M') : zCm l G y fr lo mc ms as M Q' := by
  have h' : MetFree l (yN y) (headSpec (zws y) (zrm fr lo mc ms)) (zPc G as M) (fun _ _ _ _ _ => True) (fun a st o t => zQr G M mc Q a st o t ∧ ∃ L, FrameEnd st o t L mc ms ∧ ∀ q ∈ L, zA G q.base) := h
  show MetFree l (yN y) (headSpec (zws y) (zrm fr lo mc ms)) (zPc G as M) (fun _ _ _ _ _ => True) (fun a st o t => zQr G M mc Q' a st o t ∧ ∃ L, FrameEnd st o t L mc ms ∧ ∀ q ∈ L, zA G q.base)
  refine MetFree.mono h' (fun _ _ h => h) (fun _ _ _ _ _ h => h) (fun a s o t _ hq2 => ?_)
  obtain ⟨⟨⟨v, M', h1, h2, h3⟩, h4⟩, h5⟩ := hq2
  exact ⟨⟨⟨v, M', h1, hq v M' h2, h3⟩, h4⟩, h5⟩
theorem zCm.toU {l : Launch} {G : zG} {y : zMD} {fr lo : Nat} {as : List Value} {M M1 : zMem} {v : Option Value} {s : Nat} {g' : Nat → Int64} {p : Nat → Nat} (h : zCm l G y fr lo 0 0 as M (zD v M1)) (e : zag M M1 (fun b => b < s ∨ s + 77 ≤ b)) (hr : rSt M1 s g' p) : zCm l G y fr lo 0 0 as M (zU M s v g' p) :=
  h.imp fun v' M' q => by obtain ⟨q1, rfl⟩ := q; exact ⟨q1, e, hr⟩
theorem gBd.cyc {g : Nat → Int64} {c : Nat} (h : gBd g) (hc : 2 ≤ c ∧ c ≤ 12) : gBd (zwL g 0 (nI c).toInt64) := by
  obtain ⟨a0, a2, a3, a4, a5, af, aw⟩ := h
  refine ⟨?_, ?_, ?_, ?_, ?_, fun f hf => ?_, fun w hw => ?_⟩
  · rw [its_e, i64, gN_e (by omega)]; exact ⟨rfl, hc⟩
  · rw [its_n (by decide), gN_n (by decide)]; exact a2
  · rw [its_n (by decide), gN_n (by decide)]; exact a3
  · rw [its_n (by decide), gN_n (by decide)]; exact a4
  · rw [its_n (by decide), gN_n (by decide)]; exact a5
  · rw [gN_n (by decide)] at hf
    unfold gf
    rw [its_n (by omega), its_n (by omega), gN_n (j := 58 + 51 * f + 1) (by omega), gN_n (j := 58 + 51 * f + 4) (by omega), gN_n (j := 2) (by decide)]
    exact af f hf
  · rw [gN_n (by decide)] at hw
    unfold gm
    rw [its_n (by omega), its_n (by omega), its_n (by omega), gN_n (j := 1078 + 5 * w + 0) (by omega), gN_n (j := 1078 + 5 * w + 1) (by omega), gN_n (j := 1078 + 5 * w + 2) (by omega), gN_n (j := 2) (by decide), gN_n (j := 3) (by decide)]
    exact aw w hw
theorem gBd.rat {g : Nat → Int64} {v : Int64} (h : gBd g) : gBd (zwL g 1 v) := by
  obtain ⟨a0, a2, a3, a4, a5, af, aw⟩ := h
  refine ⟨?_, ?_, ?_, ?_, ?_, fun f hf => ?_, fun w hw => ?_⟩
  · rw [its_n (by decide), gN_n (by decide)]; exact a0
  · rw [its_n (by decide), gN_n (by decide)]; exact a2
  · rw [its_n (by decide), gN_n (by decide)]; exact a3
  · rw [its_n (by decide), gN_n (by decide)]; exact a4
  · rw [its_n (by decide), gN_n (by decide)]; exact a5
  · rw [gN_n (by decide)] at hf
    unfold gf
    rw [its_n (by omega), its_n (by omega), gN_n (j := 58 + 51 * f + 1) (by omega), gN_n (j := 58 + 51 * f + 4) (by omega), gN_n (j := 2) (by decide)]
    exact af f hf
  · rw [gN_n (by decide)] at hw
    unfold gm
    rw [its_n (by omega), its_n (by omega), its_n (by omega), gN_n (j := 1078 + 5 * w + 0) (by omega), gN_n (j := 1078 + 5 * w + 1) (by omega), gN_n (j := 1078 + 5 * w + 2) (by omega), gN_n (j := 2) (by decide), gN_n (j := 3) (by decide)]
    exact aw w hw
theorem gBd.per {g : Nat → Int64} {n : Nat} (h : gBd g) (hn : n ≤ 9999) : gBd (zwL g 4 (nI n).toInt64) := by
  obtain ⟨a0, a2, a3, a4, a5, af, aw⟩ := h
  refine ⟨?_, ?_, ?_, ?_, ?_, fun f hf => ?_, fun w hw => ?_⟩
  · rw [its_n (by decide), gN_n (by decide)]; exact a0
  · rw [its_n (by decide), gN_n (by decide)]; exact a2
  · rw [its_n (by decide), gN_n (by decide)]; exact a3
  · rw [its_e, i64, gN_e (by omega)]; exact ⟨rfl, hn⟩
  · rw [its_n (by decide), gN_n (by decide)]; exact a5
  · rw [gN_n (by decide)] at hf
    unfold gf
    rw [its_n (by omega), its_n (by omega), gN_n (j := 58 + 51 * f + 1) (by omega), gN_n (j := 58 + 51 * f + 4) (by omega), gN_n (j := 2) (by decide)]
    exact af f hf
  · rw [gN_n (by decide)] at hw
    unfold gm
    rw [its_n (by omega), its_n (by omega), its_n (by omega), gN_n (j := 1078 + 5 * w + 0) (by omega), gN_n (j := 1078 + 5 * w + 1) (by omega), gN_n (j := 1078 + 5 * w + 2) (by omega), gN_n (j := 2) (by decide), gN_n (j := 3) (by decide)]
    exact aw w hw
/-- bounds, where a file's home and count stay -/
theorem gBd.fk {g g' : Nat → Int64} {f : Nat} (h : gBd g) (hf : f < gN g 3) (eg : ∀ k, k < 58 + 51 * f ∨ 58 + 51 * f + 51 ≤ k → g' k = g k) (e1 : g' (58 + 51 * f + 1) = g (58 + 51 * f + 1)) (e4 : g' (58 + 51 * f + 4) = g (58 + 51 * f + 4)) : gBd g' := by
  refine h.file (f := f) (by have := h.2.2.1.2; omega) eg (fun hf' => ?_)
  unfold gf
  rw [its_eq e1, its_eq e4, gN_eq e1, gN_eq e4]
  exact h.2.2.2.2.2.1 f hf'
theorem rSt.score {M : zMem} {s f : Nat} {g : Nat → Int64} {p : Nat → Nat} (h : rSt M s g p) (hf : f < gN g 3) : rSt (if 0 < zkn (zI M (s + 17 + 3 * p f + 2)) 12 then zsI (zsJ M (s + 17 + 3 * p f) 6 (zJ M (s + 17 + 3 * p f) 6 + (zab (nI 16 * zI M (s + 17 + 3 * p f) 3 - zfc (zI M (s + 17 + 3 * p f + 2)) (zph g 0))).toInt64)) (s + 17 + 3 * p f) 5 (zI M (s + 17 + 3 * p f) 5 + nI 1) else M) s (oScore g f) p := by
  have hr := (h.fi hf).score (h.ph 0) (h.b.keL hf)
  refine h.file (h.fL hf) ?_ ?_ ?_ ?_ (fun k hk => oScore_n hk) (fun _ => hr) (h.b.fk hf (fun k hk => oScore_n hk) ?_ ?_)
  · split
    · exact ((zag_J _ _ _ _).mono fun b hb => by omega).trans ((zag_I _ _ _ _).mono fun b hb => by omega)
    · exact zag.refl _ _
  · split <;> rfl
  · split <;> rfl
  · split <;> rfl
  · unfold oScore
    split
    · rw [zwL_n (by omega), zwL_n (by omega)]
    · rfl
  · unfold oScore
    split
    · rw [zwL_n (by omega), zwL_n (by omega)]
    · rfl
theorem zag_score {M : zMem} {a s : Nat} {x : Int64} {z : Int32} {c : Prop} [Decidable c] (h : s ≤ a ∧ a < s + 77) : zag M (if c then zsI (zsJ M a 6 x) a 5 z else M) (fun b => b < s ∨ s + 77 ≤ b) := by
  split
  · exact ((zag_J _ _ _ _).mono fun b hb => by omega).trans ((zag_I _ _ _ _).mono fun b hb => by omega)
  · exact zag.refl _ _
theorem rSt.learn {M : zMem} {s f ph : Nat} {g : Nat → Int64} {p : Nat → Nat} {u : Int32} (h : rSt M s g p) (hf : f < gN g 3) (hp : ph < 12) : rSt (zsI M (s + 17 + 3 * p f + 2) ph (zlv (zI M (s + 17 + 3 * p f + 2) ph) u (its g 1))) s (oLearn g f ph u) p := by
  have hr := (h.fi hf).learn (u := u) hp
  rw [h.fs hf ph hp]
  refine h.file (h.fL hf) ((zag_I _ _ _ _).mono fun b hb => by omega) rfl rfl rfl (fun k hk => oLearn_n hp hk) (fun _ => hr) (h.b.fk hf (fun k hk => oLearn_n hp hk) (zwL_n (by omega)) (zwL_n (by omega)))
theorem oKeep_1 {g : Nat → Int64} {f : Nat} (hk : gN g (58 + 51 * f + 4) ≤ 24) : oKeep g f (58 + 51 * f + 1) = g (58 + 51 * f + 1) := by
  unfold oKeep
  split
  · unfold oKeep1
    rw [zwL_n (by omega), zwL_n (by omega), zwL_n (by omega)]
    exact if_neg (by omega)
  · unfold oKeep1
    rw [zwL_n (by omega), zwL_n (by omega), zwL_n (by omega)]
theorem oKeep_4 {g : Nat → Int64} {f : Nat} : its (oKeep g f) (58 + 51 * f + 4) = nI (if gN g (58 + 51 * f + 4) = 24 then 24 else gN g (58 + 51 * f + 4) + 1) := by
  unfold oKeep
  split
  · unfold oKeep1
    rw [its_n (by omega), its_e, i64]
  · unfold oKeep1
    rw [its_n (by omega), its_e, i64]
theorem gBd.keep {g : Nat → Int64} {f : Nat} (h : gBd g) (hf : f < gN g 3) : gBd (oKeep g f) := by
  have hk := h.keL hf
  refine h.file (f := f) (by have := h.2.2.1.2; omega) (fun k q => oKeep_n hk q) (fun hf' => ?_)
  have e4 := oKeep_4 (g := g) (f := f)
  have n4 : gN (oKeep g f) (58 + 51 * f + 4) = (if gN g (58 + 51 * f + 4) = 24 then 24 else gN g (58 + 51 * f + 4) + 1) := gN_of e4 (by split <;> omega)
  unfold gf
  rw [its_eq (oKeep_1 hk), gN_eq (oKeep_1 hk), n4, e4]
  exact ⟨(h.2.2.2.2.2.1 f hf').1, rfl, by split <;> omega⟩
section
variable {l : Launch} {G : zG}
theorem c_keep (hl : l.stackTraces = false) {M : zMem} {s f : Nat} {g : Nat → Int64} {p : Nat → Nat} (h : rSt M s g p) (hf : f < gN g 3) : zCm l G mX0_keepUses 1 18 0 0 [.ref (s + 17 + 3 * p f)] M (zU M s none (oKeep g f) p) := by
  have hk := h.b.keL hf
  have hp := h.pL (h.fL hf)
  have h7 := (h.f7 hf).trans (h.b.ke hf)
  by_cases q : gN g (58 + 51 * f + 4) = 24
  · refine (c_X0_keepUses24 hl (h.rS hf) (by rw [h7, q])).toU (zag_keep24.mono fun b hb => by omega) ?_
    exact h.file (h.fL hf) zag_keep24 rfl rfl rfl (fun k hk2 => oKeep_n hk hk2) (fun _ => (h.fi hf).keep24 q) (h.b.keep hf)
  · refine (c_X0_keepUses hl (h.rS hf) h7 (by omega)).toU (zag_keep1.mono fun b hb => by omega) ?_
    exact h.file (h.fL hf) zag_keep1 rfl rfl rfl (fun k hk2 => oKeep_n hk hk2) (fun _ => (h.fi hf).keepL (by omega)) (h.b.keep hf)
theorem c_relearn (hl : l.stackTraces = false) {M : zMem} {s f : Nat} {g : Nat → Int64} {p : Nat → Nat} (h : rSt M s g p) (hf : f < gN g 3) (hk : gN g (58 + 51 * f + 4) ≤ gN g 4) : zCm l G mX0_learnFromKept 1 25 0 0 [.ref (s + 17 + 3 * p f), .int (nI (gN g 4)), .int (nI (gN g 0)), .int (its g 1)] M (zU M s none (oRe g f (gN g (58 + 51 * f + 4)) (gN g (58 + 51 * f + 4))) p) := by
  have hp := h.pL (h.fL hf)
  have hc : 0 < gN g 0 ∧ gN g 0 ≤ 12 := by have := h.b.1; omega
  have h4 := h.b.2.2.2.1.2
  refine (c_X0_learnFromKept hl (h.rS hf) ((h.f7 hf).trans (h.b.ke hf)) (h.b.keL hf) hk (by omega) hc.1 hc.2 (its g 1)).toU ((zag_A _ _ _).mono fun b hb => by omega) ?_
  exact h.file (h.fL hf) ((zag_A _ _ _).mono fun b hb => by omega) rfl rfl rfl (fun k hk2 => oRe_n (by omega) hc _) (fun _ => (h.fi hf).re rfl (h.b.keL hf) hc) (h.b.fk hf (fun k hk2 => oRe_n (by omega) hc _) (oRe_n (by omega) hc _) (oRe_n (by omega) hc _))
end
/-- all files learn anew: the first i -/
def oReA (g : Nat → Int64) : Nat → Nat → Int64
  | 0 => g
  | i + 1 => oRe (oReA g i) i (gN (oReA g i) (58 + 51 * i + 4)) (gN (oReA g i) (58 + 51 * i + 4))
theorem oReA_n {g : Nat → Int64} (hc : 0 < gN g 0 ∧ gN g 0 ≤ 12) {k : Nat} : ∀ i, k < 58 ∨ (k < 58 + 51 * 20 → ∀ f q, f < 20 → q < 51 → k = 58 + 51 * f + q → q < 14 ∨ 26 ≤ q) → i ≤ 20 → oReA g i k = g k
  | 0, _, _ => rfl
  | i + 1, h, hi => by
    have e0 : gN (oReA g i) 0 = gN g 0 := gN_eq (oReA_n hc i (Or.inl (by omega)) (by omega))
    unfold oReA
    rw [oRe_n (by
      rcases h with h | h
      · omega
      · by_cases c : k < 58 + 51 * i ∨ 58 + 51 * i + 51 ≤ k
        · omega
        · have := h (by omega) i (k - (58 + 51 * i)) (by omega) (by omega) (by omega)
          omega) (by rw [e0]; exact hc)]
    exact oReA_n hc i h (by omega)
/-- the periods ends for the first i files; what they pay -/
def oCl (g : Nat → Int64) : Nat → Nat → Int64
  | 0 => g
  | i + 1 => oKeep (oLearn (oScore (oPay (oCl g i) i) i) i (zph g 0) (gf (oScore (oPay (oCl g i) i) i) i 2)) i
def oClS (g : Nat → Int64) : Nat → Int64
  | 0 => lN 0
  | i + 1 => oClS g i + (oKp (oCl g i) i + oRd (oCl g i) i)
section
variable {l : Launch} {G : zG}
theorem w_X5_learnAgain_12 (hl : l.stackTraces = false) {M : zMem} {s : Nat} {g : Nat → Int64} {p : Nat → Nat} (hc : 0 < gN g 0 ∧ gN g 0 ≤ 12) (hF : gN g 3 ≤ 20) (hK : ∀ f, f < gN g 3 → gN g (58 + 51 * f + 4) ≤ gN g 4) : ∀ (k : Nat) (M1 : zMem) (i : Nat), zag M M1 (fun b => b < s ∨ s + 77 ≤ b) → rSt M1 s (oReA g i) p → i ≤ gN g 3 → gN g 3 - i < k → zS l G mX5_learnAgain 2 60 0 0 12 [some (.ref s), some (.int (nI (gN g 0))), some (.int (its g 1)), some (.int (nI i))] [] M1 (zU M s none (oReA g (gN g 3)) p) := by
  intro k
  induction k with
  | zero => intros; omega
  | succ k ih =>
    intro M1 i e h hi hk
    have n3 : gN (oReA g i) 3 = gN g 3 := gN_eq (oReA_n hc i (Or.inl (by omega)) (by omega))
    have n4 : gN (oReA g i) 4 = gN g 4 := gN_eq (oReA_n hc i (Or.inl (by omega)) (by omega))
    have ek : gN (oReA g i) (58 + 51 * i + 4) = gN g (58 + 51 * i + 4) := gN_eq (oReA_n hc i (Or.inr fun _ f q h1 h2 h3 => by omega) (by omega))
    refine s_iload_n (zdk hX5_learnAgain 8 rfl) rfl ?_
    refine s_aload_n (zdk hX5_learnAgain 9 rfl) rfl ?_
    refine s_getI (zdk hX5_learnAgain 10 rfl) fw_X5_24 rfl (h.K) ?_
    refine s_topi (b := nI (gN g 3)) (h.v4.trans (by rw [n3])) ?_
    refine s_icmp_ge 47 (zdk hX5_learnAgain 11 rfl) (by decide) (fun c17 => ?_) (fun c17 => ?_)
    · obtain rfl : i = (gN g 3) := by have := nle c17 (by omega) (by omega); omega
      refine s_return (zdk hX5_learnAgain 25 rfl) rfl ?_
      exact ⟨rfl, e, h⟩
    · have hi2 : i < (gN g 3) := nlt c17 (by omega) (by omega)
      refine s_aload_n (zdk hX5_learnAgain 12 rfl) rfl ?_
      refine s_getR (zdk hX5_learnAgain 13 rfl) fw_X5_35 rfl (h.K) (h.r6) ?_
      refine s_iload_n (zdk hX5_learnAgain 14 rfl) rfl ?_
      refine s_aaloadN (N := 20) (j := i) (zdk hX5_learnAgain 15 rfl) (h.fK) (by decide) (h.fN) (h.fL (by rw [n3]; exact hi2)) (by decide) (h.rR (by rw [n3]; exact hi2)) ?_
      refine s_aload_n (zdk hX5_learnAgain 16 rfl) rfl ?_
      refine s_getI (zdk hX5_learnAgain 17 rfl) fw_X5_18 rfl (h.K) ?_
      refine s_topi (b := nI (gN (oReA g i) 4)) (h.v2) ?_
      refine s_aload_n (zdk hX5_learnAgain 18 rfl) rfl ?_
      refine s_getI (zdk hX5_learnAgain 19 rfl) fw_X5_9 rfl (h.K) ?_
      refine s_topi (b := nI (gN (oReA g i) 0)) (h.v0) ?_
      refine s_aload_n (zdk hX5_learnAgain 20 rfl) rfl ?_
      refine s_getI (zdk hX5_learnAgain 21 rfl) fw_X5_15 rfl (h.K) ?_
      refine s_topi (b := its (oReA g i) 1) (h.v1) ?_
      refine s_callV1 (ci := 0) [.int (nI (gN (oReA g i) 4)), .int (nI (gN (oReA g i) 0)), .int (its (oReA g i) 1)] (zdk hX5_learnAgain 22 rfl) cw_X5_152 ((h.rS (by rw [n3]; exact hi2)).1) (by decide) rfl rfl rfl (Nat.le_of_ble_eq_true rfl) (by decide) (c_relearn hl h (f := i) (by rw [n3]; exact hi2) (by rw [ek, n4]; exact hK i hi2)) ?_
      intro v2 M2 q2
      obtain ⟨q3, e2, h2⟩ := q2
      cases q3
      refine s_iinc (r := nI (i + 1)) (zdk hX5_learnAgain 23 rfl) (Nat.le_of_ble_eq_true rfl) rfl (nI_1 i) ?_
      refine s_ls (ls' := [some (.ref s), some (.int (nI (gN g 0))), some (.int (its g 1)), some (.int (nI (i + 1)))]) rfl ?_
      refine s_goto 12 (zdk hX5_learnAgain 24 rfl) (by decide) ?_
      exact ih M2 (i + 1) (e.trans e2) h2 (by omega) (by omega)
theorem c_X5_learnAgain (hl : l.stackTraces = false) {M : zMem} {s : Nat} {g : Nat → Int64} {p : Nat → Nat} (h : rSt M s g p) {c : Nat} {r : Int32} (hc : 2 ≤ c ∧ c ≤ 12) (hK : ∀ f, f < gN g 3 → gN g (58 + 51 * f + 4) ≤ gN g 4) : zCm l G mX5_learnAgain 2 60 0 0 [.ref s, .int (nI c), .int r] M (zU M s none (oReA (zwL (zwL g 0 (nI c).toInt64) 1 r.toInt64) (gN g 3)) p) := by
  refine zCu.of (ls0 := [some (.ref s), some (.int (nI c)), some (.int (r)), none]) (by decide +kernel) rfl hl rfl (Nat.le_of_ble_eq_true rfl) ?_
  refine s_aload_n (zdk hX5_learnAgain 0 rfl) rfl ?_
  refine s_iload_n (zdk hX5_learnAgain 1 rfl) rfl ?_
  refine s_putI (zdk hX5_learnAgain 2 rfl) fw_X5_9 rfl pw_5_0 (h.K) ?_
  refine s_aload_n (zdk hX5_learnAgain 3 rfl) rfl ?_
  refine s_iload_n (zdk hX5_learnAgain 4 rfl) rfl ?_
  refine s_putI (zdk hX5_learnAgain 5 rfl) fw_X5_15 rfl pw_5_1 (h.K) ?_
  refine s_iconstv (v := nI 0) (zdk hX5_learnAgain 6 rfl) zc_iconst_0 ?_
  refine s_istore_n (zdk hX5_learnAgain 7 rfl) (Nat.le_of_ble_eq_true rfl) ?_
  refine s_ls (ls' := [some (.ref s), some (.int (nI c)), some (.int (r)), some (.int (nI 0))]) rfl ?_
  have h2 : rSt _ s (zwL (zwL g 0 (nI c).toInt64) 1 r.toInt64) p := (h.cyc (v := nI c) (h.b.cyc hc)).rat (v := r) ((h.b.cyc hc).rat)
  have n0 : gN (zwL (zwL g 0 (nI c).toInt64) 1 r.toInt64) 0 = c := (gN_n (by decide)).trans (gN_e (by omega))
  have n1 : its (zwL (zwL g 0 (nI c).toInt64) 1 r.toInt64) 1 = r := its_e.trans (i64 r)
  have n3 : gN (zwL (zwL g 0 (nI c).toInt64) 1 r.toInt64) 3 = gN g 3 := (gN_n (by decide)).trans (gN_n (by decide))
  have hk := w_X5_learnAgain_12 (l := l) (G := G) hl (M := M) (s := s) (g := (zwL (zwL g 0 (nI c).toInt64) 1 r.toInt64)) (p := p) (by omega) (by rw [n3]; exact h.b.2.2.1.2) (fun f hf => by rw [n3] at hf; rw [gN_n (by omega), gN_n (by omega), gN_n (by decide), gN_n (by decide)]; exact hK f hf) (gN g 3 + 1) _ 0 (((zag_I _ _ _ _).mono fun b hb => by omega).trans ((zag_I _ _ _ _).mono fun b hb => by omega)) h2 (by omega) (by rw [n3]; omega)
  rw [n0, n1, n3] at hk
  exact hk
end
