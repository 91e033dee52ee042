/-! ===== one number of a store changes ===== -/
section
variable {M : zMem} {s : Nat} {g : Nat → Int64} {p : Nat → Nat}
theorem gBd.f1 {g : Nat → Int64} {f j : Nat} {v : Int64} (h : gBd g) (hf : f < 20) (hj : j < 51) (h1 : j ≠ 1) (h4 : j ≠ 4) : gBd (zwL g (58 + 51 * f + j) v) := by
  refine h.file hf (fun k hk => zwL_n (by omega)) (fun hf' => ?_)
  unfold gf
  rw [its_n (by omega), its_n (by omega), gN_n (by omega), gN_n (by omega)]
  exact h.2.2.2.2.2.1 f hf'
theorem rSt.use {f : Nat} {v : Int32} (h : rSt M s g p) (hf : f < gN g 3) : rSt (zsI M (s + 17 + 3 * p f) 3 v) s (zwL g (58 + 51 * f + 2) v.toInt64) p :=
  h.file (h.fL hf) ((zag_I M _ 3 v).mono fun b hb => by omega) rfl rfl rfl (fun k hk => zwL_n (by omega)) (fun _ => (h.fi hf).n3) (h.b.f1 (h.fL hf) (by omega) (by omega) (by omega))
theorem rSt.pin {f : Nat} {v : Int32} (h : rSt M s g p) (hf : f < gN g 3) : rSt (zsI M (s + 17 + 3 * p f) 4 v) s (zwL g (58 + 51 * f + 3) v.toInt64) p :=
  h.file (h.fL hf) ((zag_I M _ 4 v).mono fun b hb => by omega) rfl rfl rfl (fun k hk => zwL_n (by omega)) (fun _ => (h.fi hf).n4) (h.b.f1 (h.fL hf) (by omega) (by omega) (by omega))
theorem gBd.home {f t : Nat} (h : gBd g) (hf : f < gN g 3) (ht : t < gN g 2) : gBd (zwL g (58 + 51 * f + 1) (nI t).toInt64) := by
  have hf2 := h.2.2.1.2
  have ht2 := h.2.1.2
  refine h.file (f := f) (by omega) (fun k hk => zwL_n (by omega)) (fun hf' => ?_)
  unfold gf
  rw [its_e, i64, its_n (by omega), gN_e (by omega), gN_n (by omega)]
  exact ⟨⟨rfl, ht⟩, (h.2.2.2.2.2.1 f hf').2⟩
theorem rSt.home {f t : Nat} (h : rSt M s g p) (hf : f < gN g 3) (ht : t < gN g 2) : rSt (zsI M (s + 17 + 3 * p f) 2 (nI t)) s (zwL g (58 + 51 * f + 1) (nI t).toInt64) p :=
  h.file (h.fL hf) ((zag_I M _ 2 _).mono fun b hb => by omega) rfl rfl rfl (fun k hk => zwL_n (by omega)) (fun _ => (h.fi hf).n2) (h.b.home hf ht)
theorem rSt.ti (h : rSt M s g p) {t : Nat} (ht : t < gN g 2) : rTi M (s + 5 + 3 * t) g t := h.2.2.2.1 t ht
theorem rSt.paid {t k : Nat} {v : Int64} (h : rSt M s g p) (ht : t < gN g 2) (hk : k < 3) : rSt (zsJ M (s + 5 + 3 * t + 2) k v) s (zwL g (1378 + 3 * t + k) v) p :=
  h.tier (h.tL ht) ((zag_J M _ k v).mono fun b hb => by omega) (fun _ _ _ => rfl) (fun k hk _ => zwL_n (by omega)) (fun _ => (h.ti ht).paid (h.tL ht) hk) (h.b.tier fun k hk _ => zwL_n (by omega))
theorem rSt.num {t k : Nat} {v : Int32} (h : rSt M s g p) (ht : t < gN g 2) (hk : k < 5) : rSt (zsI M (s + 5 + 3 * t + 1) k v) s (zwL g (6 + 13 * t + k) v.toInt64) p := by
  have := h.tL ht
  exact h.tier this ((zag_I M _ k v).mono fun b hb => by omega) (fun _ _ _ => rfl) (fun k hk _ => zwL_n (by omega)) (fun _ => (h.ti ht).num this hk) (h.b.tier fun k hk _ => zwL_n (by omega))
theorem zpk_zero (x : Nat) : x = x := rfl
end
theorem rSt.cyc {M : zMem} {s : Nat} {g : Nat → Int64} {p : Nat → Nat} {v : Int32} (h : rSt M s g p) (hb : gBd (zwL g 0 v.toInt64)) : rSt (zsI M s 0 v) s (zwL g 0 v.toInt64) p :=
  h.head ((zag_I M s 0 v).mono fun b hb => by omega) (fun _ => rfl) (fun k hk _ => zwL_n (by omega)) ⟨(congrFun zI_Ie _).trans (zw1_e.trans (its_e.trans (i64 v)).symm), (congrFun zI_Ie _).trans ((zw1_n (by decide)).trans (h.2.1.2.1.trans (its_n (by decide)).symm)), (congrFun zI_Ie _).trans ((zw1_n (by decide)).trans (h.2.1.2.2.1.trans (its_n (by decide)).symm)), (congrFun zI_Ie _).trans ((zw1_n (by decide)).trans (h.2.1.2.2.2.1.trans (its_n (by decide)).symm)), (congrFun zI_Ie _).trans ((zw1_n (by decide)).trans (h.2.1.2.2.2.2.trans (its_n (by decide)).symm))⟩
    ⟨(congrFun (zI_In (show s + 3 ≠ s by omega)) 0).trans (h.2.2.1.1.trans (its_n (by decide)).symm), fun w hw k hk => by rw [gN_n (by decide)] at hw; exact (congrFun (zI_In (show s + 3 + 1 ≠ s by omega)) _).trans ((h.mv hw hk).trans (its_n (by omega)).symm)⟩
    (fun t q1 q2 => absurd q2 (by rw [gN_n (by decide)]; omega)) (fun f q1 q2 => absurd q2 (by rw [gN_n (by decide)]; omega)) hb
theorem rSt.rat {M : zMem} {s : Nat} {g : Nat → Int64} {p : Nat → Nat} {v : Int32} (h : rSt M s g p) (hb : gBd (zwL g 1 v.toInt64)) : rSt (zsI M s 1 v) s (zwL g 1 v.toInt64) p :=
  h.head ((zag_I M s 1 v).mono fun b hb => by omega) (fun _ => rfl) (fun k hk _ => zwL_n (by omega)) ⟨(congrFun zI_Ie _).trans ((zw1_n (by decide)).trans (h.2.1.1.trans (its_n (by decide)).symm)), (congrFun zI_Ie _).trans (zw1_e.trans (its_e.trans (i64 v)).symm), (congrFun zI_Ie _).trans ((zw1_n (by decide)).trans (h.2.1.2.2.1.trans (its_n (by decide)).symm)), (congrFun zI_Ie _).trans ((zw1_n (by decide)).trans (h.2.1.2.2.2.1.trans (its_n (by decide)).symm)), (congrFun zI_Ie _).trans ((zw1_n (by decide)).trans (h.2.1.2.2.2.2.trans (its_n (by decide)).symm))⟩
    ⟨(congrFun (zI_In (show s + 3 ≠ s by omega)) 0).trans (h.2.2.1.1.trans (its_n (by decide)).symm), fun w hw k hk => by rw [gN_n (by decide)] at hw; exact (congrFun (zI_In (show s + 3 + 1 ≠ s by omega)) _).trans ((h.mv hw hk).trans (its_n (by omega)).symm)⟩
    (fun t q1 q2 => absurd q2 (by rw [gN_n (by decide)]; omega)) (fun f q1 q2 => absurd q2 (by rw [gN_n (by decide)]; omega)) hb
theorem rSt.per {M : zMem} {s : Nat} {g : Nat → Int64} {p : Nat → Nat} {v : Int32} (h : rSt M s g p) (hb : gBd (zwL g 4 v.toInt64)) : rSt (zsI M s 2 v) s (zwL g 4 v.toInt64) p :=
  h.head ((zag_I M s 2 v).mono fun b hb => by omega) (fun _ => rfl) (fun k hk _ => zwL_n (by omega)) ⟨(congrFun zI_Ie _).trans ((zw1_n (by decide)).trans (h.2.1.1.trans (its_n (by decide)).symm)), (congrFun zI_Ie _).trans ((zw1_n (by decide)).trans (h.2.1.2.1.trans (its_n (by decide)).symm)), (congrFun zI_Ie _).trans (zw1_e.trans (its_e.trans (i64 v)).symm), (congrFun zI_Ie _).trans ((zw1_n (by decide)).trans (h.2.1.2.2.2.1.trans (its_n (by decide)).symm)), (congrFun zI_Ie _).trans ((zw1_n (by decide)).trans (h.2.1.2.2.2.2.trans (its_n (by decide)).symm))⟩
    ⟨(congrFun (zI_In (show s + 3 ≠ s by omega)) 0).trans (h.2.2.1.1.trans (its_n (by decide)).symm), fun w hw k hk => by rw [gN_n (by decide)] at hw; exact (congrFun (zI_In (show s + 3 + 1 ≠ s by omega)) _).trans ((h.mv hw hk).trans (its_n (by omega)).symm)⟩
    (fun t q1 q2 => absurd q2 (by rw [gN_n (by decide)]; omega)) (fun f q1 q2 => absurd q2 (by rw [gN_n (by decide)]; omega)) hb
theorem rSt.tct {M : zMem} {s : Nat} {g : Nat → Int64} {p : Nat → Nat} {v : Int32} (h : rSt M s g p) (ht : ∀ t, gN g 2 ≤ t → t < gN (zwL g 2 v.toInt64) 2 → rTi M (s + 5 + 3 * t) g t) (hb : gBd (zwL g 2 v.toInt64)) : rSt (zsI M s 3 v) s (zwL g 2 v.toInt64) p :=
  h.head ((zag_I M s 3 v).mono fun b hb => by omega) (fun _ => rfl) (fun k hk _ => zwL_n (by omega)) ⟨(congrFun zI_Ie _).trans ((zw1_n (by decide)).trans (h.2.1.1.trans (its_n (by decide)).symm)), (congrFun zI_Ie _).trans ((zw1_n (by decide)).trans (h.2.1.2.1.trans (its_n (by decide)).symm)), (congrFun zI_Ie _).trans ((zw1_n (by decide)).trans (h.2.1.2.2.1.trans (its_n (by decide)).symm)), (congrFun zI_Ie _).trans (zw1_e.trans (its_e.trans (i64 v)).symm), (congrFun zI_Ie _).trans ((zw1_n (by decide)).trans (h.2.1.2.2.2.2.trans (its_n (by decide)).symm))⟩
    ⟨(congrFun (zI_In (show s + 3 ≠ s by omega)) 0).trans (h.2.2.1.1.trans (its_n (by decide)).symm), fun w hw k hk => by rw [gN_n (by decide)] at hw; exact (congrFun (zI_In (show s + 3 + 1 ≠ s by omega)) _).trans ((h.mv hw hk).trans (its_n (by omega)).symm)⟩
    (fun t q1 q2 => (ht t q1 q2).keep (fun b h1 h2 => ⟨zI_In (by omega), rfl⟩) (fun _ _ => zwL_n (by omega)) (fun _ _ => zwL_n (by omega))) (fun f q1 q2 => absurd q2 (by rw [gN_n (by decide)]; omega)) hb
theorem rSt.fct {M : zMem} {s : Nat} {g : Nat → Int64} {p : Nat → Nat} {v : Int32} (h : rSt M s g p) (hf : ∀ f, gN g 3 ≤ f → f < gN (zwL g 3 v.toInt64) 3 → rFi M (s + 17 + 3 * p f) g f) (hk : ∀ f, gN g 3 ≤ f → f < gN (zwL g 3 v.toInt64) 3 → gN g (58 + 51 * f + 4) ≤ 24) (hb : gBd (zwL g 3 v.toInt64)) : rSt (zsI M s 4 v) s (zwL g 3 v.toInt64) p :=
  h.head ((zag_I M s 4 v).mono fun b hb => by omega) (fun _ => rfl) (fun k hk _ => zwL_n (by omega)) ⟨(congrFun zI_Ie _).trans ((zw1_n (by decide)).trans (h.2.1.1.trans (its_n (by decide)).symm)), (congrFun zI_Ie _).trans ((zw1_n (by decide)).trans (h.2.1.2.1.trans (its_n (by decide)).symm)), (congrFun zI_Ie _).trans ((zw1_n (by decide)).trans (h.2.1.2.2.1.trans (its_n (by decide)).symm)), (congrFun zI_Ie _).trans ((zw1_n (by decide)).trans (h.2.1.2.2.2.1.trans (its_n (by decide)).symm)), (congrFun zI_Ie _).trans (zw1_e.trans (its_e.trans (i64 v)).symm)⟩
    ⟨(congrFun (zI_In (show s + 3 ≠ s by omega)) 0).trans (h.2.2.1.1.trans (its_n (by decide)).symm), fun w hw k hk => by rw [gN_n (by decide)] at hw; exact (congrFun (zI_In (show s + 3 + 1 ≠ s by omega)) _).trans ((h.mv hw hk).trans (its_n (by omega)).symm)⟩
    (fun t q1 q2 => absurd q2 (by rw [gN_n (by decide)]; omega)) (fun f q1 q2 => (hf f q1 q2).keep (hk f q1 q2) (fun b h1 h2 => ⟨zI_In (by omega), rfl⟩) (fun _ _ => zwL_n (by omega))) hb
/-- fewer moves -/
theorem rSt.mct {M : zMem} {s : Nat} {g : Nat → Int64} {p : Nat → Nat} {n : Nat} (h : rSt M s g p) (hn : n ≤ gN g 5) : rSt (zsI M (s + 3) 0 (nI n)) s (zwL g 5 (nI n).toInt64) p := by
  have h60 := h.b.2.2.2.2.1.2
  refine h.head ((zag_I M (s + 3) 0 _).mono fun b hb => by omega) (fun _ => rfl) (fun k hk _ => zwL_n (by omega)) ⟨?_, ?_, ?_, ?_, ?_⟩ ⟨(congrFun zI_Ie _).trans (zw1_e.trans (its_e.trans (i64 _)).symm), fun w hw k hk => ?_⟩ (fun t q1 q2 => absurd q2 (by rw [gN_n (by decide)]; omega)) (fun f q1 q2 => absurd q2 (by rw [gN_n (by decide)]; omega)) ?_
  · exact (congrFun (zI_In (show s ≠ s + 3 by omega)) _).trans (h.2.1.1.trans (its_n (by decide)).symm)
  · exact (congrFun (zI_In (show s ≠ s + 3 by omega)) _).trans (h.2.1.2.1.trans (its_n (by decide)).symm)
  · exact (congrFun (zI_In (show s ≠ s + 3 by omega)) _).trans (h.2.1.2.2.1.trans (its_n (by decide)).symm)
  · exact (congrFun (zI_In (show s ≠ s + 3 by omega)) _).trans (h.2.1.2.2.2.1.trans (its_n (by decide)).symm)
  · exact (congrFun (zI_In (show s ≠ s + 3 by omega)) _).trans (h.2.1.2.2.2.2.trans (its_n (by decide)).symm)
  · rw [gN_e (by omega)] at hw
    exact (congrFun (zI_In (show s + 3 + 1 ≠ s + 3 by omega)) _).trans ((h.mv (by omega) hk).trans (its_n (by omega)).symm)
  · obtain ⟨a0, a2, a3, a4, a5, af, aw⟩ := h.b
    refine ⟨?_, ?_, ?_, ?_, ?_, ?_, ?_⟩
    · rw [its_n (by decide), gN_n (by decide)]; exact a0
    · rw [its_n (by decide), gN_n (by decide)]; exact a2
    · rw [its_n (by decide), gN_n (by decide)]; exact a3
    · rw [its_n (by decide), gN_n (by decide)]; exact a4
    · rw [its_e, i64, gN_e (by omega)]; exact ⟨rfl, by omega⟩
    · intro f hf
      rw [gN_n (by decide)] at hf
      unfold gf
      rw [its_n (by omega), its_n (by omega), gN_n (j := 58 + 51 * f + 1) (by omega), gN_n (j := 58 + 51 * f + 4) (by omega), gN_n (j := 2) (by decide)]
      exact af f hf
    · intro w hw
      rw [gN_e (by omega)] at hw
      unfold gm
      rw [its_n (by omega), its_n (by omega), its_n (by omega), gN_n (j := 1078 + 5 * w + 0) (by omega), gN_n (j := 1078 + 5 * w + 1) (by omega), gN_n (j := 1078 + 5 * w + 2) (by omega), gN_n (j := 2) (by decide), gN_n (j := 3) (by decide)]
      exact aw w (by omega)
/-! ===== contracts of what changes one store ===== -/
def zU (M : zMem) (s : Nat) (v : Option Value) (g' : Nat → Int64) (p : Nat → Nat) : zOut → zMem → Prop := fun o M' => o = .inl v ∧ zag M M' (fun b => b < s ∨ s + 77 ≤ b) ∧ rSt M' s g' p
section
variable {l : Launch} {G : zG} {y : zMD} {fr lo bc bs pc : Nat} {ls : List (Option Value)} {st : List Value} {M : zMem} {Q : zOut → zMem → Prop} {as : List Value}
theorem zCu.of {ls0 : List (Option Value)} {v : Option Value} {s : Nat} {g' : Nat → Int64} {p : Nat → Nat} (hpn : plainName (yN y).cls = true) (hH : yH y = []) (hl : l.stackTraces = false) (hen : zen (yL y) as = ls0) (hle : (zea as).length ≤ yL y)
    (h : zS l G y fr lo 0 0 0 ls0 [] M (zU M s v g' p)) : zCm l G y fr lo 0 0 as M (zU M s v g' p) :=
  zCm.of0 hpn hH hl hen hle (fun v' M' q => q.2.1.1) (fun x M' q => by cases q.1) h
theorem s_to {M1 : zMem} {P : zMem → Prop} (hp : P M1) (k : ∀ M2, P M2 → zS l G y fr lo bc bs pc ls st M2 Q) : zS l G y fr lo bc bs pc ls st M1 Q := k M1 hp
end
theorem zwL_comm {g : Nat → Int64} {i j : Nat} {x z : Int64} (h : i ≠ j) : zwL (zwL g i x) j z = zwL (zwL g j z) i x := by
  funext k
  unfold zwL
  by_cases q : k = j
  · rw [if_pos q, if_neg (by omega), if_pos q]
  · rw [if_neg q]
    by_cases q2 : k = i
    · rw [if_pos q2, if_pos q2]
    · rw [if_neg q2, if_neg q2, if_neg q]
def oPays (g : Nat → Int64) (t k : Nat) (x : Int64) : Nat → Int64 := zwL g (1378 + 3 * t + k) (gp g t k + x)
def oKp (g : Nat → Int64) (f : Nat) : Int64 := (gf g f 0 * gt g (gN g (58 + 51 * f + 1)) 1).toInt64
def oRd (g : Nat → Int64) (f : Nat) : Int64 := (gf g f 0).toInt64 * (gf g f 2).toInt64 * (gt g (gN g (58 + 51 * f + 1)) 2).toInt64
def oPay (g : Nat → Int64) (f : Nat) : Nat → Int64 := oPays (oPays g (gN g (58 + 51 * f + 1)) 0 (oKp g f)) (gN g (58 + 51 * f + 1)) 1 (oRd g f)
theorem oPays_n {g : Nat → Int64} {t k j : Nat} {x : Int64} (h : j ≠ 1378 + 3 * t + k) : oPays g t k x j = g j := zwL_n h
theorem oPay_n {g : Nat → Int64} {f j : Nat} (h : j < 1378) : oPay g f j = g j := by unfold oPay; rw [oPays_n (by omega), oPays_n (by omega)]
theorem rSt.cong {M : zMem} {s : Nat} {g g' : Nat → Int64} {p : Nat → Nat} (h : rSt M s g p) (e : g = g') : rSt M s g' p := e ▸ h
section
variable {l : Launch} {G : zG}
theorem c_X5_payFor (hl : l.stackTraces = false) {M : zMem} {s : Nat} {g : Nat → Int64} {p : Nat → Nat} (h : rSt M s g p) {f : Nat} (hf : f < gN g 3) : zCm l G mX5_payFor 0 0 0 0 [.ref s, .ref (s + 17 + 3 * p f)] M (zU M s (some (.long (oKp g f + oRd g f))) (oPay g f) p) := by
  refine zCu.of (ls0 := [some (.ref s), some (.ref (s + 17 + 3 * p f)), none, none, none, none, none]) (by decide +kernel) rfl hl rfl (Nat.le_of_ble_eq_true rfl) ?_
  refine s_aload_n (zdk hX5_payFor 0 rfl) rfl ?_
  refine s_getR (zdk hX5_payFor 1 rfl) fw_X5_29 rfl (h.K) (h.r5) ?_
  refine s_aload_n (zdk hX5_payFor 2 rfl) rfl ?_
  refine s_getI (zdk hX5_payFor 3 rfl) fw_X5_89 rfl ((h.rS hf).1) ?_
  refine s_topi (b := nI (gN g (58 + 51 * f + 1))) ((h.f2 hf).trans (h.b.on hf)) ?_
  refine s_aaloadN (N := 4) (j := (gN g (58 + 51 * f + 1))) (zdk hX5_payFor 4 rfl) (h.tK) (by decide) (h.tN) (h.tL (h.b.onL hf)) (by decide) (h.tR (h.b.onL hf)) ?_
  refine s_astore_n (zdk hX5_payFor 5 rfl) (Nat.le_of_ble_eq_true rfl) ?_
  refine s_ls (ls' := [some (.ref s), some (.ref (s + 17 + 3 * p f)), some (.ref (s + 5 + 3 * ((gN g (58 + 51 * f + 1))))), none, none, none, none]) rfl ?_
  refine s_aload_n (zdk hX5_payFor 6 rfl) rfl ?_
  refine s_getI (zdk hX5_payFor 7 rfl) fw_X5_88 rfl ((h.rS hf).1) ?_
  refine s_topi (b := gf g f 0) (h.f1 hf) ?_
  refine s_aload_n (zdk hX5_payFor 8 rfl) rfl ?_
  refine s_getR (zdk hX5_payFor 9 rfl) fw_X5_75 rfl ((h.tS (h.b.onL hf)).1) ((h.tS (h.b.onL hf)).2.1) ?_
  refine s_iconstv (v := nI 1) (zdk hX5_payFor 10 rfl) zc_iconst_1 ?_
  refine s_ialoadN (N := 5) (j := 1) (zdk hX5_payFor 11 rfl) ((h.tS (h.b.onL hf)).2.2.2.1) ((h.tS (h.b.onL hf)).2.2.2.2.1) (by omega) (by decide) ?_
  refine s_topi (b := gt g ((gN g (58 + 51 * f + 1))) (1)) (h.tk (h.b.onL hf) _ (by omega)) ?_
  refine s_imul (zdk hX5_payFor 12 rfl) ?_
  refine s_i2l (zdk hX5_payFor 13 rfl) ?_
  refine s_lstore_n (zdk hX5_payFor 14 rfl) (Nat.le_of_ble_eq_true rfl) ?_
  refine s_ls (ls' := [some (.ref s), some (.ref (s + 17 + 3 * p f)), some (.ref (s + 5 + 3 * ((gN g (58 + 51 * f + 1))))), some (.long (((gf g f 0) * (gt g ((gN g (58 + 51 * f + 1))) (1))).toInt64)), none, none, none]) rfl ?_
  refine s_aload_n (zdk hX5_payFor 15 rfl) rfl ?_
  refine s_getI (zdk hX5_payFor 16 rfl) fw_X5_88 rfl ((h.rS hf).1) ?_
  refine s_topi (b := gf g f 0) (h.f1 hf) ?_
  refine s_i2l (zdk hX5_payFor 17 rfl) ?_
  refine s_aload_n (zdk hX5_payFor 18 rfl) rfl ?_
  refine s_getI (zdk hX5_payFor 19 rfl) fw_X5_131 rfl ((h.rS hf).1) ?_
  refine s_topi (b := gf g f 2) (h.f3 hf) ?_
  refine s_i2l (zdk hX5_payFor 20 rfl) ?_
  refine s_lmul (zdk hX5_payFor 21 rfl) ?_
  refine s_aload_n (zdk hX5_payFor 22 rfl) rfl ?_
  refine s_getR (zdk hX5_payFor 23 rfl) fw_X5_75 rfl ((h.tS (h.b.onL hf)).1) ((h.tS (h.b.onL hf)).2.1) ?_
  refine s_iconstv (v := nI 2) (zdk hX5_payFor 24 rfl) zc_iconst_2 ?_
  refine s_ialoadN (N := 5) (j := 2) (zdk hX5_payFor 25 rfl) ((h.tS (h.b.onL hf)).2.2.2.1) ((h.tS (h.b.onL hf)).2.2.2.2.1) (by omega) (by decide) ?_
  refine s_topi (b := gt g ((gN g (58 + 51 * f + 1))) (2)) (h.tk (h.b.onL hf) _ (by omega)) ?_
  refine s_i2l (zdk hX5_payFor 26 rfl) ?_
  refine s_lmul (zdk hX5_payFor 27 rfl) ?_
  refine s_lstore (zdk hX5_payFor 28 rfl) (Nat.le_of_ble_eq_true rfl) ?_
  refine s_ls (ls' := [some (.ref s), some (.ref (s + 17 + 3 * p f)), some (.ref (s + 5 + 3 * ((gN g (58 + 51 * f + 1))))), some (.long (((gf g f 0) * (gt g ((gN g (58 + 51 * f + 1))) (1))).toInt64)), none, some (.long ((((gf g f 0).toInt64) * ((gf g f 2).toInt64)) * ((gt g ((gN g (58 + 51 * f + 1))) (2)).toInt64))), none]) rfl ?_
  refine s_aload_n (zdk hX5_payFor 29 rfl) rfl ?_
  refine s_getR (zdk hX5_payFor 30 rfl) fw_X5_141 rfl ((h.tS (h.b.onL hf)).1) ((h.tS (h.b.onL hf)).2.2.1) ?_
  refine s_iconstv (v := nI 0) (zdk hX5_payFor 31 rfl) zc_iconst_0 ?_
  refine s_dup2ir (zdk hX5_payFor 32 rfl) ?_
  refine s_laloadN (N := 3) (j := 0) (zdk hX5_payFor 33 rfl) ((h.tS (h.b.onL hf)).2.2.2.2.2.1) ((h.tS (h.b.onL hf)).2.2.2.2.2.2) (by omega) (by decide) ?_
  refine s_topl (b := gp g ((gN g (58 + 51 * f + 1))) (0)) (h.tp (h.b.onL hf) _ (by omega)) ?_
  refine s_lload_n (zdk hX5_payFor 34 rfl) rfl ?_
  refine s_ladd (zdk hX5_payFor 35 rfl) ?_
  refine s_lastoreN (N := 3) (j := 0) (zdk hX5_payFor 36 rfl) ((h.tS (h.b.onL hf)).2.2.2.2.2.1) ((h.tS (h.b.onL hf)).2.2.2.2.2.2) (by omega) (by decide) ?_
  refine s_aload_n (zdk hX5_payFor 37 rfl) rfl ?_
  refine s_getR (zdk hX5_payFor 38 rfl) fw_X5_141 rfl ((h.tS (h.b.onL hf)).1) ((h.tS (h.b.onL hf)).2.2.1) ?_
  refine s_iconstv (v := nI 1) (zdk hX5_payFor 39 rfl) zc_iconst_1 ?_
  refine s_dup2ir (zdk hX5_payFor 40 rfl) ?_
  refine s_laloadN (N := 3) (j := 1) (zdk hX5_payFor 41 rfl) ((h.tS (h.b.onL hf)).2.2.2.2.2.1) ((h.tS (h.b.onL hf)).2.2.2.2.2.2) (by omega) (by decide) ?_
  refine s_topl (b := gp g (gN g (58 + 51 * f + 1)) 1) ((congrFun zJ_Jw 1).trans ((zwL_n (by decide)).trans (h.tp (h.b.onL hf) 1 (by omega)))) ?_
  refine s_lload (zdk hX5_payFor 42 rfl) rfl ?_
  refine s_ladd (zdk hX5_payFor 43 rfl) ?_
  refine s_lastoreN (N := 3) (j := 1) (zdk hX5_payFor 44 rfl) ((h.tS (h.b.onL hf)).2.2.2.2.2.1) ((h.tS (h.b.onL hf)).2.2.2.2.2.2) (by omega) (by decide) ?_
  refine s_lload_n (zdk hX5_payFor 45 rfl) rfl ?_
  refine s_lload (zdk hX5_payFor 46 rfl) rfl ?_
  refine s_ladd (zdk hX5_payFor 47 rfl) ?_
  refine s_lreturn (zdk hX5_payFor 48 rfl) rfl  ?_
  have ht := h.b.onL hf
  have h2 : rSt _ s (oPays g (gN g (58 + 51 * f + 1)) 0 (oKp g f)) p := h.paid ht (k := 0) (by omega)
  have h3 : rSt _ s (oPay g f) p := (h2.paid (t := (gN g (58 + 51 * f + 1))) (k := 1) (v := gp g (gN g (58 + 51 * f + 1)) 1 + oRd g f) (by rw [gN_eq (oPays_n (by omega))]; exact ht) (by omega)).cong (by unfold oPay oPays; rw [show gp (zwL g (1378 + 3 * (gN g (58 + 51 * f + 1)) + 0) (gp g (gN g (58 + 51 * f + 1)) 0 + oKp g f)) (gN g (58 + 51 * f + 1)) 1 = gp g (gN g (58 + 51 * f + 1)) 1 from zwL_n (by omega)])
  have hl4 := h.tL ht
  refine ⟨rfl, ((zag_J _ _ _ _).mono fun b hb => ?_).trans ((zag_J _ _ _ _).mono fun b hb => ?_), h3⟩
  · omega
  · omega
end
