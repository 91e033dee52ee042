/-! ===== what the relation says, by name ===== -/
section
variable {M : zMem} {s : Nat} {g : Nat → Int64} {p : Nat → Nat}
theorem rSt.K (h : rSt M s g p) : zK M s = 6 := h.1.1.1
theorem rSt.r5 (h : rSt M s g p) : zR M s 5 = some (s + 1) := h.1.1.2.1
theorem rSt.r6 (h : rSt M s g p) : zR M s 6 = some (s + 2) := h.1.1.2.2.1
theorem rSt.r7 (h : rSt M s g p) : zR M s 7 = some (s + 3) := h.1.1.2.2.2
theorem rSt.tK (h : rSt M s g p) : zK M (s + 1) = 14 + 2 := h.1.2.1.1
theorem rSt.tN (h : rSt M s g p) : zN M (s + 1) = 4 := h.1.2.1.2
theorem rSt.fK (h : rSt M s g p) : zK M (s + 2) = 14 + 0 := h.1.2.2.1.1
theorem rSt.fN (h : rSt M s g p) : zN M (s + 2) = 20 := h.1.2.2.1.2
theorem rSt.mS (h : rSt M s g p) : vSh M (s + 3) := h.1.2.2.2.1
theorem rSt.tL (h : rSt M s g p) {t : Nat} (ht : t < gN g 2) : t < 4 := Nat.lt_of_lt_of_le ht h.b.2.1.2
theorem rSt.fL (h : rSt M s g p) {f : Nat} (hf : f < gN g 3) : f < 20 := Nat.lt_of_lt_of_le hf h.b.2.2.1.2
theorem rSt.tR (h : rSt M s g p) {t : Nat} (ht : t < gN g 2) : zR M (s + 1) t = some (s + 5 + 3 * t) := (h.1.2.2.2.2.1 t (h.tL ht)).1
theorem rSt.tS (h : rSt M s g p) {t : Nat} (ht : t < gN g 2) : tSh M (s + 5 + 3 * t) := (h.1.2.2.2.2.1 t (h.tL ht)).2
theorem rSt.rR (h : rSt M s g p) {f : Nat} (hf : f < gN g 3) : zR M (s + 2) f = some (s + 17 + 3 * p f) := (h.1.2.2.2.2.2.2.1 f (h.fL hf)).1
theorem rSt.pL (h : rSt M s g p) {f : Nat} (hf : f < 20) : p f < 20 := (h.1.2.2.2.2.2.2.1 f hf).2
theorem rSt.rS (h : rSt M s g p) {f : Nat} (hf : f < gN g 3) : rSh M (s + 17 + 3 * p f) := h.1.2.2.2.2.2.1 (p f) (h.pL (h.fL hf))
theorem rSt.v0 (h : rSt M s g p) : zI M s 0 = nI (gN g 0) := h.2.1.1.trans h.b.1.1
theorem rSt.v1 (h : rSt M s g p) : zI M s 1 = its g 1 := h.2.1.2.1
theorem rSt.v2 (h : rSt M s g p) : zI M s 2 = nI (gN g 4) := h.2.1.2.2.1.trans h.b.2.2.2.1.1
theorem rSt.v3 (h : rSt M s g p) : zI M s 3 = nI (gN g 2) := h.2.1.2.2.2.1.trans h.b.2.1.1
theorem rSt.v4 (h : rSt M s g p) : zI M s 4 = nI (gN g 3) := h.2.1.2.2.2.2.trans h.b.2.2.1.1
theorem rSt.mv0 (h : rSt M s g p) : zI M (s + 3) 0 = nI (gN g 5) := h.2.2.1.1.trans h.b.2.2.2.2.1.1
theorem rSt.mv (h : rSt M s g p) {w k : Nat} (hw : w < gN g 5) (hk : k < 5) : zI M (s + 3 + 1) (w * 5 + k) = gm g w k := h.2.2.1.2 w hw k hk
theorem rSt.tn (h : rSt M s g p) {t : Nat} (ht : t < gN g 2) : zJ M (s + 5 + 3 * t) 0 = zpk g (6 + 13 * t + 5) 8 := (h.2.2.2.1 t ht).1
theorem rSt.tk (h : rSt M s g p) {t : Nat} (ht : t < gN g 2) (k : Nat) (hk : k < 5) : zI M (s + 5 + 3 * t + 1) k = gt g t k := (h.2.2.2.1 t ht).2.1 k hk
theorem rSt.tp (h : rSt M s g p) {t : Nat} (ht : t < gN g 2) (k : Nat) (hk : k < 3) : zJ M (s + 5 + 3 * t + 2) k = gp g t k := (h.2.2.2.1 t ht).2.2 k hk
theorem rSt.fi (h : rSt M s g p) {f : Nat} (hf : f < gN g 3) : rFi M (s + 17 + 3 * p f) g f := h.2.2.2.2.1 f hf
theorem rSt.f0 (h : rSt M s g p) {f : Nat} (hf : f < gN g 3) : zJ M (s + 17 + 3 * p f) 0 = zpk g (58 + 51 * f + 6) 8 := (h.fi hf).1
theorem rSt.f1 (h : rSt M s g p) {f : Nat} (hf : f < gN g 3) : zI M (s + 17 + 3 * p f) 1 = gf g f 0 := (h.fi hf).2.1
theorem rSt.f2 (h : rSt M s g p) {f : Nat} (hf : f < gN g 3) : zI M (s + 17 + 3 * p f) 2 = gf g f 1 := (h.fi hf).2.2.1
theorem rSt.f3 (h : rSt M s g p) {f : Nat} (hf : f < gN g 3) : zI M (s + 17 + 3 * p f) 3 = gf g f 2 := (h.fi hf).2.2.2.1
theorem rSt.f4 (h : rSt M s g p) {f : Nat} (hf : f < gN g 3) : zI M (s + 17 + 3 * p f) 4 = gf g f 3 := (h.fi hf).2.2.2.2.1
theorem rSt.f5 (h : rSt M s g p) {f : Nat} (hf : f < gN g 3) : zI M (s + 17 + 3 * p f) 5 = gf g f 5 := (h.fi hf).2.2.2.2.2.1
theorem rSt.f6 (h : rSt M s g p) {f : Nat} (hf : f < gN g 3) : zJ M (s + 17 + 3 * p f) 6 = go g f := (h.fi hf).2.2.2.2.2.2.1
theorem rSt.f7 (h : rSt M s g p) {f : Nat} (hf : f < gN g 3) : zI M (s + 17 + 3 * p f) 7 = gf g f 4 := (h.fi hf).2.2.2.2.2.2.2.1
theorem rSt.fs (h : rSt M s g p) {f : Nat} (hf : f < gN g 3) (j : Nat) (hj : j < 12) : zI M (s + 17 + 3 * p f + 2) j = gs g f j := (h.fi hf).2.2.2.2.2.2.2.2.1 j hj
theorem rSt.fu (h : rSt M s g p) {f : Nat} (hf : f < gN g 3) (j : Nat) (hj : j < gN g (58 + 51 * f + 4)) : zI M (s + 17 + 3 * p f + 1) j = gu g f j := (h.fi hf).2.2.2.2.2.2.2.2.2 j hj
theorem gBd.on {g : Nat → Int64} (h : gBd g) {f : Nat} (hf : f < gN g 3) : gf g f 1 = nI (gN g (58 + 51 * f + 1)) := (h.2.2.2.2.2.1 f hf).1.1
theorem gBd.onL {g : Nat → Int64} (h : gBd g) {f : Nat} (hf : f < gN g 3) : gN g (58 + 51 * f + 1) < gN g 2 := (h.2.2.2.2.2.1 f hf).1.2
theorem gBd.ke {g : Nat → Int64} (h : gBd g) {f : Nat} (hf : f < gN g 3) : gf g f 4 = nI (gN g (58 + 51 * f + 4)) := (h.2.2.2.2.2.1 f hf).2.1
theorem gBd.keL {g : Nat → Int64} (h : gBd g) {f : Nat} (hf : f < gN g 3) : gN g (58 + 51 * f + 4) ≤ 24 := (h.2.2.2.2.2.1 f hf).2.2
end
/-! congruence of what is told of a row -/
theorem zkn_eq {u v : Nat → Int32} : ∀ n, (∀ j, j < n → u j = v j) → zkn u n = zkn v n
  | 0, _ => rfl
  | n + 1, e => by unfold zkn; rw [zkn_eq n (fun j hj => e j (by omega)), e n (by omega)]
theorem zsm_eq {u v : Nat → Int32} : ∀ n, (∀ j, j < n → u j = v j) → zsm u n = zsm v n
  | 0, _ => rfl
  | n + 1, e => by unfold zsm; rw [zsm_eq n (fun j hj => e j (by omega)), e n (by omega)]
theorem zbp_eq {u v : Nat → Int32} : ∀ n, (∀ j, j < n → u j = v j) → zbp u n = zbp v n
  | 0, _ => rfl
  | n + 1, e => by unfold zbp; rw [zbp_eq n (fun j hj => e j (by omega)), e n (by omega)]
theorem zlt_eq {u v : Nat → Int32} {m : Int32} : ∀ n, (∀ j, j < n → u j = v j) → zlt u m n = zlt v m n
  | 0, _ => rfl
  | n + 1, e => by unfold zlt; rw [zlt_eq n (fun j hj => e j (by omega)), e n (by omega)]
theorem zspr_eq {u v : Nat → Int32} (e : ∀ j, j < 12 → u j = v j) : zspr u = zspr v := by unfold zspr; rw [zbp_eq 12 e, zlt_eq 12 e]
theorem zmn_eq {u v : Nat → Int32} (e : ∀ j, j < 12 → u j = v j) : zmn u = zmn v := by unfold zmn; rw [zkn_eq 12 e, zsm_eq 12 e]
theorem zfc_eq {u v : Nat → Int32} {ph : Nat} (hp : ph < 12) (e : ∀ j, j < 12 → u j = v j) : zfc u ph = zfc v ph := by unfold zfc; rw [zmn_eq e, e ph hp]
theorem zdf_eq {u v : Nat → Int32} {c : Nat} : ∀ n, (∀ j, j < n + c → u j = v j) → zdf u c n = zdf v c n
  | 0, _ => rfl
  | n + 1, e => by unfold zdf; rw [zdf_eq n (fun j hj => e j (by omega)), e n (by omega), e (n + c) (by omega)]
theorem zoc_eq {u v : Nat → Int32} {n : Nat} (e : ∀ j, j < n → u j = v j) : ∀ k, k ≤ zon n → zoc u n k = zoc v n k
  | 0, _ => rfl
  | k + 1, hk => by
    unfold zoc
    rw [zoc_eq e k (by omega), zdf_eq (u := u) (v := v) (c := k + 2) (n - (k + 2)) (fun j hj => e j (by unfold zon at hk; omega))]
