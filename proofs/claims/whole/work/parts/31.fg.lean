/-! ===== a file is taken away ===== -/
/-- a move's row; what the going of file x makes of it -/
def zrow (u : Nat → Int32) (w : Nat) : Nat → Int32 := fun k => if k < 5 then u (w * 5 + k) else 0
def zphi (x : Int32) (r : Nat → Int32) : List (Nat → Int32) := if r 0 = x then [] else if r 0 ≤ x then [r] else [fun k => if k = 0 then r 0 - nI 1 else r k]
def zrows (u : Nat → Int32) (n : Nat) : List (Nat → Int32) := (List.range n).map (zrow u)
theorem zrow_0 (u : Nat → Int32) (w : Nat) : zrow u w 0 = u (w * 5 + 0) := rfl
theorem zrow_eq {u v : Nat → Int32} {w w' : Nat} (e : ∀ k, k < 5 → u (w * 5 + k) = v (w' * 5 + k)) : zrow u w = zrow v w' := by
  funext k
  unfold zrow
  by_cases q : k < 5
  · rw [if_pos q, if_pos q, e k q]
  · rw [if_neg q, if_neg q]
theorem zrow_get {u v : Nat → Int32} {w w' k : Nat} (h : zrow u w = zrow v w') (hk : k < 5) : u (w * 5 + k) = v (w' * 5 + k) := by
  have := congrFun h k
  unfold zrow at this
  rw [if_pos hk, if_pos hk] at this
  exact this
theorem zM_rm_u {M : zMem} {a n r j : Nat} : zI (zM_rm M a n r) (a + 1) j = if r * 5 ≤ j ∧ j < r * 5 + (n - r - 1) * 5 then zI M (a + 1) (r * 5 + 5 + (j - r * 5)) else zI M (a + 1) j := by
  unfold zM_rm
  rw [zI_In (show a + 1 ≠ a by omega), zI_A]
  rfl
theorem zM_rm_lo {M : zMem} {a n r w : Nat} (h : w < r) : zrow (zI (zM_rm M a n r) (a + 1)) w = zrow (zI M (a + 1)) w :=
  zrow_eq fun k hk => by rw [zM_rm_u, if_neg (by omega)]
theorem zM_rm_hi {M : zMem} {a n r w : Nat} (h : r ≤ w) (h2 : w + 1 < n) : zrow (zI (zM_rm M a n r) (a + 1)) w = zrow (zI M (a + 1)) (w + 1) :=
  zrow_eq fun k hk => by rw [zM_rm_u, if_pos (by omega)]; congr 1; omega
theorem fm_congr {β : Type} {f g : Nat → List β} : ∀ {l : List Nat}, (∀ w, w ∈ l → f w = g w) → l.flatMap f = l.flatMap g
  | [], _ => rfl
  | a :: t, h => by
    rw [List.flatMap_cons, List.flatMap_cons, h a List.mem_cons_self, fm_congr fun w hw => h w (List.mem_cons_of_mem _ hw)]
theorem fm_succ {α β : Type} (f : α → List β) (g : Nat → α) (i : Nat) : (List.range (i + 1)).flatMap (fun w => f (g w)) = (List.range i).flatMap (fun w => f (g w)) ++ f (g i) := by
  rw [List.range_succ, List.flatMap_append]
  simp
theorem zM_fg_rows (a : Nat) (x : Int32) : ∀ (i n : Nat) (M : zMem), i ≤ n → zI M a 0 = nI n → ∃ m, m ≤ n ∧ zI (zM_fg a x i n M) a 0 = nI m ∧ zrows (zI (zM_fg a x i n M) (a + 1)) m = (List.range i).flatMap (fun w => zphi x (zrow (zI M (a + 1)) w)) ++ (List.range' i (n - i)).map (zrow (zI M (a + 1)))
  | 0, n, M, hi, hn => ⟨n, Nat.le_refl n, hn, by
    unfold zM_fg zrows
    rw [List.range_eq_range']
    simp⟩
  | i + 1, n, M, hi, hn => by
    have h0 : zrow (zI M (a + 1)) i 0 = zI M (a + 1) (i * 5 + 0) := rfl
    have hr : List.range' i (n - i) = i :: List.range' (i + 1) (n - (i + 1)) := by
      rw [show n - i = (n - (i + 1)) + 1 by omega, List.range'_succ]
    rw [fm_succ]
    unfold zM_fg
    split
    · rename_i c
      have e0 : zI (zM_rm M a n i) a 0 = nI (n - 1) := (congrFun zI_Ie 0).trans zw1_e
      obtain ⟨m, h1, h2, h3⟩ := zM_fg_rows a x i (n - 1) (zM_rm M a n i) (by omega) e0
      refine ⟨m, by omega, h2, h3.trans ?_⟩
      have p1 : zphi x (zrow (zI M (a + 1)) i) = [] := by unfold zphi; rw [h0, if_pos c]
      rw [p1, List.append_nil]
      congr 1
      · refine fm_congr fun w hw => ?_
        rw [zM_rm_lo (List.mem_range.mp hw)]
      · apply List.ext_getElem
        · simp; omega
        · intro j q1 q2
          simp only [List.length_map, List.length_range'] at q1 q2
          rw [List.getElem_map, List.getElem_map, List.getElem_range', List.getElem_range', zM_rm_hi (by omega) (by omega)]
          congr 1
          omega
    · rename_i c
      split
      · rename_i c2
        obtain ⟨m, h1, h2, h3⟩ := zM_fg_rows a x i n M (by omega) hn
        refine ⟨m, h1, h2, h3.trans ?_⟩
        have p1 : zphi x (zrow (zI M (a + 1)) i) = [zrow (zI M (a + 1)) i] := by unfold zphi; rw [h0, if_neg c, if_pos c2]
        rw [p1, hr, List.map_cons, List.append_assoc]
        rfl
      · rename_i c2
        have e0 : zI (zsI M (a + 1) (i * 5 + 0) (zI M (a + 1) (i * 5 + 0) - nI 1)) a 0 = nI n := (congrFun (zI_In (by omega)) 0).trans hn
        obtain ⟨m, h1, h2, h3⟩ := zM_fg_rows a x i n (zsI M (a + 1) (i * 5 + 0) (zI M (a + 1) (i * 5 + 0) - nI 1)) (by omega) e0
        refine ⟨m, h1, h2, h3.trans ?_⟩
        have er : ∀ w, w ≠ i → zrow (zI (zsI M (a + 1) (i * 5 + 0) (zI M (a + 1) (i * 5 + 0) - nI 1)) (a + 1)) w = zrow (zI M (a + 1)) w := fun w hw => zrow_eq fun k hk => by rw [zI_Ie, zw1_n (by omega)]
        have ei : zrow (zI (zsI M (a + 1) (i * 5 + 0) (zI M (a + 1) (i * 5 + 0) - nI 1)) (a + 1)) i = fun k => if k = 0 then zrow (zI M (a + 1)) i 0 - nI 1 else zrow (zI M (a + 1)) i k := by
          funext k
          unfold zrow
          rw [zI_Ie]
          by_cases q : k = 0
          · rw [if_pos (by omega), if_pos q, q, zw1_e]; rfl
          · rw [if_neg q]
            by_cases q2 : k < 5
            · rw [if_pos q2, if_pos q2, zw1_n (by omega)]
            · rw [if_neg q2, if_neg q2]
        have p1 : zphi x (zrow (zI M (a + 1)) i) = [zrow (zI (zsI M (a + 1) (i * 5 + 0) (zI M (a + 1) (i * 5 + 0) - nI 1)) (a + 1)) i] := by
          rw [ei]
          unfold zphi
          rw [h0, if_neg c, if_neg c2]
        rw [p1, hr, List.map_cons, List.append_assoc]
        congr 1
        · refine fm_congr fun w hw => ?_
          have := List.mem_range.mp hw
          rw [er w (by omega)]
        · show _ :: _ = _ :: _
          congr 1
          refine List.map_congr_left fun w hw => ?_
          have := List.mem_range'_1.mp hw
          rw [er w (by omega)]
theorem zag_fg (a : Nat) (x : Int32) : ∀ (i n : Nat) (M : zMem), zag M (zM_fg a x i n M) (fun b => b < a ∨ a + 2 ≤ b)
  | 0, n, M => zag.refl _ _
  | i + 1, n, M => by
    unfold zM_fg
    split
    · refine zag.trans ?_ (zag_fg a x i (n - 1) _)
      unfold zM_rm
      exact ((zag_A _ _ _).mono fun b hb => by omega).trans ((zag_I _ _ _ _).mono fun b hb => by omega)
    · split
      · exact zag_fg a x i n M
      · exact ((zag_I _ _ _ _).mono fun b hb => by omega).trans (zag_fg a x i n _)
theorem zM_fg_R (a : Nat) (x : Int32) : ∀ (i n : Nat) (M : zMem), zR (zM_fg a x i n M) = zR M
  | 0, n, M => rfl
  | i + 1, n, M => by
    unfold zM_fg
    split
    · exact (zM_fg_R a x i (n - 1) _).trans rfl
    · split
      · exact zM_fg_R a x i n M
      · exact (zM_fg_R a x i n _).trans rfl

section
end
