/-! ===== the questions of a store ===== -/
def zfull (g : Nat → Int64) (x : Int32) : Nat → Int32
  | 0 => nI 0
  | f + 1 => if gf g f 1 = x then zfull g x f + gf g f 0 else zfull g x f
def zfo (g : Nat → Int64) (x : Int32) : Nat → Int32
  | 0 => nI 0
  | f + 1 => if gf g f 1 = x then zfo g x f + nI 1 else zfo g x f
def zpin (g : Nat → Int64) : Nat → Int32
  | 0 => nI 0
  | f + 1 => if nI (gN g 4) < gf g f 3 then zpin g f + nI 1 else zpin g f
def zsza (g : Nat → Int64) : Nat → Int32
  | 0 => nI 0
  | f + 1 => zsza g f + gf g f 0
/-- the first from i on, of k, whose h is x -/
def zfs (h : Nat → Int64) (x : Int64) : Nat → Nat → Int32
  | 0, _ => -1
  | k + 1, i => if h i = x then nI i else zfs h x k (i + 1)
theorem zfs_end (h : Nat → Int64) (x : Int64) {n i : Nat} (e : i = n) : zfs h x (n - i) i = -1 := by rw [e, Nat.sub_self]; rfl
theorem zfs_y {h : Nat → Int64} {x : Int64} {n i : Nat} (hi : i < n) (e : h i = x) : zfs h x (n - i) i = nI i := by
  rw [show n - i = (n - (i + 1)) + 1 by omega]; exact if_pos e
theorem zfs_n {h : Nat → Int64} {x : Int64} {n i : Nat} (hi : i < n) (e : ¬ h i = x) : zfs h x (n - i) i = zfs h x (n - (i + 1)) (i + 1) := by
  conv => lhs; rw [show n - i = (n - (i + 1)) + 1 by omega]
  exact if_neg e
def zmu (g : Nat → Int64) (x : Int32) (ph : Nat) : Nat → Int32 × Int32
  | 0 => (-1, -1)
  | f + 1 => if gf g f 1 = x ∧ ¬ zfc (gs g f) ph ≤ (zmu g x ph f).2 then (nI f, zfc (gs g f) ph) else zmu g x ph f
def zpa (g : Nat → Int64) (k : Nat) : Nat → Int64
  | 0 => lN 0
  | t + 1 => zpa g k t + zpd (gp g t) k
theorem zpd_eq {u v : Nat → Int64} {k : Nat} (hk : k ≤ 3) (e : ∀ j, j < 3 → u j = v j) : zpd u k = zpd v k := by
  unfold zpd
  rw [e 0 (by omega), e 1 (by omega), e 2 (by omega)]
  by_cases q : k = 3
  · rw [if_pos q, if_pos q]
  · rw [if_neg q, if_neg q, e k (by omega)]
def zph (g : Nat → Int64) (i : Nat) : Nat := (gN g 4 + i) % gN g 0
def zfsum (g : Nat → Int64) (f : Nat) : Nat → Int64
  | 0 => lN 0
  | i + 1 => zfsum g f i + (zfc (gs g f) (zph g i)).toInt64
def zco (g : Nat → Int64) (f t : Nat) (n : Int32) (fs : Int64) : Int64 := n.toInt64 * (gf g f 0).toInt64 * (gt g t 1).toInt64 + (gf g f 0).toInt64 * (gt g t 2).toInt64 * fs / lN 16
def zmc (g : Nat → Int64) (f a b : Nat) : Int32 := gf g f 0 * (gt g a 4 + gt g b 3)
theorem lcmp0 {a b : Int64} (h : lg_cmp a b = 0) : a = b := by
  unfold lg_cmp at h
  split at h
  · exact absurd h (by decide)
  · split at h
    · assumption
    · exact absurd h (by decide)
theorem lcmpn {a b : Int64} (h : ¬ lg_cmp a b = 0) : ¬ a = b := by
  intro q
  apply h
  rw [q]
  unfold lg_cmp
  rw [if_neg (Int64.lt_irrefl), if_pos rfl]
theorem rSt.ph {M : zMem} {s : Nat} {g : Nat → Int64} {p : Nat → Nat} (h : rSt M s g p) (i : Nat) : zph g i < 12 := by
  have := h.b.1
  have := Nat.mod_lt (gN g 4 + i) (show 0 < gN g 0 by omega)
  unfold zph
  omega
section
variable {l : Launch} {G : zG}
theorem c_X5_phaseAhead (hl : l.stackTraces = false) {M : zMem} {s : Nat} {g : Nat → Int64} {p : Nat → Nat} (h : rSt M s g p) {k : Nat} (hk : k ≤ 24) : zCm l G mX5_phaseAhead 0 0 0 0 [.ref s, .int (nI k)] M (zD (some (.int (nI (zph g k)))) M) := by
  refine zCd.of (ls0 := [some (.ref s), some (.int (nI k))]) (by decide +kernel) rfl hl rfl (Nat.le_of_ble_eq_true rfl) rfl ?_
  refine s_aload_n (zdk hX5_phaseAhead 0 rfl) rfl ?_
  refine s_getI (zdk hX5_phaseAhead 1 rfl) fw_X5_18 rfl (h.K) ?_
  refine s_topi (b := nI (gN g 4)) (h.v2) ?_
  refine s_iload_n (zdk hX5_phaseAhead 2 rfl) rfl ?_
  refine s_iadd (zdk hX5_phaseAhead 3 rfl) ?_
  refine s_topi (b := nI (gN g 4 + k)) (nI_add _ _) ?_
  refine s_aload_n (zdk hX5_phaseAhead 4 rfl) rfl ?_
  refine s_getI (zdk hX5_phaseAhead 5 rfl) fw_X5_9 rfl (h.K) ?_
  refine s_topi (b := nI (gN g 0)) (h.v0) ?_
  refine s_irem (zdk hX5_phaseAhead 6 rfl) (nI_ne0 (by have := h.b.1; omega) (by have := h.b.1; omega)) ?_
  refine s_topi (b := nI (zph g k)) (pk_rem (by have := h.b.2.2.2.1; omega) (by have := h.b.1; omega) (by have := h.b.1; omega)) ?_
  refine s_ireturn (zdk hX5_phaseAhead 7 rfl) rfl rfl ?_
  exact ⟨rfl, rfl⟩
theorem w_X5_tierNamed_2 {M : zMem} {s : Nat} {g : Nat → Int64} {p : Nat → Nat} (h : rSt M s g p) (nm : Int64) : ∀ (k : Nat) (i : Nat), i ≤ (gN g 2) → (gN g 2) - i < k → zS l G mX5_tierNamed 0 0 0 0 2 [some (.ref s), some (.long (nm)), none, some (.int (nI i))] [] M (zD (some (.int (zfs (fun i => zpk g (6 + 13 * i + 5) 8) nm ((gN g 2) - i) i))) M) := by
  intro k
  induction k with
  | zero => intros; omega
  | succ k ih =>
    intro i hi hk
    have hb := h.b.2.1.2
    refine s_iload_n (zdk hX5_tierNamed 2 rfl) rfl ?_
    refine s_aload_n (zdk hX5_tierNamed 3 rfl) rfl ?_
    refine s_getI (zdk hX5_tierNamed 4 rfl) fw_X5_21 rfl (h.K) ?_
    refine s_topi (b := nI (gN g 2)) (h.v3) ?_
    refine s_icmp_ge 32 (zdk hX5_tierNamed 5 rfl) (by decide) (fun c7 => ?_) (fun c7 => ?_)
    · have hi3 : i = (gN g 2) := by have := nle c7 (by omega) (by omega); omega
      refine s_iconstv (v := (-1)) (zdk hX5_tierNamed 18 rfl) zc_iconst_m1 ?_
      refine s_ireturn (zdk hX5_tierNamed 19 rfl) rfl rfl ?_
      exact ⟨by rw [zfs_end _ _ hi3], rfl⟩
    · have hi2 : i < (gN g 2) := nlt c7 (by omega) (by omega)
      refine s_aload_n (zdk hX5_tierNamed 6 rfl) rfl ?_
      refine s_getR (zdk hX5_tierNamed 7 rfl) fw_X5_29 rfl (h.K) (h.r5) ?_
      refine s_iload_n (zdk hX5_tierNamed 8 rfl) rfl ?_
      refine s_aaloadN (N := 4) (j := i) (zdk hX5_tierNamed 9 rfl) (h.tK) (by decide) (h.tN) (h.tL hi2) (by decide) (h.tR hi2) ?_
      refine s_getJ (zdk hX5_tierNamed 10 rfl) fw_X5_79 rfl ((h.tS hi2).1) ?_
      refine s_topl (b := zpk g (6 + 13 * i + 5) 8) (h.tn hi2) ?_
      refine s_lload_n (zdk hX5_tierNamed 11 rfl) rfl ?_
      refine s_lcmp (zdk hX5_tierNamed 12 rfl) ?_
      refine s_if_ne 26 (zdk hX5_tierNamed 13 rfl) (by decide) (fun c21 => ?_) (fun c21 => ?_)
      · rw [zfs_n (h := fun i => zpk g (6 + 13 * i + 5) 8) hi2 (lcmpn c21)]
        refine s_iinc (r := nI (i + 1)) (zdk hX5_tierNamed 16 rfl) (Nat.le_of_ble_eq_true rfl) rfl (nI_1 i) ?_
        refine s_ls (ls' := [some (.ref s), some (.long (nm)), none, some (.int (nI (i + 1)))]) rfl ?_
        refine s_goto 2 (zdk hX5_tierNamed 17 rfl) (by decide) ?_
        exact ih (i + 1) (by omega) (by omega)
      · rw [zfs_y (h := fun i => zpk g (6 + 13 * i + 5) 8) hi2 (lcmp0 c21)]
        refine s_iload_n (zdk hX5_tierNamed 14 rfl) rfl ?_
        refine s_ireturn (zdk hX5_tierNamed 15 rfl) rfl rfl ?_
        exact ⟨rfl, rfl⟩
theorem c_X5_tierNamed (hl : l.stackTraces = false) {M : zMem} {s : Nat} {g : Nat → Int64} {p : Nat → Nat} (h : rSt M s g p) (nm : Int64) : zCm l G mX5_tierNamed 0 0 0 0 [.ref s, .long nm] M (zD (some (.int (zfs (fun i => zpk g (6 + 13 * i + 5) 8) nm ((gN g 2) - 0) 0))) M) := by
  refine zCd.of (ls0 := [some (.ref s), some (.long (nm)), none, none]) (by decide +kernel) rfl hl rfl (Nat.le_of_ble_eq_true rfl) rfl ?_
  refine s_iconstv (v := nI 0) (zdk hX5_tierNamed 0 rfl) zc_iconst_0 ?_
  refine s_istore_n (zdk hX5_tierNamed 1 rfl) (Nat.le_of_ble_eq_true rfl) ?_
  refine s_ls (ls' := [some (.ref s), some (.long (nm)), none, some (.int (nI 0))]) rfl ?_
  exact w_X5_tierNamed_2 h nm ((gN g 2) + 1) 0 (by omega) (by omega)
theorem w_X5_fileNamed_2 {M : zMem} {s : Nat} {g : Nat → Int64} {p : Nat → Nat} (h : rSt M s g p) (nm : Int64) : ∀ (k : Nat) (i : Nat), i ≤ (gN g 3) → (gN g 3) - i < k → zS l G mX5_fileNamed 0 0 0 0 2 [some (.ref s), some (.long (nm)), none, some (.int (nI i))] [] M (zD (some (.int (zfs (fun i => zpk g (58 + 51 * i + 6) 8) nm ((gN g 3) - i) i))) M) := by
  intro k
  induction k with
  | zero => intros; omega
  | succ k ih =>
    intro i hi hk
    have hb := h.b.2.2.1.2
    refine s_iload_n (zdk hX5_fileNamed 2 rfl) rfl ?_
    refine s_aload_n (zdk hX5_fileNamed 3 rfl) rfl ?_
    refine s_getI (zdk hX5_fileNamed 4 rfl) fw_X5_24 rfl (h.K) ?_
    refine s_topi (b := nI (gN g 3)) (h.v4) ?_
    refine s_icmp_ge 32 (zdk hX5_fileNamed 5 rfl) (by decide) (fun c7 => ?_) (fun c7 => ?_)
    · have hi3 : i = (gN g 3) := by have := nle c7 (by omega) (by omega); omega
      refine s_iconstv (v := (-1)) (zdk hX5_fileNamed 18 rfl) zc_iconst_m1 ?_
      refine s_ireturn (zdk hX5_fileNamed 19 rfl) rfl rfl ?_
      exact ⟨by rw [zfs_end _ _ hi3], rfl⟩
    · have hi2 : i < (gN g 3) := nlt c7 (by omega) (by omega)
      refine s_aload_n (zdk hX5_fileNamed 6 rfl) rfl ?_
      refine s_getR (zdk hX5_fileNamed 7 rfl) fw_X5_35 rfl (h.K) (h.r6) ?_
      refine s_iload_n (zdk hX5_fileNamed 8 rfl) rfl ?_
      refine s_aaloadN (N := 20) (j := i) (zdk hX5_fileNamed 9 rfl) (h.fK) (by decide) (h.fN) (h.fL hi2) (by decide) (h.rR hi2) ?_
      refine s_getJ (zdk hX5_fileNamed 10 rfl) fw_X5_83 rfl ((h.rS hi2).1) ?_
      refine s_topl (b := zpk g (58 + 51 * i + 6) 8) (h.f0 hi2) ?_
      refine s_lload_n (zdk hX5_fileNamed 11 rfl) rfl ?_
      refine s_lcmp (zdk hX5_fileNamed 12 rfl) ?_
      refine s_if_ne 26 (zdk hX5_fileNamed 13 rfl) (by decide) (fun c21 => ?_) (fun c21 => ?_)
      · rw [zfs_n (h := fun i => zpk g (58 + 51 * i + 6) 8) hi2 (lcmpn c21)]
        refine s_iinc (r := nI (i + 1)) (zdk hX5_fileNamed 16 rfl) (Nat.le_of_ble_eq_true rfl) rfl (nI_1 i) ?_
        refine s_ls (ls' := [some (.ref s), some (.long (nm)), none, some (.int (nI (i + 1)))]) rfl ?_
        refine s_goto 2 (zdk hX5_fileNamed 17 rfl) (by decide) ?_
        exact ih (i + 1) (by omega) (by omega)
      · rw [zfs_y (h := fun i => zpk g (58 + 51 * i + 6) 8) hi2 (lcmp0 c21)]
        refine s_iload_n (zdk hX5_fileNamed 14 rfl) rfl ?_
        refine s_ireturn (zdk hX5_fileNamed 15 rfl) rfl rfl ?_
        exact ⟨rfl, rfl⟩
theorem c_X5_fileNamed (hl : l.stackTraces = false) {M : zMem} {s : Nat} {g : Nat → Int64} {p : Nat → Nat} (h : rSt M s g p) (nm : Int64) : zCm l G mX5_fileNamed 0 0 0 0 [.ref s, .long nm] M (zD (some (.int (zfs (fun i => zpk g (58 + 51 * i + 6) 8) nm ((gN g 3) - 0) 0))) M) := by
  refine zCd.of (ls0 := [some (.ref s), some (.long (nm)), none, none]) (by decide +kernel) rfl hl rfl (Nat.le_of_ble_eq_true rfl) rfl ?_
  refine s_iconstv (v := nI 0) (zdk hX5_fileNamed 0 rfl) zc_iconst_0 ?_
  refine s_istore_n (zdk hX5_fileNamed 1 rfl) (Nat.le_of_ble_eq_true rfl) ?_
  refine s_ls (ls' := [some (.ref s), some (.long (nm)), none, some (.int (nI 0))]) rfl ?_
  exact w_X5_fileNamed_2 h nm ((gN g 3) + 1) 0 (by omega) (by omega)
theorem w_X5_pinnedFiles_4 (hl : l.stackTraces = false) {M : zMem} {s : Nat} {g : Nat → Int64} {p : Nat → Nat} (h : rSt M s g p) : ∀ (k : Nat) (i : Nat), i ≤ (gN g 3) → (gN g 3) - i < k → zS l G mX5_pinnedFiles 1 24 0 0 4 [some (.ref s), some (.int (zpin g i)), some (.int (nI i))] [] M (zD (some (.int (zpin g (gN g 3)))) M) := by
  intro k
  induction k with
  | zero => intros; omega
  | succ k ih =>
    intro i hi hk
    have hb := h.b.2.2.1.2
    refine s_iload_n (zdk hX5_pinnedFiles 4 rfl) rfl ?_
    refine s_aload_n (zdk hX5_pinnedFiles 5 rfl) rfl ?_
    refine s_getI (zdk hX5_pinnedFiles 6 rfl) fw_X5_24 rfl (h.K) ?_
    refine s_topi (b := nI (gN g 3)) (h.v4) ?_
    refine s_icmp_ge 37 (zdk hX5_pinnedFiles 7 rfl) (by decide) (fun c9 => ?_) (fun c9 => ?_)
    · obtain rfl : i = (gN g 3) := by have := nle c9 (by omega) (by omega); omega
      refine s_iload_n (zdk hX5_pinnedFiles 19 rfl) rfl ?_
      refine s_ireturn (zdk hX5_pinnedFiles 20 rfl) rfl rfl ?_
      exact ⟨rfl, rfl⟩
    · have hi2 : i < (gN g 3) := nlt c9 (by omega) (by omega)
      refine s_aload_n (zdk hX5_pinnedFiles 8 rfl) rfl ?_
      refine s_getR (zdk hX5_pinnedFiles 9 rfl) fw_X5_35 rfl (h.K) (h.r6) ?_
      refine s_iload_n (zdk hX5_pinnedFiles 10 rfl) rfl ?_
      refine s_aaloadN (N := 20) (j := i) (zdk hX5_pinnedFiles 11 rfl) (h.fK) (by decide) (h.fN) (h.fL hi2) (by decide) (h.rR hi2) ?_
      refine s_aload_n (zdk hX5_pinnedFiles 12 rfl) rfl ?_
      refine s_getI (zdk hX5_pinnedFiles 13 rfl) fw_X5_18 rfl (h.K) ?_
      refine s_topi (b := nI (gN g 4)) (h.v2) ?_
      refine s_callV0 (ci := 0) [.int (nI (gN g 4))] (zdk hX5_pinnedFiles 14 rfl) cw_X5_84 ((h.rS hi2).1) (by decide) rfl rfl rfl (Nat.le_of_ble_eq_true rfl) (by decide) (c_X0_isPinnedIn hl (h.rS hi2) _) ?_
      refine s_topi (b := if nI (gN g 4) < gf g i 3 then nI 1 else nI 0) (by rw [h.f4 hi2]) ?_
      refine s_if_eq 31 (zdk hX5_pinnedFiles 15 rfl) (by decide) (fun c25 => ?_) (fun c25 => ?_)
      · have e1 : zpin g (i + 1) = zpin g i := if_neg (fun q => by rw [if_pos q] at c25; exact absurd c25 (by decide))
        refine s_ls (ls' := [some (.ref s), some (.int (zpin g (i + 1))), some (.int (nI i))]) (by rw [e1]) ?_
        refine s_iinc (r := nI (i + 1)) (zdk hX5_pinnedFiles 17 rfl) (Nat.le_of_ble_eq_true rfl) rfl (nI_1 i) ?_
        refine s_ls (ls' := [some (.ref s), some (.int (zpin g (i + 1))), some (.int (nI (i + 1)))]) rfl ?_
        refine s_goto 4 (zdk hX5_pinnedFiles 18 rfl) (by decide) ?_
        exact ih (i + 1) (by omega) (by omega)
      · have e1 : zpin g (i + 1) = zpin g i + nI 1 := if_pos (Classical.byContradiction fun q => c25 (if_neg q))
        refine s_iinc (r := zpin g i + nI 1) (zdk hX5_pinnedFiles 16 rfl) (Nat.le_of_ble_eq_true rfl) rfl (rfl) ?_
        refine s_ls (ls' := [some (.ref s), some (.int (zpin g i + nI 1)), some (.int (nI i))]) rfl ?_
        refine s_ls (ls' := [some (.ref s), some (.int (zpin g (i + 1))), some (.int (nI i))]) (by rw [e1]) ?_
        refine s_iinc (r := nI (i + 1)) (zdk hX5_pinnedFiles 17 rfl) (Nat.le_of_ble_eq_true rfl) rfl (nI_1 i) ?_
        refine s_ls (ls' := [some (.ref s), some (.int (zpin g (i + 1))), some (.int (nI (i + 1)))]) rfl ?_
        refine s_goto 4 (zdk hX5_pinnedFiles 18 rfl) (by decide) ?_
        exact ih (i + 1) (by omega) (by omega)
theorem c_X5_pinnedFiles (hl : l.stackTraces = false) {M : zMem} {s : Nat} {g : Nat → Int64} {p : Nat → Nat} (h : rSt M s g p) : zCm l G mX5_pinnedFiles 1 24 0 0 [.ref s] M (zD (some (.int (zpin g (gN g 3)))) M) := by
  refine zCd.of (ls0 := [some (.ref s), none, none]) (by decide +kernel) rfl hl rfl (Nat.le_of_ble_eq_true rfl) rfl ?_
  refine s_iconstv (v := nI 0) (zdk hX5_pinnedFiles 0 rfl) zc_iconst_0 ?_
  refine s_istore_n (zdk hX5_pinnedFiles 1 rfl) (Nat.le_of_ble_eq_true rfl) ?_
  refine s_ls (ls' := [some (.ref s), some (.int (nI 0)), none]) rfl ?_
  refine s_iconstv (v := nI 0) (zdk hX5_pinnedFiles 2 rfl) zc_iconst_0 ?_
  refine s_istore_n (zdk hX5_pinnedFiles 3 rfl) (Nat.le_of_ble_eq_true rfl) ?_
  refine s_ls (ls' := [some (.ref s), some (.int (nI 0)), some (.int (nI 0))]) rfl ?_
  exact w_X5_pinnedFiles_4 hl h  ((gN g 3) + 1) 0 (by omega) (by omega)
theorem w_X5_sizeOfAll_4 (hl : l.stackTraces = false) {M : zMem} {s : Nat} {g : Nat → Int64} {p : Nat → Nat} (h : rSt M s g p) : ∀ (k : Nat) (i : Nat), i ≤ (gN g 3) → (gN g 3) - i < k → zS l G mX5_sizeOfAll 1 24 0 0 4 [some (.ref s), some (.int (zsza g i)), some (.int (nI i))] [] M (zD (some (.int (zsza g (gN g 3)))) M) := by
  intro k
  induction k with
  | zero => intros; omega
  | succ k ih =>
    intro i hi hk
    have hb := h.b.2.2.1.2
    refine s_iload_n (zdk hX5_sizeOfAll 4 rfl) rfl ?_
    refine s_aload_n (zdk hX5_sizeOfAll 5 rfl) rfl ?_
    refine s_getI (zdk hX5_sizeOfAll 6 rfl) fw_X5_24 rfl (h.K) ?_
    refine s_topi (b := nI (gN g 3)) (h.v4) ?_
    refine s_icmp_ge 30 (zdk hX5_sizeOfAll 7 rfl) (by decide) (fun c9 => ?_) (fun c9 => ?_)
    · obtain rfl : i = (gN g 3) := by have := nle c9 (by omega) (by omega); omega
      refine s_iload_n (zdk hX5_sizeOfAll 18 rfl) rfl ?_
      refine s_ireturn (zdk hX5_sizeOfAll 19 rfl) rfl rfl ?_
      exact ⟨rfl, rfl⟩
    · have hi2 : i < (gN g 3) := nlt c9 (by omega) (by omega)
      refine s_iload_n (zdk hX5_sizeOfAll 8 rfl) rfl ?_
      refine s_aload_n (zdk hX5_sizeOfAll 9 rfl) rfl ?_
      refine s_getR (zdk hX5_sizeOfAll 10 rfl) fw_X5_35 rfl (h.K) (h.r6) ?_
      refine s_iload_n (zdk hX5_sizeOfAll 11 rfl) rfl ?_
      refine s_aaloadN (N := 20) (j := i) (zdk hX5_sizeOfAll 12 rfl) (h.fK) (by decide) (h.fN) (h.fL hi2) (by decide) (h.rR hi2) ?_
      refine s_getI (zdk hX5_sizeOfAll 13 rfl) fw_X5_88 rfl ((h.rS hi2).1) ?_
      refine s_topi (b := gf g i 0) (h.f1 hi2) ?_
      refine s_iadd (zdk hX5_sizeOfAll 14 rfl) ?_
      refine s_istore_n (zdk hX5_sizeOfAll 15 rfl) (Nat.le_of_ble_eq_true rfl) ?_
      refine s_ls (ls' := [some (.ref s), some (.int ((zsza g i) + (gf g i 0))), some (.int (nI i))]) rfl ?_
      refine s_ls (ls' := [some (.ref s), some (.int (zsza g (i + 1))), some (.int (nI i))]) (by rw [show zsza g (i + 1) = zsza g i + gf g i 0 from rfl]) ?_
      refine s_iinc (r := nI (i + 1)) (zdk hX5_sizeOfAll 16 rfl) (Nat.le_of_ble_eq_true rfl) rfl (nI_1 i) ?_
      refine s_ls (ls' := [some (.ref s), some (.int (zsza g (i + 1))), some (.int (nI (i + 1)))]) rfl ?_
      refine s_goto 4 (zdk hX5_sizeOfAll 17 rfl) (by decide) ?_
      exact ih (i + 1) (by omega) (by omega)
theorem c_X5_sizeOfAll (hl : l.stackTraces = false) {M : zMem} {s : Nat} {g : Nat → Int64} {p : Nat → Nat} (h : rSt M s g p) : zCm l G mX5_sizeOfAll 1 24 0 0 [.ref s] M (zD (some (.int (zsza g (gN g 3)))) M) := by
  refine zCd.of (ls0 := [some (.ref s), none, none]) (by decide +kernel) rfl hl rfl (Nat.le_of_ble_eq_true rfl) rfl ?_
  refine s_iconstv (v := nI 0) (zdk hX5_sizeOfAll 0 rfl) zc_iconst_0 ?_
  refine s_istore_n (zdk hX5_sizeOfAll 1 rfl) (Nat.le_of_ble_eq_true rfl) ?_
  refine s_ls (ls' := [some (.ref s), some (.int (nI 0)), none]) rfl ?_
  refine s_iconstv (v := nI 0) (zdk hX5_sizeOfAll 2 rfl) zc_iconst_0 ?_
  refine s_istore_n (zdk hX5_sizeOfAll 3 rfl) (Nat.le_of_ble_eq_true rfl) ?_
  refine s_ls (ls' := [some (.ref s), some (.int (nI 0)), some (.int (nI 0))]) rfl ?_
  exact w_X5_sizeOfAll_4 hl h  ((gN g 3) + 1) 0 (by omega) (by omega)
theorem w_X5_sizeOn_4 (hl : l.stackTraces = false) {M : zMem} {s : Nat} {g : Nat → Int64} {p : Nat → Nat} (h : rSt M s g p) (x : Int32) : ∀ (k : Nat) (i : Nat), i ≤ (gN g 3) → (gN g 3) - i < k → zS l G mX5_sizeOn 1 24 0 0 4 [some (.ref s), some (.int (x)), some (.int (zfull g x i)), some (.int (nI i))] [] M (zD (some (.int (zfull g x (gN g 3)))) M) := by
  intro k
  induction k with
  | zero => intros; omega
  | succ k ih =>
    intro i hi hk
    have hb := h.b.2.2.1.2
    refine s_iload_n (zdk hX5_sizeOn 4 rfl) rfl ?_
    refine s_aload_n (zdk hX5_sizeOn 5 rfl) rfl ?_
    refine s_getI (zdk hX5_sizeOn 6 rfl) fw_X5_24 rfl (h.K) ?_
    refine s_topi (b := nI (gN g 3)) (h.v4) ?_
    refine s_icmp_ge 43 (zdk hX5_sizeOn 7 rfl) (by decide) (fun c9 => ?_) (fun c9 => ?_)
    · obtain rfl : i = (gN g 3) := by have := nle c9 (by omega) (by omega); omega
      refine s_iload_n (zdk hX5_sizeOn 25 rfl) rfl ?_
      refine s_ireturn (zdk hX5_sizeOn 26 rfl) rfl rfl ?_
      exact ⟨rfl, rfl⟩
    · have hi2 : i < (gN g 3) := nlt c9 (by omega) (by omega)
      refine s_aload_n (zdk hX5_sizeOn 8 rfl) rfl ?_
      refine s_getR (zdk hX5_sizeOn 9 rfl) fw_X5_35 rfl (h.K) (h.r6) ?_
      refine s_iload_n (zdk hX5_sizeOn 10 rfl) rfl ?_
      refine s_aaloadN (N := 20) (j := i) (zdk hX5_sizeOn 11 rfl) (h.fK) (by decide) (h.fN) (h.fL hi2) (by decide) (h.rR hi2) ?_
      refine s_getI (zdk hX5_sizeOn 12 rfl) fw_X5_89 rfl ((h.rS hi2).1) ?_
      refine s_topi (b := gf g i 1) (h.f2 hi2) ?_
      refine s_iload_n (zdk hX5_sizeOn 13 rfl) rfl ?_
      refine s_icmp_ne 37 (zdk hX5_sizeOn 14 rfl) (by decide) (fun c22 => ?_) (fun c22 => ?_)
      · have e1 : zfull g x (i + 1) = zfull g x i := if_neg c22
        refine s_ls (ls' := [some (.ref s), some (.int (x)), some (.int (zfull g x (i + 1))), some (.int (nI i))]) (by rw [e1]) ?_
        refine s_iinc (r := nI (i + 1)) (zdk hX5_sizeOn 23 rfl) (Nat.le_of_ble_eq_true rfl) rfl (nI_1 i) ?_
        refine s_ls (ls' := [some (.ref s), some (.int (x)), some (.int (zfull g x (i + 1))), some (.int (nI (i + 1)))]) rfl ?_
        refine s_goto 4 (zdk hX5_sizeOn 24 rfl) (by decide) ?_
        exact ih (i + 1) (by omega) (by omega)
      · have e1 : zfull g x (i + 1) = zfull g x i + gf g i 0 := if_pos (c22)
        refine s_iload_n (zdk hX5_sizeOn 15 rfl) rfl ?_
        refine s_aload_n (zdk hX5_sizeOn 16 rfl) rfl ?_
        refine s_getR (zdk hX5_sizeOn 17 rfl) fw_X5_35 rfl (h.K) (h.r6) ?_
        refine s_iload_n (zdk hX5_sizeOn 18 rfl) rfl ?_
        refine s_aaloadN (N := 20) (j := i) (zdk hX5_sizeOn 19 rfl) (h.fK) (by decide) (h.fN) (h.fL hi2) (by decide) (h.rR hi2) ?_
        refine s_getI (zdk hX5_sizeOn 20 rfl) fw_X5_88 rfl ((h.rS hi2).1) ?_
        refine s_topi (b := gf g i 0) (h.f1 hi2) ?_
        refine s_iadd (zdk hX5_sizeOn 21 rfl) ?_
        refine s_istore_n (zdk hX5_sizeOn 22 rfl) (Nat.le_of_ble_eq_true rfl) ?_
        refine s_ls (ls' := [some (.ref s), some (.int (x)), some (.int ((zfull g x i) + (gf g i 0))), some (.int (nI i))]) rfl ?_
        refine s_ls (ls' := [some (.ref s), some (.int (x)), some (.int (zfull g x (i + 1))), some (.int (nI i))]) (by rw [e1]) ?_
        refine s_iinc (r := nI (i + 1)) (zdk hX5_sizeOn 23 rfl) (Nat.le_of_ble_eq_true rfl) rfl (nI_1 i) ?_
        refine s_ls (ls' := [some (.ref s), some (.int (x)), some (.int (zfull g x (i + 1))), some (.int (nI (i + 1)))]) rfl ?_
        refine s_goto 4 (zdk hX5_sizeOn 24 rfl) (by decide) ?_
        exact ih (i + 1) (by omega) (by omega)
theorem c_X5_sizeOn (hl : l.stackTraces = false) {M : zMem} {s : Nat} {g : Nat → Int64} {p : Nat → Nat} (h : rSt M s g p) (x : Int32) : zCm l G mX5_sizeOn 1 24 0 0 [.ref s, .int (x)] M (zD (some (.int (zfull g x (gN g 3)))) M) := by
  refine zCd.of (ls0 := [some (.ref s), some (.int (x)), none, none]) (by decide +kernel) rfl hl rfl (Nat.le_of_ble_eq_true rfl) rfl ?_
  refine s_iconstv (v := nI 0) (zdk hX5_sizeOn 0 rfl) zc_iconst_0 ?_
  refine s_istore_n (zdk hX5_sizeOn 1 rfl) (Nat.le_of_ble_eq_true rfl) ?_
  refine s_ls (ls' := [some (.ref s), some (.int (x)), some (.int (nI 0)), none]) rfl ?_
  refine s_iconstv (v := nI 0) (zdk hX5_sizeOn 2 rfl) zc_iconst_0 ?_
  refine s_istore_n (zdk hX5_sizeOn 3 rfl) (Nat.le_of_ble_eq_true rfl) ?_
  refine s_ls (ls' := [some (.ref s), some (.int (x)), some (.int (nI 0)), some (.int (nI 0))]) rfl ?_
  exact w_X5_sizeOn_4 hl h x ((gN g 3) + 1) 0 (by omega) (by omega)
theorem w_X5_filesOn_4 (hl : l.stackTraces = false) {M : zMem} {s : Nat} {g : Nat → Int64} {p : Nat → Nat} (h : rSt M s g p) (x : Int32) : ∀ (k : Nat) (i : Nat), i ≤ (gN g 3) → (gN g 3) - i < k → zS l G mX5_filesOn 1 24 0 0 4 [some (.ref s), some (.int (x)), some (.int (zfo g x i)), some (.int (nI i))] [] M (zD (some (.int (zfo g x (gN g 3)))) M) := by
  intro k
  induction k with
  | zero => intros; omega
  | succ k ih =>
    intro i hi hk
    have hb := h.b.2.2.1.2
    refine s_iload_n (zdk hX5_filesOn 4 rfl) rfl ?_
    refine s_aload_n (zdk hX5_filesOn 5 rfl) rfl ?_
    refine s_getI (zdk hX5_filesOn 6 rfl) fw_X5_24 rfl (h.K) ?_
    refine s_topi (b := nI (gN g 3)) (h.v4) ?_
    refine s_icmp_ge 34 (zdk hX5_filesOn 7 rfl) (by decide) (fun c9 => ?_) (fun c9 => ?_)
    · obtain rfl : i = (gN g 3) := by have := nle c9 (by omega) (by omega); omega
      refine s_iload_n (zdk hX5_filesOn 18 rfl) rfl ?_
      refine s_ireturn (zdk hX5_filesOn 19 rfl) rfl rfl ?_
      exact ⟨rfl, rfl⟩
    · have hi2 : i < (gN g 3) := nlt c9 (by omega) (by omega)
      refine s_aload_n (zdk hX5_filesOn 8 rfl) rfl ?_
      refine s_getR (zdk hX5_filesOn 9 rfl) fw_X5_35 rfl (h.K) (h.r6) ?_
      refine s_iload_n (zdk hX5_filesOn 10 rfl) rfl ?_
      refine s_aaloadN (N := 20) (j := i) (zdk hX5_filesOn 11 rfl) (h.fK) (by decide) (h.fN) (h.fL hi2) (by decide) (h.rR hi2) ?_
      refine s_getI (zdk hX5_filesOn 12 rfl) fw_X5_89 rfl ((h.rS hi2).1) ?_
      refine s_topi (b := gf g i 1) (h.f2 hi2) ?_
      refine s_iload_n (zdk hX5_filesOn 13 rfl) rfl ?_
      refine s_icmp_ne 28 (zdk hX5_filesOn 14 rfl) (by decide) (fun c22 => ?_) (fun c22 => ?_)
      · have e1 : zfo g x (i + 1) = zfo g x i := if_neg c22
        refine s_ls (ls' := [some (.ref s), some (.int (x)), some (.int (zfo g x (i + 1))), some (.int (nI i))]) (by rw [e1]) ?_
        refine s_iinc (r := nI (i + 1)) (zdk hX5_filesOn 16 rfl) (Nat.le_of_ble_eq_true rfl) rfl (nI_1 i) ?_
        refine s_ls (ls' := [some (.ref s), some (.int (x)), some (.int (zfo g x (i + 1))), some (.int (nI (i + 1)))]) rfl ?_
        refine s_goto 4 (zdk hX5_filesOn 17 rfl) (by decide) ?_
        exact ih (i + 1) (by omega) (by omega)
      · have e1 : zfo g x (i + 1) = zfo g x i + nI 1 := if_pos (c22)
        refine s_iinc (r := zfo g x i + nI 1) (zdk hX5_filesOn 15 rfl) (Nat.le_of_ble_eq_true rfl) rfl (rfl) ?_
        refine s_ls (ls' := [some (.ref s), some (.int (x)), some (.int (zfo g x i + nI 1)), some (.int (nI i))]) rfl ?_
        refine s_ls (ls' := [some (.ref s), some (.int (x)), some (.int (zfo g x (i + 1))), some (.int (nI i))]) (by rw [e1]) ?_
        refine s_iinc (r := nI (i + 1)) (zdk hX5_filesOn 16 rfl) (Nat.le_of_ble_eq_true rfl) rfl (nI_1 i) ?_
        refine s_ls (ls' := [some (.ref s), some (.int (x)), some (.int (zfo g x (i + 1))), some (.int (nI (i + 1)))]) rfl ?_
        refine s_goto 4 (zdk hX5_filesOn 17 rfl) (by decide) ?_
        exact ih (i + 1) (by omega) (by omega)
theorem c_X5_filesOn (hl : l.stackTraces = false) {M : zMem} {s : Nat} {g : Nat → Int64} {p : Nat → Nat} (h : rSt M s g p) (x : Int32) : zCm l G mX5_filesOn 1 24 0 0 [.ref s, .int (x)] M (zD (some (.int (zfo g x (gN g 3)))) M) := by
  refine zCd.of (ls0 := [some (.ref s), some (.int (x)), none, none]) (by decide +kernel) rfl hl rfl (Nat.le_of_ble_eq_true rfl) rfl ?_
  refine s_iconstv (v := nI 0) (zdk hX5_filesOn 0 rfl) zc_iconst_0 ?_
  refine s_istore_n (zdk hX5_filesOn 1 rfl) (Nat.le_of_ble_eq_true rfl) ?_
  refine s_ls (ls' := [some (.ref s), some (.int (x)), some (.int (nI 0)), none]) rfl ?_
  refine s_iconstv (v := nI 0) (zdk hX5_filesOn 2 rfl) zc_iconst_0 ?_
  refine s_istore_n (zdk hX5_filesOn 3 rfl) (Nat.le_of_ble_eq_true rfl) ?_
  refine s_ls (ls' := [some (.ref s), some (.int (x)), some (.int (nI 0)), some (.int (nI 0))]) rfl ?_
  exact w_X5_filesOn_4 hl h x ((gN g 3) + 1) 0 (by omega) (by omega)
theorem w_X5_mostUsedOn_14 (hl : l.stackTraces = false) {M : zMem} {s : Nat} {g : Nat → Int64} {p : Nat → Nat} (h : rSt M s g p) (x : Int32) : ∀ (k : Nat) (i : Nat) (x6 : Option Value), i ≤ (gN g 3) → (gN g 3) - i < k → zS l G mX5_mostUsedOn 2 50 0 0 14 [some (.ref s), some (.int (x)), some (.int (nI (zph g 0))), some (.int ((zmu g x (zph g 0) i).1)), some (.int ((zmu g x (zph g 0) i).2)), some (.int (nI i)), x6] [] M (zD (some (.int (zmu g x (zph g 0) (gN g 3)).1)) M) := by
  intro k
  induction k with
  | zero => intros; omega
  | succ k ih =>
    intro i x6 hi hk
    have hb := h.b.2.2.1.2
    refine s_iload (zdk hX5_mostUsedOn 10 rfl) rfl ?_
    refine s_aload_n (zdk hX5_mostUsedOn 11 rfl) rfl ?_
    refine s_getI (zdk hX5_mostUsedOn 12 rfl) fw_X5_24 rfl (h.K) ?_
    refine s_topi (b := nI (gN g 3)) (h.v4) ?_
    refine s_icmp_ge 70 (zdk hX5_mostUsedOn 13 rfl) (by decide) (fun c20 => ?_) (fun c20 => ?_)
    · obtain rfl : i = (gN g 3) := by have := nle c20 (by omega) (by omega); omega
      refine s_iload_n (zdk hX5_mostUsedOn 37 rfl) rfl ?_
      refine s_ireturn (zdk hX5_mostUsedOn 38 rfl) rfl rfl ?_
      exact ⟨rfl, rfl⟩
    · have hi2 : i < (gN g 3) := nlt c20 (by omega) (by omega)
      refine s_aload_n (zdk hX5_mostUsedOn 14 rfl) rfl ?_
      refine s_getR (zdk hX5_mostUsedOn 15 rfl) fw_X5_35 rfl (h.K) (h.r6) ?_
      refine s_iload (zdk hX5_mostUsedOn 16 rfl) rfl ?_
      refine s_aaloadN (N := 20) (j := i) (zdk hX5_mostUsedOn 17 rfl) (h.fK) (by decide) (h.fN) (h.fL hi2) (by decide) (h.rR hi2) ?_
      refine s_iload_n (zdk hX5_mostUsedOn 18 rfl) rfl ?_
      refine s_callV0 (ci := 0) [.int (nI (zph g 0))] (zdk hX5_mostUsedOn 19 rfl) cw_X5_96 ((h.rS hi2).1) (by decide) rfl rfl rfl (Nat.le_of_ble_eq_true rfl) (by decide) (c_X0_forecastFor hl (h.rS hi2) (h.ph 0)) ?_
      refine s_topi (b := zfc (gs g i) (zph g 0)) (zfc_eq (h.ph 0) (fun j hj => h.fs hi2 j hj)) ?_
      refine s_istore (zdk hX5_mostUsedOn 20 rfl) (Nat.le_of_ble_eq_true rfl) ?_
      refine s_ls (ls' := [some (.ref s), some (.int (x)), some (.int (nI (zph g 0))), some (.int ((zmu g x (zph g 0) i).1)), some (.int ((zmu g x (zph g 0) i).2)), some (.int (nI i)), some (.int (zfc (gs g i) (zph g 0)))]) rfl ?_
      refine s_aload_n (zdk hX5_mostUsedOn 21 rfl) rfl ?_
      refine s_getR (zdk hX5_mostUsedOn 22 rfl) fw_X5_35 rfl (h.K) (h.r6) ?_
      refine s_iload (zdk hX5_mostUsedOn 23 rfl) rfl ?_
      refine s_aaloadN (N := 20) (j := i) (zdk hX5_mostUsedOn 24 rfl) (h.fK) (by decide) (h.fN) (h.fL hi2) (by decide) (h.rR hi2) ?_
      refine s_getI (zdk hX5_mostUsedOn 25 rfl) fw_X5_89 rfl ((h.rS hi2).1) ?_
      refine s_topi (b := gf g i 1) (h.f2 hi2) ?_
      refine s_iload_n (zdk hX5_mostUsedOn 26 rfl) rfl ?_
      refine s_icmp_ne 64 (zdk hX5_mostUsedOn 27 rfl) (by decide) (fun c47 => ?_) (fun c47 => ?_)
      · have e1 : zmu g x (zph g 0) (i + 1) = zmu g x (zph g 0) i := if_neg (fun q => c47 q.1)
        refine s_ls (ls' := [some (.ref s), some (.int (x)), some (.int (nI (zph g 0))), some (.int ((zmu g x (zph g 0) (i + 1)).1)), some (.int ((zmu g x (zph g 0) (i + 1)).2)), some (.int (nI i)), some (.int (zfc (gs g i) (zph g 0)))]) (by rw [e1]) ?_
        refine s_iinc (r := nI (i + 1)) (zdk hX5_mostUsedOn 35 rfl) (Nat.le_of_ble_eq_true rfl) rfl (nI_1 i) ?_
        refine s_ls (ls' := [some (.ref s), some (.int (x)), some (.int (nI (zph g 0))), some (.int ((zmu g x (zph g 0) (i + 1)).1)), some (.int ((zmu g x (zph g 0) (i + 1)).2)), some (.int (nI (i + 1))), some (.int (zfc (gs g i) (zph g 0)))]) rfl ?_
        refine s_goto 14 (zdk hX5_mostUsedOn 36 rfl) (by decide) ?_
        exact ih (i + 1) _ (by omega) (by omega)
      · refine s_iload (zdk hX5_mostUsedOn 28 rfl) rfl ?_
        refine s_iload (zdk hX5_mostUsedOn 29 rfl) rfl ?_
        refine s_icmp_le 64 (zdk hX5_mostUsedOn 30 rfl) (by decide) (fun c54 => ?_) (fun c54 => ?_)
        · have e1 : zmu g x (zph g 0) (i + 1) = zmu g x (zph g 0) i := if_neg (fun q => q.2 c54)
          refine s_ls (ls' := [some (.ref s), some (.int (x)), some (.int (nI (zph g 0))), some (.int ((zmu g x (zph g 0) (i + 1)).1)), some (.int ((zmu g x (zph g 0) (i + 1)).2)), some (.int (nI i)), some (.int (zfc (gs g i) (zph g 0)))]) (by rw [e1]) ?_
          refine s_iinc (r := nI (i + 1)) (zdk hX5_mostUsedOn 35 rfl) (Nat.le_of_ble_eq_true rfl) rfl (nI_1 i) ?_
          refine s_ls (ls' := [some (.ref s), some (.int (x)), some (.int (nI (zph g 0))), some (.int ((zmu g x (zph g 0) (i + 1)).1)), some (.int ((zmu g x (zph g 0) (i + 1)).2)), some (.int (nI (i + 1))), some (.int (zfc (gs g i) (zph g 0)))]) rfl ?_
          refine s_goto 14 (zdk hX5_mostUsedOn 36 rfl) (by decide) ?_
          exact ih (i + 1) _ (by omega) (by omega)
        · have e1 : zmu g x (zph g 0) (i + 1) = (nI i, zfc (gs g i) (zph g 0)) := if_pos ⟨c47, c54⟩
          refine s_iload (zdk hX5_mostUsedOn 31 rfl) rfl ?_
          refine s_istore (zdk hX5_mostUsedOn 32 rfl) (Nat.le_of_ble_eq_true rfl) ?_
          refine s_ls (ls' := [some (.ref s), some (.int (x)), some (.int (nI (zph g 0))), some (.int ((zmu g x (zph g 0) i).1)), some (.int (zfc (gs g i) (zph g 0))), some (.int (nI i)), some (.int (zfc (gs g i) (zph g 0)))]) rfl ?_
          refine s_iload (zdk hX5_mostUsedOn 33 rfl) rfl ?_
          refine s_istore_n (zdk hX5_mostUsedOn 34 rfl) (Nat.le_of_ble_eq_true rfl) ?_
          refine s_ls (ls' := [some (.ref s), some (.int (x)), some (.int (nI (zph g 0))), some (.int (nI i)), some (.int (zfc (gs g i) (zph g 0))), some (.int (nI i)), some (.int (zfc (gs g i) (zph g 0)))]) rfl ?_
          refine s_ls (ls' := [some (.ref s), some (.int (x)), some (.int (nI (zph g 0))), some (.int ((zmu g x (zph g 0) (i + 1)).1)), some (.int ((zmu g x (zph g 0) (i + 1)).2)), some (.int (nI i)), some (.int (zfc (gs g i) (zph g 0)))]) (by rw [e1]) ?_
          refine s_iinc (r := nI (i + 1)) (zdk hX5_mostUsedOn 35 rfl) (Nat.le_of_ble_eq_true rfl) rfl (nI_1 i) ?_
          refine s_ls (ls' := [some (.ref s), some (.int (x)), some (.int (nI (zph g 0))), some (.int ((zmu g x (zph g 0) (i + 1)).1)), some (.int ((zmu g x (zph g 0) (i + 1)).2)), some (.int (nI (i + 1))), some (.int (zfc (gs g i) (zph g 0)))]) rfl ?_
          refine s_goto 14 (zdk hX5_mostUsedOn 36 rfl) (by decide) ?_
          exact ih (i + 1) _ (by omega) (by omega)
theorem c_X5_mostUsedOn (hl : l.stackTraces = false) {M : zMem} {s : Nat} {g : Nat → Int64} {p : Nat → Nat} (h : rSt M s g p) (x : Int32) : zCm l G mX5_mostUsedOn 2 50 0 0 [.ref s, .int x] M (zD (some (.int (zmu g x (zph g 0) (gN g 3)).1)) M) := by
  refine zCd.of (ls0 := [some (.ref s), some (.int (x)), none, none, none, none, none]) (by decide +kernel) rfl hl rfl (Nat.le_of_ble_eq_true rfl) rfl ?_
  refine s_aload_n (zdk hX5_mostUsedOn 0 rfl) rfl ?_
  refine s_iconstv (v := nI 0) (zdk hX5_mostUsedOn 1 rfl) zc_iconst_0 ?_
  refine s_callV0 (ci := 5) [.int (nI 0)] (zdk hX5_mostUsedOn 2 rfl) cw_X5_92 (h.K) (by decide) rfl rfl rfl (Nat.le_of_ble_eq_true rfl) (by decide) (c_X5_phaseAhead hl h (by omega)) ?_
  refine s_istore_n (zdk hX5_mostUsedOn 3 rfl) (Nat.le_of_ble_eq_true rfl) ?_
  refine s_ls (ls' := [some (.ref s), some (.int (x)), some (.int (nI (zph g 0))), none, none, none, none]) rfl ?_
  refine s_iconstv (v := (-1)) (zdk hX5_mostUsedOn 4 rfl) zc_iconst_m1 ?_
  refine s_istore_n (zdk hX5_mostUsedOn 5 rfl) (Nat.le_of_ble_eq_true rfl) ?_
  refine s_ls (ls' := [some (.ref s), some (.int (x)), some (.int (nI (zph g 0))), some (.int ((-1))), none, none, none]) rfl ?_
  refine s_iconstv (v := (-1)) (zdk hX5_mostUsedOn 6 rfl) zc_iconst_m1 ?_
  refine s_istore (zdk hX5_mostUsedOn 7 rfl) (Nat.le_of_ble_eq_true rfl) ?_
  refine s_ls (ls' := [some (.ref s), some (.int (x)), some (.int (nI (zph g 0))), some (.int ((-1))), some (.int ((-1))), none, none]) rfl ?_
  refine s_iconstv (v := nI 0) (zdk hX5_mostUsedOn 8 rfl) zc_iconst_0 ?_
  refine s_istore (zdk hX5_mostUsedOn 9 rfl) (Nat.le_of_ble_eq_true rfl) ?_
  refine s_ls (ls' := [some (.ref s), some (.int (x)), some (.int (nI (zph g 0))), some (.int ((-1))), some (.int ((-1))), some (.int (nI 0)), none]) rfl ?_
  exact w_X5_mostUsedOn_14 hl h x ((gN g 3) + 1) 0 none (by omega) (by omega)
theorem c_X5_hasRoomFor (hl : l.stackTraces = false) {M : zMem} {s : Nat} {g : Nat → Int64} {p : Nat → Nat} (h : rSt M s g p) {t : Nat} (ht : t < gN g 2) (z : Int32) : zCm l G mX5_hasRoomFor 2 50 0 0 [.ref s, .int (nI t), .int z] M (zD (some (.int (if zfull g (nI t) (gN g 3) + z ≤ gt g t 0 then nI 1 else nI 0))) M) := by
  refine zCd.of (ls0 := [some (.ref s), some (.int (nI t)), some (.int (z))]) (by decide +kernel) rfl hl rfl (Nat.le_of_ble_eq_true rfl) rfl ?_
  refine s_aload_n (zdk hX5_hasRoomFor 0 rfl) rfl ?_
  refine s_iload_n (zdk hX5_hasRoomFor 1 rfl) rfl ?_
  refine s_callV0 (ci := 5) [.int (nI t)] (zdk hX5_hasRoomFor 2 rfl) cw_X5_99 (h.K) (by decide) rfl rfl rfl (Nat.le_of_ble_eq_true rfl) (by decide) (c_X5_sizeOn hl h _) ?_
  refine s_iload_n (zdk hX5_hasRoomFor 3 rfl) rfl ?_
  refine s_iadd (zdk hX5_hasRoomFor 4 rfl) ?_
  refine s_aload_n (zdk hX5_hasRoomFor 5 rfl) rfl ?_
  refine s_getR (zdk hX5_hasRoomFor 6 rfl) fw_X5_29 rfl (h.K) (h.r5) ?_
  refine s_iload_n (zdk hX5_hasRoomFor 7 rfl) rfl ?_
  refine s_aaloadN (N := 4) (j := t) (zdk hX5_hasRoomFor 8 rfl) (h.tK) (by decide) (h.tN) (h.tL ht) (by decide) (h.tR ht) ?_
  refine s_getR (zdk hX5_hasRoomFor 9 rfl) fw_X5_75 rfl ((h.tS ht).1) ((h.tS ht).2.1) ?_
  refine s_iconstv (v := nI 0) (zdk hX5_hasRoomFor 10 rfl) zc_iconst_0 ?_
  refine s_ialoadN (N := 5) (j := 0) (zdk hX5_hasRoomFor 11 rfl) ((h.tS ht).2.2.2.1) ((h.tS ht).2.2.2.2.1) (by omega) (by decide) ?_
  refine s_topi (b := gt g t (0)) (h.tk ht _ (by omega)) ?_
  refine s_icmp_gt 25 (zdk hX5_hasRoomFor 12 rfl) (by decide) (fun c18 => ?_) (fun c18 => ?_)
  · refine s_iconstv (v := nI 0) (zdk hX5_hasRoomFor 15 rfl) zc_iconst_0 ?_
    refine s_ireturn (zdk hX5_hasRoomFor 16 rfl) rfl rfl ?_
    first | exact ⟨by rw [if_neg (Int32.not_le.mpr c18)], rfl⟩ | exact ⟨by rw [if_pos (Int32.not_lt.mp c18)], rfl⟩
  · refine s_iconstv (v := nI 1) (zdk hX5_hasRoomFor 13 rfl) zc_iconst_1 ?_
    refine s_goto 26 (zdk hX5_hasRoomFor 14 rfl) (by decide) ?_
    refine s_ireturn (zdk hX5_hasRoomFor 16 rfl) rfl rfl ?_
    first | exact ⟨by rw [if_neg (Int32.not_le.mpr c18)], rfl⟩ | exact ⟨by rw [if_pos (Int32.not_lt.mp c18)], rfl⟩
theorem w_X5_paidOnAll_5 (hl : l.stackTraces = false) {M : zMem} {s : Nat} {g : Nat → Int64} {p : Nat → Nat} (h : rSt M s g p) {k9 : Nat} (hk9 : k9 ≤ 3) : ∀ (k : Nat) (i : Nat), i ≤ (gN g 2) → (gN g 2) - i < k → zS l G mX5_paidOnAll 1 24 0 0 5 [some (.ref s), some (.int (nI k9)), some (.long (zpa g k9 i)), none, some (.int (nI i))] [] M (zD (some (.long (zpa g k9 (gN g 2)))) M) := by
  intro k
  induction k with
  | zero => intros; omega
  | succ k ih =>
    intro i hi hk
    have hb := h.b.2.1.2
    refine s_iload (zdk hX5_paidOnAll 4 rfl) rfl ?_
    refine s_aload_n (zdk hX5_paidOnAll 5 rfl) rfl ?_
    refine s_getI (zdk hX5_paidOnAll 6 rfl) fw_X5_21 rfl (h.K) ?_
    refine s_topi (b := nI (gN g 2)) (h.v3) ?_
    refine s_icmp_ge 34 (zdk hX5_paidOnAll 7 rfl) (by decide) (fun c11 => ?_) (fun c11 => ?_)
    · obtain rfl : i = (gN g 2) := by have := nle c11 (by omega) (by omega); omega
      refine s_lload_n (zdk hX5_paidOnAll 19 rfl) rfl ?_
      refine s_lreturn (zdk hX5_paidOnAll 20 rfl) rfl  ?_
      exact ⟨rfl, rfl⟩
    · have hi2 : i < (gN g 2) := nlt c11 (by omega) (by omega)
      refine s_lload_n (zdk hX5_paidOnAll 8 rfl) rfl ?_
      refine s_aload_n (zdk hX5_paidOnAll 9 rfl) rfl ?_
      refine s_getR (zdk hX5_paidOnAll 10 rfl) fw_X5_29 rfl (h.K) (h.r5) ?_
      refine s_iload (zdk hX5_paidOnAll 11 rfl) rfl ?_
      refine s_aaloadN (N := 4) (j := i) (zdk hX5_paidOnAll 12 rfl) (h.tK) (by decide) (h.tN) (h.tL hi2) (by decide) (h.tR hi2) ?_
      refine s_iload_n (zdk hX5_paidOnAll 13 rfl) rfl ?_
      refine s_callV0 (ci := 6) [.int (nI k9)] (zdk hX5_paidOnAll 14 rfl) cw_X5_102 ((h.tS hi2).1) (by decide) rfl rfl rfl (Nat.le_of_ble_eq_true rfl) (by decide) (c_X6_paidFor hl (h.tS hi2) hk9) ?_
      refine s_topl (b := zpd (gp g i) k9) (zpd_eq hk9 (fun j hj => h.tp hi2 j hj)) ?_
      refine s_ladd (zdk hX5_paidOnAll 15 rfl) ?_
      refine s_lstore_n (zdk hX5_paidOnAll 16 rfl) (Nat.le_of_ble_eq_true rfl) ?_
      refine s_ls (ls' := [some (.ref s), some (.int (nI k9)), some (.long ((zpa g k9 i) + (zpd (gp g i) k9))), none, some (.int (nI i))]) rfl ?_
      refine s_ls (ls' := [some (.ref s), some (.int (nI k9)), some (.long (zpa g k9 (i + 1))), none, some (.int (nI i))]) (by rw [show zpa g k9 (i + 1) = zpa g k9 i + zpd (gp g i) k9 from rfl]) ?_
      refine s_iinc (r := nI (i + 1)) (zdk hX5_paidOnAll 17 rfl) (Nat.le_of_ble_eq_true rfl) rfl (nI_1 i) ?_
      refine s_ls (ls' := [some (.ref s), some (.int (nI k9)), some (.long (zpa g k9 (i + 1))), none, some (.int (nI (i + 1)))]) rfl ?_
      refine s_goto 5 (zdk hX5_paidOnAll 18 rfl) (by decide) ?_
      exact ih (i + 1) (by omega) (by omega)
theorem c_X5_paidOnAll (hl : l.stackTraces = false) {M : zMem} {s : Nat} {g : Nat → Int64} {p : Nat → Nat} (h : rSt M s g p) {k9 : Nat} (hk9 : k9 ≤ 3) : zCm l G mX5_paidOnAll 1 24 0 0 [.ref s, .int (nI k9)] M (zD (some (.long (zpa g k9 (gN g 2)))) M) := by
  refine zCd.of (ls0 := [some (.ref s), some (.int (nI k9)), none, none, none]) (by decide +kernel) rfl hl rfl (Nat.le_of_ble_eq_true rfl) rfl ?_
  refine s_lconstv (v := lN 0) (zdk hX5_paidOnAll 0 rfl) rfl ?_
  refine s_lstore_n (zdk hX5_paidOnAll 1 rfl) (Nat.le_of_ble_eq_true rfl) ?_
  refine s_ls (ls' := [some (.ref s), some (.int (nI k9)), some (.long (lN 0)), none, none]) rfl ?_
  refine s_iconstv (v := nI 0) (zdk hX5_paidOnAll 2 rfl) zc_iconst_0 ?_
  refine s_istore (zdk hX5_paidOnAll 3 rfl) (Nat.le_of_ble_eq_true rfl) ?_
  refine s_ls (ls' := [some (.ref s), some (.int (nI k9)), some (.long (lN 0)), none, some (.int (nI 0))]) rfl ?_
  exact w_X5_paidOnAll_5 hl h hk9 ((gN g 2) + 1) 0 (by omega) (by omega)
theorem w_X5_forecastSum_19 (hl : l.stackTraces = false) {M : zMem} {s : Nat} {g : Nat → Int64} {p : Nat → Nat} (h : rSt M s g p) {f n : Nat} (hf : f < gN g 3) (hn : n ≤ 24) : ∀ (k : Nat) (i : Nat) (x8 : Option Value), i ≤ n → n - i < k → zS l G mX5_forecastSum 1 30 0 0 19 [some (.ref s), some (.int (nI f)), some (.int (nI n)), some (.ref (s + 17 + 3 * p f)), some (.int (zmn (gs g f))), some (.long (zfsum g f i)), none, some (.int (nI i)), x8] [] M (zD (some (.long (zfsum g f n))) M) := by
  intro k
  induction k with
  | zero => intros; omega
  | succ k ih =>
    intro i x8 hi hk
    refine s_iload (zdk hX5_forecastSum 12 rfl) rfl ?_
    refine s_iload_n (zdk hX5_forecastSum 13 rfl) rfl ?_
    refine s_icmp_ge 64 (zdk hX5_forecastSum 14 rfl) (by decide) (fun c22 => ?_) (fun c22 => ?_)
    · obtain rfl : i = n := by have := nle c22 (by omega) (by omega); omega
      refine s_lload (zdk hX5_forecastSum 35 rfl) rfl ?_
      refine s_lreturn (zdk hX5_forecastSum 36 rfl) rfl  ?_
      exact ⟨rfl, rfl⟩
    · have hi2 : i < n := nlt c22 (by omega) (by omega)
      refine s_aload_n (zdk hX5_forecastSum 15 rfl) rfl ?_
      refine s_getR (zdk hX5_forecastSum 16 rfl) fw_X5_110 rfl ((h.rS hf).1) ((h.rS hf).2.2.1) ?_
      refine s_aload_n (zdk hX5_forecastSum 17 rfl) rfl ?_
      refine s_iload (zdk hX5_forecastSum 18 rfl) rfl ?_
      refine s_callV0 (ci := 5) [.int (nI i)] (zdk hX5_forecastSum 19 rfl) cw_X5_92 (h.K) (by decide) rfl rfl rfl (Nat.le_of_ble_eq_true rfl) (by decide) (c_X5_phaseAhead hl h (by omega)) ?_
      refine s_ialoadN (N := 12) (j := (zph g i)) (zdk hX5_forecastSum 20 rfl) ((h.rS hf).2.2.2.2.2.1) ((h.rS hf).2.2.2.2.2.2) (h.ph i) (by decide) ?_
      refine s_topi (b := gs g f ((zph g i))) (h.fs hf _ (h.ph i)) ?_
      refine s_istore (zdk hX5_forecastSum 21 rfl) (Nat.le_of_ble_eq_true rfl) ?_
      refine s_ls (ls' := [some (.ref s), some (.int (nI f)), some (.int (nI n)), some (.ref (s + 17 + 3 * p f)), some (.int (zmn (gs g f))), some (.long (zfsum g f i)), none, some (.int (nI i)), some (.int (gs g f ((zph g i))))]) rfl ?_
      refine s_lload (zdk hX5_forecastSum 22 rfl) rfl ?_
      refine s_iload (zdk hX5_forecastSum 23 rfl) rfl ?_
      refine s_iconstv (v := (-1)) (zdk hX5_forecastSum 24 rfl) zc_iconst_m1 ?_
      refine s_icmp_ne 52 (zdk hX5_forecastSum 25 rfl) (by decide) (fun c43 => ?_) (fun c43 => ?_)
      · have e1 : zfsum g f (i + 1) = zfsum g f i + (gs g f (zph g i)).toInt64 := by show _ + (zfc _ _).toInt64 = _; rw [zfc, if_neg c43]
        refine s_iload (zdk hX5_forecastSum 29 rfl) rfl ?_
        refine s_i2l (zdk hX5_forecastSum 30 rfl) ?_
        refine s_ladd (zdk hX5_forecastSum 31 rfl) ?_
        refine s_lstore (zdk hX5_forecastSum 32 rfl) (Nat.le_of_ble_eq_true rfl) ?_
        refine s_ls (ls' := [some (.ref s), some (.int (nI f)), some (.int (nI n)), some (.ref (s + 17 + 3 * p f)), some (.int (zmn (gs g f))), some (.long ((zfsum g f i) + ((gs g f ((zph g i))).toInt64))), none, some (.int (nI i)), some (.int (gs g f ((zph g i))))]) rfl ?_
        refine s_ls (ls' := [some (.ref s), some (.int (nI f)), some (.int (nI n)), some (.ref (s + 17 + 3 * p f)), some (.int (zmn (gs g f))), some (.long (zfsum g f (i + 1))), none, some (.int (nI i)), some (.int (gs g f ((zph g i))))]) (by rw [e1]) ?_
        refine s_iinc (r := nI (i + 1)) (zdk hX5_forecastSum 33 rfl) (Nat.le_of_ble_eq_true rfl) rfl (nI_1 i) ?_
        refine s_ls (ls' := [some (.ref s), some (.int (nI f)), some (.int (nI n)), some (.ref (s + 17 + 3 * p f)), some (.int (zmn (gs g f))), some (.long (zfsum g f (i + 1))), none, some (.int (nI (i + 1))), some (.int (gs g f ((zph g i))))]) rfl ?_
        refine s_goto 19 (zdk hX5_forecastSum 34 rfl) (by decide) ?_
        exact ih (i + 1) _ (by omega) (by omega)
      · have e1 : zfsum g f (i + 1) = zfsum g f i + (zmn (gs g f)).toInt64 := by show _ + (zfc _ _).toInt64 = _; rw [zfc, if_pos c43]
        refine s_iload (zdk hX5_forecastSum 26 rfl) rfl ?_
        refine s_i2l (zdk hX5_forecastSum 27 rfl) ?_
        refine s_goto 55 (zdk hX5_forecastSum 28 rfl) (by decide) ?_
        refine s_ladd (zdk hX5_forecastSum 31 rfl) ?_
        refine s_lstore (zdk hX5_forecastSum 32 rfl) (Nat.le_of_ble_eq_true rfl) ?_
        refine s_ls (ls' := [some (.ref s), some (.int (nI f)), some (.int (nI n)), some (.ref (s + 17 + 3 * p f)), some (.int (zmn (gs g f))), some (.long ((zfsum g f i) + ((zmn (gs g f)).toInt64))), none, some (.int (nI i)), some (.int (gs g f ((zph g i))))]) rfl ?_
        refine s_ls (ls' := [some (.ref s), some (.int (nI f)), some (.int (nI n)), some (.ref (s + 17 + 3 * p f)), some (.int (zmn (gs g f))), some (.long (zfsum g f (i + 1))), none, some (.int (nI i)), some (.int (gs g f ((zph g i))))]) (by rw [e1]) ?_
        refine s_iinc (r := nI (i + 1)) (zdk hX5_forecastSum 33 rfl) (Nat.le_of_ble_eq_true rfl) rfl (nI_1 i) ?_
        refine s_ls (ls' := [some (.ref s), some (.int (nI f)), some (.int (nI n)), some (.ref (s + 17 + 3 * p f)), some (.int (zmn (gs g f))), some (.long (zfsum g f (i + 1))), none, some (.int (nI (i + 1))), some (.int (gs g f ((zph g i))))]) rfl ?_
        refine s_goto 19 (zdk hX5_forecastSum 34 rfl) (by decide) ?_
        exact ih (i + 1) _ (by omega) (by omega)
theorem c_X5_forecastSum (hl : l.stackTraces = false) {M : zMem} {s : Nat} {g : Nat → Int64} {p : Nat → Nat} (h : rSt M s g p) {f n : Nat} (hf : f < gN g 3) (hn : n ≤ 24) : zCm l G mX5_forecastSum 1 30 0 0 [.ref s, .int (nI f), .int (nI n)] M (zD (some (.long (zfsum g f n))) M) := by
  refine zCd.of (ls0 := [some (.ref s), some (.int (nI f)), some (.int (nI n)), none, none, none, none, none, none]) (by decide +kernel) rfl hl rfl (Nat.le_of_ble_eq_true rfl) rfl ?_
  refine s_aload_n (zdk hX5_forecastSum 0 rfl) rfl ?_
  refine s_getR (zdk hX5_forecastSum 1 rfl) fw_X5_35 rfl (h.K) (h.r6) ?_
  refine s_iload_n (zdk hX5_forecastSum 2 rfl) rfl ?_
  refine s_aaloadN (N := 20) (j := f) (zdk hX5_forecastSum 3 rfl) (h.fK) (by decide) (h.fN) (h.fL hf) (by decide) (h.rR hf) ?_
  refine s_astore_n (zdk hX5_forecastSum 4 rfl) (Nat.le_of_ble_eq_true rfl) ?_
  refine s_ls (ls' := [some (.ref s), some (.int (nI f)), some (.int (nI n)), some (.ref (s + 17 + 3 * p f)), none, none, none, none, none]) rfl ?_
  refine s_aload_n (zdk hX5_forecastSum 5 rfl) rfl ?_
  refine s_callV0 (ci := 0) [] (zdk hX5_forecastSum 6 rfl) cw_X5_106 ((h.rS hf).1) (by decide) rfl rfl rfl (Nat.le_of_ble_eq_true rfl) (by decide) (c_X0_meanSeason hl (h.rS hf)) ?_
  refine s_topi (b := zmn (gs g f)) (zmn_eq (fun j hj => h.fs hf j hj)) ?_
  refine s_istore (zdk hX5_forecastSum 7 rfl) (Nat.le_of_ble_eq_true rfl) ?_
  refine s_ls (ls' := [some (.ref s), some (.int (nI f)), some (.int (nI n)), some (.ref (s + 17 + 3 * p f)), some (.int (zmn (gs g f))), none, none, none, none]) rfl ?_
  refine s_lconstv (v := lN 0) (zdk hX5_forecastSum 8 rfl) rfl ?_
  refine s_lstore (zdk hX5_forecastSum 9 rfl) (Nat.le_of_ble_eq_true rfl) ?_
  refine s_ls (ls' := [some (.ref s), some (.int (nI f)), some (.int (nI n)), some (.ref (s + 17 + 3 * p f)), some (.int (zmn (gs g f))), some (.long (lN 0)), none, none, none]) rfl ?_
  refine s_iconstv (v := nI 0) (zdk hX5_forecastSum 10 rfl) zc_iconst_0 ?_
  refine s_istore (zdk hX5_forecastSum 11 rfl) (Nat.le_of_ble_eq_true rfl) ?_
  refine s_ls (ls' := [some (.ref s), some (.int (nI f)), some (.int (nI n)), some (.ref (s + 17 + 3 * p f)), some (.int (zmn (gs g f))), some (.long (lN 0)), none, some (.int (nI 0)), none]) rfl ?_
  exact w_X5_forecastSum_19 hl h hf hn (n + 1) 0 none (by omega) (by omega)
theorem c_X5_costOn (hl : l.stackTraces = false) {M : zMem} {s : Nat} {g : Nat → Int64} {p : Nat → Nat} (h : rSt M s g p) {f t : Nat} (hf : f < gN g 3) (ht : t < gN g 2) (n : Int32) (fs : Int64) : zCm l G mX5_costOn 0 0 0 0 [.ref s, .int (nI f), .int (nI t), .int n, .long fs] M (zD (some (.long (zco g f t n fs))) M) := by
  refine zCd.of (ls0 := [some (.ref s), some (.int (nI f)), some (.int (nI t)), some (.int (n)), some (.long (fs)), none, none, none, none]) (by decide +kernel) rfl hl rfl (Nat.le_of_ble_eq_true rfl) rfl ?_
  refine s_aload_n (zdk hX5_costOn 0 rfl) rfl ?_
  refine s_getR (zdk hX5_costOn 1 rfl) fw_X5_35 rfl (h.K) (h.r6) ?_
  refine s_iload_n (zdk hX5_costOn 2 rfl) rfl ?_
  refine s_aaloadN (N := 20) (j := f) (zdk hX5_costOn 3 rfl) (h.fK) (by decide) (h.fN) (h.fL hf) (by decide) (h.rR hf) ?_
  refine s_getI (zdk hX5_costOn 4 rfl) fw_X5_88 rfl ((h.rS hf).1) ?_
  refine s_topi (b := gf g f 0) (h.f1 hf) ?_
  refine s_i2l (zdk hX5_costOn 5 rfl) ?_
  refine s_lstore (zdk hX5_costOn 6 rfl) (Nat.le_of_ble_eq_true rfl) ?_
  refine s_ls (ls' := [some (.ref s), some (.int (nI f)), some (.int (nI t)), some (.int (n)), some (.long (fs)), none, some (.long ((gf g f 0).toInt64)), none, none]) rfl ?_
  refine s_aload_n (zdk hX5_costOn 7 rfl) rfl ?_
  refine s_getR (zdk hX5_costOn 8 rfl) fw_X5_29 rfl (h.K) (h.r5) ?_
  refine s_iload_n (zdk hX5_costOn 9 rfl) rfl ?_
  refine s_aaloadN (N := 4) (j := t) (zdk hX5_costOn 10 rfl) (h.tK) (by decide) (h.tN) (h.tL ht) (by decide) (h.tR ht) ?_
  refine s_getR (zdk hX5_costOn 11 rfl) fw_X5_75 rfl ((h.tS ht).1) ((h.tS ht).2.1) ?_
  refine s_astore (zdk hX5_costOn 12 rfl) (Nat.le_of_ble_eq_true rfl) ?_
  refine s_ls (ls' := [some (.ref s), some (.int (nI f)), some (.int (nI t)), some (.int (n)), some (.long (fs)), none, some (.long ((gf g f 0).toInt64)), none, some (.ref ((s + 5 + 3 * t) + 1))]) rfl ?_
  refine s_iload_n (zdk hX5_costOn 13 rfl) rfl ?_
  refine s_i2l (zdk hX5_costOn 14 rfl) ?_
  refine s_lload (zdk hX5_costOn 15 rfl) rfl ?_
  refine s_lmul (zdk hX5_costOn 16 rfl) ?_
  refine s_aload (zdk hX5_costOn 17 rfl) rfl ?_
  refine s_iconstv (v := nI 1) (zdk hX5_costOn 18 rfl) zc_iconst_1 ?_
  refine s_ialoadN (N := 5) (j := 1) (zdk hX5_costOn 19 rfl) ((h.tS ht).2.2.2.1) ((h.tS ht).2.2.2.2.1) (by omega) (by decide) ?_
  refine s_topi (b := gt g t (1)) (h.tk ht _ (by omega)) ?_
  refine s_i2l (zdk hX5_costOn 20 rfl) ?_
  refine s_lmul (zdk hX5_costOn 21 rfl) ?_
  refine s_lload (zdk hX5_costOn 22 rfl) rfl ?_
  refine s_aload (zdk hX5_costOn 23 rfl) rfl ?_
  refine s_iconstv (v := nI 2) (zdk hX5_costOn 24 rfl) zc_iconst_2 ?_
  refine s_ialoadN (N := 5) (j := 2) (zdk hX5_costOn 25 rfl) ((h.tS ht).2.2.2.1) ((h.tS ht).2.2.2.2.1) (by omega) (by decide) ?_
  refine s_topi (b := gt g t (2)) (h.tk ht _ (by omega)) ?_
  refine s_i2l (zdk hX5_costOn 26 rfl) ?_
  refine s_lmul (zdk hX5_costOn 27 rfl) ?_
  refine s_lload (zdk hX5_costOn 28 rfl) rfl ?_
  refine s_lmul (zdk hX5_costOn 29 rfl) ?_
  refine s_ldc2 (zdk hX5_costOn 30 rfl) kw_X5_113 ?_
  refine s_ldiv (zdk hX5_costOn 31 rfl) (by decide) ?_
  refine s_ladd (zdk hX5_costOn 32 rfl) ?_
  refine s_lreturn (zdk hX5_costOn 33 rfl) rfl  ?_
  exact ⟨rfl, rfl⟩
theorem c_X5_moveCost (hl : l.stackTraces = false) {M : zMem} {s : Nat} {g : Nat → Int64} {p : Nat → Nat} (h : rSt M s g p) {f a b : Nat} (hf : f < gN g 3) (ha : a < gN g 2) (hb : b < gN g 2) : zCm l G mX5_moveCost 0 0 0 0 [.ref s, .int (nI f), .int (nI a), .int (nI b)] M (zD (some (.int (zmc g f a b))) M) := by
  refine zCd.of (ls0 := [some (.ref s), some (.int (nI f)), some (.int (nI a)), some (.int (nI b))]) (by decide +kernel) rfl hl rfl (Nat.le_of_ble_eq_true rfl) rfl ?_
  refine s_aload_n (zdk hX5_moveCost 0 rfl) rfl ?_
  refine s_getR (zdk hX5_moveCost 1 rfl) fw_X5_35 rfl (h.K) (h.r6) ?_
  refine s_iload_n (zdk hX5_moveCost 2 rfl) rfl ?_
  refine s_aaloadN (N := 20) (j := f) (zdk hX5_moveCost 3 rfl) (h.fK) (by decide) (h.fN) (h.fL hf) (by decide) (h.rR hf) ?_
  refine s_getI (zdk hX5_moveCost 4 rfl) fw_X5_88 rfl ((h.rS hf).1) ?_
  refine s_topi (b := gf g f 0) (h.f1 hf) ?_
  refine s_aload_n (zdk hX5_moveCost 5 rfl) rfl ?_
  refine s_getR (zdk hX5_moveCost 6 rfl) fw_X5_29 rfl (h.K) (h.r5) ?_
  refine s_iload_n (zdk hX5_moveCost 7 rfl) rfl ?_
  refine s_aaloadN (N := 4) (j := a) (zdk hX5_moveCost 8 rfl) (h.tK) (by decide) (h.tN) (h.tL ha) (by decide) (h.tR ha) ?_
  refine s_getR (zdk hX5_moveCost 9 rfl) fw_X5_75 rfl ((h.tS ha).1) ((h.tS ha).2.1) ?_
  refine s_iconstv (v := nI 4) (zdk hX5_moveCost 10 rfl) zc_iconst_4 ?_
  refine s_ialoadN (N := 5) (j := 4) (zdk hX5_moveCost 11 rfl) ((h.tS ha).2.2.2.1) ((h.tS ha).2.2.2.2.1) (by omega) (by decide) ?_
  refine s_topi (b := gt g a (4)) (h.tk ha _ (by omega)) ?_
  refine s_aload_n (zdk hX5_moveCost 12 rfl) rfl ?_
  refine s_getR (zdk hX5_moveCost 13 rfl) fw_X5_29 rfl (h.K) (h.r5) ?_
  refine s_iload_n (zdk hX5_moveCost 14 rfl) rfl ?_
  refine s_aaloadN (N := 4) (j := b) (zdk hX5_moveCost 15 rfl) (h.tK) (by decide) (h.tN) (h.tL hb) (by decide) (h.tR hb) ?_
  refine s_getR (zdk hX5_moveCost 16 rfl) fw_X5_75 rfl ((h.tS hb).1) ((h.tS hb).2.1) ?_
  refine s_iconstv (v := nI 3) (zdk hX5_moveCost 17 rfl) zc_iconst_3 ?_
  refine s_ialoadN (N := 5) (j := 3) (zdk hX5_moveCost 18 rfl) ((h.tS hb).2.2.2.1) ((h.tS hb).2.2.2.2.1) (by omega) (by decide) ?_
  refine s_topi (b := gt g b (3)) (h.tk hb _ (by omega)) ?_
  refine s_iadd (zdk hX5_moveCost 19 rfl) ?_
  refine s_imul (zdk hX5_moveCost 20 rfl) ?_
  refine s_ireturn (zdk hX5_moveCost 21 rfl) rfl rfl ?_
  exact ⟨rfl, rfl⟩
end
