/-! THE SPEC: the mathematical state is the reference's array s : Nat → Int32 -/
def sv (s : Nat → Int32) (k : Nat) : Nat := (s k).toNatClampNeg
theorem sv_of {s : Nat → Int32} {k n : Nat} (h : s k = nI n) (hn : n < 2 ^ 31) : sv s k = n := by
  unfold sv
  rw [h, nI_clamp hn]
/-- what a row of ints keeps when its empty places go: how many, and which -/
def lvN (w : Nat → Nat) : Nat → Nat
  | 0 => 0
  | k + 1 => if 0 < w k then lvN w k + 1 else lvN w k
def lvF (w : Nat → Nat) : Nat → Nat → Nat
  | 0 => fun _ => 0
  | k + 1 => fun j => if 0 < w k ∧ j = lvN w k then w k else lvF w k j
theorem lvN_le {w : Nat → Nat} : ∀ k, lvN w k ≤ k
  | 0 => Nat.le_refl _
  | k + 1 => by
    have h := lvN_le (w := w) k
    unfold lvN
    split <;> omega
theorem lvN_pos {w : Nat → Nat} : ∀ k, (∀ j, j < k → 0 < w j) → lvN w k = k
  | 0, _ => rfl
  | k + 1, h => by
    unfold lvN
    rw [if_pos (h k (Nat.lt_succ_self k)), lvN_pos k (fun j hj => h j (Nat.lt_succ_of_lt hj))]
theorem lvF_pos {w : Nat → Nat} : ∀ k, (∀ j, j < k → 0 < w j) → ∀ j, j < k → lvF w k j = w j
  | 0, _, j, hj => absurd hj (Nat.not_lt_zero j)
  | k + 1, h, j, hj => by
    show (if _ then _ else _) = _
    rw [lvN_pos k (fun j hj => h j (Nat.lt_succ_of_lt hj))]
    by_cases e : j = k
    · subst e
      rw [if_pos ⟨h j (Nat.lt_succ_self j), rfl⟩]
    · rw [if_neg (fun q => e q.2)]
      exact lvF_pos k (fun j hj => h j (Nat.lt_succ_of_lt hj)) j (by omega)
/-- one place b is empty: it goes -/
theorem lvN_del {w : Nat → Nat} {b : Nat} (hb : w b = 0) : ∀ k, (∀ j, j < k → j ≠ b → 0 < w j) → b < k → lvN w k = k - 1
  | 0, _, h => absurd h (Nat.not_lt_zero b)
  | k + 1, h, hk => by
    unfold lvN
    by_cases e : b = k
    · subst e
      rw [if_neg (by omega), lvN_pos b (fun j hj => h j (by omega) (by omega))]
      rfl
    · rw [if_pos (h k (Nat.lt_succ_self k) (fun q => e q.symm)), lvN_del hb k (fun j hj hne => h j (Nat.lt_succ_of_lt hj) hne) (by omega)]
      omega
theorem lvF_del {w : Nat → Nat} {b : Nat} (hb : w b = 0) : ∀ k, (∀ j, j < k → j ≠ b → 0 < w j) → b < k → ∀ j, j < k - 1 → lvF w k j = w_del w b j
  | 0, _, h, _, _ => absurd h (Nat.not_lt_zero b)
  | k + 1, h, hk, j, hj => by
    show (if _ then _ else _) = _
    by_cases e : b = k
    · subst e
      rw [if_neg (fun q => by omega)]
      rw [lvF_pos b (fun j hj => h j (by omega) (by omega)) j (by omega)]
      unfold w_del
      rw [if_pos (by omega)]
    · have h9 : ∀ j, j < k → j ≠ b → 0 < w j := fun j hj hne => h j (Nat.lt_succ_of_lt hj) hne
      rw [lvN_del hb k h9 (by omega)]
      by_cases e2 : j = k - 1
      · subst e2
        rw [if_pos ⟨h k (Nat.lt_succ_self k) (fun q => e q.symm), rfl⟩]
        unfold w_del
        rw [if_neg (by omega), show k - 1 + 1 = k by omega]
      · rw [if_neg (fun q => e2 q.2)]
        exact lvF_del hb k h9 (by omega) j (by omega)
/-- a full barrel is passed by -/
theorem w_top_full {f x n r : Nat} {w : Nat → Nat} (hx : x + 1 < n) (ho : wv_ok n r w) (hw : ¬ w x < 2250) : w_top (f + 1) x n w = w_top f (x + 1) n w := by
  obtain ⟨h1, h2, h3, h4, h5⟩ := ho
  have a1 := h3 x
  have hl := h4 (n - 1) (by omega)
  have hby : w_by x n w = 0 := by unfold w_by; split <;> omega
  have hp : w_pour x n w = w := by
    funext k
    unfold w_pour
    rw [hby]
    split
    · rename_i e; rw [e]; rfl
    · split
      · rename_i e; rw [e]; rfl
      · rfl
  show (if _ then _ else _) = _
  rw [if_pos hx, hp, if_neg hw, if_neg (by omega)]
theorem w_top_end {f x n : Nat} {w : Nat → Nat} (hx : n ≤ x + 1) : w_top f x n w = (n, w) := by
  cases f with
  | zero => rfl
  | succ f =>
    show (if _ then _ else _) = _
    rw [if_neg (by omega)]
/-- barrels from x on to k are full: passed by, all of them -/
theorem w_top_skip {n r : Nat} {w : Nat → Nat} (ho : wv_ok n r w) : ∀ (d f x : Nat), (∀ j, x ≤ j → j < x + d → ¬ w j < 2250) → x + d < n → w_top (f + d) x n w = w_top f (x + d) n w
  | 0, f, x, _, _ => rfl
  | d + 1, f, x, h, hn => by
    rw [show f + (d + 1) = (f + d) + 1 by omega, w_top_full (by omega) ho (h x (Nat.le_refl x) (by omega)), w_top_skip ho d f (x + 1) (fun j h1 h2 => h j (by omega) (by omega)) (by omega), show x + 1 + d = x + (d + 1) by omega]
theorem w_top_none {n r : Nat} {w : Nat → Nat} (ho : wv_ok n r w) : ∀ (f x : Nat), (∀ j, x ≤ j → j + 1 < n → ¬ w j < 2250) → w_top f x n w = (n, w)
  | 0, _, _ => rfl
  | f + 1, x, h => by
    rcases Nat.lt_or_ge (x + 1) n with h1 | h1
    · rw [w_top_full h1 ho (h x (Nat.le_refl x) h1)]
      exact w_top_none ho f (x + 1) (fun j h2 h3 => h j (by omega) h3)
    · exact w_top_end h1
/-- a lot's wine in the state -/
def sw (s : Nat → Int32) (l : Nat) : Nat → Nat := fun k => if k < sv s (9 + 20 * l) then sv s (17 + 20 * l + k) else 0
def hsum (s : Nat → Int32) (l : Nat) : Nat := ws_sum (fun b => sv s (136 + 18 * b + 3 * l)) 6
def gsum (s : Nat → Int32) (l : Nat) : Nat := ws_sum (fun b => sv s (138 + 18 * b + 3 * l)) 6
theorem is_sum_nI {f : Nat → Int32} {g : Nat → Nat} : ∀ n, (∀ k, k < n → f k = nI (g k)) → is_sum f n = nI (ws_sum g n)
  | 0, _ => rfl
  | n + 1, h => by
    show is_sum f n + f n = nI (ws_sum g n + g n)
    rw [is_sum_nI n (fun k hk => h k (Nat.lt_succ_of_lt hk)), h n (Nat.lt_succ_self n), nI_add]
/-- what a lot's places hold -/
def lot_inv (s : Nat → Int32) (l : Nat) : Prop :=
  (∀ f, f < 8 → s (9 + 20 * l + f) = nI (sv s (9 + 20 * l + f))) ∧
  wv_ok (sv s (9 + 20 * l)) (sv s (10 + 20 * l)) (sw s l) ∧ (∀ k, k < sv s (9 + 20 * l) → s (17 + 20 * l + k) = nI (sv s (17 + 20 * l + k))) ∧
  (sv s (11 + 20 * l) ≤ 100 * sv s (12 + 20 * l) ∧ 10 * sv s (12 + 20 * l) + ws_sum (sw s l) (sv s (9 + 20 * l)) ≤ 27000) ∧
  (sv s (13 + 20 * l) ≤ 1 ∧ (sv s (13 + 20 * l) = 1 → sv s (9 + 20 * l) = 0) ∧ (sv s (13 + 20 * l) = 0 → sv s (15 + 20 * l) = 0)) ∧
  (sv s (14 + 20 * l) + sv s (16 + 20 * l) = sv s (15 + 20 * l) ∧ sv s (15 + 20 * l) ≤ 300 ∧ sv s (16 + 20 * l) = gsum s l) ∧
  (hsum s l ≤ 300 ∧ (sv s (13 + 20 * l) = 1 → hsum s l ≤ sv s (14 + 20 * l))) ∧
  ∀ b, b < 6 → (∀ f, f < 3 → s (136 + 18 * b + 3 * l + f) = nI (sv s (136 + 18 * b + 3 * l + f))) ∧ sv s (137 + 18 * b + 3 * l) ≤ 999 * sv s (136 + 18 * b + 3 * l)
/-- the invariant -/
def Inv (s : Nat → Int32) : Prop :=
  ((s 0 = nI (sv s 0) ∧ sv s 0 ≤ 6) ∧ (s 1 = nI (sv s 1) ∧ sv s 1 ≤ 6) ∧ (s 2 = nI (sv s 2) ∧ sv s 2 ≤ 999) ∧ (s 6 = nI (sv s 6) ∧ sv s 6 ≤ 12) ∧ (s 7 = nI (sv s 7) ∧ sv s 7 ≤ 100) ∧ (s 8 = nI (sv s 8) ∧ sv s 8 ≤ 36)) ∧
  (∀ l, l < 6 → lot_inv s l) ∧
  (∀ l, l < 6 → sv s 0 ≤ l → (∀ f, f < 8 → sv s (9 + 20 * l + f) = 0) ∧ ∀ b, b < 6 → ∀ f, f < 3 → sv s (136 + 18 * b + 3 * l + f) = 0) ∧
  (∀ b, b < 6 → sv s 1 ≤ b → s (129 + b) = 0 ∧ ∀ l, l < 6 → ∀ f, f < 3 → sv s (136 + 18 * b + 3 * l + f) = 0) ∧
  s 4 = nI (ws_sum (fun l => sv s (16 + 20 * l)) 6)
/-- the estate at e is as s says -/
def lot_at (I : mm_I) (a : Nat) (s : Nat → Int32) (l : Nat) : Prop :=
  wv_at I (a + 1) (sv s (9 + 20 * l)) (sv s (10 + 20 * l)) (sw s l) ∧
  (∀ b, b < 6 → I (a + 3) b = s (136 + 18 * b + 3 * l) ∧ I (a + 4) b = s (137 + 18 * b + 3 * l) ∧ I (a + 5) b = s (138 + 18 * b + 3 * l)) ∧
  I a 4 = s (13 + 20 * l) ∧ I a 5 = s (15 + 20 * l) ∧ I a 6 = s (11 + 20 * l) ∧ I a 7 = s (12 + 20 * l)
def est_at (I : mm_I) (e : Nat) (s : Nat → Int32) : Prop :=
  (I e 4 = s 0 ∧ I e 5 = s 1 ∧ I e 6 = s 135 ∧ I e 7 = s 7 ∧ I e 8 = s 8 ∧ I e 9 = s 2 ∧ I e 10 = s 3 ∧ I e 11 = s 5) ∧
  (∀ b, b < 6 → I (e + 2) b = s (129 + b)) ∧ I (e + 3) 1 = s 6 ∧ (∀ k, k < 72 → I (e + 3 + 1) k = s (244 + k)) ∧
  ∀ l, l < 6 → lot_at I (e + 7 + 6 * l) s l
def mm_est (S : mm_S) (e : Nat) : Prop :=
  (S.2.1 e).1 = 2 ∧ S.2.2 e 0 = some (e + 1) ∧ S.2.2 e 1 = some (e + 2) ∧ S.2.2 e 2 = some (e + 3) ∧ S.2.2 e 3 = some (e + 5) ∧
  S.2.1 (e + 1) = (10, 6) ∧ S.2.1 (e + 2) = (9, 6) ∧ mm_bk S (e + 3) ∧ mm_bar S (e + 5) ∧ ∀ l, l < 6 → S.2.2 (e + 1) l = some (e + 7 + 6 * l) ∧ mm_lot S (e + 7 + 6 * l)
def mm_ref (S : mm_S) (m : Nat) : Prop :=
  (S.2.1 m).1 = 8 ∧ S.2.2 m 0 = some (m + 1) ∧ S.2.2 m 1 = some (m + 2) ∧ S.2.2 m 2 = some (m + 3) ∧ S.2.2 m 5 = some (m + 4) ∧ S.2.2 m 7 = some (m + 5) ∧ S.2.2 m 15 = some (m + 6) ∧
  S.2.1 (m + 1) = (9, 316) ∧ S.2.1 (m + 2) = (9, 1264) ∧ S.2.1 (m + 3) = (9, 316) ∧ S.2.1 (m + 4) = (9, 60) ∧ S.2.1 (m + 5) = (9, 12) ∧ S.2.1 (m + 6) = (9, 4)
