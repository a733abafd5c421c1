/-! WINE: what a barrel loses, lists of barrels as functions on places -/
def wb_step (r w : Nat) : Nat := w - (if w < 1800 then 2 * (w * r / 1000) else w * r / 1000)
def wb_it (r : Nat) : Nat → Nat → Nat
  | 0, w => w
  | n + 1, w => wb_it r n (wb_step r w)
def ws_sum (w : Nat → Nat) : Nat → Nat
  | 0 => 0
  | n + 1 => ws_sum w n + w n
theorem wb_loss_le {r w : Nat} (hr : r ≤ 50) : 20 * (w * r / 1000) ≤ w := by
  have h1 : w * r ≤ w * 50 := Nat.mul_le_mul_left w hr
  have h2 : w * r / 1000 * 1000 ≤ w * r := Nat.div_mul_le_self _ _
  omega
theorem wb_step_le {r w : Nat} : wb_step r w ≤ w := Nat.sub_le _ _
theorem wb_step_pos {r w : Nat} (hr : r ≤ 50) (hw : 0 < w) : 0 < wb_step r w := by
  have h := wb_loss_le (w := w) hr
  unfold wb_step
  split <;> omega
theorem wb_step_0 {r w : Nat} (h : w * r / 1000 = 0) : wb_step r w = w := by
  unfold wb_step
  simp [h]
theorem wb_it_0 {r w : Nat} (h : w * r / 1000 = 0) : ∀ n, wb_it r n w = w
  | 0 => rfl
  | n + 1 => by
    show wb_it r n (wb_step r w) = w
    rw [wb_step_0 h]
    exact wb_it_0 h n
theorem wb_it_le {r : Nat} : ∀ (n w : Nat), wb_it r n w ≤ w
  | 0, w => Nat.le_refl w
  | n + 1, w => Nat.le_trans (wb_it_le n _) wb_step_le
theorem wb_it_pos {r : Nat} (hr : r ≤ 50) : ∀ (n w : Nat), 0 < w → 0 < wb_it r n w
  | 0, _, h => h
  | n + 1, w, h => wb_it_pos hr n _ (wb_step_pos hr h)
theorem wb_it_add {r : Nat} : ∀ (n m w : Nat), wb_it r (n + m) w = wb_it r m (wb_it r n w)
  | 0, m, w => by rw [Nat.zero_add]; rfl
  | n + 1, m, w => by
    rw [Nat.add_right_comm]
    exact wb_it_add n m _
theorem ws_sum_le {w : Nat → Nat} {b : Nat} : ∀ n, (∀ k, k < n → w k ≤ b) → ws_sum w n ≤ n * b
  | 0, _ => Nat.zero_le _
  | n + 1, h => by
    have h1 := ws_sum_le (w := w) (b := b) n (fun k hk => h k (Nat.lt_succ_of_lt hk))
    have h2 := h n (Nat.lt_succ_self n)
    rw [Nat.succ_mul]
    exact Nat.add_le_add h1 h2
theorem ws_sum_congr {v w : Nat → Nat} : ∀ n, (∀ k, k < n → v k = w k) → ws_sum v n = ws_sum w n
  | 0, _ => rfl
  | n + 1, h => by
    show ws_sum v n + v n = ws_sum w n + w n
    rw [ws_sum_congr n (fun k hk => h k (Nat.lt_succ_of_lt hk)), h n (Nat.lt_succ_self n)]
theorem ws_sum_mono {v w : Nat → Nat} : ∀ n, (∀ k, k < n → v k ≤ w k) → ws_sum v n ≤ ws_sum w n
  | 0, _ => Nat.le_refl _
  | n + 1, h => Nat.add_le_add (ws_sum_mono n (fun k hk => h k (Nat.lt_succ_of_lt hk))) (h n (Nat.lt_succ_self n))
theorem ws_sum_0 {w : Nat → Nat} {n : Nat} : ∀ m, n ≤ m → (∀ k, n ≤ k → k < m → w k = 0) → ws_sum w m = ws_sum w n
  | 0, h, _ => by rw [Nat.le_zero.mp h]
  | m + 1, h, hz => by
    rcases Nat.lt_or_ge n (m + 1) with h1 | h1
    · show ws_sum w m + w m = _
      rw [hz m (by omega) (Nat.lt_succ_self m), ws_sum_0 m (by omega) (fun k h2 h3 => hz k h2 (Nat.lt_succ_of_lt h3))]
      rfl
    · rw [Nat.le_antisymm h h1]
-- shapes
def mm_bar (S : mm_S) (a : Nat) : Prop := (S.2.1 a).1 = 0 ∧ S.2.2 a 0 = some (a + 1) ∧ S.2.1 (a + 1) = (9, 12)
/-- a lot's barrels: n of them, with w, a rate r -/
def wv_at (I : mm_I) (a n r : Nat) (w : Nat → Nat) : Prop := I a 1 = nI n ∧ I a 2 = nI r ∧ ∀ k, k < 12 → I (a + 1) k = nI (w k)
/-- what holds of wine: at most 12 barrels, 2250 each, none behind the last -/
def wv_ok (n r : Nat) (w : Nat → Nat) : Prop := n ≤ 12 ∧ r ≤ 50 ∧ (∀ k, w k ≤ 2250) ∧ (∀ k, k < n → 0 < w k) ∧ ∀ k, n ≤ k → w k = 0
/-- the first place from i on, of f, where p holds -/
def w_find (p : Nat → Bool) : Nat → Nat → Option Nat
  | _, 0 => none
  | i, f + 1 => if p i = true then some i else w_find p (i + 1) f
theorem w_find_some {p : Nat → Bool} : ∀ {f i k : Nat}, w_find p i f = some k → i ≤ k ∧ k < i + f ∧ p k = true ∧ ∀ j, i ≤ j → j < k → p j = false
  | 0, i, k, h => by cases h
  | f + 1, i, k, h => by
    unfold w_find at h
    split at h
    · rename_i hp
      cases h
      exact ⟨Nat.le_refl _, by omega, hp, fun j h1 h2 => absurd h1 (by omega)⟩
    · rename_i hp
      obtain ⟨h1, h2, h3, h4⟩ := w_find_some h
      refine ⟨by omega, by omega, h3, fun j h5 h6 => ?_⟩
      by_cases hj : j = i
      · subst hj; exact Bool.not_eq_true _ ▸ hp
      · exact h4 j (by omega) h6
theorem w_find_none {p : Nat → Bool} : ∀ {f i : Nat}, w_find p i f = none → ∀ j, i ≤ j → j < i + f → p j = false
  | 0, i, _, j, h1, h2 => absurd h1 (by omega)
  | f + 1, i, h, j, h1, h2 => by
    unfold w_find at h
    split at h
    · cases h
    · rename_i hp
      by_cases hj : j = i
      · subst hj; exact Bool.not_eq_true _ ▸ hp
      · exact w_find_none h j (by omega) (by omega)
def w_del (w : Nat → Nat) (b : Nat) : Nat → Nat := fun k => if k < b then w k else w (k + 1)
def w_sipN (n : Nat) (w : Nat → Nat) (b : Nat) : Nat := if w b = 10 then n - 1 else n
def w_sip (w : Nat → Nat) (b : Nat) : Nat → Nat := if w b = 10 then w_del w b else fun k => if k = b then w k - 10 else w k
def w_by (x n : Nat) (w : Nat → Nat) : Nat := if w (n - 1) < 2250 - w x then w (n - 1) else 2250 - w x
def w_pour (x n : Nat) (w : Nat → Nat) : Nat → Nat := fun k => if k = x then w x + w_by x n w else if k = n - 1 then w (n - 1) - w_by x n w else w k
def w_top : Nat → Nat → Nat → (Nat → Nat) → Nat × (Nat → Nat)
  | 0, _, n, w => (n, w)
  | f + 1, x, n, w => if x + 1 < n then w_top f (if w_pour x n w x < 2250 then x else x + 1) (if w_pour x n w (n - 1) = 0 then n - 1 else n) (w_pour x n w) else (n, w)
theorem w_pour_ok {x n r : Nat} {w : Nat → Nat} (hx : x + 1 < n) (ho : wv_ok n r w) : wv_ok (if w_pour x n w (n - 1) = 0 then n - 1 else n) r (w_pour x n w) := by
  obtain ⟨h1, h2, h3, h4, h5⟩ := ho
  have a1 := h3 x
  have a2 := h3 (n - 1)
  have hb1 : w_by x n w ≤ 2250 - w x := by unfold w_by; split <;> omega
  have hb2 : w_by x n w ≤ w (n - 1) := by unfold w_by; split <;> omega
  refine ⟨by split <;> omega, h2, fun k => ?_, fun k hk => ?_, fun k hk => ?_⟩
  · unfold w_pour
    split
    · omega
    · split
      · omega
      · exact h3 k
  · have hkn : k < n := by
      revert hk
      split <;> omega
    have h6 := h4 k hkn
    have h7 := h4 x (by omega)
    unfold w_pour
    split
    · omega
    · split
      · rename_i e1 e2
        subst e2
        have h8 : ¬ w_pour x n w (n - 1) = 0 := by
          intro e
          rw [if_pos e] at hk
          omega
        unfold w_pour at h8
        rw [if_neg (by omega), if_pos rfl] at h8
        omega
      · exact h6
  · unfold w_pour
    rw [if_neg (by revert hk; split <;> omega)]
    split
    · rename_i e2
      subst e2
      have h8 : w_pour x n w (n - 1) = 0 := by
        rcases Nat.eq_zero_or_pos (w_pour x n w (n - 1)) with e | e
        · exact e
        · rw [if_neg (by omega)] at hk
          omega
      unfold w_pour at h8
      rw [if_neg (by omega), if_pos rfl] at h8
      exact h8
    · exact h5 k (by revert hk; split <;> omega)
theorem nI_m1_le {n i : Nat} (hn : n < 1000) (hi : i < 1000) : (nI n - 1 ≤ nI i) ↔ n ≤ i + 1 := by
  rw [Int32.le_iff_toInt_le, show (1 : Int32) = nI 1 from rfl, pk_sub_toInt (by omega) (by omega), nI_toInt (by omega)]
  omega
theorem nI_m1 {n : Nat} (hn : 0 < n) : nI n - 1 = nI (n - 1) := pk_sub (b := 1) hn

set_option maxRecDepth 100000 in
set_option maxHeartbeats 4000000 in
theorem c_wineBehind {S : mm_S} {I : mm_I} {a r w m : Nat} (hk : (S.2.1 a).1 = 0) (hr : I a 2 = nI r) (hr5 : r ≤ 50) (hw : w ≤ 2250) (hm : m < 1000) : mm_ci mX0_wineBehind [.ref a, .int (nI w), .int (nI m)] S I (fun q J => q = nI (wb_it r m w) ∧ J = I) := by
  refine mm_ci.of okX0_wineBehind rfl (Nat.le_of_ble_eq_true rfl) (lv := [(0, .ref a), (1, .int (nI w)), (2, .int (nI m))]) rfl ?_
  have loop : ∀ (n x i : Nat), i + n = m → x ≤ 2250 → wb_it r n x = wb_it r m w → mm_Gi mX0_wineBehind (fun q J => q = nI (wb_it r m w) ∧ J = I) 5 [(4, .int (nI i)), (3, .int (nI x)), (0, .ref a), (2, .int (nI m))] [] S S I := by
    intro n
    induction n with
    | zero =>
      intro x i hi hx hv
      refine mm_iload dX0_wineBehind_5 rfl ?_
      refine mm_iload_n dX0_wineBehind_7 rfl rfl ?_
      refine mm_icmp_ge 56 dX0_wineBehind_8 (by decide) (fun c_8 => ?_) (fun c_8 => absurd (nI_le (by omega) (by omega)) c_8)
      refine mm_iload_n dX0_wineBehind_56 rfl rfl ?_
      refine mm_iret dX0_wineBehind_57 rfl ?_
      exact ⟨rfl, _, rfl, by rw [← hv]; rfl, rfl⟩
    | succ n ih =>
      intro x i hi hx hv
      have hmul : x * r ≤ 2250 * 50 := Nat.mul_le_mul hx hr5
      have hl := wb_loss_le (w := x) hr5
      refine mm_iload dX0_wineBehind_5 rfl ?_
      refine mm_iload_n dX0_wineBehind_7 rfl rfl ?_
      refine mm_icmp_ge 56 dX0_wineBehind_8 (by decide) (fun c_8 => absurd c_8 (nI_ge (by omega) (by omega))) (fun c_8 => ?_)
      refine mm_iload_n dX0_wineBehind_11 rfl rfl ?_
      refine mm_aload_n dX0_wineBehind_12 rfl rfl ?_
      refine mm_getI dX0_wineBehind_13 fl_X0_19 rfl (by assumption) ?_
      refine mm_imul dX0_wineBehind_16 ?_
      refine mm_sipush 1000 dX0_wineBehind_17 rfl ?_
      refine mm_idiv dX0_wineBehind_20 (by decide) ?_
      refine mm_tope (y := nI (x * r / 1000)) (by rw [hr, pk_mul]; exact pk_div (d := 1000) (by omega) (by omega) (by omega)) ?_
      refine mm_istore dX0_wineBehind_21 (Nat.le_of_ble_eq_true rfl) ?_
      refine mm_iload dX0_wineBehind_23 rfl ?_
      refine mm_if_ne 31 dX0_wineBehind_25 (by decide) (fun c_25 => ?_) (fun c_25 => ?_)
      · skip
        have hne : x * r / 1000 ≠ 0 := fun e => c_25 (by rw [e]; rfl)
        refine mm_iload_n dX0_wineBehind_31 rfl rfl ?_
        refine mm_iload_n dX0_wineBehind_32 rfl rfl ?_
        refine mm_sipush 1800 dX0_wineBehind_33 rfl ?_
        refine mm_icmp_ge 46 dX0_wineBehind_36 (by decide) (fun c_36 => ?_) (fun c_36 => ?_)
        · skip
          have hlt : ¬ x < 1800 := fun q => absurd c_36 (nI_ge (b := 1800) q (by omega))
          refine mm_iload dX0_wineBehind_46 rfl ?_
          refine mm_isub dX0_wineBehind_48 ?_
          refine mm_tope (y := nI (wb_step r x)) (by unfold wb_step; first | (rw [if_pos hlt, show (2 : Int32) = nI 2 from rfl, pk_mul]; exact pk_sub (by omega)) | (rw [if_neg hlt]; exact pk_sub (by omega))) ?_
          refine mm_istore_n dX0_wineBehind_49 rfl (Nat.le_of_ble_eq_true rfl) ?_
          refine mm_iinc 1 dX0_wineBehind_50 rfl rfl (Nat.le_of_ble_eq_true rfl) ?_
          rw [nI_1]
          refine mm_goto 5 dX0_wineBehind_53 (by decide) ?_
          exact mm_G.at (ih (wb_step r x) (i + 1) (by omega) (Nat.le_trans wb_step_le hx) hv) (mm_s1 rfl (mm_s1 rfl (mm_s1 rfl (mm_s1 rfl mm_s0))))
        · skip
          have hlt : x < 1800 := Nat.not_le.mp fun q => c_36 (nI_le (a := 1800) q (by omega))
          refine mm_iconst 2 dX0_wineBehind_39 rfl ?_
          refine mm_iload dX0_wineBehind_40 rfl ?_
          refine mm_imul dX0_wineBehind_42 ?_
          refine mm_goto 48 dX0_wineBehind_43 (by decide) ?_
          refine mm_isub dX0_wineBehind_48 ?_
          refine mm_tope (y := nI (wb_step r x)) (by unfold wb_step; first | (rw [if_pos hlt, show (2 : Int32) = nI 2 from rfl, pk_mul]; exact pk_sub (by omega)) | (rw [if_neg hlt]; exact pk_sub (by omega))) ?_
          refine mm_istore_n dX0_wineBehind_49 rfl (Nat.le_of_ble_eq_true rfl) ?_
          refine mm_iinc 1 dX0_wineBehind_50 rfl rfl (Nat.le_of_ble_eq_true rfl) ?_
          rw [nI_1]
          refine mm_goto 5 dX0_wineBehind_53 (by decide) ?_
          exact mm_G.at (ih (wb_step r x) (i + 1) (by omega) (Nat.le_trans wb_step_le hx) hv) (mm_s1 rfl (mm_s1 rfl (mm_s1 rfl (mm_s1 rfl mm_s0))))
      · skip
        have h0 : x * r / 1000 = 0 := by
          rcases Nat.eq_zero_or_pos (x * r / 1000) with e | e
          · exact e
          · exact absurd c_25 (nI_ne0 e (by omega))
        refine mm_goto 56 dX0_wineBehind_28 (by decide) ?_
        refine mm_iload_n dX0_wineBehind_56 rfl rfl ?_
        refine mm_iret dX0_wineBehind_57 rfl ?_
        exact ⟨rfl, _, rfl, by rw [← hv, wb_it_0 h0], rfl⟩
  refine mm_iload_n dX0_wineBehind_0 rfl rfl ?_
  refine mm_istore_n dX0_wineBehind_1 rfl (Nat.le_of_ble_eq_true rfl) ?_
  refine mm_iconst 0 dX0_wineBehind_2 rfl ?_
  refine mm_istore dX0_wineBehind_3 (Nat.le_of_ble_eq_true rfl) ?_
  exact mm_G.at (loop m w 0 (by omega) hw rfl) (mm_s1 rfl (mm_s1 rfl (mm_s1 rfl (mm_s1 rfl mm_s0))))
set_option maxRecDepth 100000 in
set_option maxHeartbeats 4000000 in
theorem c_casesBehind {S : mm_S} {I : mm_I} {a n r m : Nat} {w : Nat → Nat} (hB : mm_bar S a) (hv : wv_at I a n r w) (ho : wv_ok n r w) (hm : m < 1000) : mm_ci mX0_casesBehind [.ref a, .int (nI m)] S I (fun q J => q = nI (ws_sum (fun k => wb_it r m (w k)) n / 90) ∧ J = I) := by
  obtain ⟨hk, hp, hkw⟩ := hB
  obtain ⟨h1, h2, h3⟩ := hv
  obtain ⟨o1, o2, o3, o4, o5⟩ := ho
  have hb : ∀ i, i ≤ n → ws_sum (fun k => wb_it r m (w k)) i ≤ 27000 := fun i hi => Nat.le_trans (ws_sum_le (b := 2250) i (fun k _ => Nat.le_trans (wb_it_le _ _) (o3 k))) (by omega)
  refine mm_ci.of okX0_casesBehind rfl (Nat.le_of_ble_eq_true rfl) (lv := [(0, .ref a), (1, .int (nI m))]) rfl ?_
  have loop : ∀ (t i : Nat), i + t = n → mm_Gi mX0_casesBehind (fun q J => q = nI (ws_sum (fun k => wb_it r m (w k)) n / 90) ∧ J = I) 4 [(3, .int (nI i)), (2, .int (nI (ws_sum (fun k => wb_it r m (w k)) i))), (0, .ref a), (1, .int (nI m))] [] S S I := by
    intro t
    induction t with
    | zero =>
      intro i hi
      refine mm_iload_n dX0_casesBehind_4 rfl rfl ?_
      refine mm_aload_n dX0_casesBehind_5 rfl rfl ?_
      refine mm_getI dX0_casesBehind_6 fl_X0_15 rfl (by assumption) ?_
      refine mm_tope (y := nI n) h1 ?_
      refine mm_icmp_ge 41 dX0_casesBehind_9 (by decide) (fun c_9 => ?_) (fun c_9 => absurd (nI_le (by omega) (by omega)) c_9)
      refine mm_iload_n dX0_casesBehind_41 rfl rfl ?_
      refine mm_bipush 90 dX0_casesBehind_42 rfl ?_
      refine mm_idiv dX0_casesBehind_44 (by decide) ?_
      refine mm_iret dX0_casesBehind_45 rfl ?_
      exact ⟨rfl, _, rfl, by rw [show i = n by omega]; exact pk_div (d := 90) (by have := hb n (Nat.le_refl n); omega) (by omega) (by omega), rfl⟩
    | succ t ih =>
      intro i hi
      refine mm_iload_n dX0_casesBehind_4 rfl rfl ?_
      refine mm_aload_n dX0_casesBehind_5 rfl rfl ?_
      refine mm_getI dX0_casesBehind_6 fl_X0_15 rfl (by assumption) ?_
      refine mm_tope (y := nI n) h1 ?_
      refine mm_icmp_ge 41 dX0_casesBehind_9 (by decide) (fun c_9 => absurd c_9 (nI_ge (by omega) (by omega))) (fun c_9 => ?_)
      refine mm_iload_n dX0_casesBehind_12 rfl rfl ?_
      refine mm_aload_n dX0_casesBehind_13 rfl rfl ?_
      refine mm_getR dX0_casesBehind_14 fl_X0_9 rfl (by assumption) (by assumption) ?_
      refine mm_alen (t := 0) dX0_casesBehind_17 (by assumption) (by decide) 12 rfl ?_
      refine mm_icmp_ge 41 dX0_casesBehind_18 (by decide) (fun c_18 => absurd c_18 (nI_ge (b := 12) (by omega) (by omega))) (fun c_18 => ?_)
      refine mm_iload_n dX0_casesBehind_21 rfl rfl ?_
      refine mm_aload_n dX0_casesBehind_22 rfl rfl ?_
      refine mm_aload_n dX0_casesBehind_23 rfl rfl ?_
      refine mm_getR dX0_casesBehind_24 fl_X0_9 rfl (by assumption) (by assumption) ?_
      refine mm_iload_n dX0_casesBehind_27 rfl rfl ?_
      refine mm_iald dX0_casesBehind_28 (by assumption) (vp_in_nI (by omega) (by omega)) ?_
      rw [nI_clamp (by omega), h3 i (by omega)]
      refine mm_iload_n dX0_casesBehind_29 rfl rfl ?_
      refine mm_Vi (N := mX0_wineBehind) (ci := 0) (as := [_, _]) dX0_casesBehind_30 lk_X0_26 okX0_wineBehind (by decide) rfl (by decide) rfl (by assumption) rfl (by first | decide | (simp [Value.category])) (c_wineBehind hk h2 o2 (o3 i) hm) (fun r1 J1 hq => ?_)
      obtain ⟨rfl, rfl⟩ := hq
      refine mm_iadd dX0_casesBehind_33 ?_
      refine mm_tope (y := nI (ws_sum (fun k => wb_it r m (w k)) (i + 1))) (nI_add _ _) ?_
      refine mm_istore_n dX0_casesBehind_34 rfl (Nat.le_of_ble_eq_true rfl) ?_
      refine mm_iinc 1 dX0_casesBehind_35 rfl rfl (Nat.le_of_ble_eq_true rfl) ?_
      rw [nI_1]
      refine mm_goto 4 dX0_casesBehind_38 (by decide) ?_
      exact mm_G.at (ih (i + 1) (by omega)) (mm_s1 rfl (mm_s1 rfl (mm_s1 rfl (mm_s1 rfl mm_s0))))
  refine mm_iconst 0 dX0_casesBehind_0 rfl ?_
  refine mm_istore_n dX0_casesBehind_1 rfl (Nat.le_of_ble_eq_true rfl) ?_
  refine mm_iconst 0 dX0_casesBehind_2 rfl ?_
  refine mm_istore_n dX0_casesBehind_3 rfl (Nat.le_of_ble_eq_true rfl) ?_
  exact mm_G.at (loop n 0 (by omega)) (mm_s1 rfl (mm_s1 rfl (mm_s1 rfl (mm_s1 rfl mm_s0))))
set_option maxRecDepth 100000 in
set_option maxHeartbeats 4000000 in
theorem c_lose {S : mm_S} {I : mm_I} {a n r m : Nat} {w : Nat → Nat} (hB : mm_bar S a) (hv : wv_at I a n r w) (ho : wv_ok n r w) (hm : m < 1000) : mm_ci mX0_lose [.ref a, .int (nI m)] S I (fun q J => q = nI (ws_sum (fun k => w k - wb_it r m (w k)) n) ∧ J = mm_row I (a + 1) n (fun k => nI (wb_it r m (w k)))) := by
  obtain ⟨hk, hp, hkw⟩ := hB
  obtain ⟨h1, h2, h3⟩ := hv
  obtain ⟨o1, o2, o3, o4, o5⟩ := ho
  have hn1 : a ≠ a + 1 := by omega
  refine mm_ci.of okX0_lose rfl (Nat.le_of_ble_eq_true rfl) (lv := [(0, .ref a), (1, .int (nI m))]) rfl ?_
  have loop : ∀ (t i : Nat), i + t = n → mm_Gi mX0_lose (fun q J => q = nI (ws_sum (fun k => w k - wb_it r m (w k)) n) ∧ J = mm_row I (a + 1) n (fun k => nI (wb_it r m (w k)))) 4 [(3, .int (nI i)), (2, .int (nI (ws_sum (fun k => w k - wb_it r m (w k)) i))), (0, .ref a), (1, .int (nI m))] [] S S (mm_row I (a + 1) i (fun k => nI (wb_it r m (w k)))) := by
    intro t
    induction t with
    | zero =>
      intro i hi
      have g1 : mm_row I (a + 1) i (fun k => nI (wb_it r m (w k))) a 1 = nI n := by rw [mm_row_ne hn1]; exact h1
      refine mm_iload_n dX0_lose_4 rfl rfl ?_
      refine mm_aload_n dX0_lose_5 rfl rfl ?_
      refine mm_getI dX0_lose_6 fl_X0_15 rfl (by assumption) ?_
      refine mm_tope (y := nI n) g1 ?_
      refine mm_icmp_ge 60 dX0_lose_9 (by decide) (fun c_9 => ?_) (fun c_9 => absurd (nI_le (by omega) (by omega)) c_9)
      refine mm_iload_n dX0_lose_60 rfl rfl ?_
      refine mm_iret dX0_lose_61 rfl ?_
      exact ⟨rfl, _, rfl, by rw [show i = n by omega], by rw [show i = n by omega]⟩
    | succ t ih =>
      intro i hi
      have g1 : mm_row I (a + 1) i (fun k => nI (wb_it r m (w k))) a 1 = nI n := by rw [mm_row_ne hn1]; exact h1
      have g2 : mm_row I (a + 1) i (fun k => nI (wb_it r m (w k))) a 2 = nI r := by rw [mm_row_ne hn1]; exact h2
      have g3 : mm_row I (a + 1) i (fun k => nI (wb_it r m (w k))) (a + 1) i = nI (w i) := by rw [mm_row_out (Nat.le_refl _)]; exact h3 i (by omega)
      have hin : vp_in (nI i) 12 := vp_in_nI (by omega) (by omega)
      have hle := wb_it_le (r := r) m (w i)
      refine mm_iload_n dX0_lose_4 rfl rfl ?_
      refine mm_aload_n dX0_lose_5 rfl rfl ?_
      refine mm_getI dX0_lose_6 fl_X0_15 rfl (by assumption) ?_
      refine mm_tope (y := nI n) g1 ?_
      refine mm_icmp_ge 60 dX0_lose_9 (by decide) (fun c_9 => absurd c_9 (nI_ge (by omega) (by omega))) (fun c_9 => ?_)
      refine mm_iload_n dX0_lose_12 rfl rfl ?_
      refine mm_aload_n dX0_lose_13 rfl rfl ?_
      refine mm_getR dX0_lose_14 fl_X0_9 rfl (by assumption) (by assumption) ?_
      refine mm_alen (t := 0) dX0_lose_17 (by assumption) (by decide) 12 rfl ?_
      refine mm_icmp_ge 60 dX0_lose_18 (by decide) (fun c_18 => absurd c_18 (nI_ge (b := 12) (by omega) (by omega))) (fun c_18 => ?_)
      refine mm_aload_n dX0_lose_21 rfl rfl ?_
      refine mm_aload_n dX0_lose_22 rfl rfl ?_
      refine mm_getR dX0_lose_23 fl_X0_9 rfl (by assumption) (by assumption) ?_
      refine mm_iload_n dX0_lose_26 rfl rfl ?_
      refine mm_iald dX0_lose_27 (by assumption) (by assumption) ?_
      rw [nI_clamp (by omega), g3]
      refine mm_iload_n dX0_lose_28 rfl rfl ?_
      refine mm_Vi (N := mX0_wineBehind) (ci := 0) (as := [_, _]) dX0_lose_29 lk_X0_26 okX0_wineBehind (by decide) rfl (by decide) rfl (by assumption) rfl (by decide) (c_wineBehind hk g2 o2 (o3 i) hm) (fun r1 J1 hq => ?_)
      obtain ⟨rfl, rfl⟩ := hq
      refine mm_istore dX0_lose_32 (Nat.le_of_ble_eq_true rfl) ?_
      refine mm_iload_n dX0_lose_34 rfl rfl ?_
      refine mm_aload_n dX0_lose_35 rfl rfl ?_
      refine mm_getR dX0_lose_36 fl_X0_9 rfl (by assumption) (by assumption) ?_
      refine mm_iload_n dX0_lose_39 rfl rfl ?_
      refine mm_iald dX0_lose_40 (by assumption) (by assumption) ?_
      rw [nI_clamp (by omega), g3]
      refine mm_iload dX0_lose_41 rfl ?_
      refine mm_isub dX0_lose_43 ?_
      refine mm_tope (y := nI (w i - wb_it r m (w i))) (pk_sub hle) ?_
      refine mm_iadd dX0_lose_44 ?_
      refine mm_tope (y := nI (ws_sum (fun k => w k - wb_it r m (w k)) (i + 1))) (nI_add _ _) ?_
      refine mm_istore_n dX0_lose_45 rfl (Nat.le_of_ble_eq_true rfl) ?_
      refine mm_aload_n dX0_lose_46 rfl rfl ?_
      refine mm_getR dX0_lose_47 fl_X0_9 rfl (by assumption) (by assumption) ?_
      refine mm_iload_n dX0_lose_50 rfl rfl ?_
      refine mm_iload dX0_lose_51 rfl ?_
      refine mm_iast dX0_lose_53 (by assumption) (by assumption) ?_
      rw [nI_clamp (by omega)]
      refine mm_G.i (mm_row_S (f := (fun k => nI (wb_it r m (w k))))) ?_
      refine mm_iinc 1 dX0_lose_54 rfl rfl (Nat.le_of_ble_eq_true rfl) ?_
      rw [nI_1]
      refine mm_goto 4 dX0_lose_57 (by decide) ?_
      exact mm_G.at (ih (i + 1) (by omega)) (mm_s1 rfl (mm_s1 rfl (mm_s1 rfl (mm_s1 rfl mm_s0))))
  refine mm_iconst 0 dX0_lose_0 rfl ?_
  refine mm_istore_n dX0_lose_1 rfl (Nat.le_of_ble_eq_true rfl) ?_
  refine mm_iconst 0 dX0_lose_2 rfl ?_
  refine mm_istore_n dX0_lose_3 rfl (Nat.le_of_ble_eq_true rfl) ?_
  refine mm_G.i (I' := mm_row I (a + 1) 0 (fun k => nI (wb_it r m (w k)))) mm_row_0.symm ?_
  exact mm_G.at (loop n 0 (by omega)) (mm_s1 rfl (mm_s1 rfl (mm_s1 rfl (mm_s1 rfl mm_s0))))
set_option maxRecDepth 100000 in
set_option maxHeartbeats 4000000 in
theorem c_barrelForTasting {S : mm_S} {I : mm_I} {a n r : Nat} {w : Nat → Nat} (hB : mm_bar S a) (hv : wv_at I a n r w) (ho : wv_ok n r w) : mm_ci mX0_barrelForTasting [.ref a] S I (fun q J => q = (match w_find (fun k => decide (10 ≤ w k)) 0 n with | some k => nI k | none => -1) ∧ J = I) := by
  obtain ⟨hk, hp, hkw⟩ := hB
  obtain ⟨h1, h2, h3⟩ := hv
  obtain ⟨o1, o2, o3, o4, o5⟩ := ho
  refine mm_ci.of okX0_barrelForTasting rfl (Nat.le_of_ble_eq_true rfl) (lv := [(0, .ref a)]) rfl ?_
  have loop : ∀ (t i : Nat), i + t = n → w_find (fun k => decide (10 ≤ w k)) i t = w_find (fun k => decide (10 ≤ w k)) 0 n → mm_Gi mX0_barrelForTasting (fun q J => q = (match w_find (fun k => decide (10 ≤ w k)) 0 n with | some k => nI k | none => -1) ∧ J = I) 2 [(1, .int (nI i)), (0, .ref a)] [] S S I := by
    intro t
    induction t with
    | zero =>
      intro i hi hf
      refine mm_iload_n dX0_barrelForTasting_2 rfl rfl ?_
      refine mm_aload_n dX0_barrelForTasting_3 rfl rfl ?_
      refine mm_getI dX0_barrelForTasting_4 fl_X0_15 rfl (by assumption) ?_
      refine mm_tope (y := nI n) h1 ?_
      refine mm_icmp_ge 38 dX0_barrelForTasting_7 (by decide) (fun c_7 => ?_) (fun c_7 => absurd (nI_le (by omega) (by omega)) c_7)
      refine mm_iconst (-1) dX0_barrelForTasting_38 rfl ?_
      refine mm_iret dX0_barrelForTasting_39 rfl ?_
      exact ⟨rfl, _, rfl, by rw [← hf]; rfl, rfl⟩
    | succ t ih =>
      intro i hi hf
      have a3 := o3 i
      refine mm_iload_n dX0_barrelForTasting_2 rfl rfl ?_
      refine mm_aload_n dX0_barrelForTasting_3 rfl rfl ?_
      refine mm_getI dX0_barrelForTasting_4 fl_X0_15 rfl (by assumption) ?_
      refine mm_tope (y := nI n) h1 ?_
      refine mm_icmp_ge 38 dX0_barrelForTasting_7 (by decide) (fun c_7 => absurd c_7 (nI_ge (by omega) (by omega))) (fun c_7 => ?_)
      refine mm_iload_n dX0_barrelForTasting_10 rfl rfl ?_
      refine mm_aload_n dX0_barrelForTasting_11 rfl rfl ?_
      refine mm_getR dX0_barrelForTasting_12 fl_X0_9 rfl (by assumption) (by assumption) ?_
      refine mm_alen (t := 0) dX0_barrelForTasting_15 (by assumption) (by decide) 12 rfl ?_
      refine mm_icmp_ge 38 dX0_barrelForTasting_16 (by decide) (fun c_16 => absurd c_16 (nI_ge (b := 12) (by omega) (by omega))) (fun c_16 => ?_)
      refine mm_aload_n dX0_barrelForTasting_19 rfl rfl ?_
      refine mm_getR dX0_barrelForTasting_20 fl_X0_9 rfl (by assumption) (by assumption) ?_
      refine mm_iload_n dX0_barrelForTasting_23 rfl rfl ?_
      refine mm_iald dX0_barrelForTasting_24 (by assumption) (vp_in_nI (by omega) (by omega)) ?_
      rw [nI_clamp (by omega), h3 i (by omega)]
      refine mm_bipush 10 dX0_barrelForTasting_25 rfl ?_
      refine mm_icmp_lt 32 dX0_barrelForTasting_27 (by decide) (fun c_27 => ?_) (fun c_27 => ?_)
      · skip
        have hlt : w i < 10 := Nat.not_le.mp fun q => nI_nlt (a := w i) (b := 10) q (by omega) c_27
        have hf2 : w_find (fun k => decide (10 ≤ w k)) (i + 1) t = w_find (fun k => decide (10 ≤ w k)) 0 n := by rw [← hf]; show _ = if _ then _ else _; rw [if_neg (by simp; omega)]
        refine mm_iinc 1 dX0_barrelForTasting_32 rfl rfl (Nat.le_of_ble_eq_true rfl) ?_
        rw [nI_1]
        refine mm_goto 2 dX0_barrelForTasting_35 (by decide) ?_
        exact mm_G.at (ih (i + 1) (by omega) hf2) (mm_s1 rfl (mm_s1 rfl mm_s0))
      · skip
        have hge : 10 ≤ w i := Nat.not_lt.mp fun q => c_27 (nI_lt (b := 10) q (by omega))
        have hf2 : w_find (fun k => decide (10 ≤ w k)) 0 n = some i := by rw [← hf]; show (if _ then _ else _) = _; rw [if_pos (by simp; omega)]
        refine mm_iload_n dX0_barrelForTasting_30 rfl rfl ?_
        refine mm_iret dX0_barrelForTasting_31 rfl ?_
        exact ⟨rfl, _, rfl, by rw [hf2], rfl⟩
  refine mm_iconst 0 dX0_barrelForTasting_0 rfl ?_
  refine mm_istore_n dX0_barrelForTasting_1 rfl (Nat.le_of_ble_eq_true rfl) ?_
  exact mm_G.at (loop n 0 (by omega) rfl) (mm_s1 rfl (mm_s1 rfl mm_s0))
set_option maxRecDepth 100000 in
set_option maxHeartbeats 4000000 in
theorem c_leaveOut {S : mm_S} {I : mm_I} {a n r b : Nat} {v : Nat → Nat} (hB : mm_bar S a) (hv : wv_at I a n r v) (hn : n ≤ 12) (hb : b < n) (hz : ∀ k, n ≤ k → v k = 0) : mm_cv mX0_leaveOut [.ref a, .int (nI b)] S I (fun J => J = mm_wr (mm_row I (a + 1) 12 (fun k => nI (w_del v b k))) a 1 (nI (n - 1))) := by
  obtain ⟨hk, hp, hkw⟩ := hB
  obtain ⟨h1, h2, h3⟩ := hv
  have hn1 : a ≠ a + 1 := by omega
  have e0 : mm_row I (a + 1) b (fun k => nI (w_del v b k)) = I := by
    funext c j
    unfold mm_row
    split
    · rename_i h
      rw [h.1, h3 j (by omega)]
      show nI (w_del v b j) = _
      unfold w_del
      rw [if_pos h.2]
    · rfl
  have el : ∀ i, b ≤ i → i < 11 → mm_row I (a + 1) i (fun k => nI (w_del v b k)) (a + 1) (i + 1) = nI (w_del v b i) := by
    intro i h4 h5
    rw [mm_row_out (by omega), h3 (i + 1) (by omega)]
    unfold w_del
    rw [if_neg (by omega)]
  have e12 : nI (w_del v b 11) = 0 := by
    unfold w_del
    rw [if_neg (by omega), hz 12 hn]
    rfl
  refine mm_cv.of okX0_leaveOut rfl (Nat.le_of_ble_eq_true rfl) (lv := [(0, .ref a), (1, .int (nI b))]) rfl ?_
  have loop : ∀ (t i : Nat), i + t = 11 → b ≤ i → mm_Gv mX0_leaveOut (fun J => J = mm_wr (mm_row I (a + 1) 12 (fun k => nI (w_del v b k))) a 1 (nI (n - 1))) 2 [(2, .int (nI i)), (0, .ref a)] [] S S (mm_row I (a + 1) i (fun k => nI (w_del v b k))) := by
    intro t
    induction t with
    | zero =>
      intro i hi hbi
      have hi11 : i = 11 := by omega
      subst hi11
      refine mm_iload_n dX0_leaveOut_2 rfl rfl ?_
      refine mm_if_lt 37 dX0_leaveOut_3 (by decide) (fun c_3 => absurd c_3 (nI_pos (by omega))) (fun c_3 => ?_)
      refine mm_iload_n dX0_leaveOut_6 rfl rfl ?_
      refine mm_iconst 1 dX0_leaveOut_7 rfl ?_
      refine mm_iadd dX0_leaveOut_8 ?_
      refine mm_tope (y := nI 12) (nI_1 11) ?_
      refine mm_aload_n dX0_leaveOut_9 rfl rfl ?_
      refine mm_getR dX0_leaveOut_10 fl_X0_9 rfl (by assumption) (by assumption) ?_
      refine mm_alen (t := 0) dX0_leaveOut_13 (by assumption) (by decide) 12 rfl ?_
      refine mm_icmp_ge 37 dX0_leaveOut_14 (by decide) (fun c_14 => ?_) (fun c_14 => absurd (nI_le (a := 12) (by omega) (by omega)) c_14)
      refine mm_aload_n dX0_leaveOut_37 rfl rfl ?_
      refine mm_getR dX0_leaveOut_38 fl_X0_9 rfl (by assumption) (by assumption) ?_
      refine mm_aload_n dX0_leaveOut_41 rfl rfl ?_
      refine mm_getR dX0_leaveOut_42 fl_X0_9 rfl (by assumption) (by assumption) ?_
      refine mm_alen (t := 0) dX0_leaveOut_45 (by assumption) (by decide) 12 rfl ?_
      refine mm_iconst 1 dX0_leaveOut_46 rfl ?_
      refine mm_isub dX0_leaveOut_47 ?_
      refine mm_tope (y := nI 11) rfl ?_
      refine mm_iconst 0 dX0_leaveOut_48 rfl ?_
      refine mm_iast dX0_leaveOut_49 (by assumption) (vp_in_nI (by omega) (by omega)) ?_
      rw [nI_clamp (by omega), ← e12]
      refine mm_G.i (mm_row_S (f := (fun k => nI (w_del v b k)))) ?_
      refine mm_aload_n dX0_leaveOut_50 rfl rfl ?_
      refine mm_dup dX0_leaveOut_51 rfl ?_
      refine mm_getI dX0_leaveOut_52 fl_X0_15 rfl (by assumption) ?_
      refine mm_tope (y := nI n) (by rw [mm_row_ne hn1]; exact h1) ?_
      refine mm_iconst 1 dX0_leaveOut_55 rfl ?_
      refine mm_isub dX0_leaveOut_56 ?_
      refine mm_tope (y := nI (n - 1)) (nI_m1 (by omega)) ?_
      refine mm_putI dX0_leaveOut_57 fl_X0_15 rfl rfl (by assumption) ?_
      refine mm_vret dX0_leaveOut_60 rfl ?_
      exact ⟨rfl, rfl, rfl⟩
    | succ t ih =>
      intro i hi hbi
      refine mm_iload_n dX0_leaveOut_2 rfl rfl ?_
      refine mm_if_lt 37 dX0_leaveOut_3 (by decide) (fun c_3 => absurd c_3 (nI_pos (by omega))) (fun c_3 => ?_)
      refine mm_iload_n dX0_leaveOut_6 rfl rfl ?_
      refine mm_iconst 1 dX0_leaveOut_7 rfl ?_
      refine mm_iadd dX0_leaveOut_8 ?_
      refine mm_tope (y := nI (i + 1)) (nI_1 i) ?_
      refine mm_aload_n dX0_leaveOut_9 rfl rfl ?_
      refine mm_getR dX0_leaveOut_10 fl_X0_9 rfl (by assumption) (by assumption) ?_
      refine mm_alen (t := 0) dX0_leaveOut_13 (by assumption) (by decide) 12 rfl ?_
      refine mm_icmp_ge 37 dX0_leaveOut_14 (by decide) (fun c_14 => absurd c_14 (nI_ge (b := 12) (by omega) (by omega))) (fun c_14 => ?_)
      refine mm_aload_n dX0_leaveOut_17 rfl rfl ?_
      refine mm_getR dX0_leaveOut_18 fl_X0_9 rfl (by assumption) (by assumption) ?_
      refine mm_iload_n dX0_leaveOut_21 rfl rfl ?_
      refine mm_aload_n dX0_leaveOut_22 rfl rfl ?_
      refine mm_getR dX0_leaveOut_23 fl_X0_9 rfl (by assumption) (by assumption) ?_
      refine mm_iload_n dX0_leaveOut_26 rfl rfl ?_
      refine mm_iconst 1 dX0_leaveOut_27 rfl ?_
      refine mm_iadd dX0_leaveOut_28 ?_
      refine mm_tope (y := nI (i + 1)) (nI_1 i) ?_
      refine mm_iald dX0_leaveOut_29 (by assumption) (vp_in_nI (by omega) (by omega)) ?_
      rw [nI_clamp (by omega), el i hbi (by omega)]
      refine mm_iast dX0_leaveOut_30 (by assumption) (vp_in_nI (by omega) (by omega)) ?_
      rw [nI_clamp (by omega)]
      refine mm_G.i (mm_row_S (f := (fun k => nI (w_del v b k)))) ?_
      refine mm_iinc 1 dX0_leaveOut_31 rfl rfl (Nat.le_of_ble_eq_true rfl) ?_
      rw [nI_1]
      refine mm_goto 2 dX0_leaveOut_34 (by decide) ?_
      exact mm_G.at (ih (i + 1) (by omega) (by omega)) (mm_s1 rfl (mm_s1 rfl mm_s0))
  refine mm_iload_n dX0_leaveOut_0 rfl rfl ?_
  refine mm_istore_n dX0_leaveOut_1 rfl (Nat.le_of_ble_eq_true rfl) ?_
  refine mm_G.i e0.symm ?_
  exact mm_G.at (loop (11 - b) b (by omega) (Nat.le_refl _)) (mm_s1 rfl (mm_s1 rfl mm_s0))
set_option maxRecDepth 100000 in
set_option maxHeartbeats 4000000 in
theorem c_takeSip {S : mm_S} {I : mm_I} {a n r b : Nat} {w : Nat → Nat} (hB : mm_bar S a) (hv : wv_at I a n r w) (ho : wv_ok n r w) (hb : b < n) (hw : 10 ≤ w b) : mm_cv mX0_takeSip [.ref a, .int (nI b)] S I (fun J => wv_at J a (w_sipN n w b) r (w_sip w b) ∧ ∀ c, c ≠ a → c ≠ a + 1 → J c = I c) := by
  have hB0 := hB
  obtain ⟨hk, hp, hkw⟩ := hB
  obtain ⟨h1, h2, h3⟩ := hv
  obtain ⟨o1, o2, o3, o4, o5⟩ := ho
  have hn1 : a ≠ a + 1 := by omega
  have b3 := o3 b
  refine mm_cv.of okX0_takeSip rfl (Nat.le_of_ble_eq_true rfl) (lv := [(0, .ref a), (1, .int (nI b))]) rfl ?_
  refine mm_iload_n dX0_takeSip_0 rfl rfl ?_
  refine mm_if_lt 21 dX0_takeSip_1 (by decide) (fun c_1 => absurd c_1 (nI_pos (by omega))) (fun c_1 => ?_)
  refine mm_iload_n dX0_takeSip_4 rfl rfl ?_
  refine mm_aload_n dX0_takeSip_5 rfl rfl ?_
  refine mm_getI dX0_takeSip_6 fl_X0_15 rfl (by assumption) ?_
  refine mm_tope (y := nI n) h1 ?_
  refine mm_icmp_ge 21 dX0_takeSip_9 (by decide) (fun c_9 => absurd c_9 (nI_ge (by omega) (by omega))) (fun c_9 => ?_)
  refine mm_iload_n dX0_takeSip_12 rfl rfl ?_
  refine mm_aload_n dX0_takeSip_13 rfl rfl ?_
  refine mm_getR dX0_takeSip_14 fl_X0_9 rfl (by assumption) (by assumption) ?_
  refine mm_alen (t := 0) dX0_takeSip_17 (by assumption) (by decide) 12 rfl ?_
  refine mm_icmp_lt 22 dX0_takeSip_18 (by decide) (fun c_18 => ?_) (fun c_18 => absurd (nI_lt (b := 12) (by omega) (by omega)) c_18)
  refine mm_aload_n dX0_takeSip_22 rfl rfl ?_
  refine mm_getR dX0_takeSip_23 fl_X0_9 rfl (by assumption) (by assumption) ?_
  refine mm_iload_n dX0_takeSip_26 rfl rfl ?_
  refine mm_dup2 dX0_takeSip_27 rfl rfl ?_
  refine mm_iald dX0_takeSip_28 (by assumption) (vp_in_nI (by omega) (by omega)) ?_
  rw [nI_clamp (by omega), h3 b (by omega)]
  refine mm_bipush 10 dX0_takeSip_29 rfl ?_
  refine mm_isub dX0_takeSip_31 ?_
  refine mm_tope (y := nI (w b - 10)) (pk_sub (b := 10) hw) ?_
  refine mm_iast dX0_takeSip_32 (by assumption) (vp_in_nI (by omega) (by omega)) ?_
  rw [nI_clamp (by omega)]
  refine mm_G.gen (P := fun J => (∀ k, k < 12 → J (a + 1) k = nI (if k = b then w b - 10 else w k)) ∧ ∀ c, c ≠ a + 1 → J c = I c) ⟨fun k hk => by by_cases e : k = b; (subst e; rw [mm_wr_s, if_pos rfl]); (rw [mm_wr_k e, if_neg e]; exact h3 k hk), fun c hc => mm_wr_row hc⟩ (fun J1 hJ => ?_)
  obtain ⟨j1, j2⟩ := hJ
  refine mm_aload_n dX0_takeSip_33 rfl rfl ?_
  refine mm_getR dX0_takeSip_34 fl_X0_9 rfl (by assumption) (by assumption) ?_
  refine mm_iload_n dX0_takeSip_37 rfl rfl ?_
  refine mm_iald dX0_takeSip_38 (by assumption) (vp_in_nI (by omega) (by omega)) ?_
  rw [nI_clamp (by omega), j1 b (by omega), if_pos rfl]
  refine mm_if_ne 47 dX0_takeSip_39 (by decide) (fun c_39 => ?_) (fun c_39 => ?_)
  · skip
    have hne : ¬ w b = 10 := fun e => c_39 (by rw [e]; rfl)
    refine mm_vret dX0_takeSip_47 rfl ?_
    first
      | exact ⟨rfl, rfl, ⟨by unfold w_sipN; rw [if_neg hne, j2 a hn1]; exact h1, by rw [j2 a hn1]; exact h2, fun k hk => by rw [j1 k hk]; unfold w_sip; rw [if_neg hne]; by_cases e : k = b; (subst e; simp); (simp [e])⟩, fun c h4 h5 => j2 c h5⟩
      | exact ⟨rfl, rfl, ⟨by unfold w_sipN; rw [if_pos he, mm_wr_s], by rw [mm_wr_k (by decide), mm_row_ne hn1, j2 a hn1]; exact h2, fun k hk => by rw [mm_wr_a (by omega), mm_row_in hk, hd]; unfold w_sip; rw [if_pos he]⟩, fun c h4 h5 => by rw [mm_wr_row h4, mm_row_ne h5]; exact j2 c h5⟩
  · skip
    have he : w b = 10 := by
      rcases Nat.eq_zero_or_pos (w b - 10) with e | e
      · omega
      · exact absurd c_39 (nI_ne0 e (by omega))
    refine mm_aload_n dX0_takeSip_42 rfl rfl ?_
    refine mm_iload_n dX0_takeSip_43 rfl rfl ?_
    refine mm_Vv (N := mX0_leaveOut) (ci := 0) (as := [_]) dX0_takeSip_44 lk_X0_30 okX0_leaveOut (by decide) rfl (by decide) rfl (by assumption) rfl (by decide) (c_leaveOut (v := fun k => if k = b then w b - 10 else w k) (n := n) (r := r) hB0 ⟨by rw [j2 a hn1]; exact h1, by rw [j2 a hn1]; exact h2, j1⟩ o1 hb (fun k hk => by show (if k = b then _ else _) = _; rw [if_neg (by omega)]; exact o5 k hk)) (fun J2 hJ2 => ?_)
    subst hJ2
    have hd : w_del (fun k => if k = b then w b - 10 else w k) b = w_del w b := by
      funext k
      unfold w_del
      by_cases h : k < b
      · simp only [if_pos h]; rw [if_neg (by omega)]
      · simp only [if_neg h]; rw [if_neg (by omega)]
    refine mm_vret dX0_takeSip_47 rfl ?_
    first
      | exact ⟨rfl, rfl, ⟨by unfold w_sipN; rw [if_neg hne, j2 a hn1]; exact h1, by rw [j2 a hn1]; exact h2, fun k hk => by rw [j1 k hk]; unfold w_sip; rw [if_neg hne]; by_cases e : k = b; (subst e; simp); (simp [e])⟩, fun c h4 h5 => j2 c h5⟩
      | exact ⟨rfl, rfl, ⟨by unfold w_sipN; rw [if_pos he, mm_wr_s], by rw [mm_wr_k (by decide), mm_row_ne hn1, j2 a hn1]; exact h2, fun k hk => by rw [mm_wr_a (by omega), mm_row_in hk, hd]; unfold w_sip; rw [if_pos he]⟩, fun c h4 h5 => by rw [mm_wr_row h4, mm_row_ne h5]; exact j2 c h5⟩
set_option maxRecDepth 100000 in
set_option maxHeartbeats 4000000 in
theorem c_canBeToppedUp {S : mm_S} {I : mm_I} {a n r : Nat} {w : Nat → Nat} (hB : mm_bar S a) (hv : wv_at I a n r w) (ho : wv_ok n r w) : mm_ci mX0_canBeToppedUp [.ref a] S I (fun q J => q = (if (w_find (fun k => decide (w k < 2250)) 0 (n - 1)).isSome = true then 1 else 0) ∧ J = I) := by
  obtain ⟨hk, hp, hkw⟩ := hB
  obtain ⟨h1, h2, h3⟩ := hv
  obtain ⟨o1, o2, o3, o4, o5⟩ := ho
  refine mm_ci.of okX0_canBeToppedUp rfl (Nat.le_of_ble_eq_true rfl) (lv := [(0, .ref a)]) rfl ?_
  have loop : ∀ (t i : Nat), i + t = n - 1 → w_find (fun k => decide (w k < 2250)) i t = w_find (fun k => decide (w k < 2250)) 0 (n - 1) → mm_Gi mX0_canBeToppedUp (fun q J => q = (if (w_find (fun k => decide (w k < 2250)) 0 (n - 1)).isSome = true then 1 else 0) ∧ J = I) 2 [(1, .int (nI i)), (0, .ref a)] [] S S I := by
    intro t
    induction t with
    | zero =>
      intro i hi hf
      refine mm_iload_n dX0_canBeToppedUp_2 rfl rfl ?_
      refine mm_aload_n dX0_canBeToppedUp_3 rfl rfl ?_
      refine mm_getI dX0_canBeToppedUp_4 fl_X0_15 rfl (by assumption) ?_
      refine mm_tope (y := nI n) h1 ?_
      refine mm_iconst 1 dX0_canBeToppedUp_7 rfl ?_
      refine mm_isub dX0_canBeToppedUp_8 ?_
      refine mm_icmp_ge 41 dX0_canBeToppedUp_9 (by decide) (fun c_9 => ?_) (fun c_9 => absurd ((nI_m1_le (by omega) (by omega)).mpr (by omega)) c_9)
      refine mm_iconst 0 dX0_canBeToppedUp_41 rfl ?_
      refine mm_zret dX0_canBeToppedUp_42 rfl (by first | exact Or.inl rfl | exact Or.inr rfl | assumption) ?_
      exact ⟨rfl, _, rfl, by rw [← hf]; rfl, rfl⟩
    | succ t ih =>
      intro i hi hf
      have a3 := o3 i
      refine mm_iload_n dX0_canBeToppedUp_2 rfl rfl ?_
      refine mm_aload_n dX0_canBeToppedUp_3 rfl rfl ?_
      refine mm_getI dX0_canBeToppedUp_4 fl_X0_15 rfl (by assumption) ?_
      refine mm_tope (y := nI n) h1 ?_
      refine mm_iconst 1 dX0_canBeToppedUp_7 rfl ?_
      refine mm_isub dX0_canBeToppedUp_8 ?_
      refine mm_icmp_ge 41 dX0_canBeToppedUp_9 (by decide) (fun c_9 => absurd c_9 (fun q => absurd ((nI_m1_le (by omega) (by omega)).mp q) (by omega))) (fun c_9 => ?_)
      refine mm_iload_n dX0_canBeToppedUp_12 rfl rfl ?_
      refine mm_aload_n dX0_canBeToppedUp_13 rfl rfl ?_
      refine mm_getR dX0_canBeToppedUp_14 fl_X0_9 rfl (by assumption) (by assumption) ?_
      refine mm_alen (t := 0) dX0_canBeToppedUp_17 (by assumption) (by decide) 12 rfl ?_
      refine mm_icmp_ge 41 dX0_canBeToppedUp_18 (by decide) (fun c_18 => absurd c_18 (nI_ge (b := 12) (by omega) (by omega))) (fun c_18 => ?_)
      refine mm_aload_n dX0_canBeToppedUp_21 rfl rfl ?_
      refine mm_getR dX0_canBeToppedUp_22 fl_X0_9 rfl (by assumption) (by assumption) ?_
      refine mm_iload_n dX0_canBeToppedUp_25 rfl rfl ?_
      refine mm_iald dX0_canBeToppedUp_26 (by assumption) (vp_in_nI (by omega) (by omega)) ?_
      rw [nI_clamp (by omega), h3 i (by omega)]
      refine mm_sipush 2250 dX0_canBeToppedUp_27 rfl ?_
      refine mm_icmp_ge 35 dX0_canBeToppedUp_30 (by decide) (fun c_30 => ?_) (fun c_30 => ?_)
      · skip
        have hge : ¬ w i < 2250 := fun q => absurd c_30 (nI_ge (b := 2250) q (by omega))
        have hf2 : w_find (fun k => decide (w k < 2250)) (i + 1) t = w_find (fun k => decide (w k < 2250)) 0 (n - 1) := by rw [← hf]; show _ = if _ then _ else _; rw [if_neg (by simp; omega)]
        refine mm_iinc 1 dX0_canBeToppedUp_35 rfl rfl (Nat.le_of_ble_eq_true rfl) ?_
        rw [nI_1]
        refine mm_goto 2 dX0_canBeToppedUp_38 (by decide) ?_
        exact mm_G.at (ih (i + 1) (by omega) hf2) (mm_s1 rfl (mm_s1 rfl mm_s0))
      · skip
        have hlt : w i < 2250 := Nat.not_le.mp fun q => c_30 (nI_le (a := 2250) q (by omega))
        have hf2 : w_find (fun k => decide (w k < 2250)) 0 (n - 1) = some i := by rw [← hf]; show (if _ then _ else _) = _; rw [if_pos (by simp; omega)]
        refine mm_iconst 1 dX0_canBeToppedUp_33 rfl ?_
        refine mm_zret dX0_canBeToppedUp_34 rfl (by first | exact Or.inl rfl | exact Or.inr rfl | assumption) ?_
        exact ⟨rfl, _, rfl, by rw [hf2]; rfl, rfl⟩
  refine mm_iconst 0 dX0_canBeToppedUp_0 rfl ?_
  refine mm_istore_n dX0_canBeToppedUp_1 rfl (Nat.le_of_ble_eq_true rfl) ?_
  exact mm_G.at (loop (n - 1) 0 (by omega) rfl) (mm_s1 rfl (mm_s1 rfl mm_s0))
set_option maxRecDepth 100000 in
set_option maxHeartbeats 4000000 in
theorem c_topUp {S : mm_S} {I : mm_I} {a n r : Nat} {w : Nat → Nat} (hB : mm_bar S a) (hv : wv_at I a n r w) (ho : wv_ok n r w) : mm_cv mX0_topUp [.ref a] S I (fun J => wv_at J a (w_top 24 0 n w).1 r (w_top 24 0 n w).2 ∧ wv_ok (w_top 24 0 n w).1 r (w_top 24 0 n w).2 ∧ ∀ c, c ≠ a → c ≠ a + 1 → J c = I c) := by
  have hn1 : a ≠ a + 1 := by omega
  obtain ⟨hk, hp, hkw⟩ := hB
  refine mm_cv.of okX0_topUp rfl (Nat.le_of_ble_eq_true rfl) (lv := [(0, .ref a)]) rfl ?_
  have loop : ∀ (f t x m : Nat) (v : Nat → Nat) (I1 : mm_I), t + f = 24 → wv_at I1 a m r v → wv_ok m r v → x ≤ 12 → w_top f x m v = w_top 24 0 n w → (∀ c, c ≠ a → c ≠ a + 1 → I1 c = I c) → mm_Gv mX0_topUp (fun J => wv_at J a (w_top 24 0 n w).1 r (w_top 24 0 n w).2 ∧ wv_ok (w_top 24 0 n w).1 r (w_top 24 0 n w).2 ∧ ∀ c, c ≠ a → c ≠ a + 1 → J c = I c) 4 [(2, .int (nI t)), (1, .int (nI x)), (0, .ref a)] [] S S I1 := by
    intro f
    induction f with
    | zero =>
      intro t x m v I1 ht hv1 ho1 hx hf hfr
      refine mm_iload_n dX0_topUp_4 rfl rfl ?_
      refine mm_bipush 24 dX0_topUp_5 rfl ?_
      refine mm_icmp_ge 122 dX0_topUp_7 (by decide) (fun c_7 => ?_) (fun c_7 => absurd (nI_le (a := 24) (by omega) (by omega)) c_7)
      refine mm_vret dX0_topUp_122 rfl ?_
      exact ⟨rfl, rfl, by rw [← hf]; exact hv1, by rw [← hf]; exact ho1, hfr⟩
    | succ f ih =>
      intro t x m v I1 ht hv1 ho1 hx hf hfr
      have hoo := ho1
      obtain ⟨h1, h2, h3⟩ := hv1
      obtain ⟨o1, o2, o3, o4, o5⟩ := ho1
      have hin1 : ∀ i, i < 12 → vp_in (nI i) 12 := fun i h => vp_in_nI h (by omega)
      refine mm_iload_n dX0_topUp_4 rfl rfl ?_
      refine mm_bipush 24 dX0_topUp_5 rfl ?_
      refine mm_icmp_ge 122 dX0_topUp_7 (by decide) (fun c_7 => absurd c_7 (nI_ge (b := 24) (by omega) (by omega))) (fun c_7 => ?_)
      refine mm_iload_n dX0_topUp_10 rfl rfl ?_
      refine mm_aload_n dX0_topUp_11 rfl rfl ?_
      refine mm_getI dX0_topUp_12 fl_X0_15 rfl (by assumption) ?_
      refine mm_tope (y := nI m) h1 ?_
      refine mm_iconst 1 dX0_topUp_15 rfl ?_
      refine mm_isub dX0_topUp_16 ?_
      refine mm_icmp_ge 122 dX0_topUp_17 (by decide) (fun c_17 => ?_) (fun c_17 => ?_)
      · skip
        have hle := (nI_m1_le (by omega) (by omega)).mp c_17
        have hf2 : (m, v) = w_top 24 0 n w := by rw [← hf]; show _ = if _ then _ else _; rw [if_neg (by omega)]
        refine mm_vret dX0_topUp_122 rfl ?_
        exact ⟨rfl, rfl, by rw [← hf2]; exact ⟨h1, h2, h3⟩, by rw [← hf2]; exact hoo, hfr⟩
      · skip
        have hlt : x + 1 < m := Nat.not_le.mp fun q => c_17 ((nI_m1_le (by omega) (by omega)).mpr q)
        have hf2 : w_top f (if w_pour x m v x < 2250 then x else x + 1) (if w_pour x m v (m - 1) = 0 then m - 1 else m) (w_pour x m v) = w_top 24 0 n w := by rw [← hf]; show _ = if _ then _ else _; rw [if_pos hlt]
        have hok := w_pour_ok hlt hoo
        have a1 := o3 x
        have a2 := o3 (m - 1)
        have hb1 : w_by x m v ≤ 2250 - v x := by unfold w_by; split <;> omega
        have hb2 : w_by x m v ≤ v (m - 1) := by unfold w_by; split <;> omega
        have hx1 := hin1 x (by omega)
        have hx2 := hin1 (m - 1) (by omega)
        refine mm_aload_n dX0_topUp_20 rfl rfl ?_
        refine mm_getI dX0_topUp_21 fl_X0_15 rfl (by assumption) ?_
        refine mm_tope (y := nI m) h1 ?_
        refine mm_aload_n dX0_topUp_24 rfl rfl ?_
        refine mm_getR dX0_topUp_25 fl_X0_9 rfl (by assumption) (by assumption) ?_
        refine mm_alen (t := 0) dX0_topUp_28 (by assumption) (by decide) 12 rfl ?_
        refine mm_icmp_gt 122 dX0_topUp_29 (by decide) (fun c_29 => absurd c_29 (fun q => absurd q (Int32.not_lt.mpr (nI_le (b := 12) (by omega) (by omega))))) (fun c_29 => ?_)
        refine mm_aload_n dX0_topUp_32 rfl rfl ?_
        refine mm_getI dX0_topUp_33 fl_X0_15 rfl (by assumption) ?_
        refine mm_tope (y := nI m) h1 ?_
        refine mm_iconst 1 dX0_topUp_36 rfl ?_
        refine mm_isub dX0_topUp_37 ?_
        refine mm_tope (y := nI (m - 1)) (nI_m1 (by omega)) ?_
        refine mm_istore_n dX0_topUp_38 rfl (Nat.le_of_ble_eq_true rfl) ?_
        refine mm_sipush 2250 dX0_topUp_39 rfl ?_
        refine mm_aload_n dX0_topUp_42 rfl rfl ?_
        refine mm_getR dX0_topUp_43 fl_X0_9 rfl (by assumption) (by assumption) ?_
        refine mm_iload_n dX0_topUp_46 rfl rfl ?_
        refine mm_iald dX0_topUp_47 (by assumption) (by assumption) ?_
        rw [nI_clamp (by omega), h3 x (by omega)]
        refine mm_isub dX0_topUp_48 ?_
        refine mm_tope (y := nI (2250 - v x)) (pk_sub (a := 2250) a1) ?_
        refine mm_aload_n dX0_topUp_49 rfl rfl ?_
        refine mm_getR dX0_topUp_50 fl_X0_9 rfl (by assumption) (by assumption) ?_
        refine mm_iload_n dX0_topUp_53 rfl rfl ?_
        refine mm_iald dX0_topUp_54 (by assumption) (by assumption) ?_
        rw [nI_clamp (by omega), h3 (m - 1) (by omega)]
        refine mm_min dX0_topUp_55 lk_X0_34 min_st ini_Math min_code (by decide) (by decide) (Nat.zero_le _) (Nat.zero_le _) ?_
        refine mm_tope (y := nI (w_by x m v)) (by unfold w_by; by_cases q : v (m - 1) < 2250 - v x; (rw [if_pos (nI_lt q (by omega)), if_pos q]); (rw [if_neg (nI_nlt (by omega) (by omega)), if_neg q])) ?_
        refine mm_istore dX0_topUp_58 (Nat.le_of_ble_eq_true rfl) ?_
        refine mm_aload_n dX0_topUp_60 rfl rfl ?_
        refine mm_getR dX0_topUp_61 fl_X0_9 rfl (by assumption) (by assumption) ?_
        refine mm_iload_n dX0_topUp_64 rfl rfl ?_
        refine mm_dup2 dX0_topUp_65 rfl rfl ?_
        refine mm_iald dX0_topUp_66 (by assumption) (by assumption) ?_
        rw [nI_clamp (by omega), h3 x (by omega)]
        refine mm_iload dX0_topUp_67 rfl ?_
        refine mm_iadd dX0_topUp_69 ?_
        refine mm_tope (y := nI (v x + w_by x m v)) (nI_add _ _) ?_
        refine mm_iast dX0_topUp_70 (by assumption) (by assumption) ?_
        rw [nI_clamp (by omega)]
        refine mm_aload_n dX0_topUp_71 rfl rfl ?_
        refine mm_getR dX0_topUp_72 fl_X0_9 rfl (by assumption) (by assumption) ?_
        refine mm_iload_n dX0_topUp_75 rfl rfl ?_
        refine mm_dup2 dX0_topUp_76 rfl rfl ?_
        refine mm_iald dX0_topUp_77 (by assumption) (by assumption) ?_
        rw [nI_clamp (by omega), mm_wr_k (by omega), h3 (m - 1) (by omega)]
        refine mm_iload dX0_topUp_78 rfl ?_
        refine mm_isub dX0_topUp_80 ?_
        refine mm_tope (y := nI (v (m - 1) - w_by x m v)) (pk_sub hb2) ?_
        refine mm_iast dX0_topUp_81 (by assumption) (by assumption) ?_
        rw [nI_clamp (by omega)]
        refine mm_G.gen (P := fun J => (∀ k, k < 12 → J (a + 1) k = nI (w_pour x m v k)) ∧ ∀ c, c ≠ a + 1 → J c = I1 c) ⟨fun k hk => by
            unfold w_pour
            by_cases e2 : k = m - 1
            · subst e2; rw [mm_wr_s, if_neg (by omega), if_pos rfl]
            · rw [mm_wr_k e2]
              by_cases e1 : k = x
              · subst e1; rw [mm_wr_s, if_pos rfl]
              · rw [mm_wr_k e1, if_neg e1, if_neg e2]; exact h3 k hk, fun c hc => by rw [mm_wr_row hc, mm_wr_row hc]⟩ (fun J1 hJ => ?_)
        obtain ⟨j1, j2⟩ := hJ
        have jp := hok.2.2.1
        have jp1 := jp (m - 1)
        have jp2 := jp x
        refine mm_aload_n dX0_topUp_82 rfl rfl ?_
        refine mm_getR dX0_topUp_83 fl_X0_9 rfl (by assumption) (by assumption) ?_
        refine mm_iload_n dX0_topUp_86 rfl rfl ?_
        refine mm_iald dX0_topUp_87 (by assumption) (by assumption) ?_
        rw [nI_clamp (by omega), j1 (m - 1) (by omega)]
        refine mm_if_ne 101 dX0_topUp_88 (by decide) (fun c_88 => ?_) (fun c_88 => ?_)
        · skip
          have hne : ¬ w_pour x m v (m - 1) = 0 := fun e => c_88 (by rw [e]; rfl)
          rw [if_neg hne] at hf2 hok
          have k1 : J1 a 1 = nI m := by rw [j2 a hn1]; exact h1
          have k2 : J1 a 2 = nI r := by rw [j2 a hn1]; exact h2
          have k4 : ∀ c, c ≠ a → c ≠ a + 1 → J1 c = I c := fun c q1 q2 => by rw [j2 c q2]; exact hfr c q1 q2
          refine mm_aload_n dX0_topUp_101 rfl rfl ?_
          refine mm_getR dX0_topUp_102 fl_X0_9 rfl (by assumption) (by assumption) ?_
          refine mm_iload_n dX0_topUp_105 rfl rfl ?_
          refine mm_iald dX0_topUp_106 (by assumption) (by assumption) ?_
          rw [nI_clamp (by omega), j1 x (by omega)]
          refine mm_sipush 2250 dX0_topUp_107 rfl ?_
          refine mm_icmp_lt 116 dX0_topUp_110 (by decide) (fun c_110 => ?_) (fun c_110 => ?_)
          · skip
            have hlt2 : w_pour x m v x < 2250 := Nat.not_le.mp fun q => nI_nlt (b := 2250) q (by omega) c_110
            rw [if_pos hlt2] at hf2
            refine mm_iinc 1 dX0_topUp_116 rfl rfl (Nat.le_of_ble_eq_true rfl) ?_
            rw [nI_1]
            refine mm_goto 4 dX0_topUp_119 (by decide) ?_
            exact mm_G.at (ih (t + 1) _ _ _ _ (by omega) ⟨k1, k2, j1⟩ hok (by omega) hf2 k4) (mm_s1 rfl (mm_s1 rfl (mm_s1 rfl mm_s0)))
          · skip
            have hge2 : ¬ w_pour x m v x < 2250 := fun q => c_110 (nI_lt (b := 2250) q (by omega))
            rw [if_neg hge2] at hf2
            refine mm_iinc 1 dX0_topUp_113 rfl rfl (Nat.le_of_ble_eq_true rfl) ?_
            rw [nI_1]
            refine mm_iinc 1 dX0_topUp_116 rfl rfl (Nat.le_of_ble_eq_true rfl) ?_
            rw [nI_1]
            refine mm_goto 4 dX0_topUp_119 (by decide) ?_
            exact mm_G.at (ih (t + 1) _ _ _ _ (by omega) ⟨k1, k2, j1⟩ hok (by omega) hf2 k4) (mm_s1 rfl (mm_s1 rfl (mm_s1 rfl mm_s0)))
        · skip
          have he : w_pour x m v (m - 1) = 0 := by
            rcases Nat.eq_zero_or_pos (w_pour x m v (m - 1)) with e | e
            · exact e
            · exact absurd c_88 (nI_ne0 e (by omega))
          rw [if_pos he] at hf2 hok
          refine mm_aload_n dX0_topUp_91 rfl rfl ?_
          refine mm_dup dX0_topUp_92 rfl ?_
          refine mm_getI dX0_topUp_93 fl_X0_15 rfl (by assumption) ?_
          refine mm_tope (y := nI m) (by rw [j2 a hn1]; exact h1) ?_
          refine mm_iconst 1 dX0_topUp_96 rfl ?_
          refine mm_isub dX0_topUp_97 ?_
          refine mm_tope (y := nI (m - 1)) (nI_m1 (by omega)) ?_
          refine mm_putI dX0_topUp_98 fl_X0_15 rfl rfl (by assumption) ?_
          have k1 : mm_wr J1 a 1 (nI (m - 1)) a 1 = nI (m - 1) := mm_wr_s
          have k2 : mm_wr J1 a 1 (nI (m - 1)) a 2 = nI r := by rw [mm_wr_k (by decide), j2 a hn1]; exact h2
          have k3 : ∀ k, k < 12 → mm_wr J1 a 1 (nI (m - 1)) (a + 1) k = nI (w_pour x m v k) := fun k hk => by rw [mm_wr_a (Ne.symm hn1)]; exact j1 k hk
          have k4 : ∀ c, c ≠ a → c ≠ a + 1 → mm_wr J1 a 1 (nI (m - 1)) c = I c := fun c q1 q2 => by rw [mm_wr_row q1, j2 c q2]; exact hfr c q1 q2
          clear j2
          generalize mm_wr J1 a 1 (nI (m - 1)) = J1 at k1 k2 k3 k4 ⊢
          rename (∀ k, k < 12 → J1 (a + 1) k = nI (w_pour x m v k)) => j1
          refine mm_aload_n dX0_topUp_101 rfl rfl ?_
          refine mm_getR dX0_topUp_102 fl_X0_9 rfl (by assumption) (by assumption) ?_
          refine mm_iload_n dX0_topUp_105 rfl rfl ?_
          refine mm_iald dX0_topUp_106 (by assumption) (by assumption) ?_
          rw [nI_clamp (by omega), j1 x (by omega)]
          refine mm_sipush 2250 dX0_topUp_107 rfl ?_
          refine mm_icmp_lt 116 dX0_topUp_110 (by decide) (fun c_110 => ?_) (fun c_110 => ?_)
          · skip
            have hlt2 : w_pour x m v x < 2250 := Nat.not_le.mp fun q => nI_nlt (b := 2250) q (by omega) c_110
            rw [if_pos hlt2] at hf2
            refine mm_iinc 1 dX0_topUp_116 rfl rfl (Nat.le_of_ble_eq_true rfl) ?_
            rw [nI_1]
            refine mm_goto 4 dX0_topUp_119 (by decide) ?_
            exact mm_G.at (ih (t + 1) _ _ _ _ (by omega) ⟨k1, k2, j1⟩ hok (by omega) hf2 k4) (mm_s1 rfl (mm_s1 rfl (mm_s1 rfl mm_s0)))
          · skip
            have hge2 : ¬ w_pour x m v x < 2250 := fun q => c_110 (nI_lt (b := 2250) q (by omega))
            rw [if_neg hge2] at hf2
            refine mm_iinc 1 dX0_topUp_113 rfl rfl (Nat.le_of_ble_eq_true rfl) ?_
            rw [nI_1]
            refine mm_iinc 1 dX0_topUp_116 rfl rfl (Nat.le_of_ble_eq_true rfl) ?_
            rw [nI_1]
            refine mm_goto 4 dX0_topUp_119 (by decide) ?_
            exact mm_G.at (ih (t + 1) _ _ _ _ (by omega) ⟨k1, k2, j1⟩ hok (by omega) hf2 k4) (mm_s1 rfl (mm_s1 rfl (mm_s1 rfl mm_s0)))
  refine mm_iconst 0 dX0_topUp_0 rfl ?_
  refine mm_istore_n dX0_topUp_1 rfl (Nat.le_of_ble_eq_true rfl) ?_
  refine mm_iconst 0 dX0_topUp_2 rfl ?_
  refine mm_istore_n dX0_topUp_3 rfl (Nat.le_of_ble_eq_true rfl) ?_
  exact mm_G.at (loop 24 0 0 n w I rfl hv ho (by omega) rfl (fun _ _ _ => rfl)) (mm_s1 rfl (mm_s1 rfl (mm_s1 rfl mm_s0)))
set_option maxRecDepth 100000 in
set_option maxHeartbeats 4000000 in
theorem c_fill {S : mm_S} {I : mm_I} {a n : Nat} {r : Int32} (hB : mm_bar S a) (hn : n ≤ 12) : mm_cv mX0_fill [.ref a, .int (nI n), .int r] S I (fun J => J = mm_row (mm_wr (mm_wr I a 1 (nI n)) a 2 r) (a + 1) 12 (fun i => if i < n then 2250 else 0)) := by
  obtain ⟨hk, hp, hkw⟩ := hB
  refine mm_cv.of okX0_fill rfl (Nat.le_of_ble_eq_true rfl) (lv := [(0, .ref a), (1, .int (nI n)), (2, .int r)]) rfl ?_
  have loop : ∀ (t i : Nat), i + t = 12 → mm_Gv mX0_fill (fun J => J = mm_row (mm_wr (mm_wr I a 1 (nI n)) a 2 r) (a + 1) 12 (fun i => if i < n then 2250 else 0)) 12 [(3, .int (nI i)), (0, .ref a), (1, .int (nI n))] [] S S (mm_row (mm_wr (mm_wr I a 1 (nI n)) a 2 r) (a + 1) i (fun i => if i < n then 2250 else 0)) := by
    intro t
    induction t with
    | zero =>
      intro i hi
      refine mm_iload_n dX0_fill_12 rfl rfl ?_
      refine mm_aload_n dX0_fill_13 rfl rfl ?_
      refine mm_getR dX0_fill_14 fl_X0_9 rfl (by assumption) (by assumption) ?_
      refine mm_alen (t := 0) dX0_fill_17 (by assumption) (by decide) 12 rfl ?_
      refine mm_icmp_ge 45 dX0_fill_18 (by decide) (fun c_18 => ?_) (fun c_18 => absurd (nI_le (a := 12) (by omega) (by omega)) c_18)
      refine mm_vret dX0_fill_45 rfl ?_
      exact ⟨rfl, rfl, by rw [show i = 12 by omega]⟩
    | succ t ih =>
      intro i hi
      have hin : vp_in (nI i) 12 := vp_in_nI (by omega) (by omega)
      refine mm_iload_n dX0_fill_12 rfl rfl ?_
      refine mm_aload_n dX0_fill_13 rfl rfl ?_
      refine mm_getR dX0_fill_14 fl_X0_9 rfl (by assumption) (by assumption) ?_
      refine mm_alen (t := 0) dX0_fill_17 (by assumption) (by decide) 12 rfl ?_
      refine mm_icmp_ge 45 dX0_fill_18 (by decide) (fun c_18 => absurd c_18 (nI_ge (b := 12) (by omega) (by omega))) (fun c_18 => ?_)
      refine mm_aload_n dX0_fill_21 rfl rfl ?_
      refine mm_getR dX0_fill_22 fl_X0_9 rfl (by assumption) (by assumption) ?_
      refine mm_iload_n dX0_fill_25 rfl rfl ?_
      refine mm_iload_n dX0_fill_26 rfl rfl ?_
      refine mm_iload_n dX0_fill_27 rfl rfl ?_
      refine mm_icmp_ge 37 dX0_fill_28 (by decide) (fun c_28 => ?_) (fun c_28 => ?_)
      · skip
        have hq : (fun i => if i < n then 2250 else 0) i = (0 : Int32) := if_neg (fun q => absurd c_28 (nI_ge q (by omega)))
        refine mm_iconst 0 dX0_fill_37 rfl ?_
        refine mm_tope (y := (fun i => if i < n then 2250 else 0) i) hq.symm ?_
        refine mm_iast dX0_fill_38 (by assumption) (by assumption) ?_
        rw [nI_clamp (by omega)]
        refine mm_G.i (mm_row_S (f := (fun i => if i < n then 2250 else 0))) ?_
        refine mm_iinc 1 dX0_fill_39 rfl rfl (Nat.le_of_ble_eq_true rfl) ?_
        rw [nI_1]
        refine mm_goto 12 dX0_fill_42 (by decide) ?_
        exact mm_G.at (ih (i + 1) (by omega)) (mm_s1 rfl (mm_s1 rfl (mm_s1 rfl mm_s0)))
      · skip
        have hq : (fun i => if i < n then 2250 else 0) i = (2250 : Int32) := if_pos (Nat.not_le.mp fun q => c_28 (nI_le q (by omega)))
        refine mm_sipush 2250 dX0_fill_31 rfl ?_
        refine mm_tope (y := (fun i => if i < n then 2250 else 0) i) hq.symm ?_
        refine mm_goto 38 dX0_fill_34 (by decide) ?_
        refine mm_iast dX0_fill_38 (by assumption) (by assumption) ?_
        rw [nI_clamp (by omega)]
        refine mm_G.i (mm_row_S (f := (fun i => if i < n then 2250 else 0))) ?_
        refine mm_iinc 1 dX0_fill_39 rfl rfl (Nat.le_of_ble_eq_true rfl) ?_
        rw [nI_1]
        refine mm_goto 12 dX0_fill_42 (by decide) ?_
        exact mm_G.at (ih (i + 1) (by omega)) (mm_s1 rfl (mm_s1 rfl (mm_s1 rfl mm_s0)))
  refine mm_aload_n dX0_fill_0 rfl rfl ?_
  refine mm_iload_n dX0_fill_1 rfl rfl ?_
  refine mm_putI dX0_fill_2 fl_X0_15 rfl rfl (by assumption) ?_
  refine mm_aload_n dX0_fill_5 rfl rfl ?_
  refine mm_iload_n dX0_fill_6 rfl rfl ?_
  refine mm_putI dX0_fill_7 fl_X0_19 rfl rfl (by assumption) ?_
  refine mm_iconst 0 dX0_fill_10 rfl ?_
  refine mm_istore_n dX0_fill_11 rfl (Nat.le_of_ble_eq_true rfl) ?_
  refine mm_G.i (mm_row_0 (b := a + 1) (f := (fun i => if i < n then 2250 else 0))).symm ?_
  exact mm_G.at (loop 12 0 (by omega)) (mm_s1 rfl (mm_s1 rfl (mm_s1 rfl mm_s0)))
set_option maxRecDepth 100000 in
set_option maxHeartbeats 4000000 in
theorem c_copyBarrels {S : mm_S} {I : mm_I} {a b : Nat} (hA : mm_bar S a) (hB : mm_bar S b) (hab : b ≠ a + 1) : mm_cv mX0_copyBarrels [.ref a, .ref b] S I (fun J => J = mm_wr (mm_wr (mm_row I (a + 1) 12 (I (b + 1))) a 1 (I b 1)) a 2 (I b 2)) := by
  obtain ⟨hk, hp, hkw⟩ := hA
  obtain ⟨gk, gp, gkw⟩ := hB
  refine mm_cv.of okX0_copyBarrels rfl (Nat.le_of_ble_eq_true rfl) (lv := [(0, .ref a), (1, .ref b)]) rfl ?_
  refine mm_aload_n dX0_copyBarrels_0 rfl rfl ?_
  refine mm_getR dX0_copyBarrels_1 fl_X0_9 rfl (by assumption) (by assumption) ?_
  refine mm_aload_n dX0_copyBarrels_4 rfl rfl ?_
  refine mm_getR dX0_copyBarrels_5 fl_X0_9 rfl (by assumption) (by assumption) ?_
  refine mm_SNv (N := mX7_copyRow) (as := [_, _]) dX0_copyBarrels_8 lk_X0_22 okX7_copyRow (by decide) rfl rfl (by decide) (c_copyRow gkw hkw (by omega)) (fun J1 hJ => ?_)
  subst hJ
  refine mm_aload_n dX0_copyBarrels_11 rfl rfl ?_
  refine mm_aload_n dX0_copyBarrels_12 rfl rfl ?_
  refine mm_getI dX0_copyBarrels_13 fl_X0_15 rfl (by assumption) ?_
  rw [mm_row_ne hab]
  refine mm_putI dX0_copyBarrels_16 fl_X0_15 rfl rfl (by assumption) ?_
  refine mm_aload_n dX0_copyBarrels_19 rfl rfl ?_
  refine mm_aload_n dX0_copyBarrels_20 rfl rfl ?_
  refine mm_getI dX0_copyBarrels_21 fl_X0_19 rfl (by assumption) ?_
  rw [mm_wr_k (by decide), mm_row_ne hab]
  refine mm_putI dX0_copyBarrels_24 fl_X0_19 rfl rfl (by assumption) ?_
  refine mm_vret dX0_copyBarrels_27 rfl ?_
  exact ⟨rfl, rfl, rfl⟩
