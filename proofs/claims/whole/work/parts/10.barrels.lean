/-! WINE: what a barrel loses, lists of barrels as functions on places -/
def wb_step (r w : Nat) : Nat := w - (if w < 1800 then 2 * (w * r / 1000) else w * r / 1000)
def wb_it (r : Nat) : Nat → Nat → Nat
  | 0, w => w
  | n + 1, w => wb_it r n (wb_step r w)
def ws_sum (w : Nat → Nat) : Nat → Nat
  | 0 => 0
  | n + 1 => ws_sum w n + w n
theorem wb_loss_le {r w : Nat} (hr : r ≤ 50) : 20 * (w * r / 1000) ≤ w := by
  have h1 : w * r ≤ w * 50 := Nat.mul_le_mul_left w hr
  have h2 : w * r / 1000 * 1000 ≤ w * r := Nat.div_mul_le_self _ _
  omega
theorem wb_step_le {r w : Nat} : wb_step r w ≤ w := Nat.sub_le _ _
theorem wb_step_pos {r w : Nat} (hr : r ≤ 50) (hw : 0 < w) : 0 < wb_step r w := by
  have h := wb_loss_le (w := w) hr
  unfold wb_step
  split <;> omega
theorem wb_step_0 {r w : Nat} (h : w * r / 1000 = 0) : wb_step r w = w := by
  unfold wb_step
  simp [h]
theorem wb_it_0 {r w : Nat} (h : w * r / 1000 = 0) : ∀ n, wb_it r n w = w
  | 0 => rfl
  | n + 1 => by
    show wb_it r n (wb_step r w) = w
    rw [wb_step_0 h]
    exact wb_it_0 h n
theorem wb_it_le {r : Nat} : ∀ (n w : Nat), wb_it r n w ≤ w
  | 0, w => Nat.le_refl w
  | n + 1, w => Nat.le_trans (wb_it_le n _) wb_step_le
theorem wb_it_pos {r : Nat} (hr : r ≤ 50) : ∀ (n w : Nat), 0 < w → 0 < wb_it r n w
  | 0, _, h => h
  | n + 1, w, h => wb_it_pos hr n _ (wb_step_pos hr h)
theorem wb_it_add {r : Nat} : ∀ (n m w : Nat), wb_it r (n + m) w = wb_it r m (wb_it r n w)
  | 0, m, w => by rw [Nat.zero_add]; rfl
  | n + 1, m, w => by
    rw [Nat.add_right_comm]
    exact wb_it_add n m _
theorem ws_sum_le {w : Nat → Nat} {b : Nat} : ∀ n, (∀ k, k < n → w k ≤ b) → ws_sum w n ≤ n * b
  | 0, _ => Nat.zero_le _
  | n + 1, h => by
    have h1 := ws_sum_le (w := w) (b := b) n (fun k hk => h k (Nat.lt_succ_of_lt hk))
    have h2 := h n (Nat.lt_succ_self n)
    rw [Nat.succ_mul]
    exact Nat.add_le_add h1 h2
theorem ws_sum_congr {v w : Nat → Nat} : ∀ n, (∀ k, k < n → v k = w k) → ws_sum v n = ws_sum w n
  | 0, _ => rfl
  | n + 1, h => by
    show ws_sum v n + v n = ws_sum w n + w n
    rw [ws_sum_congr n (fun k hk => h k (Nat.lt_succ_of_lt hk)), h n (Nat.lt_succ_self n)]
theorem ws_sum_mono {v w : Nat → Nat} : ∀ n, (∀ k, k < n → v k ≤ w k) → ws_sum v n ≤ ws_sum w n
  | 0, _ => Nat.le_refl _
  | n + 1, h => Nat.add_le_add (ws_sum_mono n (fun k hk => h k (Nat.lt_succ_of_lt hk))) (h n (Nat.lt_succ_self n))
theorem ws_sum_0 {w : Nat → Nat} {n : Nat} : ∀ m, n ≤ m → (∀ k, n ≤ k → k < m → w k = 0) → ws_sum w m = ws_sum w n
  | 0, h, _ => by rw [Nat.le_zero.mp h]
  | m + 1, h, hz => by
    rcases Nat.lt_or_ge n (m + 1) with h1 | h1
    · show ws_sum w m + w m = _
      rw [hz m (by omega) (Nat.lt_succ_self m), ws_sum_0 m (by omega) (fun k h2 h3 => hz k h2 (Nat.lt_succ_of_lt h3))]
      rfl
    · rw [Nat.le_antisymm h h1]
-- shapes
def mm_bar (S : mm_S) (a : Nat) : Prop := (S.2.1 a).1 = 0 ∧ S.2.2 a 0 = some (a + 1) ∧ S.2.1 (a + 1) = (9, 12)
/-- a lot's barrels: n of them, with w, a rate r -/
def wv_at (I : mm_I) (a n r : Nat) (w : Nat → Nat) : Prop := I a 1 = nI n ∧ I a 2 = nI r ∧ ∀ k, k < 12 → I (a + 1) k = nI (w k)
/-- what holds of wine: at most 12 barrels, 2250 each, none behind the last -/
def wv_ok (n r : Nat) (w : Nat → Nat) : Prop := n ≤ 12 ∧ r ≤ 50 ∧ (∀ k, w k ≤ 2250) ∧ (∀ k, k < n → 0 < w k) ∧ ∀ k, n ≤ k → w k = 0

set_option maxRecDepth 100000 in
set_option maxHeartbeats 4000000 in
theorem c_wineBehind {S : mm_S} {I : mm_I} {a r w m : Nat} (hk : (S.2.1 a).1 = 0) (hr : I a 2 = nI r) (hr5 : r ≤ 50) (hw : w ≤ 2250) (hm : m < 1000) : mm_ci mX0_wineBehind [.ref a, .int (nI w), .int (nI m)] S I (fun q J => q = nI (wb_it r m w) ∧ J = I) := by
  refine mm_ci.of okX0_wineBehind rfl (Nat.le_of_ble_eq_true rfl) (lv := [(0, .ref a), (1, .int (nI w)), (2, .int (nI m))]) rfl ?_
  have loop : ∀ (n x i : Nat), i + n = m → x ≤ 2250 → wb_it r n x = wb_it r m w → mm_Gi mX0_wineBehind (fun q J => q = nI (wb_it r m w) ∧ J = I) 5 [(4, .int (nI i)), (3, .int (nI x)), (0, .ref a), (2, .int (nI m))] [] S S I := by
    intro n
    induction n with
    | zero =>
      intro x i hi hx hv
      refine mm_iload dX0_wineBehind_5 rfl ?_
      refine mm_iload_n dX0_wineBehind_7 rfl rfl ?_
      refine mm_icmp_ge 56 dX0_wineBehind_8 (by decide) (fun c_8 => ?_) (fun c_8 => absurd (nI_le (by omega) (by omega)) c_8)
      refine mm_iload_n dX0_wineBehind_56 rfl rfl ?_
      refine mm_iret dX0_wineBehind_57 rfl ?_
      exact ⟨rfl, _, rfl, by rw [← hv]; rfl, rfl⟩
    | succ n ih =>
      intro x i hi hx hv
      have hmul : x * r ≤ 2250 * 50 := Nat.mul_le_mul hx hr5
      have hl := wb_loss_le (w := x) hr5
      refine mm_iload dX0_wineBehind_5 rfl ?_
      refine mm_iload_n dX0_wineBehind_7 rfl rfl ?_
      refine mm_icmp_ge 56 dX0_wineBehind_8 (by decide) (fun c_8 => absurd c_8 (nI_ge (by omega) (by omega))) (fun c_8 => ?_)
      refine mm_iload_n dX0_wineBehind_11 rfl rfl ?_
      refine mm_aload_n dX0_wineBehind_12 rfl rfl ?_
      refine mm_getI dX0_wineBehind_13 fl_X0_19 rfl (by assumption) ?_
      refine mm_imul dX0_wineBehind_16 ?_
      refine mm_sipush 1000 dX0_wineBehind_17 rfl ?_
      refine mm_idiv dX0_wineBehind_20 (by decide) ?_
      refine mm_tope (y := nI (x * r / 1000)) (by rw [hr, pk_mul]; exact pk_div (d := 1000) (by omega) (by omega) (by omega)) ?_
      refine mm_istore dX0_wineBehind_21 (Nat.le_of_ble_eq_true rfl) ?_
      refine mm_iload dX0_wineBehind_23 rfl ?_
      refine mm_if_ne 31 dX0_wineBehind_25 (by decide) (fun c_25 => ?_) (fun c_25 => ?_)
      · skip
        have hne : x * r / 1000 ≠ 0 := fun e => c_25 (by rw [e]; rfl)
        refine mm_iload_n dX0_wineBehind_31 rfl rfl ?_
        refine mm_iload_n dX0_wineBehind_32 rfl rfl ?_
        refine mm_sipush 1800 dX0_wineBehind_33 rfl ?_
        refine mm_icmp_ge 46 dX0_wineBehind_36 (by decide) (fun c_36 => ?_) (fun c_36 => ?_)
        · skip
          have hlt : ¬ x < 1800 := fun q => absurd c_36 (nI_ge (b := 1800) q (by omega))
          refine mm_iload dX0_wineBehind_46 rfl ?_
          refine mm_isub dX0_wineBehind_48 ?_
          refine mm_tope (y := nI (wb_step r x)) (by unfold wb_step; first | (rw [if_pos hlt, show (2 : Int32) = nI 2 from rfl, pk_mul]; exact pk_sub (by omega)) | (rw [if_neg hlt]; exact pk_sub (by omega))) ?_
          refine mm_istore_n dX0_wineBehind_49 rfl (Nat.le_of_ble_eq_true rfl) ?_
          refine mm_iinc 1 dX0_wineBehind_50 rfl rfl (Nat.le_of_ble_eq_true rfl) ?_
          rw [nI_1]
          refine mm_goto 5 dX0_wineBehind_53 (by decide) ?_
          exact mm_G.at (ih (wb_step r x) (i + 1) (by omega) (Nat.le_trans wb_step_le hx) hv) (mm_s1 rfl (mm_s1 rfl (mm_s1 rfl (mm_s1 rfl mm_s0))))
        · skip
          have hlt : x < 1800 := Nat.not_le.mp fun q => c_36 (nI_le (a := 1800) q (by omega))
          refine mm_iconst 2 dX0_wineBehind_39 rfl ?_
          refine mm_iload dX0_wineBehind_40 rfl ?_
          refine mm_imul dX0_wineBehind_42 ?_
          refine mm_goto 48 dX0_wineBehind_43 (by decide) ?_
          refine mm_isub dX0_wineBehind_48 ?_
          refine mm_tope (y := nI (wb_step r x)) (by unfold wb_step; first | (rw [if_pos hlt, show (2 : Int32) = nI 2 from rfl, pk_mul]; exact pk_sub (by omega)) | (rw [if_neg hlt]; exact pk_sub (by omega))) ?_
          refine mm_istore_n dX0_wineBehind_49 rfl (Nat.le_of_ble_eq_true rfl) ?_
          refine mm_iinc 1 dX0_wineBehind_50 rfl rfl (Nat.le_of_ble_eq_true rfl) ?_
          rw [nI_1]
          refine mm_goto 5 dX0_wineBehind_53 (by decide) ?_
          exact mm_G.at (ih (wb_step r x) (i + 1) (by omega) (Nat.le_trans wb_step_le hx) hv) (mm_s1 rfl (mm_s1 rfl (mm_s1 rfl (mm_s1 rfl mm_s0))))
      · skip
        have h0 : x * r / 1000 = 0 := by
          rcases Nat.eq_zero_or_pos (x * r / 1000) with e | e
          · exact e
          · exact absurd c_25 (nI_ne0 e (by omega))
        refine mm_goto 56 dX0_wineBehind_28 (by decide) ?_
        refine mm_iload_n dX0_wineBehind_56 rfl rfl ?_
        refine mm_iret dX0_wineBehind_57 rfl ?_
        exact ⟨rfl, _, rfl, by rw [← hv, wb_it_0 h0], rfl⟩
  refine mm_iload_n dX0_wineBehind_0 rfl rfl ?_
  refine mm_istore_n dX0_wineBehind_1 rfl (Nat.le_of_ble_eq_true rfl) ?_
  refine mm_iconst 0 dX0_wineBehind_2 rfl ?_
  refine mm_istore dX0_wineBehind_3 (Nat.le_of_ble_eq_true rfl) ?_
  exact mm_G.at (loop m w 0 (by omega) hw rfl) (mm_s1 rfl (mm_s1 rfl (mm_s1 rfl (mm_s1 rfl mm_s0))))
