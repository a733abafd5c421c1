/-! THE CLASS: the changes of an estate, one by one -/
def EA (I : mm_I) (e : Nat) (s : Nat → Int32) : Prop := est_at I e s ∧ ∀ l, l < 6 → sv s (9 + 20 * l) ≤ 12
theorem EA.of {I : mm_I} {e : Nat} {s : Nat → Int32} (hs : est_at I e s) (hi : Inv s) : EA I e s := ⟨hs, fun _ hl => inv_n hi hl⟩
theorem EA.int {I : mm_I} {e : Nat} {s : Nat → Int32} (k j : Nat) {z : Int32} (h : EA I e s) (hk : (k = 4 ∧ j = 0) ∨ (k = 5 ∧ j = 1) ∨ (k = 6 ∧ j = 135) ∨ (k = 7 ∧ j = 7) ∨ (k = 8 ∧ j = 8) ∨ (k = 9 ∧ j = 2) ∨ (k = 10 ∧ j = 3) ∨ (k = 11 ∧ j = 5)) : EA (mm_wr I e k z) e (upd s j z) :=
  ⟨est_intn h.2 h.1 hk, fun l hl => by rw [show sv (upd s j z) (9 + 20 * l) = sv s (9 + 20 * l) from sv_congr (if_neg (by omega))]; exact h.2 l hl⟩
theorem EA.row {I : mm_I} {e : Nat} {s : Nat → Int32} (l b f : Nat) {z : Int32} (h : EA I e s) (hl : l < 6) (hb : b < 6) (hf : f < 3) : EA (mm_wr I (e + 7 + 6 * l + 3 + f) b z) e (upd s (136 + 18 * b + 3 * l + f) z) := by
  have hu : ∀ j, j ≠ 136 + 18 * b + 3 * l + f → upd s (136 + 18 * b + 3 * l + f) z j = s j := fun j hj => if_neg hj
  have hr : ∀ c, c ≠ e + 7 + 6 * l + 3 + f → mm_wr I (e + 7 + 6 * l + 3 + f) b z c = I c := fun c hc => mm_wr_row hc
  have h9 : ∀ l', l' < 6 → sv (upd s (136 + 18 * b + 3 * l + f) z) (9 + 20 * l') = sv s (9 + 20 * l') := fun l' hl' => sv_congr (hu _ (by omega))
  refine ⟨?_, fun l' hl' => by rw [h9 l' hl']; exact h.2 l' hl'⟩
  obtain ⟨g1, g2, g3, g4, g5, g6⟩ := h.1.2.2.2.2 l hl
  have hw : ∀ g b', g < 3 → b' < 6 → I (e + 7 + 6 * l + 3 + g) b' = s (136 + 18 * b' + 3 * l + g) → mm_wr I (e + 7 + 6 * l + 3 + f) b z (e + 7 + 6 * l + 3 + g) b' = upd s (136 + 18 * b + 3 * l + f) z (136 + 18 * b' + 3 * l + g) := fun g b' hg hb' h0 => by
    by_cases e1 : g = f ∧ b' = b
    · obtain ⟨rfl, rfl⟩ := e1
      rw [mm_wr_s]
      exact (if_pos rfl).symm
    · rw [hu _ (by omega)]
      by_cases e2 : g = f
      · subst e2
        rw [mm_wr_k (by omega)]; exact h0
      · rw [hr _ (by omega)]; exact h0
  refine est_lotn h.2 h.1 hl (fun c hc => hr c (by omega)) ⟨?_, fun b' hb' => ?_, ?_, ?_, ?_, ?_⟩ (fun j h1 h2 h3 => hu j (by omega)) (fun l' h1 h2 b' h3 f' h4 => hu _ (by omega))
  · have v10 : sv (upd s (136 + 18 * b + 3 * l + f) z) (10 + 20 * l) = sv s (10 + 20 * l) := sv_congr (hu _ (by omega))
    have vw : sw (upd s (136 + 18 * b + 3 * l + f) z) l = sw s l := by
      funext k
      unfold sw
      rw [h9 l hl]
      have := h.2 l hl
      by_cases hk : k < sv s (9 + 20 * l)
      · rw [if_pos hk, if_pos hk]; exact sv_congr (hu _ (by omega))
      · rw [if_neg hk, if_neg hk]
    rw [h9 l hl, v10, vw]
    unfold wv_at
    rw [hr _ (by omega), hr _ (by omega)]
    exact g1
  · obtain ⟨q1, q2, q3⟩ := g2 b' hb'
    exact ⟨hw 0 b' (by omega) hb' q1, hw 1 b' (by omega) hb' (by rw [show 136 + 18 * b' + 3 * l + 1 = 137 + 18 * b' + 3 * l by omega]; exact q2) |>.trans (by rw [show 136 + 18 * b' + 3 * l + 1 = 137 + 18 * b' + 3 * l by omega]), hw 2 b' (by omega) hb' (by rw [show 136 + 18 * b' + 3 * l + 2 = 138 + 18 * b' + 3 * l by omega]; exact q3) |>.trans (by rw [show 136 + 18 * b' + 3 * l + 2 = 138 + 18 * b' + 3 * l by omega])⟩
  · rw [hr _ (by omega), hu _ (by omega)]; exact g3
  · rw [hr _ (by omega), hu _ (by omega)]; exact g4
  · rw [hr _ (by omega), hu _ (by omega)]; exact g5
  · rw [hr _ (by omega), hu _ (by omega)]; exact g6
/-- no lot has changed -/
theorem EA.out {I J : mm_I} {e : Nat} {s s' : Nat → Int32} (h : EA I e s) (hJ : ∀ c, e + 7 ≤ c → c < e + 43 → J c = I c) (hu : ∀ j, (9 ≤ j ∧ j < 129) ∨ (136 ≤ j ∧ j < 244) → s' j = s j) (h0 : J e 4 = s' 0 ∧ J e 5 = s' 1 ∧ J e 6 = s' 135 ∧ J e 7 = s' 7 ∧ J e 8 = s' 8 ∧ J e 9 = s' 2 ∧ J e 10 = s' 3 ∧ J e 11 = s' 5) (h1 : ∀ b, b < 6 → J (e + 2) b = s' (129 + b)) (h2 : J (e + 3) 1 = s' 6) (h3 : ∀ k, k < 72 → J (e + 3 + 1) k = s' (244 + k)) : EA J e s' :=
  ⟨⟨h0, h1, h2, h3, fun l hl => lot_at_congr (h.2 l hl) (fun f hf => hu _ (by omega)) (fun b hb f hf => hu _ (by omega)) (lot_at_I (fun c h1 h2 => hJ c (by omega) (by omega)) (h.1.2.2.2.2 l hl))⟩, fun l hl => by rw [show sv s' (9 + 20 * l) = sv s (9 + 20 * l) from sv_congr (hu _ (by omega))]; exact h.2 l hl⟩
theorem EA.acc {I : mm_I} {e : Nat} {s : Nat → Int32} (b : Nat) {z : Int32} (h : EA I e s) (hb : b < 6) : EA (mm_wr I (e + 2) b z) e (upd s (129 + b) z) := by
  have hu : ∀ j, j ≠ 129 + b → upd s (129 + b) z j = s j := fun j hj => if_neg hj
  have hr : ∀ c, c ≠ e + 2 → mm_wr I (e + 2) b z c = I c := fun c hc => mm_wr_row hc
  obtain ⟨⟨a4, a5, a6, a7, a8, a9, a10, a11⟩, q1, q2, q3, q4⟩ := h.1
  refine h.out (fun c h1 h2 => hr c (by omega)) (fun j hj => hu j (by omega)) ?_ (fun b' hb' => ?_) ?_ (fun k hk => ?_)
  · rw [hr e (by omega), hu 0 (by omega), hu 1 (by omega), hu 135 (by omega), hu 7 (by omega), hu 8 (by omega), hu 2 (by omega), hu 3 (by omega), hu 5 (by omega)]
    exact ⟨a4, a5, a6, a7, a8, a9, a10, a11⟩
  · by_cases e1 : b' = b
    · subst e1
      rw [mm_wr_s]; exact (if_pos rfl).symm
    · rw [mm_wr_k e1, hu _ (by omega)]; exact q1 b' hb'
  · rw [hr _ (by omega), hu _ (by omega)]; exact q2
  · rw [hr _ (by omega), hu _ (by omega)]; exact q3 k hk
theorem EA.book {I : mm_I} {e : Nat} {s : Nat → Int32} {k l b c m f : Int32} (h : EA I e s) : EA (mm_wr (mm_row I (e + 3 + 1) 72 (w_book (I (e + 3 + 1)) k l b c m f)) (e + 3) 1 (nI (if sv s 6 < 12 then sv s 6 + 1 else 12))) e (sp_enter s k l b c m f) := by
  have hu : ∀ j, j < 244 → j ≠ 6 → sp_enter s k l b c m f j = s j := fun j h1 h2 => sp_enter_at h1 h2
  have hr : ∀ q, q ≠ e + 3 → q ≠ e + 3 + 1 → mm_wr (mm_row I (e + 3 + 1) 72 (w_book (I (e + 3 + 1)) k l b c m f)) (e + 3) 1 (nI (if sv s 6 < 12 then sv s 6 + 1 else 12)) q = I q := fun q h1 h2 => by rw [mm_wr_row h1, mm_row_n h2]
  obtain ⟨⟨a4, a5, a6, a7, a8, a9, a10, a11⟩, q1, q2, q3, q4⟩ := h.1
  refine h.out (fun c h1 h2 => hr c (by omega) (by omega)) (fun j hj => hu j (by omega) (by omega)) ?_ (fun b' hb' => ?_) ?_ (fun k' hk' => ?_)
  · rw [hr e (by omega) (by omega), hu 0 (by omega) (by omega), hu 1 (by omega) (by omega), hu 135 (by omega) (by omega), hu 7 (by omega) (by omega), hu 8 (by omega) (by omega), hu 2 (by omega) (by omega), hu 3 (by omega) (by omega), hu 5 (by omega) (by omega)]
    exact ⟨a4, a5, a6, a7, a8, a9, a10, a11⟩
  · rw [hr _ (by omega) (by omega), hu _ (by omega) (by omega)]; exact q1 b' hb'
  · rw [mm_wr_s, sp_enter_6]
  · rw [mm_wr_row (by omega), mm_row_in hk']
    unfold sp_enter
    rw [if_pos ⟨by omega, by omega⟩, show 244 + k' - 244 = k' by omega]
    unfold w_book
    by_cases e6 : k' < 6
    · rw [if_pos e6, if_pos e6]
    · rw [if_neg e6, if_neg e6]; exact q3 (k' - 6) (by omega)
theorem upd_comm {s : Nat → Int32} {a b : Nat} {x y : Int32} (h : a ≠ b) : upd (upd s a x) b y = upd (upd s b y) a x := by
  funext j
  unfold upd
  by_cases e1 : j = a
  · subst e1; rw [if_neg h, if_pos rfl]; exact (if_pos rfl).symm
  · by_cases e2 : j = b
    · subst e2; rw [if_pos rfl, if_neg e1]; exact (if_pos rfl).symm
    · rw [if_neg e2, if_neg e1, if_neg e1]; exact (if_neg e2).symm
theorem enter_upd {s : Nat → Int32} {k l b c m f z : Int32} {j : Nat} (hj : j < 244) (h6 : j ≠ 6) : sp_enter (upd s j z) k l b c m f = upd (sp_enter s k l b c m f) j z := by
  have hs : sv (upd s j z) 6 = sv s 6 := sv_congr (if_neg (by omega))
  have hg : (fun i => upd s j z (244 + i)) = fun i => s (244 + i) := funext fun i => if_neg (by omega)
  funext i
  unfold sp_enter
  rw [hs, hg]
  by_cases e0 : i = j
  · subst e0
    rw [if_neg (by omega), if_neg h6]
    unfold upd
    rw [if_pos rfl, if_pos rfl]
  · show _ = (if i = j then _ else _)
    rw [if_neg e0]
    by_cases e1 : 244 ≤ i ∧ i < 316
    · rw [if_pos e1]; exact (if_pos e1).symm
    · rw [if_neg e1]
      refine Eq.trans ?_ (if_neg e1).symm
      by_cases e2 : i = 6
      · rw [if_pos e2, if_pos e2]
      · rw [if_neg e2, if_neg e2]; exact if_neg e0
/-- a cut and a place that it doesn't read -/
theorem cut1_upd {s : Nat → Int32} {l b c al j : Nat} {z : Int32} (hj : 7 ≤ j ∧ j < 129) : sp_cut1 (upd s j z) l b c al = upd (sp_cut1 s l b c al) j z := by
  have hu : ∀ i, i ≠ j → upd s j z i = s i := fun i hi => if_neg hi
  have h1 : sv (upd s j z) (136 + 18 * b + 3 * l) = sv s (136 + 18 * b + 3 * l) := sv_congr (hu _ (by omega))
  have h2 : sv (upd s j z) (137 + 18 * b + 3 * l) = sv s (137 + 18 * b + 3 * l) := sv_congr (hu _ (by omega))
  unfold sp_cut1 sp_goes
  rw [h1, h2, hu (129 + b) (by omega), hu 135 (by omega)]
  split
  · rfl
  · rw [upd_comm (a := j) (by omega), upd_comm (a := j) (by omega), upd_comm (a := j) (by omega), upd_comm (a := j) (by omega), enter_upd (by omega) (by omega)]
theorem cuts_upd {s : Nat → Int32} {l c al j : Nat} {z : Int32} (hj : 7 ≤ j ∧ j < 129) : ∀ n, sp_cuts (upd s j z) l c al n = upd (sp_cuts s l c al n) j z
  | 0 => rfl
  | n + 1 => by
    show sp_cut1 (sp_cuts (upd s j z) l c al n) l n c al = upd (sp_cut1 (sp_cuts s l c al n) l n c al) j z
    rw [cuts_upd hj n, cut1_upd hj]

set_option maxRecDepth 100000 in
set_option maxHeartbeats 4000000 in
theorem c_payEstate {S : mm_S} {I : mm_I} {e B : Nat} {s : Nat → Int32} {x : Int32} (hE : mm_est S e) (h5 : I e 5 = s 1) (hi : Inv s) (hB : B < sv s 1) : mm_cv mX2_payEstate [.ref e, .int (nI B), .int x] S I (fun J => J = mm_wr (mm_wr I (e + 2) B (I (e + 2) B - x)) e 6 (I e 6 + x)) := by
  have hE0 := hE
  obtain ⟨ek, ep0, ep1, ep2, ep3, ek1, ek2, ebk, ebar, elots⟩ := hE
  have h1 := hi.1.2.1
  have yb : 0 ≤ nI B ∧ nI B < s 1 := ⟨Int32.not_lt.mp (nI_pos (by omega)), by rw [h1.1]; exact nI_lt hB (by omega)⟩
  refine mm_cv.of okX2_payEstate rfl (Nat.le_of_ble_eq_true rfl) (lv := [(0, .ref e), (1, .int (nI B)), (2, .int x)]) rfl ?_
  refine mm_aload_n dX2_payEstate_0 rfl rfl ?_
  refine mm_iload_n dX2_payEstate_1 rfl rfl ?_
  refine mm_Vi (N := mX2_hasBuyer) (ci := 2) (as := [_]) dX2_payEstate_2 lk_X2_73 okX2_hasBuyer (by decide) rfl (by decide) rfl (by assumption) rfl (by decide) (c_hasBuyer hE0 h5 hi) (fun r1 J1 hq => ?_)
  obtain ⟨rfl, hJ⟩ := hq
  subst J1
  rw [if_pos yb]
  refine mm_if_eq 28 dX2_payEstate_5 (by decide) (fun c_5 => absurd c_5 (by decide)) (fun c_5 => ?_)
  refine mm_aload_n dX2_payEstate_8 rfl rfl ?_
  refine mm_getR dX2_payEstate_9 fl_X2_17 rfl (by assumption) (by assumption) ?_
  refine mm_iload_n dX2_payEstate_12 rfl rfl ?_
  refine mm_dup2 dX2_payEstate_13 rfl rfl ?_
  refine mm_iald dX2_payEstate_14 (by assumption) (vp_in_nI (by omega) (by omega)) ?_
  refine mm_iload_n dX2_payEstate_15 rfl rfl ?_
  refine mm_isub dX2_payEstate_16 ?_
  refine mm_iast dX2_payEstate_17 (by assumption) (vp_in_nI (by omega) (by omega)) ?_
  rw [nI_clamp (by omega)]
  refine mm_aload_n dX2_payEstate_18 rfl rfl ?_
  refine mm_dup dX2_payEstate_19 rfl ?_
  refine mm_getI dX2_payEstate_20 fl_X2_61 rfl (by assumption) ?_
  refine mm_tope (y := I e 6) (mm_wr_a (by omega)) ?_
  refine mm_iload_n dX2_payEstate_23 rfl rfl ?_
  refine mm_iadd dX2_payEstate_24 ?_
  refine mm_putI dX2_payEstate_25 fl_X2_61 rfl rfl (by assumption) ?_
  refine mm_vret dX2_payEstate_28 rfl ?_
  exact ⟨rfl, rfl, rfl⟩
set_option maxRecDepth 100000 in
set_option maxHeartbeats 4000000 in
theorem c_cutFutures {S : mm_S} {I : mm_I} {e L B h p c al en : Nat} {s u : Nat → Int32} {l : Int32} (hE : mm_est S e) (hu : EA I e u) (h5 : u 1 = s 1) (hi : Inv s) (hL : L < 6) (hl : l = nI L) (hB : B < sv s 1) (eh : u (136 + 18 * B + 3 * L) = nI h) (ep : u (137 + 18 * B + 3 * L) = nI p) (hh : h ≤ 300) (hp : p ≤ 999 * h) (ec : u (15 + 20 * L) = nI c) (hc : c ≤ 300) (hal : al ≤ 300) (h6 : u 6 = nI en) (hen : en ≤ 12) : mm_ci mX2_cutFutures [.ref e, .int l, .ref (e + 7 + 6 * L), .int (nI B), .int (nI al)] S I (fun q J => q = nI (w_cut h c al) ∧ EA J e (sp_cut1 u L B c al) ∧ e_fr e I J) := by
  have hE0 := hE
  obtain ⟨ek, ep0, ep1, ep2, ep3, ek1, ek2, ebk, ebar, elots⟩ := hE
  have hB6 : B < 6 := by have := hi.1.2.1.2; omega
  have hLt := (elots L hL).2
  have lk : (S.2.1 (e + 7 + 6 * L)).1 = 4 := hLt.1
  have hla := hu.1.2.2.2.2 L hL
  have e3 : I (e + 7 + 6 * L + 3) B = nI h := (hla.2.1 B hB6).1.trans eh
  have e4 : I (e + 7 + 6 * L + 4) B = nI p := (hla.2.1 B hB6).2.1.trans ep
  have e5 : I (e + 7 + 6 * L) 5 = nI c := hla.2.2.2.1.trans ec
  have vh := sv_of eh (by omega)
  have vp := sv_of ep (by omega)
  have v6 := sv_of h6 (by omega)
  have hk : (S.2.1 (e + 3)).1 = 1 := ebk.1
  subst hl
  refine mm_ci.of okX2_cutFutures rfl (Nat.le_of_ble_eq_true rfl) (lv := [(0, .ref e), (1, .int (nI L)), (2, .ref (e + 7 + 6 * L)), (3, .int (nI B)), (4, .int (nI al))]) rfl ?_
  refine mm_aload_n dX2_cutFutures_0 rfl rfl ?_
  refine mm_iload_n dX2_cutFutures_1 rfl rfl ?_
  refine mm_aload_n dX2_cutFutures_2 rfl rfl ?_
  refine mm_getI dX2_cutFutures_3 fl_X2_140 rfl (by assumption) ?_
  refine mm_tope (y := nI c) e5 ?_
  refine mm_iload dX2_cutFutures_6 rfl ?_
  refine mm_Vi (N := mX4_cutOf) (ci := 4) (as := [_, _, _]) dX2_cutFutures_8 lk_X2_143 okX4_cutOf (by decide) rfl (by decide) rfl (by assumption) rfl (by decide) (c_cutOf hLt hB6 e3 (by omega) (by omega) (by omega)) (fun r1 J1 hq => ?_)
  obtain ⟨rfl, hJ⟩ := hq
  subst J1
  refine mm_istore dX2_cutFutures_11 (Nat.le_of_ble_eq_true rfl) ?_
  refine mm_iload dX2_cutFutures_13 rfl ?_
  refine mm_if_le 51 dX2_cutFutures_15 (by decide) (fun c_15 => ?_) (fun c_15 => ?_)
  · skip
    have hz : w_cut h c al = 0 := Nat.eq_zero_of_not_pos fun q => absurd c_15 (nI_ge (b := w_cut h c al) (a := 0) q (by have := w_cut_le (h := h) (c := c) (al := al); omega))
    refine mm_iload dX2_cutFutures_51 rfl ?_
    refine mm_iret dX2_cutFutures_53 rfl ?_
    first
      | exact ⟨rfl, _, rfl, rfl, g3, (f1.tr f2).tr f3⟩
      | exact ⟨rfl, _, rfl, rfl, by rw [show sp_cut1 u L B c al = u from if_pos (by rw [vh]; exact hz)]; exact hu, e_fr.rf⟩
  · skip
    have hz : ¬ w_cut h c al = 0 := fun q => c_15 (by rw [q]; decide)
    have hle := w_cut_le (h := h) (c := c) (al := al)
    have hcut : sp_cut1 u L B c al = sp_enter (upd (upd (sp_goes u B L (w_cut h c al)) (129 + B) (u (129 + B) + nI (p * w_cut h c al / h))) 135 (u 135 - nI (p * w_cut h c al / h))) 2 (nI L) (nI B) (nI (w_cut h c al)) (nI (p * w_cut h c al / h)) (-2000000004) := by
      unfold sp_cut1
      rw [vh, vp, if_neg hz]
    have hgo : sp_goes u B L (w_cut h c al) = upd (upd u (136 + 18 * B + 3 * L) (nI (h - w_cut h c al))) (137 + 18 * B + 3 * L) (nI (p - p * w_cut h c al / h)) := by
      unfold sp_goes
      rw [vh, vp, upd_comm (by omega)]
    generalize w_cut h c al = K at hz hle hcut hgo ⊢
    generalize hX : p * K / h = X at hcut hgo ⊢
    refine mm_aload_n dX2_cutFutures_18 rfl rfl ?_
    refine mm_iload_n dX2_cutFutures_19 rfl rfl ?_
    refine mm_iload dX2_cutFutures_20 rfl ?_
    refine mm_Vi (N := mX4_takeBack) (ci := 4) (as := [_, _]) dX2_cutFutures_22 lk_X2_147 okX4_takeBack (by decide) rfl (by decide) rfl (by assumption) rfl (by decide) (c_takeBack hLt hB6 e3 e4 hle (by omega) (by omega)) (fun r2 J2 hq => ?_)
    rw [hX] at hq
    obtain ⟨rfl, hJ⟩ := hq
    have g1 : EA J2 e (sp_goes u B L K) := by
      rw [hgo, hJ]
      exact (hu.row L B 0 hL hB6 (by omega)).row L B 1 hL hB6 (by omega) |> fun q => by rw [show 136 + 18 * B + 3 * L + 1 = 137 + 18 * B + 3 * L by omega] at q; exact q
    have f1 : e_fr e I J2 := by rw [hJ]; exact (e_fr.rf.w (by omega) (by omega)).w (by omega) (by omega)
    clear hJ
    refine mm_istore dX2_cutFutures_25 (Nat.le_of_ble_eq_true rfl) ?_
    refine mm_aload_n dX2_cutFutures_27 rfl rfl ?_
    refine mm_iload_n dX2_cutFutures_28 rfl rfl ?_
    refine mm_iload dX2_cutFutures_29 rfl ?_
    refine mm_ineg dX2_cutFutures_31 ?_
    refine mm_Vv (N := mX2_payEstate) (ci := 2) (as := [_, _]) dX2_cutFutures_32 lk_X2_151 okX2_payEstate (by decide) rfl (by decide) rfl (by assumption) rfl (by decide) (c_payEstate (s := s) hE0 (g1.1.1.2.1.trans ((sp_goes_at (by omega) (by omega)).trans h5)) hi hB) (fun J3 hq => ?_)
    have g2 : EA J3 e (upd (upd (sp_goes u B L K) (129 + B) (u (129 + B) + nI X)) 135 (u 135 - nI X)) := by
      have a1 : J2 (e + 2) B = u (129 + B) := (g1.1.2.1 B hB6).trans (sp_goes_at (by omega) (by omega))
      have a2 : J2 e 6 = u 135 := g1.1.1.2.2.1.trans (sp_goes_at (by omega) (by omega))
      rw [hq, a1, a2, Int32.sub_neg, ← Int32.sub_eq_add_neg]
      exact (g1.acc B hB6).int 6 135 (by omega)
    have f2 : e_fr e J2 J3 := by rw [hq]; exact (e_fr.rf.w (by omega) (by omega)).w (by omega) (by omega)
    have h6b : (upd (upd (sp_goes u B L K) (129 + B) (u (129 + B) + nI X)) 135 (u 135 - nI X)) 6 = u 6 := by
      unfold upd
      rw [if_neg (by omega), if_neg (by omega), sp_goes_at (by omega) (by omega)]
    have v6b := sv_congr h6b
    generalize (upd (upd (sp_goes u B L K) (129 + B) (u (129 + B) + nI X)) 135 (u 135 - nI X)) = u2 at hcut g2 h6b v6b
    have b6 : J3 (e + 3) 1 = nI en := g2.1.2.2.1.trans (h6b.trans h6)
    clear hq
    refine mm_aload_n dX2_cutFutures_35 rfl rfl ?_
    refine mm_getR dX2_cutFutures_36 fl_X2_24 rfl (by assumption) (by assumption) ?_
    refine mm_iconst 2 dX2_cutFutures_39 rfl ?_
    refine mm_iload_n dX2_cutFutures_40 rfl rfl ?_
    refine mm_iload_n dX2_cutFutures_41 rfl rfl ?_
    refine mm_iload dX2_cutFutures_42 rfl ?_
    refine mm_iload dX2_cutFutures_44 rfl ?_
    refine mm_ldc dX2_cutFutures_46 ct_X2_154 ?_
    refine mm_Vv (N := mX1_write) (ci := 1) (as := [_, _, _, _, _, _]) dX2_cutFutures_48 lk_X2_155 okX1_write (by decide) rfl (by decide) rfl (by assumption) rfl (by decide) (c_write ebk b6 hen) (fun J4 hq => ?_)
    have g3 := g2.book (k := 2) (l := nI L) (b := nI B) (c := nI K) (m := nI X) (f := -2000000004)
    rw [v6b, v6, ← hq, ← hcut] at g3
    have f3 : e_fr e J3 J4 := fun d hd => by rw [hq, mm_wr_row (by omega), mm_row_n (by omega)]
    clear hq
    refine mm_iload dX2_cutFutures_51 rfl ?_
    refine mm_iret dX2_cutFutures_53 rfl ?_
    first
      | exact ⟨rfl, _, rfl, rfl, g3, (f1.tr f2).tr f3⟩
      | exact ⟨rfl, _, rfl, rfl, by rw [show sp_cut1 u L B c al = u from if_pos (by rw [vh]; exact hz)]; exact hu, e_fr.rf⟩
