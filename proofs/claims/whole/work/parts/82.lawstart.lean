/-! THE LAW FROM ITS ENTRY -/
theorem mm_wine.mono {S S' : mm_S} {w : Nat} (h : ∀ c, w ≤ c → c < w + 308 → S'.2.1 c = S.2.1 c ∧ S'.2.2 c = S.2.2 c) (g : mm_wine S w) : mm_wine S' w := by
  obtain ⟨g1, g2, g3, g4, g5, g6, g7, g8, g9⟩ := g
  have h0 := h w (by omega) (by omega)
  exact ⟨by rw [h0.1]; exact g1, by rw [h0.2]; exact g2, by rw [h0.2]; exact g3, by rw [h0.2]; exact g4, by rw [h0.2]; exact g5, g6.mono (fun c c1 c2 => h c (by omega) (by omega)), g7.mono (fun c c1 c2 => h c (by omega) (by omega)), g8.mono (fun c c1 c2 => h c (by omega) (by omega)), g9.mono (fun c c1 c2 => h c (by omega) (by omega))⟩
/-- the state of a new object -/
def s_new : Nat → Int32 := upd (upd (fun _ => 0) 7 10) 8 12
theorem s_new_z {j : Nat} (h : j ≠ 7 ∧ j ≠ 8) : s_new j = 0 := by
  unfold s_new upd
  rw [if_neg h.2, if_neg h.1]
theorem s_new_v {j : Nat} (h : j ≠ 7 ∧ j ≠ 8) : sv s_new j = 0 := sv_of (n := 0) (s_new_z h) (by omega)
theorem s_new_w {l : Nat} : sw s_new l = fun _ => 0 := by
  funext k
  exact if_neg (by rw [s_new_v (by omega)]; omega)
theorem ws_z {f : Nat → Nat} : ∀ n, (∀ k, k < n → f k = 0) → ws_sum f n = 0
  | 0, _ => rfl
  | n + 1, h => by
    show ws_sum f n + f n = 0
    rw [ws_z n (fun k hk => h k (by omega)), h n (by omega)]
theorem s_new_inv : Inv s_new := by
  have z : ∀ j, j ≠ 7 ∧ j ≠ 8 → s_new j = nI (sv s_new j) := fun j h => by rw [s_new_v h]; exact s_new_z h
  have h7 : sv s_new 7 = 10 := sv_of (n := 10) rfl (by omega)
  have h8 : sv s_new 8 = 12 := sv_of (n := 12) rfl (by omega)
  have hh : ∀ l, hsum s_new l = 0 := fun l => ws_z 6 (fun k hk => s_new_v (by omega))
  have hg : ∀ l, gsum s_new l = 0 := fun l => ws_z 6 (fun k hk => s_new_v (by omega))
  refine ⟨⟨⟨z 0 (by omega), by rw [s_new_v (by omega)]; omega⟩, ⟨z 1 (by omega), by rw [s_new_v (by omega)]; omega⟩, ⟨z 2 (by omega), by rw [s_new_v (by omega)]; omega⟩, ⟨z 6 (by omega), by rw [s_new_v (by omega)]; omega⟩, ⟨by rw [h7]; rfl, by rw [h7]; omega⟩, ⟨by rw [h8]; rfl, by rw [h8]; omega⟩⟩, fun l hl => ?_, fun l hl h0 => ⟨fun f hf => s_new_v (by omega), fun b hb f hf => s_new_v (by omega)⟩, fun b hb h0 => ⟨s_new_z (by omega), fun l hl f hf => s_new_v (by omega)⟩, ?_⟩
  · refine ⟨fun f hf => z _ (by omega), ?_, fun k hk => z _ (by omega), ⟨?_, ?_⟩, ⟨?_, fun q => ?_, fun q => ?_⟩, ⟨?_, ?_, ?_⟩, ⟨?_, fun q => ?_⟩, fun b hb => ⟨fun f hf => z _ (by omega), ?_⟩⟩
    · rw [s_new_v (by omega), s_new_v (by omega), s_new_w]
      exact ⟨by omega, by omega, fun k => Nat.zero_le _, fun k hk => absurd hk (Nat.not_lt_zero k), fun k hk => rfl⟩
    · rw [s_new_v (by omega)]; omega
    · rw [s_new_v (by omega), s_new_v (by omega)]
      show 10 * 0 + 0 ≤ 27000
      omega
    · rw [s_new_v (by omega)]; omega
    · rw [s_new_v (by omega)]
    · rw [s_new_v (by omega)]
    · rw [s_new_v (by omega), s_new_v (by omega), s_new_v (by omega)]
    · rw [s_new_v (by omega)]; omega
    · rw [s_new_v (by omega), hg]
    · rw [hh]; omega
    · rw [hh]; omega
    · rw [s_new_v (by omega), s_new_v (by omega)]; omega
  · rw [s_new_z (by omega), ws_z 6 (fun k hk => s_new_v (by omega))]
    rfl
theorem s_new_est {J : mm_I} {e : Nat} (h : ∀ c, e ≤ c → c < e + 43 → J c = mm_wr (mm_wr (fun _ _ => 0) e 7 10) e 8 12 c) : est_at J e s_new := by
  have h0 := h e (by omega) (by omega)
  have hz : ∀ c, e < c → c < e + 43 → ∀ k, J c k = 0 := fun c c1 c2 k => by rw [h c (by omega) c2, mm_wr_row (by omega), mm_wr_row (by omega)]
  have hk : ∀ k, k ≠ 7 → k ≠ 8 → J e k = 0 := fun k k1 k2 => by rw [h0, mm_wr_k k2, mm_wr_k k1]
  refine ⟨⟨?_, ?_, ?_, ?_, ?_, ?_, ?_, ?_⟩, fun b hb => ?_, ?_, fun k hk => ?_, fun l hl => ⟨⟨?_, ?_, fun k hk => ?_⟩, fun b hb => ⟨?_, ?_, ?_⟩, ?_, ?_, ?_, ?_⟩⟩
  · rw [hk 4 (by omega) (by omega)]; exact (s_new_z (by omega)).symm
  · rw [hk 5 (by omega) (by omega)]; exact (s_new_z (by omega)).symm
  · rw [hk 6 (by omega) (by omega)]; exact (s_new_z (by omega)).symm
  · rw [h0, mm_wr_k (by omega), mm_wr_s]; rfl
  · rw [h0, mm_wr_s]; rfl
  · rw [hk 9 (by omega) (by omega)]; exact (s_new_z (by omega)).symm
  · rw [hk 10 (by omega) (by omega)]; exact (s_new_z (by omega)).symm
  · rw [hk 11 (by omega) (by omega)]; exact (s_new_z (by omega)).symm
  · rw [hz _ (by omega) (by omega)]; exact (s_new_z (by omega)).symm
  · rw [hz _ (by omega) (by omega)]; exact (s_new_z (by omega)).symm
  · rw [hz _ (by omega) (by omega)]; exact (s_new_z (by omega)).symm
  · rw [hz _ (by omega) (by omega), s_new_v (by omega)]; rfl
  · rw [hz _ (by omega) (by omega), s_new_v (by omega)]; rfl
  · rw [hz _ (by omega) (by omega), s_new_w]; rfl
  · rw [hz _ (by omega) (by omega)]; exact (s_new_z (by omega)).symm
  · rw [hz _ (by omega) (by omega)]; exact (s_new_z (by omega)).symm
  · rw [hz _ (by omega) (by omega)]; exact (s_new_z (by omega)).symm
  · rw [hz _ (by omega) (by omega)]; exact (s_new_z (by omega)).symm
  · rw [hz _ (by omega) (by omega)]; exact (s_new_z (by omega)).symm
  · rw [hz _ (by omega) (by omega)]; exact (s_new_z (by omega)).symm
  · rw [hz _ (by omega) (by omega)]; exact (s_new_z (by omega)).symm
/-- both objects are new -/
theorem ag_new {I7 : mm_I} {z : Nat} (h1 : ∀ b, b < z + 1 ∨ z + 308 ≤ b ∨ b = z + 44 ∨ (z + 261 ≤ b ∧ b < z + 264) → I7 b = fun _ => 0) (h2 : ∀ b, z + 1 ≤ b → b < z + 44 → I7 b = mm_wr (mm_wr (fun _ _ => 0) (z + 1) 7 10) (z + 1) 8 12 b) : ag (mm_wr (mm_wr I7 (z + 308 + 1) 7 10) (z + 308 + 1) 8 12) z := by
  have fr : ∀ c, c ≠ z + 308 + 1 → mm_wr (mm_wr I7 (z + 308 + 1) 7 10) (z + 308 + 1) 8 12 c = I7 c := fun c hc => by rw [mm_wr_row hc, mm_wr_row hc]
  refine ⟨s_new, 0, 0, fun _ _ => 0, 0, fun _ => 0, s_new_inv, fun i hi => absurd hi (Nat.not_lt_zero i), ⟨s_new_est (fun c c1 c2 => by rw [fr c (by omega)]; exact h2 c (by omega) (by omega)), ⟨by omega, by omega, ?_, ?_, fun i hi => absurd hi (Nat.not_lt_zero i)⟩, ?_, by omega, fun p hp => absurd hp (Nat.not_lt_zero p)⟩, ?_, ⟨?_, by omega, fun i hi => absurd hi (Nat.not_lt_zero i)⟩, ⟨?_, by omega, fun p hp => absurd hp (Nat.not_lt_zero p)⟩, ?_⟩
  · rw [fr _ (by omega), h1 _ (by omega)]; rfl
  · rw [fr _ (by omega), h1 _ (by omega)]; rfl
  · rw [fr _ (by omega), h1 _ (by omega)]; rfl
  · rw [mm_wr_upd, mm_wr_upd, h1 _ (by omega)]; rfl
  · rw [fr _ (by omega), h1 _ (by omega)]; rfl
  · rw [fr _ (by omega), h1 _ (by omega)]; rfl
  · rw [fr _ (by omega), h1 _ (by omega)]

set_option maxRecDepth 100000 in
set_option maxHeartbeats 4000000 in
theorem law_start {b L : Nat} {xs : Nat → Int32} (hL : L ≤ 3072) (z : Nat) : mm_G (lw_X9 b L xs) mL_law 600000 7302250 0 [(0, .ref b)] [] (z, fun _ => (12, 0), fun _ _ => none) (fun _ _ => 0) 0 0 := by
  refine mm_newT 7 4 rfl dL_law_0 (by decide) cl_L_7 ist_X7 ini_X7 (by omega) (by omega) ?_
  refine mm_dup dL_law_3 rfl ?_
  refine mm_Im (N := mX7_init) (as := []) dL_law_4 lk_L_9 rfl okX7_init (by decide) rfl rfl (by first | decide | (simp [Value.category])) (c_X7_init (w := z) (by rw [up_s])) (by omega) (by omega) (fun v S9 I7 h => ?_)
  obtain ⟨rfl, hn7, hb7, hr7, hi7, hj7⟩ := h
  obtain ⟨n7, K7, P7⟩ := S9
  have hn7 : n7 = z + 308 := hn7
  subst hn7
  refine mm_astore_n dL_law_7 rfl (Nat.le_of_ble_eq_true rfl) ?_
  refine mm_newT 8 16 rfl dL_law_8 (by decide) cl_L_10 ist_X8 ini_X8 (by omega) (by omega) ?_
  refine mm_dup dL_law_11 rfl ?_
  refine mm_Im (N := mX8_init) (as := []) dL_law_12 lk_L_12 rfl okX8_init (by decide) rfl rfl (by first | decide | (simp [Value.category])) (c_X8_init (m := z + 308) (by rw [up_s])) (by omega) (by omega) (fun v S9 I8 h => ?_)
  obtain ⟨rfl, hn8, hb8, hr8, rfl⟩ := h
  obtain ⟨n8, K8, P8⟩ := S9
  have hn8 : n8 = z + 308 + 7 := hn8
  subst hn8
  have hb8 : ∀ b, b < z + 308 → K8 b = va_up K7 (z + 308) (8, 0) b ∧ P8 b = P7 b := hb8
  have hw8 : mm_wine (z + 308 + 7, K8, P8) z := mm_wine.mono (S := (z + 308, K7, P7)) (fun c c1 c2 => ⟨(hb8 c c2).1.trans (up_ne (by omega)), (hb8 c c2).2⟩) hr7
  refine mm_astore_n dL_law_15 rfl (Nat.le_of_ble_eq_true rfl) ?_
  refine mm_iconst 0 dL_law_16 rfl ?_
  refine mm_istore_n dL_law_17 rfl (Nat.le_of_ble_eq_true rfl) ?_
  exact mm_G.at (law_loop hL hw8 hr8 (L + 1) 0 _ (by omega) (by omega) (ag_new (fun b hb => hi7 b hb) (fun b c1 c2 => hj7 b c1 c2))) (mm_s1 rfl (mm_s1 rfl (mm_s1 rfl (mm_s1 rfl mm_s0))))
