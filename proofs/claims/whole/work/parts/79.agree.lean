/-! BOTH SIDES AGREE -/
def AG (I : mm_I) (w : Nat) (s : Nat → Int32) (nx n : Nat) (hs : Nat → Nat → Int32) (ty : Nat) (x : Nat → Nat) : Prop :=
  Inv s ∧ (∀ i, i < n → Inv (hs i)) ∧ wf_at I w s nx n hs ty x ∧ I (w + 308 + 1) = s ∧ hist_r I (w + 308) n hs ∧ tx_at I (w + 308) ty x ∧ I (w + 308) 4 = 0
def ag (I : mm_I) (w : Nat) : Prop := ∃ (s : Nat → Int32) (nx n : Nat) (hs : Nat → Nat → Int32) (ty : Nat) (x : Nat → Nat), AG I w s nx n hs ty x
/-- what the class's call leaves of the reference -/
theorem AG.j1 {I J : mm_I} {w nx n ty : Nat} {s : Nat → Int32} {hs : Nat → Nat → Int32} {x : Nat → Nat} (h : AG I w s nx n hs ty x) (f : wf_fr w I J) : J (w + 308 + 1) = s ∧ hist_r J (w + 308) n hs ∧ tx_at J (w + 308) ty x ∧ J (w + 308) 4 = 0 := by
  obtain ⟨h1, h2, h3, h4, h5, h6, h7⟩ := h
  have f0 := f (w + 308) (by omega)
  refine ⟨(f _ (by omega)).trans h4, h5.of (by rw [f0]) (f _ (by omega)), ⟨by rw [f0]; exact h6.1, h6.2.1, fun p hp => by rw [f _ (by omega)]; exact h6.2.2 p hp⟩, by rw [f0]; exact h7⟩
theorem wf_at.fr {I J : mm_I} {w nx n ty : Nat} {s : Nat → Int32} {hs : Nat → Nat → Int32} {x : Nat → Nat} (h : wf_at I w s nx n hs ty x) (f : ∀ c, w ≤ c → c < w + 308 → J c = I c) : wf_at J w s nx n hs ty x :=
  ⟨est_fr h.1 (fun c c1 c2 => f c (by omega) (by omega)), h.2.1.fr (fun c c1 c2 => f c (by omega) (by omega)), h.2.2.fr (f _ (by omega) (by omega)) (f _ (by omega) (by omega))⟩
theorem Inv.push {s : Nat → Int32} {n : Nat} {hs : Nat → Nat → Int32} (hi : Inv s) (hI : ∀ i, i < n → Inv (hs i)) : ∀ i, i < pushN n → Inv (pushH n hs s i) := by
  intro i hlt
  unfold pushN at hlt
  unfold pushH
  by_cases e : n = 4
  · rw [if_pos e] at hlt ⊢
    show Inv (if i = 3 then s else hs (i + 1))
    by_cases e2 : i = 3
    · rw [if_pos e2]; exact hi
    · rw [if_neg e2]; exact hI _ (by omega)
  · rw [if_neg e] at hlt ⊢
    show Inv (if i = n then s else hs i)
    by_cases e2 : i = n
    · rw [if_pos e2]; exact hi
    · rw [if_neg e2]; exact hI _ (by omega)
theorem ag_op {I J1 J2 : mm_I} {w nx n ty : Nat} {s : Nat → Int32} {hs : Nat → Nat → Int32} {x : Nat → Nat} {a : sp_T} {q1 q2 : Int32} (h : AG I w s nx n hs ty x) (h1 : wf_Q w I s nx n hs ty x a q1 J1) (h2 : r_Q (w + 308) n hs J1 a q2 J2) (hv : Inv a.2) : q1 = q2 ∧ ag J2 w := by
  obtain ⟨k1, k2, k3, k4⟩ := h1
  obtain ⟨e1, e2, e3, e4⟩ := h.j1 k2
  obtain ⟨m1, m2, m3, m4, m5, m6⟩ := h2
  refine ⟨k1.trans m1.symm, ?_⟩
  have fr : ∀ c, w ≤ c → c < w + 308 → J2 c = J1 c := fun c c1 c2 => m3 c (by omega) (by omega) (by omega) (by omega)
  have t2 : tx_at J2 (w + 308) ty x := ⟨by rw [m4 6 (by decide) (by decide)]; exact e3.1, e3.2.1, fun p hp => by rw [m3 _ (by omega) (by omega) (by omega) (by omega)]; exact e3.2.2 p hp⟩
  have g4 : J2 (w + 308) 4 = 0 := (m4 4 (by decide) (by decide)).trans e4
  by_cases z : 0 ≤ a.1
  · have hh := m6 z e4
    rw [e1] at hh
    exact ⟨a.2, nxUp nx, pushN n, pushH n hs s, ty, x, hv, h.1.push h.2.1, (k3 z).fr fr, m2, hh, t2, g4⟩
  · have hh := m5 (fun q => absurd q z)
    exact ⟨a.2, nx, n, hs, ty, x, hv, h.2.1, (k4 z).fr fr, m2, e2.of hh.2 hh.1, t2, g4⟩
theorem ag_ask {I J1 J2 : mm_I} {w nx n ty : Nat} {s : Nat → Int32} {hs : Nat → Nat → Int32} {x : Nat → Nat} {a q1 q2 : Int32} (h : AG I w s nx n hs ty x) (h1 : wf_A w I s nx n hs ty x a q1 J1) (h2 : q2 = a ∧ r_fr J1 J2 (w + 308)) : q1 = q2 ∧ ag J2 w := by
  obtain ⟨k1, k2, k3⟩ := h1
  obtain ⟨e1, e2, e3, e4⟩ := h.j1 k3
  obtain ⟨m1, m2, m3⟩ := h2
  refine ⟨k1.trans m1.symm, s, nx, n, hs, ty, x, h.1, h.2.1, k2.fr (fun c c1 c2 => m2 c (by omega) (by omega)), (m2 _ (by omega) (by omega)).trans e1, e2.of (m3 3 (by decide)) (m2 _ (by omega) (by omega)), ⟨by rw [m3 6 (by decide)]; exact e3.1, e3.2.1, fun p hp => by rw [m2 _ (by omega) (by omega)]; exact e3.2.2 p hp⟩, (m3 4 (by decide)).trans e4⟩
theorem ag_undo {I J1 J2 : mm_I} {w nx n ty : Nat} {s : Nat → Int32} {hs : Nat → Nat → Int32} {x : Nat → Nat} {q1 q2 : Int32} (h : AG I w s nx n hs ty x) (h1 : if n = 0 then q1 = -2000000002 ∧ J1 = I else q1 = nI (n - 1) ∧ wf_at J1 w (hs (n - 1)) (nxDn nx) (n - 1) hs ty x ∧ wf_fr w I J1)
    (h2 : if n = 0 then q2 = -2000000002 ∧ J2 = J1 else q2 = nI (n - 1) ∧ J2 (w + 308 + 1) = (fun j => if j < 316 then hs (n - 1) j else J1 (w + 308 + 1) j) ∧ J2 (w + 308) 3 = nI (n - 1) ∧ (∀ c, c ≠ w + 308 → c ≠ w + 308 + 1 → J2 c = J1 c) ∧ ∀ j, j ≠ 3 → J2 (w + 308) j = J1 (w + 308) j) : q1 = q2 ∧ ag J2 w := by
  by_cases z : n = 0
  · rw [if_pos z] at h1 h2
    obtain ⟨k1, k2⟩ := h1
    obtain ⟨m1, m2⟩ := h2
    subst m2
    subst k2
    exact ⟨k1.trans m1.symm, s, nx, n, hs, ty, x, h⟩
  · rw [if_neg z] at h1 h2
    obtain ⟨k1, k2, k3⟩ := h1
    obtain ⟨e1, e2, e3, e4⟩ := h.j1 k3
    obtain ⟨m1, m2, m3, m4, m5⟩ := h2
    have hin : Inv (hs (n - 1)) := h.2.1 _ (by omega)
    have hlt : ∀ j, j < 316 → (fun j => if j < 316 then hs (n - 1) j else J1 (w + 308 + 1) j) j = hs (n - 1) j := fun j hj => if_pos hj
    refine ⟨k1.trans m1.symm, (fun j => if j < 316 then hs (n - 1) j else J1 (w + 308 + 1) j), nxDn nx, n - 1, hs, ty, x, hin.lt hlt, fun i hi => h.2.1 i (by omega), ⟨?_, ?_, ?_⟩, m2, ⟨m3, by have := e2.2.1; omega, fun i hi k hk => ?_⟩, ⟨by rw [m5 6 (by decide)]; exact e3.1, e3.2.1, fun p hp => by rw [m4 _ (by omega) (by omega)]; exact e3.2.2 p hp⟩, (m5 4 (by decide)).trans e4⟩
    · exact est_lt (est_fr k2.1 (fun c c1 c2 => m4 c (by omega) (by omega))) hin hlt
    · exact k2.2.1.fr (fun c c1 c2 => m4 c (by omega) (by omega))
    · exact k2.2.2.fr (m4 _ (by omega) (by omega)) (m4 _ (by omega) (by omega))
    · rw [m4 _ (by omega) (by omega)]; exact e2.2.2 i (by omega) k hk
theorem ag_type {I J1 J2 : mm_I} {w nx n ty : Nat} {s : Nat → Int32} {hs : Nat → Nat → Int32} {x : Nat → Nat} {c q1 q2 : Int32} (h : AG I w s nx n hs ty x) (h1 : wf_fr w I J1 ∧ if ¬ (32 ≤ c ∧ c ≤ 126) then q1 = -2000000001 ∧ wf_at J1 w s nx n hs ty x else if ty = 60 then q1 = -2000000003 ∧ wf_at J1 w s nx n hs ty x else q1 = nI (ty + 1) ∧ wf_at J1 w s nx n hs (ty + 1) (txP ty x c.toNatClampNeg))
    (h2 : if ¬ (32 ≤ c ∧ c ≤ 126) then q2 = -2000000001 ∧ J2 = J1 else if ty = 60 then q2 = -2000000003 ∧ J2 = J1 else q2 = nI (ty + 1) ∧ J2 = mm_wr (mm_wr J1 (w + 308 + 4) ty c) (w + 308) 6 (nI (ty + 1))) : q1 = q2 ∧ ag J2 w := by
  obtain ⟨k0, h1⟩ := h1
  obtain ⟨e1, e2, e3, e4⟩ := h.j1 k0
  by_cases z1 : 32 ≤ c ∧ c ≤ 126
  · rw [if_neg (fun q => q z1)] at h1 h2
    by_cases z2 : ty = 60
    · rw [if_pos z2] at h1 h2
      obtain ⟨k1, k2⟩ := h1
      obtain ⟨m1, m2⟩ := h2
      subst m2
      exact ⟨k1.trans m1.symm, s, nx, n, hs, ty, x, h.1, h.2.1, k2, e1, e2, e3, e4⟩
    · rw [if_neg z2] at h1 h2
      obtain ⟨k1, k2⟩ := h1
      obtain ⟨m1, m2⟩ := h2
      subst m2
      have hty := e3.2.1
      have fr : ∀ d, d ≠ w + 308 → d ≠ w + 308 + 4 → mm_wr (mm_wr J1 (w + 308 + 4) ty c) (w + 308) 6 (nI (ty + 1)) d = J1 d := fun d h1 h2 => by rw [mm_wr_row h1, mm_wr_row h2]
      refine ⟨k1.trans m1.symm, s, nx, n, hs, ty + 1, txP ty x c.toNatClampNeg, h.1, h.2.1, k2.fr (fun d c1 c2 => fr d (by omega) (by omega)), (fr _ (by omega) (by omega)).trans e1, e2.of (by rw [mm_wr_k (by decide), mm_wr_row (by omega)]) (fr _ (by omega) (by omega)), ⟨mm_wr_s, by omega, fun p hp => ?_⟩, by rw [mm_wr_k (by decide), mm_wr_row (by omega)]; exact e4⟩
      obtain ⟨C, hC, rfl, hCc⟩ := int_n (n := 126) rfl (by omega) ⟨Int32.le_trans (by decide) z1.1, z1.2⟩
      have hC32 : 32 ≤ C := (nI_leI (a := 32) (by omega) (by omega)).mp z1.1
      rw [hCc, mm_wr_row (by omega)]
      show _ = nI (if p = ty then C else x p) ∧ 32 ≤ (if p = ty then C else x p) ∧ (if p = ty then C else x p) ≤ 126
      by_cases e : p = ty
      · subst e
        rw [mm_wr_s, if_pos rfl]
        exact ⟨rfl, hC32, hC⟩
      · rw [mm_wr_k e, if_neg e]
        exact e3.2.2 p (by omega)
  · rw [if_pos z1] at h1 h2
    obtain ⟨k1, k2⟩ := h1
    obtain ⟨m1, m2⟩ := h2
    subst m2
    exact ⟨k1.trans m1.symm, s, nx, n, hs, ty, x, h.1, h.2.1, k2, e1, e2, e3, e4⟩
theorem ag_clear {I J1 J2 : mm_I} {w nx n ty : Nat} {s : Nat → Int32} {hs : Nat → Nat → Int32} {x : Nat → Nat} {q1 q2 : Int32} (h : AG I w s nx n hs ty x) (h1 : q1 = nI ty ∧ wf_at J1 w s nx n hs 0 x ∧ wf_fr w I J1) (h2 : q2 = J1 (w + 308) 6 ∧ J2 = mm_wr J1 (w + 308) 6 0) : q1 = q2 ∧ ag J2 w := by
  obtain ⟨k1, k2, k3⟩ := h1
  obtain ⟨e1, e2, e3, e4⟩ := h.j1 k3
  obtain ⟨m1, m2⟩ := h2
  subst m2
  have fr : ∀ d, d ≠ w + 308 → mm_wr J1 (w + 308) 6 0 d = J1 d := fun d h1 => mm_wr_row h1
  exact ⟨k1.trans (m1.trans e3.1).symm, s, nx, n, hs, 0, x, h.1, h.2.1, k2.fr (fun d c1 c2 => fr d (by omega)), (fr _ (by omega)).trans e1, e2.of (mm_wr_k (by decide)) (fr _ (by omega)), ⟨mm_wr_s, by omega, fun p hp => absurd hp (Nat.not_lt_zero p)⟩, (mm_wr_k (by decide)).trans e4⟩
theorem r_fl.ag {J1 J2 : mm_I} {w nx n ty : Nat} {s : Nat → Int32} {hs : Nat → Nat → Int32} {x : Nat → Nat} (h : r_fl (w + 308) J1 J2) (hi : Inv s) (hI : ∀ i, i < n → Inv (hs i)) (k : wf_at J1 w s nx n hs ty x) (e : J1 (w + 308 + 1) = s ∧ hist_r J1 (w + 308) n hs ∧ tx_at J1 (w + 308) ty x ∧ J1 (w + 308) 4 = 0) : ag J2 w := by
  obtain ⟨m1, m2, m3, m4, m5⟩ := h
  obtain ⟨e1, e2, e3, e4⟩ := e
  exact ⟨s, nx, n, hs, ty, x, hi, hI, k.fr (fun c c1 c2 => m2 c (by omega) (by omega) (by omega) (by omega) (by omega)), m1.trans e1, e2.of m3 (m2 _ (by omega) (by omega) (by omega) (by omega) (by omega)), ⟨m4.trans e3.1, e3.2.1, fun p hp => by rw [m2 _ (by omega) (by omega) (by omega) (by omega) (by omega)]; exact e3.2.2 p hp⟩, m5⟩
theorem ag_fault {I J1 J2 : mm_I} {w nx n ty : Nat} {s : Nat → Int32} {hs : Nat → Nat → Int32} {x : Nat → Nat} {a q1 q2 : Int32} (h : AG I w s nx n hs ty x) (h1 : wf_A w I s nx n hs ty x a q1 J1) (h2 : q2 = a ∧ r_fl (w + 308) J1 J2) : q1 = q2 ∧ ag J2 w :=
  ⟨h1.1.trans h2.1.symm, h2.2.ag h.1 h.2.1 h1.2.1 (h.j1 h1.2.2)⟩
theorem ag_play {I J1 J2 : mm_I} {w nx n ty : Nat} {s : Nat → Int32} {hs : Nat → Nat → Int32} {x : Nat → Nat} {q1 q2 : Int32} (h : AG I w s nx n hs ty x) (h1 : wf_fr w I J1 ∧ if (plR (cc ty x) ty s).1 = true then q1 = nI (plR (cc ty x) ty s).2.2.1 ∧ wf_at J1 w (plR (cc ty x) ty s).2.1 (nxUp nx) (pushN n) (pushH n hs s) ty x else q1 = -2000000002 ∧ wf_at J1 w s nx n hs ty x)
    (h2 : if (plR (cc ty x) ty s).1 = true then q2 = nI (plR (cc ty x) ty s).2.2.1 ∧ J2 (w + 308 + 1) = (plR (cc ty x) ty s).2.1 ∧ hist_r J2 (w + 308) (pushN n) (pushH n hs s) ∧ (∀ c, c ≠ w + 308 → c ≠ w + 308 + 1 → c ≠ w + 308 + 2 → c ≠ w + 308 + 3 → c ≠ w + 308 + 5 → c ≠ w + 308 + 6 → J2 c = J1 c) ∧ J2 (w + 308) 6 = J1 (w + 308) 6 ∧ J2 (w + 308) 4 = 0 else q2 = -2000000002 ∧ r_fl (w + 308) J1 J2) : q1 = q2 ∧ ag J2 w := by
  obtain ⟨k0, h1⟩ := h1
  have e := h.j1 k0
  have hv := plR_inv (c := cc ty x) (ty := ty) h.1
  by_cases z : (plR (cc ty x) ty s).1 = true
  · rw [if_pos z] at h1 h2
    obtain ⟨k1, k2⟩ := h1
    obtain ⟨m1, m2, m3, m4, m5, m6⟩ := h2
    obtain ⟨e1, e2, e3, e4⟩ := e
    exact ⟨k1.trans m1.symm, _, nxUp nx, pushN n, pushH n hs s, ty, x, hv, h.1.push h.2.1, k2.fr (fun c c1 c2 => m4 c (by omega) (by omega) (by omega) (by omega) (by omega) (by omega)), m2, m3, ⟨m5.trans e3.1, e3.2.1, fun p hp => by rw [m4 _ (by omega) (by omega) (by omega) (by omega) (by omega) (by omega)]; exact e3.2.2 p hp⟩, m6⟩
  · rw [if_neg z] at h1 h2
    exact ⟨h1.1.trans h2.1.symm, h2.2.ag h.1 h.2.1 h1.2 e⟩
