section IVC
variable {z N : Nat} {J : Mm}
theorem cn_z {p : Nat → Bool} : ∀ {n : Nat}, cn p n = 0 → ∀ i, i < n → p i = false
  | 0, _, i, hi => absurd hi (Nat.not_lt_zero _)
  | n + 1, h, i, hi => by
    cases e : p n with
    | true => rw [cn_t e] at h; omega
    | false =>
      rw [cn_f e] at h
      by_cases g : i = n
      · rw [g]; exact e
      · exact cn_z h i (by omega)
theorem crew_no {c : Nat} (h8 : N ≤ 8) (h : f_X0_crewAt J z (nI c) N ≤ 0) : ∀ i, i < N → J (z + 8 + (1 + i)) 0 ≠ nI c := by
  simp only [f_X0_crewAt] at h
  have hl := cn_le (fun i => decide (J (z + 8 + (1 + i)) 0 = nI c)) N
  have h0 := (nI_leI (a := cn (fun i => decide (J (z + 8 + (1 + i)) 0 = nI c)) N) (b := 0) (by omega) (by decide)).mp h
  intro i hi
  exact of_decide_eq_false (cn_z (Nat.le_zero.mp h0) i hi)
theorem IV.put {c a : Nat} (h : IV J z N) (hc : c < 256) (ha : a ≤ 10) (hok : a = 0 ∨ ∀ i, i < N → J (z + 8 + (1 + i)) 0 ≠ nI c) : IV (m_X3_put J (z + 1) (nI c) (nI a)) z N := by
  refine h.cells (fun b hb => put_o (by omega)) (fun q hq => ?_) (fun q hq hz => ?_) (fun q hq => ?_) (fun i hi h4 p hp hpp => ?_)
  · rw [(put_at hc _).1]
    by_cases e : q = c
    · rw [if_pos e]; exact ⟨a, ha, rfl⟩
    · rw [if_neg e]; exact h.2.1 q hq
  · rw [(put_at hc _).1] at hz
    rw [(put_at hc _).2.1, (put_at hc _).2.2]
    by_cases e : q = c
    · rw [if_pos e, if_pos e]; exact ⟨rfl, rfl⟩
    · rw [if_neg e] at hz; rw [if_neg e, if_neg e]; exact h.2.2.1 q hq hz
  · rw [(put_at hc _).2.2]
    by_cases e : q = c
    · rw [if_pos e]; exact Or.inl rfl
    · rw [if_neg e]; exact h.2.2.2.1 q hq
  · rw [(put_at hc _).1]
    by_cases e : p = c
    · rw [if_pos e]
      rcases hok with g | g
      · rw [g]; rfl
      · rw [e] at hpp; exact absurd hpp (g i hi)
    · rw [if_neg e]; exact (h.2.2.2.2.1 i hi).2.2 h4 p hp hpp
theorem rng_n {a : Int32} {n : Nat} (hn : n < 2 ^ 31) (h1 : ¬ a < 0) (h2 : a ≤ nI n) : ∃ j, j ≤ n ∧ a = nI j := by
  obtain ⟨j, hj, e⟩ := nI_of h1
  subst e
  exact ⟨j, (nI_leI hj hn).mp h2, rfl⟩
theorem IV.lay (h : IV J z N) (a b c0 : Int32) : IV (mZ_lay J z N a b c0) z N := by
  simp only [mZ_lay]
  by_cases e : thZ_lay J z N a b c0 = 0
  · rw [if_pos e]
    simp only [thZ_lay] at e
    by_cases hp : th_X5_placeOf a b = 0
    · rw [if_pos hp] at e
      by_cases h1 : c0 < 0
      · rw [if_pos h1] at e; exact absurd e (by decide)
      · rw [if_neg h1] at e
        by_cases h2 : c0 ≤ nI 10
        · rw [if_pos h2] at e
          by_cases h3 : f_X0_crewAt J z (nI (pl a b)) N ≤ 0
          · obtain ⟨j, hj, ej⟩ := rng_n (by decide) h1 h2
            rw [ej]
            exact h.put (pl_256 hp) hj (Or.inr (crew_no h.1.2.1 h3))
          · rw [if_neg h3] at e; exact absurd e (by decide)
        · rw [if_neg h2] at e; exact absurd e (by decide)
    · rw [if_neg hp] at e; exact absurd e hp
  · rw [if_neg e]; exact h
theorem IV.ord {i j o : Nat} (h : IV J z N) (ho : o ≤ 6) : IV (wr J (z + 8 + (1 + i) + 8) j (nI o)) z N ∨ ¬ i < 8 := by
  by_cases hi : i < 8
  · refine Or.inl ?_
    obtain ⟨a, b, c, d, e, g, q⟩ := h
    have hN := a.2.1
    have hn : ∀ x, x ≠ z + 8 + (1 + i) + 8 → wr J (z + 8 + (1 + i) + 8) j (nI o) x = J x := fun x hx => wr_n _ _ _ hx
    refine ⟨a.eq (by rw [hn _ (by omega)]) (fun i' hi' => by rw [hn _ (by omega)]; exact ⟨rfl, rfl, rfl⟩), fun x hx => by rw [hn _ (by omega)]; exact b x hx, fun x hx => by rw [hn _ (by omega), hn _ (by omega), hn _ (by omega)]; exact c x hx, fun x hx => by rw [hn _ (by omega)]; exact d x hx, fun i' hi' => by rw [hn _ (by omega), hn _ (by omega)]; exact e i' hi', fun i' h1 h2 => by rw [hn _ (by omega)]; exact g i' h1 h2, fun i' hi' j' hj' => ?_⟩
    by_cases ei : i' = i
    · subst ei
      by_cases ej : j' = j
      · subst ej; rw [wr_ss]; exact ⟨o, ho, rfl⟩
      · rw [wr_sn _ _ _ ej]; exact q i' hi' j' hj'
    · rw [hn _ (by omega)]; exact q i' hi' j' hj'
  · exact Or.inr hi
theorem IV.addO {i w o : Nat} (h : IV J z N) (hi : i < N) (ho : o ≤ 6) : ∀ n, w + n ≤ 24 → IV (_root_.Jvm.Pilot.CSnowMazeLaw_law_r9786_1e919e.addO J (z + 8 + (1 + i)) w (nI o) n) z N
  | 0, _ => h
  | n + 1, hn => by
    have ih := IV.addO (w := w) h hi ho n (by omega)
    have hN := h.1.2.1
    exact ((ih.ord (i := i) (j := w + n) ho).resolve_right (fun y => y (by omega))).left hi (by omega)
theorem IV.order (h : IV J z N) (a b c0 : Int32) : IV (mZ_order J z N a b c0) z N := by
  simp only [mZ_order]
  by_cases e : thZ_order J z N a b c0 = 0
  · rw [if_pos e]
    simp only [thZ_order] at e
    by_cases hp : th_X5_member 0 a N = 0
    · rw [if_pos hp] at e
      obtain ⟨-, m2, -⟩ := mb_c h.1.2.1 hp
      have hl := h.1.left7 m2
      by_cases h1 : b < 0
      · rw [if_pos h1] at e; exact absurd e (by decide)
      · rw [if_neg h1] at e
        by_cases h2 : b ≤ nI 6
        · rw [if_pos h2] at e
          by_cases h3 : c0 < nI 1
          · rw [if_pos h3] at e; exact absurd e (by decide)
          · rw [if_neg h3] at e
            by_cases h4 : c0 ≤ nI 9
            · rw [if_pos h4] at e
              have ht := i_ge1 (n := 9) (by decide) h3 h4
              by_cases h5 : nI ((J (z + 8 + (1 + a.toNatClampNeg)) 7).toNatClampNeg + c0.toNatClampNeg) ≤ nI 24
              · obtain ⟨j, hj, ej⟩ := rng_n (by decide) h1 h2
                rw [ej]
                exact h.addO m2 hj _ ((nI_leI (by omega) (by decide)).mp h5)
              · rw [if_neg h5] at e; exact absurd e (by decide)
            · rw [if_neg h4] at e; exact absurd e (by decide)
        · rw [if_neg h2] at e; exact absurd e (by decide)
    · rw [if_neg hp] at e; exact absurd e hp
  · rw [if_neg e]; exact h
theorem IV.call (h : IV J z N) (a : Int32) : IV (if th_X5_member 0 a N = 0 then wr J (z + 8 + (1 + a.toNatClampNeg)) 7 (nI 0) else J) z N := by
  by_cases hp : th_X5_member 0 a N = 0
  · rw [if_pos hp]
    obtain ⟨-, m2, -⟩ := mb_c h.1.2.1 hp
    exact h.left m2 (by omega)
  · rw [if_neg hp]; exact h
theorem IV.more {p l : Nat} (h : IV J z N) (hN : N < 8) (hp : p < 256) (ho : J (z + 1 + 1) p = 0) (b : Int32) (hl : l ≤ 9) : IV (wr (wr (wr (wr J (z + 8 + (1 + N)) 0 (nI p)) (z + 8 + (1 + N)) 1 b) (z + 8 + (1 + N)) 2 (nI l)) z 3 (nI (N + 1))) z (N + 1) := by
  obtain ⟨a, b1, c, d, e, g, q⟩ := h
  have gN := g N (Nat.le_refl _) hN
  have hc : ∀ x, x ≠ z → x ≠ z + 8 + (1 + N) → wr (wr (wr (wr J (z + 8 + (1 + N)) 0 (nI p)) (z + 8 + (1 + N)) 1 b) (z + 8 + (1 + N)) 2 (nI l)) z 3 (nI (N + 1)) x = J x := fun x h1 h2 => by rw [wr_n _ _ _ h1, wr_n _ _ _ h2, wr_n _ _ _ h2, wr_n _ _ _ h2]
  have hf : ∀ f, 2 < f → wr (wr (wr (wr J (z + 8 + (1 + N)) 0 (nI p)) (z + 8 + (1 + N)) 1 b) (z + 8 + (1 + N)) 2 (nI l)) z 3 (nI (N + 1)) (z + 8 + (1 + N)) f = J (z + 8 + (1 + N)) f := fun f h2 => by rw [wr_n _ _ _ (by omega), wr_sn _ _ _ (by omega), wr_sn _ _ _ (by omega), wr_sn _ _ _ (by omega)]
  have h0 : wr (wr (wr (wr J (z + 8 + (1 + N)) 0 (nI p)) (z + 8 + (1 + N)) 1 b) (z + 8 + (1 + N)) 2 (nI l)) z 3 (nI (N + 1)) (z + 8 + (1 + N)) 0 = nI p := by rw [wr_n _ _ _ (by omega), wr_sn _ _ _ (by omega), wr_sn _ _ _ (by omega), wr_ss]
  have h2 : wr (wr (wr (wr J (z + 8 + (1 + N)) 0 (nI p)) (z + 8 + (1 + N)) 1 b) (z + 8 + (1 + N)) 2 (nI l)) z 3 (nI (N + 1)) (z + 8 + (1 + N)) 2 = nI l := by rw [wr_n _ _ _ (by omega), wr_ss]
  generalize hu : wr (wr (wr (wr J (z + 8 + (1 + N)) 0 (nI p)) (z + 8 + (1 + N)) 1 b) (z + 8 + (1 + N)) 2 (nI l)) z 3 (nI (N + 1)) = u at hc hf h0 h2
  have hz : u z 3 = nI (N + 1) := by rw [← hu]; exact wr_ss _ _ _ _
  refine ⟨⟨hz, by omega, fun i hi => ?_, fun i hi => ?_, fun i hi => ?_⟩, fun x hx => by rw [hc _ (by omega) (by omega)]; exact b1 x hx, fun x hx => by rw [hc _ (by omega) (by omega), hc _ (by omega) (by omega), hc _ (by omega) (by omega)]; exact c x hx, fun x hx => by rw [hc _ (by omega) (by omega)]; exact d x hx, fun i hi => ?_, fun i h1 h3 => by rw [hc _ (by omega) (by omega)]; exact g i (by omega) h3, fun i hi j hj => by rw [hc _ (by omega) (by omega)]; exact q i hi j hj⟩
  · by_cases ei : i = N
    · subst ei; exact ⟨p, hp, h0⟩
    · rw [hc _ (by omega) (by omega)]; exact a.2.2.1 i (by omega)
  · by_cases ei : i = N
    · subst ei; rw [hf 4 (by decide)]; exact a.2.2.2.1 i hi
    · rw [hc _ (by omega) (by omega)]; exact a.2.2.2.1 i hi
  · by_cases ei : i = N
    · subst ei; rw [hf 7 (by decide)]; exact ⟨0, by decide, gN.2.2.2⟩
    · rw [hc _ (by omega) (by omega)]; exact a.2.2.2.2 i (by omega)
  · rw [hc (z + 1 + 1) (by omega) (by omega)]
    by_cases ei : i = N
    · subst ei
      rw [h2, hf 3 (by decide), h0]
      refine ⟨⟨l, hl, rfl⟩, ⟨0, by decide, gN.1⟩, fun _ r hr er => ?_⟩
      rw [← (nI_eq (by omega) (by omega)).mp er]; exact ho
    · rw [hc _ (by omega) (by omega)]; exact e i (by omega)
theorem IV.come (h : IV J z N) (a b c0 d : Int32) : IV (mZ_come J z N a b c0 d) z (nZ_come J z N a b c0 d) := by
  simp only [mZ_come, nZ_come]
  by_cases e : thZ_come J z N a b c0 d = 0
  · rw [if_pos e, if_pos e]
    simp only [thZ_come] at e
    by_cases hp : th_X5_placeOf a b = 0
    · rw [if_pos hp] at e
      by_cases h1 : c0 < 0
      · rw [if_pos h1] at e; exact absurd e (by decide)
      · rw [if_neg h1] at e
        by_cases h2 : c0 ≤ nI 20
        · rw [if_pos h2] at e
          by_cases h3 : d < 0
          · rw [if_pos h3] at e; exact absurd e (by decide)
          · rw [if_neg h3] at e
            by_cases h4 : d ≤ nI 9
            · rw [if_pos h4] at e
              by_cases h5 : f_X3_sortAt J (z + 1) (nI (pl a b)) = nI 10
              · rw [if_pos h5] at e; exact absurd e (by decide)
              · rw [if_neg h5] at e
                by_cases h6 : f_X0_buriedAt J z (nI (pl a b)) N ≤ 0
                · rw [if_pos h6] at e
                  by_cases h7 : nI N < nI 8
                  · have hN8 := h.1.2.1
                    have hN : N < 8 := (nI_ltI (by omega) (by decide)).mp h7
                    have h256 := pl_256 hp
                    obtain ⟨l, hl, el⟩ := rng_n (by decide) h3 h4
                    simp only [m_X0_welcome]
                    rw [if_pos h7, open_in h256, el]
                    by_cases ho : J (z + 1 + 1) (pl a b) = 0
                    · rw [decide_eq_true ho, if_neg (show ¬ bi true = 0 by decide)]
                      exact h.more hN h256 ho _ hl
                    · rw [decide_eq_false ho, if_pos (show bi false = 0 from rfl)]
                      refine (h.put (a := 0) h256 (by decide) (Or.inl rfl)).more hN h256 ?_ _ hl
                      rw [(put_at h256 _).1, if_pos rfl]; rfl
                  · rw [if_neg h7] at e; exact absurd e (by decide)
                · rw [if_neg h6] at e; exact absurd e (by decide)
            · rw [if_neg h4] at e; exact absurd e (by decide)
        · rw [if_neg h2] at e; exact absurd e (by decide)
    · rw [if_neg hp] at e; exact absurd e hp
  · rw [if_neg e, if_neg e]; exact h
end IVC
