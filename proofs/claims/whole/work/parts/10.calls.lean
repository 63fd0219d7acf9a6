/-! functional contracts: what a call leaves -/
section GF
variable {p : Program} {l : Launch} {e : Env} {R : Room} {s : State} {m : MethodId} {args : Array Value} {below : List Frame} {meth : Method} {c : Code} {H : Heap} {locs : List Loc} {cells slots : Nat} {Q : State → Prop}
variable {pc : Nat} {ls : Array Slot} {rest st0 : List Value} {D : va_G} {K : List Nat} {cs : Nat → ClassId} {ad : Nat → Nat} {I : Mm} {A : Nat → Prop} {H0 : Heap} {a : Array Value} {mc ms : Nat}
theorem g_callF {F : Int32} (hD : va_D A (gw K cs ad I)) (hS : va_S A H0 H locs) (hA : ∀ q, H0.size ≤ q → A q) (hr : va_Run p l e R s m args below meth c H locs cells slots mc ms (F0 m pc ls st0) rest (va_Qi (fun r u => r = F ∧ u = I) (wat K cs D ad (gA K ad H.size)) (gA K ad H.size) a) (gA K ad H.size))
    (kk : ∀ (H1 : Heap) (locs1 : List Loc), va_P D vwCl (gw K cs ad I) H1 → va_D A (gw K cs ad I) → va_S A H0 H1 locs1 → W p l e R s m args below meth c H1 locs1 (cells + mc) (slots + ms) Q (F0 m (pc + 3) ls (.int F :: rest))) : W p l e R s m args below meth c H locs cells slots Q (F0 m pc ls st0) :=
  g_calli hD hS hA hr (fun r u H1 locs1 hw hP hD hS => by obtain ⟨h1, h2⟩ := hw; rw [h2] at hP hD; rw [h1]; exact kk H1 locs1 hP hD hS)
theorem g_callFM {F : Int32} {M : Mm} (hD : va_D A (gw K cs ad I)) (hS : va_S A H0 H locs) (hA : ∀ q, H0.size ≤ q → A q) (hr : va_Run p l e R s m args below meth c H locs cells slots mc ms (F0 m pc ls st0) rest (va_Qi (fun r u => r = F ∧ u = M) (wat K cs D ad (gA K ad H.size)) (gA K ad H.size) a) (gA K ad H.size))
    (kk : ∀ (u : Mm) (H1 : Heap) (locs1 : List Loc), u = M → va_P D vwCl (gw K cs ad u) H1 → va_D A (gw K cs ad u) → va_S A H0 H1 locs1 → W p l e R s m args below meth c H1 locs1 (cells + mc) (slots + ms) Q (F0 m (pc + 3) ls (.int F :: rest))) : W p l e R s m args below meth c H locs cells slots Q (F0 m pc ls st0) :=
  g_calli hD hS hA hr (fun r u H1 locs1 hw hP hD hS => by obtain ⟨h1, h2⟩ := hw; rw [h1]; exact kk u H1 locs1 h2 hP hD hS)
theorem g_callM {M : Mm} (hD : va_D A (gw K cs ad I)) (hS : va_S A H0 H locs) (hA : ∀ q, H0.size ≤ q → A q) (hr : va_Run p l e R s m args below meth c H locs cells slots mc ms (F0 m pc ls st0) rest (va_Qv (fun u => u = M) (wat K cs D ad (gA K ad H.size)) (gA K ad H.size) a) (gA K ad H.size))
    (kk : ∀ (u : Mm) (H1 : Heap) (locs1 : List Loc), u = M → va_P D vwCl (gw K cs ad u) H1 → va_D A (gw K cs ad u) → va_S A H0 H1 locs1 → W p l e R s m args below meth c H1 locs1 (cells + mc) (slots + ms) Q (F0 m (pc + 3) ls rest)) : W p l e R s m args below meth c H locs cells slots Q (F0 m pc ls st0) :=
  g_callv hD hS hA hr (fun u H1 locs1 hw hP hD hS => kk u H1 locs1 hw hP hD hS)
theorem g_callN (hD : va_D A (gw K cs ad I)) (hS : va_S A H0 H locs) (hA : ∀ q, H0.size ≤ q → A q) (hr : va_Run p l e R s m args below meth c H locs cells slots mc ms (F0 m pc ls st0) rest (va_Qv (fun u => u = I) (wat K cs D ad (gA K ad H.size)) (gA K ad H.size) a) (gA K ad H.size))
    (kk : ∀ (H1 : Heap) (locs1 : List Loc), va_P D vwCl (gw K cs ad I) H1 → va_D A (gw K cs ad I) → va_S A H0 H1 locs1 → W p l e R s m args below meth c H1 locs1 (cells + mc) (slots + ms) Q (F0 m (pc + 3) ls rest)) : W p l e R s m args below meth c H locs cells slots Q (F0 m pc ls st0) :=
  g_callv hD hS hA hr (fun u H1 locs1 hw hP hD hS => by rw [hw] at hP hD; exact kk H1 locs1 hP hD hS)
end GF
theorem vp_in_c {x : Int32} {n : Nat} (h1 : ¬ x < 0) (h2 : ¬ nI n ≤ x) (hn : n < 2 ^ 31) : vp_in x n := by
  obtain ⟨j, hj, rfl⟩ := nI_of h1
  exact vp_in_nI (Nat.lt_of_not_le fun z => h2 (nI_le z hj)) hn
theorem kd_1_0 {k : Nat} (h : kC.getD k 0 = 1) : kC.getD (k + 1) 0 = 2 := by
  have key : ∀ k, k < 54 → kC.getD k 0 = 1 → kC.getD (k + 1) 0 = 2 := by decide +kernel
  exact key k (gk_lt h (by decide)) h
theorem kd_1_1 {k : Nat} (h : kC.getD k 0 = 1) : kC.getD (k + 26) 0 = 2 := by
  have key : ∀ k, k < 54 → kC.getD k 0 = 1 → kC.getD (k + 26) 0 = 2 := by decide +kernel
  exact key k (gk_lt h (by decide)) h
theorem kd_1_2 {k : Nat} (h : kC.getD k 0 = 1) : kC.getD (k + 51) 0 = 7 := by
  have key : ∀ k, k < 54 → kC.getD k 0 = 1 → kC.getD (k + 51) 0 = 7 := by decide +kernel
  exact key k (gk_lt h (by decide)) h
theorem kd_2_0 {k : Nat} (h : kC.getD k 0 = 2) : kC.getD (k + 1) 0 = 3 := by
  have key : ∀ k, k < 54 → kC.getD k 0 = 2 → kC.getD (k + 1) 0 = 3 := by decide +kernel
  exact key k (gk_lt h (by decide)) h
theorem kd_2_1 {k : Nat} (h : kC.getD k 0 = 2) : kC.getD (k + 5) 0 = 4 := by
  have key : ∀ k, k < 54 → kC.getD k 0 = 2 → kC.getD (k + 5) 0 = 4 := by decide +kernel
  exact key k (gk_lt h (by decide)) h
theorem kd_2_2 {k : Nat} (h : kC.getD k 0 = 2) : kC.getD (k + 8) 0 = 5 := by
  have key : ∀ k, k < 54 → kC.getD k 0 = 2 → kC.getD (k + 8) 0 = 5 := by decide +kernel
  exact key k (gk_lt h (by decide)) h
theorem kd_3_0 {k : Nat} (h : kC.getD k 0 = 3) : kC.getD (k + 1) 0 = 8 := by
  have key : ∀ k, k < 54 → kC.getD k 0 = 3 → kC.getD (k + 1) 0 = 8 := by decide +kernel
  exact key k (gk_lt h (by decide)) h
theorem kd_3_1 {k : Nat} (h : kC.getD k 0 = 3) : kC.getD (k + 2) 0 = 8 := by
  have key : ∀ k, k < 54 → kC.getD k 0 = 3 → kC.getD (k + 2) 0 = 8 := by decide +kernel
  exact key k (gk_lt h (by decide)) h
theorem kd_3_2 {k : Nat} (h : kC.getD k 0 = 3) : kC.getD (k + 3) 0 = 8 := by
  have key : ∀ k, k < 54 → kC.getD k 0 = 3 → kC.getD (k + 3) 0 = 8 := by decide +kernel
  exact key k (gk_lt h (by decide)) h
theorem kd_4_0 {k : Nat} (h : kC.getD k 0 = 4) : kC.getD (k + 1) 0 = 8 := by
  have key : ∀ k, k < 54 → kC.getD k 0 = 4 → kC.getD (k + 1) 0 = 8 := by decide +kernel
  exact key k (gk_lt h (by decide)) h
theorem kd_4_1 {k : Nat} (h : kC.getD k 0 = 4) : kC.getD (k + 2) 0 = 8 := by
  have key : ∀ k, k < 54 → kC.getD k 0 = 4 → kC.getD (k + 2) 0 = 8 := by decide +kernel
  exact key k (gk_lt h (by decide)) h
theorem kd_6_6 {k : Nat} (h : kC.getD k 0 = 6) : kC.getD (k + 8) 0 = 9 := by
  have key : ∀ k, k < 54 → kC.getD k 0 = 6 → kC.getD (k + 8) 0 = 9 := by decide +kernel
  exact key k (gk_lt h (by decide)) h
theorem kd_7_0 {k : Nat} (h : kC.getD k 0 = 7) : kC.getD (k + 1) 0 = 8 := by
  have key : ∀ k, k < 54 → kC.getD k 0 = 7 → kC.getD (k + 1) 0 = 8 := by decide +kernel
  exact key k (gk_lt h (by decide)) h
theorem kd_7_1 {k : Nat} (h : kC.getD k 0 = 7) : kC.getD (k + 2) 0 = 8 := by
  have key : ∀ k, k < 54 → kC.getD k 0 = 7 → kC.getD (k + 2) 0 = 8 := by decide +kernel
  exact key k (gk_lt h (by decide)) h
theorem kd_10_1 {k : Nat} (h : kM.getD k 0 = 10) : kM.getD (k + 1) 0 = 8 := by
  have key : ∀ k, k < 7 → kM.getD k 0 = 10 → kM.getD (k + 1) 0 = 8 := by decide +kernel
  exact key k (gk_lt h (by decide)) h
theorem kd_10_2 {k : Nat} (h : kM.getD k 0 = 10) : kM.getD (k + 2) 0 = 8 := by
  have key : ∀ k, k < 7 → kM.getD k 0 = 10 → kM.getD (k + 2) 0 = 8 := by decide +kernel
  exact key k (gk_lt h (by decide)) h
theorem kd_10_3 {k : Nat} (h : kM.getD k 0 = 10) : kM.getD (k + 3) 0 = 8 := by
  have key : ∀ k, k < 7 → kM.getD k 0 = 10 → kM.getD (k + 3) 0 = 8 := by decide +kernel
  exact key k (gk_lt h (by decide)) h
theorem kd_10_4 {k : Nat} (h : kM.getD k 0 = 10) : kM.getD (k + 4) 0 = 11 := by
  have key : ∀ k, k < 7 → kM.getD k 0 = 10 → kM.getD (k + 4) 0 = 11 := by decide +kernel
  exact key k (gk_lt h (by decide)) h
theorem kd_10_5 {k : Nat} (h : kM.getD k 0 = 10) : kM.getD (k + 5) 0 = 12 := by
  have key : ∀ k, k < 7 → kM.getD k 0 = 10 → kM.getD (k + 5) 0 = 12 := by decide +kernel
  exact key k (gk_lt h (by decide)) h
theorem kd_10_7 {k : Nat} (h : kM.getD k 0 = 10) : kM.getD (k + 6) 0 = 8 := by
  have key : ∀ k, k < 7 → kM.getD k 0 = 10 → kM.getD (k + 6) 0 = 8 := by decide +kernel
  exact key k (gk_lt h (by decide)) h
theorem kd_crew {k i : Nat} (h : kC.getD k 0 = 5) (hi : i < 8) : kC.getD (k + (1 + i)) 0 = 6 := by
  have key : ∀ k, k < 54 → ∀ i, i < 8 → kC.getD k 0 = 5 → kC.getD (k + (1 + i)) 0 = 6 := by decide +kernel
  exact key k (gk_lt h (by decide)) i hi h
