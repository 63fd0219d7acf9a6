/-! functional contracts: what a call leaves -/
section GF
variable {p : Program} {l : Launch} {e : Env} {R : Room} {s : State} {m : MethodId} {args : Array Value} {below : List Frame} {meth : Method} {c : Code} {H : Heap} {locs : List Loc} {cells slots : Nat} {Q : State → Prop}
variable {pc : Nat} {ls : Array Slot} {rest st0 : List Value} {D : va_G} {K : List Nat} {cs : Nat → ClassId} {ad : Nat → Nat} {I : Mm} {A : Nat → Prop} {H0 : Heap} {a : Array Value} {mc ms : Nat}
theorem g_callF {F : Int32} (hD : va_D A (gw K cs ad I)) (hS : va_S A H0 H locs) (hA : ∀ q, H0.size ≤ q → A q) (hr : va_Run p l e R s m args below meth c H locs cells slots mc ms (F0 m pc ls st0) rest (va_Qi (fun r u => r = F ∧ u = I) (wat K cs D ad (gA K ad H.size)) (gA K ad H.size) a) (gA K ad H.size))
    (kk : ∀ (H1 : Heap) (locs1 : List Loc), va_P D vwCl (gw K cs ad I) H1 → va_D A (gw K cs ad I) → va_S A H0 H1 locs1 → W p l e R s m args below meth c H1 locs1 (cells + mc) (slots + ms) Q (F0 m (pc + 3) ls (.int F :: rest))) : W p l e R s m args below meth c H locs cells slots Q (F0 m pc ls st0) :=
  g_calli hD hS hA hr (fun r u H1 locs1 hw hP hD hS => by obtain ⟨h1, h2⟩ := hw; rw [h2] at hP hD; rw [h1]; exact kk H1 locs1 hP hD hS)
theorem g_callFM {F : Int32} {M : Mm} (hD : va_D A (gw K cs ad I)) (hS : va_S A H0 H locs) (hA : ∀ q, H0.size ≤ q → A q) (hr : va_Run p l e R s m args below meth c H locs cells slots mc ms (F0 m pc ls st0) rest (va_Qi (fun r u => r = F ∧ u = M) (wat K cs D ad (gA K ad H.size)) (gA K ad H.size) a) (gA K ad H.size))
    (kk : ∀ (u : Mm) (H1 : Heap) (locs1 : List Loc), u = M → va_P D vwCl (gw K cs ad u) H1 → va_D A (gw K cs ad u) → va_S A H0 H1 locs1 → W p l e R s m args below meth c H1 locs1 (cells + mc) (slots + ms) Q (F0 m (pc + 3) ls (.int F :: rest))) : W p l e R s m args below meth c H locs cells slots Q (F0 m pc ls st0) :=
  g_calli hD hS hA hr (fun r u H1 locs1 hw hP hD hS => by obtain ⟨h1, h2⟩ := hw; rw [h1]; exact kk u H1 locs1 h2 hP hD hS)
theorem g_callM {M : Mm} (hD : va_D A (gw K cs ad I)) (hS : va_S A H0 H locs) (hA : ∀ q, H0.size ≤ q → A q) (hr : va_Run p l e R s m args below meth c H locs cells slots mc ms (F0 m pc ls st0) rest (va_Qv (fun u => u = M) (wat K cs D ad (gA K ad H.size)) (gA K ad H.size) a) (gA K ad H.size))
    (kk : ∀ (u : Mm) (H1 : Heap) (locs1 : List Loc), u = M → va_P D vwCl (gw K cs ad u) H1 → va_D A (gw K cs ad u) → va_S A H0 H1 locs1 → W p l e R s m args below meth c H1 locs1 (cells + mc) (slots + ms) Q (F0 m (pc + 3) ls rest)) : W p l e R s m args below meth c H locs cells slots Q (F0 m pc ls st0) :=
  g_callv hD hS hA hr (fun u H1 locs1 hw hP hD hS => kk u H1 locs1 hw hP hD hS)
theorem g_callN (hD : va_D A (gw K cs ad I)) (hS : va_S A H0 H locs) (hA : ∀ q, H0.size ≤ q → A q) (hr : va_Run p l e R s m args below meth c H locs cells slots mc ms (F0 m pc ls st0) rest (va_Qv (fun u => u = I) (wat K cs D ad (gA K ad H.size)) (gA K ad H.size) a) (gA K ad H.size))
    (kk : ∀ (H1 : Heap) (locs1 : List Loc), va_P D vwCl (gw K cs ad I) H1 → va_D A (gw K cs ad I) → va_S A H0 H1 locs1 → W p l e R s m args below meth c H1 locs1 (cells + mc) (slots + ms) Q (F0 m (pc + 3) ls rest)) : W p l e R s m args below meth c H locs cells slots Q (F0 m pc ls st0) :=
  g_callv hD hS hA hr (fun u H1 locs1 hw hP hD hS => by rw [hw] at hP hD; exact kk H1 locs1 hP hD hS)
end GF
theorem upd_ap (f : Nat → Int32) (k : Nat) (x : Int32) (j : Nat) : upd f k x j = if j = k then x else f j := rfl
def cpy (f g : Nat → Int32) (n : Nat) : Nat → Int32 := fun j => if j < n then f j else g j
theorem g_copy {p : Program} {l : Launch} {e : Env} {R : Room} {s : State} {m : MethodId} {args : Array Value} {below : List Frame} {meth : Method} {c : Code} {H : Heap} {locs : List Loc} {cells slots : Nat} {Q : State → Prop} {cc : ByteArray} {pc : Nat} {ls : Array Slot} {rest : List Value} {D : va_G} {K : List Nat} {cs : Nat → ClassId} {ad : Nat → Nat} {I : Mm} {A : Nat → Prop} {H0 : Heap} {own : String} {index : Nat} {k0 k1 κ len : Nat}
    (hx : p.tables.exec = Jvm.exec) (hb : c.code = cc) (hml : c.maxLocals = ls.size) (hown : s.vm.findClass own = some m.cls) (hlink : (Cond.methodLink own index arraycopyName).before args s = true) (hnat : (Cond.native arraycopyName).before args s = true) (hstat : (Cond.static arraycopyName).before args s = true) (hini : (Cond.initialized "java/lang/System").before args s = true)
    (hK : va_K D vwCl (tyA cs) s) (hP : va_P D vwCl (gw K cs ad I) H) (hD : va_D A (gw K cs ad I)) (hS : va_S A H0 H locs) (hk0 : K.getD k0 0 = κ) (hk1 : K.getD k1 0 = κ) (h0 : κ ≠ 0) (he : ∀ (k : Nat) (x : Nat → Int32), cw cs κ (fun d => ad (k + d)) x = .inl (cs 0, len, .inl x)) (hlen : len < 2 ^ 31)
    (hframes : 1 ≤ R.frames) (hlocals : (rest.map fun v => v.category).sum + (nativeFrameWords "java/lang/System" "arraycopy" 5 + 11) ≤ R.locals) (hdg : decode cc pc = .ok (.invokestatic index, 3))
    (kk : ∀ (u : Mm) (H1 : Heap) (locs1 : List Loc), u = wrA I k1 (cpy (I k0) (I k1) len) → va_P D vwCl (gw K cs ad u) H1 → va_D A (gw K cs ad u) → va_S A H0 H1 locs1 → W p l e R s m args below meth c H1 locs1 cells slots Q (F0 m (pc + 3) ls rest)) : W p l e R s m args below meth c H locs cells slots Q (F0 m pc ls (.int (nI len) :: .int (nI 0) :: .ref (ad k1) :: .int (nI 0) :: .ref (ad k0) :: rest)) := by
  have e0 : (nI 0).toNatClampNeg = 0 := nI_clamp (by decide)
  have en : (nI len).toNatClampNeg = len := nI_clamp hlen
  have hc : va_cpy (I k0) (I k1) (nI 0).toNatClampNeg (nI 0).toNatClampNeg (nI len).toNatClampNeg = cpy (I k0) (I k1) len := by
    funext j
    rw [e0, en]
    simp only [va_cpy, cpy]
    by_cases hj : j < len
    · rw [if_pos ⟨Nat.zero_le j, by omega⟩, if_pos hj]; congr 1; omega
    · rw [if_neg (fun z => hj (by omega)), if_neg hj]
  refine va_copyi hx hb hml hown hlink hnat hstat hini hK hP hD hS k0 k1 0 0 (gw_at hk0 h0 (he k0 _)) (gw_at hk1 h0 (he k1 _)) rfl rfl rfl (nI_pos (by decide)) (nI_pos (by decide)) (nI_pos hlen) (by rw [e0, en]; omega) (by rw [e0, en]; omega) (fun i _ => rfl) hframes hlocals hdg (fun H1 locs1 hP hD hS => ?_)
  rw [hc, gw_set hk1 (he k1 _)] at hP hD
  exact kk _ H1 locs1 rfl hP hD hS
theorem g_inj {K : List Nat} {cs : Nat → ClassId} {ad : Nat → Nat} {I : Mm} {A : Nat → Prop} (hD : va_D A (gw K cs ad I)) {k1 k2 : Nat} (h1 : k1 < K.length) (h2 : k2 < K.length) (h : ad k1 = ad k2) : k1 = k2 := hD.1 k1 k2 _ _ (gw_get h1) (gw_get h2) h
theorem g_acmp_eq {p : Program} {l : Launch} {e : Env} {R : Room} {s : State} {m : MethodId} {args : Array Value} {below : List Frame} {meth : Method} {c : Code} {H : Heap} {locs : List Loc} {cells slots : Nat} {Q : State → Prop} {cc : ByteArray} {pc : Nat} {ls : Array Slot} {rest : List Value} {K : List Nat} {cs : Nat → ClassId} {ad : Nat → Nat} {I : Mm} {A : Nat → Prop} {k1 k2 : Nat} {off : Int} {tgt : Nat} (hx : p.tables.exec = Jvm.exec) (hb : c.code = cc) (hD : va_D A (gw K cs ad I)) (h1 : k1 < K.length) (h2 : k2 < K.length) (hdg : decode cc pc = .ok (.if_acmp .eq off, 3)) (ht : (pc : Int) + off = (tgt : Int))
    (kt : k1 = k2 → W p l e R s m args below meth c H locs cells slots Q (F0 m tgt ls rest)) (kf : ¬ k1 = k2 → W p l e R s m args below meth c H locs cells slots Q (F0 m (pc + 3) ls rest)) : W p l e R s m args below meth c H locs cells slots Q (F0 m pc ls (.ref (ad k2) :: .ref (ad k1) :: rest)) :=
  lv_acmp_eq (rx := some (ad k1)) (ry := some (ad k2)) hx hb hdg ht (fun z => kt (hD.1 k1 k2 _ _ (gw_get h1) (gw_get h2) (Option.some.inj z))) (fun z => kf (fun y => z (by rw [y])))
theorem nI_max (a b : Nat) (ha : a < 2 ^ 31) (hb : b < 2 ^ 31) : (if nI a < nI b then nI b else nI a) = nI (max a b) := by
  by_cases h : a < b
  · rw [if_pos ((nI_ltI ha hb).mpr h), Nat.max_eq_right (by omega)]
  · rw [if_neg (fun z => h ((nI_ltI ha hb).mp z)), Nat.max_eq_left (by omega)]
theorem nI_dec {p : Nat} (h : 0 < p) : nI p + Int32.ofInt (-1) = nI (p - 1) := by
  obtain ⟨q, rfl⟩ : ∃ q, p = q + 1 := ⟨p - 1, by omega⟩
  exact pk_m1 q
theorem vp_in_c {x : Int32} {n : Nat} (h1 : ¬ x < 0) (h2 : ¬ nI n ≤ x) (hn : n < 2 ^ 31) : vp_in x n := by
  obtain ⟨j, hj, rfl⟩ := nI_of h1
  exact vp_in_nI (Nat.lt_of_not_le fun z => h2 (nI_le z hj)) hn
theorem kd_1_0 {k : Nat} (h : kC.getD k 0 = 1) : kC.getD (k + 1) 0 = 2 := by
  have key : ∀ k, k < 54 → kC.getD k 0 = 1 → kC.getD (k + 1) 0 = 2 := by decide +kernel
  exact key k (gk_lt h (by decide)) h
theorem kd_1_1 {k : Nat} (h : kC.getD k 0 = 1) : kC.getD (k + 26) 0 = 2 := by
  have key : ∀ k, k < 54 → kC.getD k 0 = 1 → kC.getD (k + 26) 0 = 2 := by decide +kernel
  exact key k (gk_lt h (by decide)) h
theorem kd_1_2 {k : Nat} (h : kC.getD k 0 = 1) : kC.getD (k + 51) 0 = 7 := by
  have key : ∀ k, k < 54 → kC.getD k 0 = 1 → kC.getD (k + 51) 0 = 7 := by decide +kernel
  exact key k (gk_lt h (by decide)) h
theorem kd_2_0 {k : Nat} (h : kC.getD k 0 = 2) : kC.getD (k + 1) 0 = 3 := by
  have key : ∀ k, k < 54 → kC.getD k 0 = 2 → kC.getD (k + 1) 0 = 3 := by decide +kernel
  exact key k (gk_lt h (by decide)) h
theorem kd_2_1 {k : Nat} (h : kC.getD k 0 = 2) : kC.getD (k + 5) 0 = 4 := by
  have key : ∀ k, k < 54 → kC.getD k 0 = 2 → kC.getD (k + 5) 0 = 4 := by decide +kernel
  exact key k (gk_lt h (by decide)) h
theorem kd_2_2 {k : Nat} (h : kC.getD k 0 = 2) : kC.getD (k + 8) 0 = 5 := by
  have key : ∀ k, k < 54 → kC.getD k 0 = 2 → kC.getD (k + 8) 0 = 5 := by decide +kernel
  exact key k (gk_lt h (by decide)) h
theorem kd_3_0 {k : Nat} (h : kC.getD k 0 = 3) : kC.getD (k + 1) 0 = 8 := by
  have key : ∀ k, k < 54 → kC.getD k 0 = 3 → kC.getD (k + 1) 0 = 8 := by decide +kernel
  exact key k (gk_lt h (by decide)) h
theorem kd_3_1 {k : Nat} (h : kC.getD k 0 = 3) : kC.getD (k + 2) 0 = 8 := by
  have key : ∀ k, k < 54 → kC.getD k 0 = 3 → kC.getD (k + 2) 0 = 8 := by decide +kernel
  exact key k (gk_lt h (by decide)) h
theorem kd_3_2 {k : Nat} (h : kC.getD k 0 = 3) : kC.getD (k + 3) 0 = 8 := by
  have key : ∀ k, k < 54 → kC.getD k 0 = 3 → kC.getD (k + 3) 0 = 8 := by decide +kernel
  exact key k (gk_lt h (by decide)) h
theorem kd_4_0 {k : Nat} (h : kC.getD k 0 = 4) : kC.getD (k + 1) 0 = 8 := by
  have key : ∀ k, k < 54 → kC.getD k 0 = 4 → kC.getD (k + 1) 0 = 8 := by decide +kernel
  exact key k (gk_lt h (by decide)) h
theorem kd_4_1 {k : Nat} (h : kC.getD k 0 = 4) : kC.getD (k + 2) 0 = 8 := by
  have key : ∀ k, k < 54 → kC.getD k 0 = 4 → kC.getD (k + 2) 0 = 8 := by decide +kernel
  exact key k (gk_lt h (by decide)) h
theorem kd_6_6 {k : Nat} (h : kC.getD k 0 = 6) : kC.getD (k + 8) 0 = 9 := by
  have key : ∀ k, k < 54 → kC.getD k 0 = 6 → kC.getD (k + 8) 0 = 9 := by decide +kernel
  exact key k (gk_lt h (by decide)) h
theorem kd_7_0 {k : Nat} (h : kC.getD k 0 = 7) : kC.getD (k + 1) 0 = 8 := by
  have key : ∀ k, k < 54 → kC.getD k 0 = 7 → kC.getD (k + 1) 0 = 8 := by decide +kernel
  exact key k (gk_lt h (by decide)) h
theorem kd_7_1 {k : Nat} (h : kC.getD k 0 = 7) : kC.getD (k + 2) 0 = 8 := by
  have key : ∀ k, k < 54 → kC.getD k 0 = 7 → kC.getD (k + 2) 0 = 8 := by decide +kernel
  exact key k (gk_lt h (by decide)) h
theorem kd_10_1 {k : Nat} (h : kM.getD k 0 = 10) : kM.getD (k + 1) 0 = 8 := by
  have key : ∀ k, k < 7 → kM.getD k 0 = 10 → kM.getD (k + 1) 0 = 8 := by decide +kernel
  exact key k (gk_lt h (by decide)) h
theorem kd_10_2 {k : Nat} (h : kM.getD k 0 = 10) : kM.getD (k + 2) 0 = 8 := by
  have key : ∀ k, k < 7 → kM.getD k 0 = 10 → kM.getD (k + 2) 0 = 8 := by decide +kernel
  exact key k (gk_lt h (by decide)) h
theorem kd_10_3 {k : Nat} (h : kM.getD k 0 = 10) : kM.getD (k + 3) 0 = 8 := by
  have key : ∀ k, k < 7 → kM.getD k 0 = 10 → kM.getD (k + 3) 0 = 8 := by decide +kernel
  exact key k (gk_lt h (by decide)) h
theorem kd_10_4 {k : Nat} (h : kM.getD k 0 = 10) : kM.getD (k + 4) 0 = 11 := by
  have key : ∀ k, k < 7 → kM.getD k 0 = 10 → kM.getD (k + 4) 0 = 11 := by decide +kernel
  exact key k (gk_lt h (by decide)) h
theorem kd_10_5 {k : Nat} (h : kM.getD k 0 = 10) : kM.getD (k + 5) 0 = 12 := by
  have key : ∀ k, k < 7 → kM.getD k 0 = 10 → kM.getD (k + 5) 0 = 12 := by decide +kernel
  exact key k (gk_lt h (by decide)) h
theorem kd_10_7 {k : Nat} (h : kM.getD k 0 = 10) : kM.getD (k + 6) 0 = 8 := by
  have key : ∀ k, k < 7 → kM.getD k 0 = 10 → kM.getD (k + 6) 0 = 8 := by decide +kernel
  exact key k (gk_lt h (by decide)) h
theorem kd_crew {k i : Nat} (h : kC.getD k 0 = 5) (hi : i < 8) : kC.getD (k + (1 + i)) 0 = 6 := by
  have key : ∀ k, k < 54 → ∀ i, i < 8 → kC.getD k 0 = 5 → kC.getD (k + (1 + i)) 0 = 6 := by decide +kernel
  exact key k (gk_lt h (by decide)) i hi h
