section MARK
variable {k : Nat} {I v : Mm}
def mz (v : Mm) (k : Nat) : Nat := cn (fun c => decide (v (k + 6) c = -1)) 256
/-- marks laid so far, from one cell -/
def MA (op M : Nat → Prop) (k : Nat) (I : Mm) (fr : Nat) (v : Mm) : Prop := EqW k v I ∧ v (k + 6) fr = nI (fr + 256) ∧ ∀ c, c < 256 → v (k + 6) c = I (k + 6) c ∨ (I (k + 6) c = -1 ∧ v (k + 6) c = nI (fr + 256) ∧ conn (fun x => op x ∧ ¬ M x) (fun x => x = fr) c)
/-- what the marks were -/
def MI (M : Nat → Prop) (k : Nat) (I : Mm) (fr : Nat) : Prop := fr < 256 ∧ (∀ c, c < 256 → (I (k + 6) c ≠ -1 ↔ M c)) ∧ (∀ c, c < 256 → I (k + 6) c ≠ nI (fr + 256)) ∧ I (k + 6) fr = -1
def Cl (op : Nat → Prop) (k fr : Nat) (v : Mm) (c w : Nat) : Prop := ∀ c' w', c' < 256 → w' < 4 → (c' < c ∨ (c' = c ∧ w' < w)) → v (k + 6) c' = nI (fr + 256) → nb c' w' < 256 → op (nb c' w') → v (k + 6) (nb c' w') ≠ -1
def MF (op : Nat → Prop) (k fr : Nat) (v0 v : Mm) (c w : Nat) (f : Int32) : Prop := (f = nI 1 ∧ mz v k < mz v0 k) ∨ (f = 0 ∧ mz v k ≤ mz v0 k ∧ Cl op k fr v c w)
theorem MA_0 {op M : Nat → Prop} {fr : Nat} (h : MI M k I fr) : MA op M k I fr (wr I (k + 6) fr (nI (fr + 256))) := by
  refine ⟨(EqW.rf _ _).wr _ _, wr_ss _ _ _ _, fun c hc => ?_⟩
  by_cases e : c = fr
  · subst e; exact Or.inr ⟨h.2.2.2, wr_ss _ _ _ _, 0, rfl⟩
  · rw [wr_sn _ _ _ e]; exact Or.inl rfl
theorem MA_cn {op M : Nat → Prop} {fr c : Nat} (hI : MI M k I fr) (h : MA op M k I fr v) (hc : c < 256) (e : v (k + 6) c = nI (fr + 256)) : conn (fun x => op x ∧ ¬ M x) (fun x => x = fr) c := by
  rcases h.2.2 c hc with y | y
  · exact absurd (y.symm.trans e) (hI.2.2.1 c hc)
  · exact y.2.2
theorem MA_set {op M : Nat → Prop} {fr c w : Nat} (hI : MI M k I fr) (h : MA op M k I fr v) (hc : c < 256) (hw : w < 4) (e : v (k + 6) c = nI (fr + 256)) (hn : nb c w < 256) (ho : op (nb c w)) (hm : v (k + 6) (nb c w) = -1) : MA op M k I fr (wr v (k + 6) (nb c w) (nI (fr + 256))) := by
  have hi : I (k + 6) (nb c w) = -1 := by
    rcases h.2.2 _ hn with y | y
    · exact y.symm.trans hm
    · exact y.1
  obtain ⟨d, hd⟩ := MA_cn hI h hc e
  have hM : ¬ M (nb c w) := fun y => (hI.2.1 _ hn).mpr y hi
  refine ⟨h.1.wr _ _, ?_, fun x hx => ?_⟩
  · by_cases g : fr = nb c w
    · rw [← g]; exact wr_ss _ _ _ _
    · rw [wr_sn _ _ _ g]; exact h.2.1
  · by_cases g : x = nb c w
    · subst g; exact Or.inr ⟨hi, wr_ss _ _ _ _, d + 1, Or.inr ⟨⟨ho, hM⟩, c, w, hc, hw, rfl, hd⟩⟩
    · rw [wr_sn _ _ _ g]; exact h.2.2 x hx
theorem mz_set {o : Nat} {x : Int32} (ho : o < 256) (hm : v (k + 6) o = -1) (hx : x ≠ -1) : mz (wr v (k + 6) o x) k + 1 = mz v k := by
  have := cn_set (p := fun c => decide (wr v (k + 6) o x (k + 6) c = -1)) (q := fun c => decide (v (k + 6) c = -1)) (c := o) (decide_eq_false (by rw [wr_ss]; exact hx)) (decide_eq_true hm) (fun j hj => by rw [wr_sn _ _ _ hj]) (N := 256) ho
  exact this.symm
theorem MF_set {op : Nat → Prop} {fr c w o : Nat} {v0 : Mm} {f : Int32} (h : MF op k fr v0 v c w f) (ho : o < 256) (hfr : fr < 256) (hm : v (k + 6) o = -1) (w' c' : Nat) : MF op k fr v0 (wr v (k + 6) o (nI (fr + 256))) c' w' (nI 1) := by
  have := mz_set (k := k) (x := nI (fr + 256)) ho hm (nI_m1 (by omega))
  refine Or.inl ⟨rfl, ?_⟩
  rcases h with h | h <;> omega
theorem MF_skip {op : Nat → Prop} {fr c w : Nat} {v0 : Mm} {f : Int32} (h : MF op k fr v0 v c w f) (e : nb c w < 256 → op (nb c w) → v (k + 6) (nb c w) = -1 → False) : MF op k fr v0 v c (w + 1) f := by
  rcases h with h | ⟨h1, h2, h3⟩
  · exact Or.inl h
  · refine Or.inr ⟨h1, h2, fun c' w' a b g y n o z => ?_⟩
    by_cases q : c' = c ∧ w' = w
    · rw [q.1, q.2] at n o z; exact e n o z
    · exact h3 c' w' a b (by omega) y n o z
theorem MF_row {op : Nat → Prop} {fr c w : Nat} {v0 : Mm} {f : Int32} (h : MF op k fr v0 v c w f) (e : w = 4 ∨ v (k + 6) c ≠ nI (fr + 256)) : MF op k fr v0 v (c + 1) 0 f := by
  rcases h with h | ⟨h1, h2, h3⟩
  · exact Or.inl h
  · refine Or.inr ⟨h1, h2, fun c' w' a b g y n o z => ?_⟩
    by_cases q : c' = c
    · rcases e with e | e
      · exact h3 c' w' a b (by omega) y n o z
      · rw [q] at y; exact e y
    · exact h3 c' w' a b (by omega) y n o z
theorem MF_0 (op : Nat → Prop) (k fr : Nat) (v : Mm) : MF op k fr v v 0 0 0 := Or.inr ⟨rfl, Nat.le_refl _, fun c' w' _ _ g => by omega⟩
theorem MA_fin {op M : Nat → Prop} {fr : Nat} (hI : MI M k I fr) (h : MA op M k I fr v) (hc : Cl op k fr v 256 0) : ∀ c, c < 256 → (conn (fun x => op x ∧ ¬ M x) (fun x => x = fr) c → v (k + 6) c = nI (fr + 256)) ∧ (¬ conn (fun x => op x ∧ ¬ M x) (fun x => x = fr) c → v (k + 6) c = I (k + 6) c) := by
  have hr : ∀ d c, c < 256 → rch (fun x => op x ∧ ¬ M x) (fun x => x = fr) d c → v (k + 6) c = nI (fr + 256) := by
    intro d
    induction d with
    | zero => intro c _ y; rw [show c = fr from y]; exact h.2.1
    | succ d ih =>
      rintro c hc' (y | ⟨⟨ho, hM⟩, p, w, hp, hw, hb, y⟩)
      · exact ih c hc' y
      · have hp2 := ih p hp y
        have hne := hc p w hp hw (Or.inl hp) hp2 (by omega) (by rw [hb]; exact ho)
        rw [hb] at hne
        rcases h.2.2 c hc' with z | z
        · have hi : I (k + 6) c = -1 := Classical.byContradiction fun q => hM ((hI.2.1 c hc').mp q)
          exact absurd (z.trans hi) hne
        · exact z.2.1
  refine fun c hc' => ⟨fun ⟨d, y⟩ => hr d c hc' y, fun y => ?_⟩
  rcases h.2.2 c hc' with z | z
  · exact z
  · exact absurd z.2.2 y
end MARK

set_option maxHeartbeats 4000000 in
set_option maxRecDepth 100000 in
theorem c_X6_found (l : Launch) (D : va_G) (cs : Nat → ClassId) (ad : Nat → Nat) (I : Mm) (sz : Nat) (k : Nat) (hk : kM.getD k 0 = 10) : MetI l yX6_found wsX6_found ({ frames := 0, cells := 0, slots := 0, locals := 0 }) kM cs D ad I sz [.ref (ad k)] (fun r u => r = nI (cn (fun c => decide (¬ I (k + 6) c = -1)) 256) ∧ u = I) 0 0 := by
  refine g_met (cc := cX6_found) (maxL := 3) (ret := (some .int)) (by decide) rfl (Nat.le_of_ble_eq_true rfl) ?_
  intro pg e s m args below meth c ls hx hb hr hml hts hown hlocks hsz hP hD hK hN hS hA hl
  have hown : s.vm.findClass RX6 = some m.cls := hown
  have hl : lv_has ls 3 [(0, .ref (ad k))] := hl
  refine lv_iconst (v := nI 0) hx hb dX6_found_0 (by decide) ?_
  refine lv_istore_n (lv' := [(1, .int (nI 0)), (0, .ref (ad k))]) hx hb dX6_found_1 rfl hl (by decide) rfl (fun ls hl => ?_)
  refine lv_iconst (v := nI 0) hx hb dX6_found_2 (by decide) ?_
  refine lv_istore_n (lv' := [(2, .int (nI 0)), (1, .int (nI 0)), (0, .ref (ad k))]) hx hb dX6_found_3 rfl hl (by decide) rfl (fun ls hl => ?_)
  suffices KL4 : ∀ (fuel : Nat) (i : Nat) (f : Int32) (H : Heap) (locs : List Loc) (ls : Array Slot), (i ≤ 256) → (f = nI (cn (fun c => decide (¬ I (k + 6) c = -1)) i)) → 256 - i < fuel → va_P D vwCl (gw kM cs ad I) H → va_D (gA kM ad sz) (gw kM cs ad I) → va_S (gA kM ad sz) s.heap H locs → lv_has ls 3 [(2, .int (nI i)), (1, .int f), (0, .ref (ad k))] → W pg l e ({ frames := 0, cells := 0, slots := 0, locals := 0 }) s m args below meth c H locs 0 0 (MQ below (va_Qi (fun r u => r = nI (cn (fun c => decide (¬ I (k + 6) c = -1)) 256) ∧ u = I) (wat kM cs D ad (gA kM ad sz)) (gA kM ad sz)) args s 0 0 (gA kM ad sz)) (F0 m 4 ls []) from KL4 _ 0 (nI 0) _ _ _ (Nat.zero_le _) rfl (Nat.lt_succ_self _) hP hD hS (lv_sub hl [0, 1, 2] rfl)
  intro fuel4
  induction fuel4 with
  | zero => intro _ _ _ _ _ _ _ hm; exact absurd hm (Nat.not_lt_zero _)
  | succ fuel4 ih4 =>
    intro i f H locs ls hi hf hm4 hP hD hS hl
    refine lv_iload_n hx hb dX6_found_4 rfl (lv_at hl 0 rfl) ?_
    refine lv_sipush (v := nI 256) hx hb dX6_found_5 (by decide) ?_
    refine lv_icmp_ge (tgt := 35) hx hb dX6_found_8 (by decide) (fun c_1 => ?_) (fun c_1 => ?_)
    · skip
      have nc_1 : 256 ≤ i := (nI_leI (a := 256) (b := i) (by omega) (by omega)).mp c_1
      refine lv_iload_n hx hb dX6_found_35 rfl (lv_at hl 1 rfl) ?_
      exact g_iret (v := f) hx hb hr hlocks rfl hP hD hS ⟨by rw [hf, show i = 256 from by omega], rfl⟩ dX6_found_36
    · skip
      have nc_1 : ¬ 256 ≤ i := fun z9_ => c_1 ((nI_leI (a := 256) (b := i) (by omega) (by omega)).mpr z9_)
      refine lv_iload_n hx hb dX6_found_11 rfl (lv_at hl 1 rfl) ?_
      refine lv_aload_n hx hb dX6_found_12 rfl (lv_at hl 2 rfl) ?_
      refine g_get (κ := 10) (ci := 6) (v := .ref (ad (k + 6))) (C := RX6) (T := TX6) (N := 8) hx hb hts hown hK hP (k := k) hk (by decide) rfl (fun _ h => List.mem_cons_of_mem _ (List.mem_append_right _ h)) rfl 7 (by decide) (hts _ (List.mem_of_getElem? (i := 1) rfl)) (fun _ h9 => h9) rfl dX6_found_13 ?_
      refine lv_iload_n hx hb dX6_found_16 rfl (lv_at hl 0 rfl) ?_
      refine g_ialdn (n := 256) (i := i) hx hb hK hP (k := (k + 6)) (kd_10_7 hk) (by decide) rfl (by omega) (by decide) dX6_found_17 ?_
      refine lv_iconst (v := -1) hx hb dX6_found_18 (by decide) ?_
      refine lv_icmp_eq (tgt := 26) hx hb dX6_found_19 (by decide) (fun c_2 => ?_) (fun c_2 => ?_)
      · skip
        refine lv_iconst (v := nI 0) hx hb dX6_found_26 (by decide) ?_
        refine lv_iadd hx hb dX6_found_27 ?_
        refine lv_istore_n (lv' := [(1, .int (f + (nI 0))), (2, .int (nI i)), (0, .ref (ad k))]) hx hb dX6_found_28 rfl hl (by decide) rfl (fun ls hl => ?_)
        refine lv_iinc (v := nI (i + 1)) (lv' := [(2, .int (nI (i + 1))), (1, .int (f + (nI 0))), (0, .ref (ad k))]) hx hb dX6_found_29 hl (k := 1) rfl (nI_1 i) (by decide) rfl (fun ls hl => ?_)
        refine lv_goto (tgt := 4) hx hb dX6_found_32 (by decide) ?_
        exact ih4 (i + 1) (f + (nI 0)) _ _ _ (by omega) (cn_step0 hf (decide_eq_false (fun y => y c_2))) (by omega) hP hD hS (lv_sub hl [0, 1, 2] rfl)
      · skip
        refine lv_iconst (v := nI 1) hx hb dX6_found_22 (by decide) ?_
        refine lv_goto (tgt := 27) hx hb dX6_found_23 (by decide) ?_
        refine lv_iadd hx hb dX6_found_27 ?_
        refine lv_istore_n (lv' := [(1, .int (f + (nI 1))), (2, .int (nI i)), (0, .ref (ad k))]) hx hb dX6_found_28 rfl hl (by decide) rfl (fun ls hl => ?_)
        refine lv_iinc (v := nI (i + 1)) (lv' := [(2, .int (nI (i + 1))), (1, .int (f + (nI 1))), (0, .ref (ad k))]) hx hb dX6_found_29 hl (k := 1) rfl (nI_1 i) (by decide) rfl (fun ls hl => ?_)
        refine lv_goto (tgt := 4) hx hb dX6_found_32 (by decide) ?_
        exact ih4 (i + 1) (f + (nI 1)) _ _ _ (by omega) (cn_step1 hf (decide_eq_true c_2)) (by omega) hP hD hS (lv_sub hl [0, 1, 2] rfl)

def mzf (v : Mm) (k : Nat) (f : Int32) : Nat := 2 * mz v k + (if f = 0 then 0 else 1)
theorem mzf_d {op : Nat → Prop} {k fr : Nat} {v0 v : Mm} {c w : Nat} {f f0 : Int32} (h : MF op k fr v0 v c w f) (h0 : ¬ f0 = 0) : mzf v k f < mzf v0 k f0 := by
  rcases h with ⟨e, y⟩ | ⟨e, y, -⟩
  · simp only [mzf]; rw [e, if_neg (by decide), if_neg h0]; omega
  · simp only [mzf]; rw [e, if_pos rfl, if_neg h0]; omega

set_option maxHeartbeats 4000000 in
set_option maxRecDepth 100000 in
theorem c_X6_spreadFrom (l : Launch) (D : va_G) (cs : Nat → ClassId) (ad : Nat → Nat) (I : Mm) (sz : Nat) (k : Nat) (hk : kM.getD k 0 = 10) (fr : Nat) (hfr : fr < 256) (op : Nat → Prop) (M : Nat → Prop) (hop : ∀ c, c < 256 → (I (k + 1) c = 0 ↔ op c)) (hMI : MI M k I fr) : MetN l yX6_spreadFrom wsX6_spreadFrom ({ frames := 1, cells := 0, slots := 0, locals := 21 }) kM cs D ad I sz [.ref (ad k), .int (nI fr)] (fun u => EqW k u I ∧ ∀ c, c < 256 → (conn (fun x => op x ∧ ¬ M x) (fun x => x = fr) c → u (k + 6) c = nI (fr + 256)) ∧ (¬ conn (fun x => op x ∧ ¬ M x) (fun x => x = fr) c → u (k + 6) c = I (k + 6) c)) 0 0 := by
  refine g_met (cc := cX6_spreadFrom) (maxL := 6) (ret := none) (by decide) rfl (Nat.le_of_ble_eq_true rfl) ?_
  intro pg e s m args below meth c ls hx hb hr hml hts hown hlocks hsz hP hD hK hN hS hA hl
  have hown : s.vm.findClass RX6 = some m.cls := hown
  have hl : lv_has ls 6 [(0, .ref (ad k)), (1, .int (nI fr))] := hl
  refine lv_aload_n hx hb dX6_spreadFrom_0 rfl (lv_at hl 0 rfl) ?_
  refine g_get (κ := 10) (ci := 6) (v := .ref (ad (k + 6))) (C := RX6) (T := TX6) (N := 8) hx hb hts hown hK hP (k := k) hk (by decide) rfl (fun _ h => List.mem_cons_of_mem _ (List.mem_append_right _ h)) rfl 7 (by decide) (hts _ (List.mem_of_getElem? (i := 1) rfl)) (fun _ h9 => h9) rfl dX6_spreadFrom_1 ?_
  refine lv_iload_n hx hb dX6_spreadFrom_4 rfl (lv_at hl 1 rfl) ?_
  refine lv_iload_n hx hb dX6_spreadFrom_5 rfl (lv_at hl 1 rfl) ?_
  refine lv_sipush (v := nI 256) hx hb dX6_spreadFrom_6 (by decide) ?_
  refine lv_iadd hx hb dX6_spreadFrom_9 ?_
  rw [nI_add fr 256]
  refine g_iastn (n := 256) (i := fr) hx hb hK hP hD hS (k := (k + 6)) (kd_10_7 hk) (by decide) (fun _ => rfl) (by omega) (by decide) dX6_spreadFrom_10 (fun u1 H locs hu1 hP hD hS => ?_)
  refine lv_iconst (v := nI 1) hx hb dX6_spreadFrom_11 (by decide) ?_
  refine lv_istore_n (lv' := [(2, .int (nI 1)), (0, .ref (ad k)), (1, .int (nI fr))]) hx hb dX6_spreadFrom_12 rfl hl (by decide) rfl (fun ls hl => ?_)
  suffices KL13 : ∀ (fuel : Nat) (v : Mm) (f : Int32) (H : Heap) (locs : List Loc) (ls : Array Slot), (MA op M k I fr v) → (f = nI 1 ∨ (f = 0 ∧ Cl op k fr v 256 0)) → mzf v k f < fuel → va_P D vwCl (gw kM cs ad v) H → va_D (gA kM ad sz) (gw kM cs ad v) → va_S (gA kM ad sz) s.heap H locs → lv_has ls 6 [(2, .int f), (0, .ref (ad k)), (1, .int (nI fr))] → W pg l e ({ frames := 1, cells := 0, slots := 0, locals := 21 }) s m args below meth c H locs 0 0 (MQ below (va_Qv (fun u => EqW k u I ∧ ∀ c, c < 256 → (conn (fun x => op x ∧ ¬ M x) (fun x => x = fr) c → u (k + 6) c = nI (fr + 256)) ∧ (¬ conn (fun x => op x ∧ ¬ M x) (fun x => x = fr) c → u (k + 6) c = I (k + 6) c)) (wat kM cs D ad (gA kM ad sz)) (gA kM ad sz)) args s 0 0 (gA kM ad sz)) (F0 m 13 ls []) from KL13 _ u1 (nI 1) _ _ _ (by rw [hu1]; exact MA_0 hMI) (Or.inl rfl) (Nat.lt_succ_self _) hP hD hS (lv_sub hl [0, 1, 2] rfl)
  intro fuel13
  induction fuel13 with
  | zero => intro _ _ _ _ _ _ _ hm; exact absurd hm (Nat.not_lt_zero _)
  | succ fuel13 ih13 =>
    intro v f H locs ls hMA hcl hm13 hP hD hS hl
    refine lv_iload_n hx hb dX6_spreadFrom_13 rfl (lv_at hl 0 rfl) ?_
    refine lv_if_eq (tgt := 117) hx hb dX6_spreadFrom_14 (by decide) (fun c_2 => ?_) (fun c_2 => ?_)
    · skip
      exact g_vret hx hb hr hlocks hP hD hS ⟨hMA.1, MA_fin hMI hMA (by rcases hcl with e | ⟨_, y⟩; exact absurd (e.symm.trans c_2) (by decide); exact y)⟩ dX6_spreadFrom_117
    · skip
      refine lv_iconst (v := nI 0) hx hb dX6_spreadFrom_17 (by decide) ?_
      refine lv_istore_n (lv' := [(2, .int (nI 0)), (0, .ref (ad k)), (1, .int (nI fr))]) hx hb dX6_spreadFrom_18 rfl hl (by decide) rfl (fun ls hl => ?_)
      refine lv_iconst (v := nI 0) hx hb dX6_spreadFrom_19 (by decide) ?_
      refine lv_istore_n (lv' := [(3, .int (nI 0)), (2, .int (nI 0)), (0, .ref (ad k)), (1, .int (nI fr))]) hx hb dX6_spreadFrom_20 rfl hl (by decide) rfl (fun ls hl => ?_)
      suffices KL21 : ∀ (fuel : Nat) (ci : Nat) (v2 : Mm) (f2 : Int32) (H : Heap) (locs : List Loc) (ls : Array Slot), (ci ≤ 256) → (MA op M k I fr v2) → (MF op k fr v v2 ci 0 f2) → 256 - ci < fuel → va_P D vwCl (gw kM cs ad v2) H → va_D (gA kM ad sz) (gw kM cs ad v2) → va_S (gA kM ad sz) s.heap H locs → lv_has ls 6 [(3, .int (nI ci)), (2, .int f2), (0, .ref (ad k)), (1, .int (nI fr))] → W pg l e ({ frames := 1, cells := 0, slots := 0, locals := 21 }) s m args below meth c H locs 0 0 (MQ below (va_Qv (fun u => EqW k u I ∧ ∀ c, c < 256 → (conn (fun x => op x ∧ ¬ M x) (fun x => x = fr) c → u (k + 6) c = nI (fr + 256)) ∧ (¬ conn (fun x => op x ∧ ¬ M x) (fun x => x = fr) c → u (k + 6) c = I (k + 6) c)) (wat kM cs D ad (gA kM ad sz)) (gA kM ad sz)) args s 0 0 (gA kM ad sz)) (F0 m 21 ls []) from KL21 _ 0 v (nI 0) _ _ _ (Nat.zero_le _) hMA (MF_0 _ _ _ _) (Nat.lt_succ_self _) hP hD hS (lv_sub hl [0, 1, 2, 3] rfl)
      intro fuel21
      induction fuel21 with
      | zero => intro _ _ _ _ _ _ _ _ _ hm; exact absurd hm (Nat.not_lt_zero _)
      | succ fuel21 ih21 =>
        intro ci v2 f2 H locs ls hci hMA hMF hm21 hP hD hS hl
        refine lv_iload_n hx hb dX6_spreadFrom_21 rfl (lv_at hl 0 rfl) ?_
        refine lv_sipush (v := nI 256) hx hb dX6_spreadFrom_22 (by decide) ?_
        refine lv_icmp_ge (tgt := 114) hx hb dX6_spreadFrom_25 (by decide) (fun c_3 => ?_) (fun c_3 => ?_)
        · skip
          have nc_3 : 256 ≤ ci := (nI_leI (a := 256) (b := ci) (by omega) (by omega)).mp c_3
          refine lv_goto (tgt := 13) hx hb dX6_spreadFrom_114 (by decide) ?_
          exact ih13 v2 f2 _ _ _ hMA (by rw [show ci = 256 from by omega] at hMF; exact hMF.elim (fun y => Or.inl y.1) (fun y => Or.inr ⟨y.1, y.2.2⟩)) (by have := mzf_d hMF c_2; omega) hP hD hS (lv_sub hl [1, 2, 3] rfl)
        · skip
          have nc_3 : ¬ 256 ≤ ci := fun z9_ => c_3 ((nI_leI (a := 256) (b := ci) (by omega) (by omega)).mpr z9_)
          refine lv_iconst (v := nI 0) hx hb dX6_spreadFrom_28 (by decide) ?_
          refine lv_istore (lv' := [(4, .int (nI 0)), (3, .int (nI ci)), (2, .int f2), (0, .ref (ad k)), (1, .int (nI fr))]) hx hb dX6_spreadFrom_29 hl (by decide) rfl (fun ls hl => ?_)
          suffices KL31 : ∀ (fuel : Nat) (wi : Nat) (v2 : Mm) (f2 : Int32) (H : Heap) (locs : List Loc) (ls : Array Slot), (wi ≤ 4) → (MA op M k I fr v2) → (MF op k fr v v2 ci wi f2) → 4 - wi < fuel → va_P D vwCl (gw kM cs ad v2) H → va_D (gA kM ad sz) (gw kM cs ad v2) → va_S (gA kM ad sz) s.heap H locs → lv_has ls 6 [(4, .int (nI wi)), (3, .int (nI ci)), (2, .int f2), (0, .ref (ad k)), (1, .int (nI fr))] → W pg l e ({ frames := 1, cells := 0, slots := 0, locals := 21 }) s m args below meth c H locs 0 0 (MQ below (va_Qv (fun u => EqW k u I ∧ ∀ c, c < 256 → (conn (fun x => op x ∧ ¬ M x) (fun x => x = fr) c → u (k + 6) c = nI (fr + 256)) ∧ (¬ conn (fun x => op x ∧ ¬ M x) (fun x => x = fr) c → u (k + 6) c = I (k + 6) c)) (wat kM cs D ad (gA kM ad sz)) (gA kM ad sz)) args s 0 0 (gA kM ad sz)) (F0 m 31 ls []) from KL31 _ 0 v2 f2 _ _ _ (Nat.zero_le _) hMA hMF (Nat.lt_succ_self _) hP hD hS (lv_sub hl [0, 1, 2, 3, 4] rfl)
          intro fuel31
          induction fuel31 with
          | zero => intro _ _ _ _ _ _ _ _ _ hm; exact absurd hm (Nat.not_lt_zero _)
          | succ fuel31 ih31 =>
            intro wi v2 f2 H locs ls hwi hMA hMF hm31 hP hD hS hl
            refine lv_iload hx hb dX6_spreadFrom_31 (lv_at hl 0 rfl) ?_
            refine lv_iconst (v := nI 4) hx hb dX6_spreadFrom_33 (by decide) ?_
            refine lv_icmp_ge (tgt := 108) hx hb dX6_spreadFrom_34 (by decide) (fun c_4 => ?_) (fun c_4 => ?_)
            · skip
              have nc_4 : 4 ≤ wi := (nI_leI (a := 4) (b := wi) (by omega) (by omega)).mp c_4
              refine lv_iinc (v := nI (ci + 1)) (lv' := [(3, .int (nI (ci + 1))), (4, .int (nI wi)), (2, .int f2), (0, .ref (ad k)), (1, .int (nI fr))]) hx hb dX6_spreadFrom_108 hl (k := 1) rfl (nI_1 ci) (by decide) rfl (fun ls hl => ?_)
              refine lv_goto (tgt := 21) hx hb dX6_spreadFrom_111 (by decide) ?_
              exact ih21 (ci + 1) v2 f2 _ _ _ (by omega) hMA (MF_row hMF (Or.inl (by omega))) (by omega) hP hD hS (lv_sub hl [0, 2, 3, 4] rfl)
            · skip
              have nc_4 : ¬ 4 ≤ wi := fun z9_ => c_4 ((nI_leI (a := 4) (b := wi) (by omega) (by omega)).mpr z9_)
              refine lv_aload_n hx hb dX6_spreadFrom_37 rfl (lv_at hl 3 rfl) ?_
              refine g_get (κ := 10) (ci := 6) (v := .ref (ad (k + 6))) (C := RX6) (T := TX6) (N := 8) hx hb hts hown hK hP (k := k) hk (by decide) rfl (fun _ h => List.mem_cons_of_mem _ (List.mem_append_right _ h)) rfl 7 (by decide) (hts _ (List.mem_of_getElem? (i := 1) rfl)) (fun _ h9 => h9) rfl dX6_spreadFrom_38 ?_
              refine lv_iload_n hx hb dX6_spreadFrom_41 rfl (lv_at hl 1 rfl) ?_
              refine g_ialdn (n := 256) (i := ci) hx hb hK hP (k := (k + 6)) (kd_10_7 hk) (by decide) rfl (by omega) (by decide) dX6_spreadFrom_42 ?_
              refine lv_iload_n hx hb dX6_spreadFrom_43 rfl (lv_at hl 4 rfl) ?_
              refine lv_sipush (v := nI 256) hx hb dX6_spreadFrom_44 (by decide) ?_
              refine lv_iadd hx hb dX6_spreadFrom_47 ?_
              rw [nI_add fr 256]
              refine lv_icmp_ne (tgt := 108) hx hb dX6_spreadFrom_48 (by decide) (fun c_5 => ?_) (fun c_5 => ?_)
              · skip
                refine lv_iinc (v := nI (ci + 1)) (lv' := [(3, .int (nI (ci + 1))), (4, .int (nI wi)), (2, .int f2), (0, .ref (ad k)), (1, .int (nI fr))]) hx hb dX6_spreadFrom_108 hl (k := 1) rfl (nI_1 ci) (by decide) rfl (fun ls hl => ?_)
                refine lv_goto (tgt := 21) hx hb dX6_spreadFrom_111 (by decide) ?_
                exact ih21 (ci + 1) v2 f2 _ _ _ (by omega) hMA (MF_row hMF (Or.inr c_5)) (by omega) hP hD hS (lv_sub hl [0, 2, 3, 4] rfl)
              · skip
                have hat := c_5
                refine lv_iload_n hx hb dX6_spreadFrom_51 rfl (lv_at hl 1 rfl) ?_
                refine lv_iload hx hb dX6_spreadFrom_52 (lv_at hl 0 rfl) ?_
                refine g_callF (F := f_X6_beside (nI ci) (nI wi)) hD hS hA (va_runS (As := [.int (nI ci), .int (nI wi)]) (rest := []) ⟨hx, hb, hml, hown, hts⟩ (c_X6_beside l D cs ad v2 H.size (nI ci) (nI wi)) (va_cwS 2 hts gX6_spreadFrom_X6_beside rfl rfl rfl (by decide +kernel) ⟨Nat.le_of_ble_eq_true rfl, Nat.le_of_ble_eq_true rfl⟩) (g_preS hP hD hK hN) rfl rfl hl.1 rfl (lv_room (Nat.le_of_ble_eq_true rfl)) dX6_spreadFrom_54 ⟨Nat.le_of_ble_eq_true rfl, Nat.le_of_ble_eq_true rfl⟩) (fun H locs hP hD hS => ?_)
                refine lv_istore (lv' := [(5, .int (f_X6_beside (nI ci) (nI wi))), (4, .int (nI wi)), (3, .int (nI ci)), (2, .int f2), (0, .ref (ad k)), (1, .int (nI fr))]) hx hb dX6_spreadFrom_57 hl (by decide) rfl (fun ls hl => ?_)
                refine lv_iload hx hb dX6_spreadFrom_59 (lv_at hl 0 rfl) ?_
                refine lv_iconst (v := -1) hx hb dX6_spreadFrom_61 (by decide) ?_
                refine lv_icmp_eq (tgt := 102) hx hb dX6_spreadFrom_62 (by decide) (fun c_6 => ?_) (fun c_6 => ?_)
                · skip
                  refine lv_iinc (v := nI (wi + 1)) (lv' := [(4, .int (nI (wi + 1))), (5, .int (f_X6_beside (nI ci) (nI wi))), (3, .int (nI ci)), (2, .int f2), (0, .ref (ad k)), (1, .int (nI fr))]) hx hb dX6_spreadFrom_102 hl (k := 1) rfl (nI_1 wi) (by decide) rfl (fun ls hl => ?_)
                  refine lv_goto (tgt := 31) hx hb dX6_spreadFrom_105 (by decide) ?_
                  exact ih31 (wi + 1) v2 f2 _ _ _ (by omega) hMA (MF_skip hMF (fun y => absurd y (besN (by omega) (by omega) c_6))) (by omega) hP hD hS (lv_sub hl [0, 2, 3, 4, 5] rfl)
                · skip
                  obtain ⟨hnb1, hnb2⟩ := besY (by omega) (by omega) c_6
                  refine lv_aload_n hx hb dX6_spreadFrom_65 rfl (lv_at hl 4 rfl) ?_
                  refine lv_iload hx hb dX6_spreadFrom_66 (lv_at hl 0 rfl) ?_
                  refine lv_topi (fun y9 ey9 => ?_)
                  obtain rfl := ey9.trans hnb2
                  refine g_callF (F := f_X6_isOpen v2 k (nb ci wi)) hD hS hA (va_runV (As := [.int (nI (nb ci wi))]) (rest := []) ⟨hx, hb, hml, hown, hts⟩ (c_X6_isOpen l D cs ad v2 H.size k hk (nb ci wi) (by omega)) (cwV 1 hts gX6_spreadFrom_X6_isOpen rfl rfl rfl (by decide +kernel) ⟨Nat.le_of_ble_eq_true rfl, Nat.le_of_ble_eq_true rfl⟩) (g_preV hP hD hK hN (k := k) hk (by decide) rfl rfl rfl rfl) rfl rfl hl.1 rfl (lv_room (Nat.le_of_ble_eq_true rfl)) dX6_spreadFrom_68 ⟨Nat.le_of_ble_eq_true rfl, Nat.le_of_ble_eq_true rfl⟩) (fun H locs hP hD hS => ?_)
                  refine lv_if_eq (tgt := 102) hx hb dX6_spreadFrom_71 (by decide) (fun c_7 => ?_) (fun c_7 => ?_)
                  · skip
                    refine lv_iinc (v := nI (wi + 1)) (lv' := [(4, .int (nI (wi + 1))), (5, .int (f_X6_beside (nI ci) (nI wi))), (3, .int (nI ci)), (2, .int f2), (0, .ref (ad k)), (1, .int (nI fr))]) hx hb dX6_spreadFrom_102 hl (k := 1) rfl (nI_1 wi) (by decide) rfl (fun ls hl => ?_)
                    refine lv_goto (tgt := 31) hx hb dX6_spreadFrom_105 (by decide) ?_
                    exact ih31 (wi + 1) v2 f2 _ _ _ (by omega) hMA (MF_skip hMF (fun y y2 => absurd ((hop (nb ci wi) y).mpr y2) (fun z9 => isOpen_0 c_7 (by rw [hMA.1 _ (by omega)]; exact z9)))) (by omega) hP hD hS (lv_sub hl [0, 2, 3, 4, 5] rfl)
                  · skip
                    refine lv_aload_n hx hb dX6_spreadFrom_74 rfl (lv_at hl 4 rfl) ?_
                    refine g_get (κ := 10) (ci := 6) (v := .ref (ad (k + 6))) (C := RX6) (T := TX6) (N := 8) hx hb hts hown hK hP (k := k) hk (by decide) rfl (fun _ h => List.mem_cons_of_mem _ (List.mem_append_right _ h)) rfl 7 (by decide) (hts _ (List.mem_of_getElem? (i := 1) rfl)) (fun _ h9 => h9) rfl dX6_spreadFrom_75 ?_
                    refine lv_iload hx hb dX6_spreadFrom_78 (lv_at hl 0 rfl) ?_
                    refine lv_topi (fun y9 ey9 => ?_)
                    obtain rfl := ey9.trans hnb2
                    refine g_ialdn (n := 256) (i := (nb ci wi)) hx hb hK hP (k := (k + 6)) (kd_10_7 hk) (by decide) rfl (by omega) (by decide) dX6_spreadFrom_80 ?_
                    refine lv_iconst (v := -1) hx hb dX6_spreadFrom_81 (by decide) ?_
                    refine lv_icmp_eq (tgt := 88) hx hb dX6_spreadFrom_82 (by decide) (fun c_8 => ?_) (fun c_8 => ?_)
                    · skip
                      refine lv_aload_n hx hb dX6_spreadFrom_88 rfl (lv_at hl 4 rfl) ?_
                      refine g_get (κ := 10) (ci := 6) (v := .ref (ad (k + 6))) (C := RX6) (T := TX6) (N := 8) hx hb hts hown hK hP (k := k) hk (by decide) rfl (fun _ h => List.mem_cons_of_mem _ (List.mem_append_right _ h)) rfl 7 (by decide) (hts _ (List.mem_of_getElem? (i := 1) rfl)) (fun _ h9 => h9) rfl dX6_spreadFrom_89 ?_
                      refine lv_iload hx hb dX6_spreadFrom_92 (lv_at hl 0 rfl) ?_
                      refine lv_topi (fun y9 ey9 => ?_)
                      obtain rfl := ey9.trans hnb2
                      refine lv_iload_n hx hb dX6_spreadFrom_94 rfl (lv_at hl 5 rfl) ?_
                      refine lv_sipush (v := nI 256) hx hb dX6_spreadFrom_95 (by decide) ?_
                      refine lv_iadd hx hb dX6_spreadFrom_98 ?_
                      rw [nI_add fr 256]
                      refine g_iastn (n := 256) (i := (nb ci wi)) hx hb hK hP hD hS (k := (k + 6)) (kd_10_7 hk) (by decide) (fun _ => rfl) (by omega) (by decide) dX6_spreadFrom_99 (fun u9 H locs hu9 hP hD hS => ?_)
                      refine lv_iconst (v := nI 1) hx hb dX6_spreadFrom_100 (by decide) ?_
                      refine lv_istore_n (lv' := [(2, .int (nI 1)), (5, .int (f_X6_beside (nI ci) (nI wi))), (4, .int (nI wi)), (3, .int (nI ci)), (0, .ref (ad k)), (1, .int (nI fr))]) hx hb dX6_spreadFrom_101 rfl hl (by decide) rfl (fun ls hl => ?_)
                      refine lv_iinc (v := nI (wi + 1)) (lv' := [(4, .int (nI (wi + 1))), (2, .int (nI 1)), (5, .int (f_X6_beside (nI ci) (nI wi))), (3, .int (nI ci)), (0, .ref (ad k)), (1, .int (nI fr))]) hx hb dX6_spreadFrom_102 hl (k := 2) rfl (nI_1 wi) (by decide) rfl (fun ls hl => ?_)
                      refine lv_goto (tgt := 31) hx hb dX6_spreadFrom_105 (by decide) ?_
                      exact ih31 (wi + 1) u9 (nI 1) _ _ _ (by omega) (by rw [hu9]; exact MA_set hMI hMA (by omega) (by omega) hat hnb1 ((hop (nb ci wi) hnb1).mp (by rw [← hMA.1 _ (by omega)]; exact isOpen_1 c_7)) c_8) (by rw [hu9]; exact MF_set hMF hnb1 hfr c_8 _ _) (by omega) hP hD hS (lv_sub hl [0, 3, 1, 4, 5] rfl)
                    · skip
                      refine lv_goto (tgt := 102) hx hb dX6_spreadFrom_85 (by decide) ?_
                      refine lv_iinc (v := nI (wi + 1)) (lv' := [(4, .int (nI (wi + 1))), (5, .int (f_X6_beside (nI ci) (nI wi))), (3, .int (nI ci)), (2, .int f2), (0, .ref (ad k)), (1, .int (nI fr))]) hx hb dX6_spreadFrom_102 hl (k := 1) rfl (nI_1 wi) (by decide) rfl (fun ls hl => ?_)
                      refine lv_goto (tgt := 31) hx hb dX6_spreadFrom_105 (by decide) ?_
                      exact ih31 (wi + 1) v2 f2 _ _ _ (by omega) hMA (MF_skip hMF (fun _ _ y => c_8 y)) (by omega) hP hD hS (lv_sub hl [0, 2, 3, 4, 5] rfl)
